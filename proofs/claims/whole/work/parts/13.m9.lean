theorem ftI_neg {t : Nat} (h : t ≤ 100) : ftI t < 0 ↔ 100 ≤ t := by
  have : ∀ t, t ≤ 100 → (ftI t < 0 ↔ 100 ≤ t) := by decide +kernel
  exact this t h
theorem ftI_nn {t : Nat} (h : t ≤ 100) (h2 : 0 ≤ ftI t) : t < 100 := by
  have : ∀ t, t ≤ 100 → 0 ≤ ftI t → t < 100 := by decide +kernel
  exact this t h h2
theorem ftI_ng {t : Nat} (h : t ≤ 100) (h2 : ¬ 0 ≤ ftI t) : 100 ≤ t := by
  have : ∀ t, t ≤ 100 → ¬ 0 ≤ ftI t → 100 ≤ t := by decide +kernel
  exact this t h h2
theorem ftN_le (R : RT) (a : Nat) : ftN R a ≤ 100 := lf_le _ _
/-- when the first of those below a LIES, and who -/
noncomputable def bsT (R : RT) : Nat → Nat
  | 0 => 100
  | a + 1 => if R 4 a = 0 ∧ ftN R a < bsT R a then ftN R a else bsT R a
noncomputable def bsI (R : RT) : Nat → Nat
  | 0 => 10
  | a + 1 => if R 4 a = 0 ∧ ftN R a < bsT R a then a else bsI R a
theorem bsT_le (R : RT) : ∀ a, bsT R a ≤ 100
  | 0 => Nat.le_refl _
  | a + 1 => by
    have h := bsT_le R a
    have h2 := ftN_le R a
    unfold bsT
    split <;> omega
theorem bsI_le (R : RT) : ∀ a, a ≤ 10 → bsI R a ≤ 10
  | 0, _ => Nat.le_refl _
  | a + 1, ha => by
    have h := bsI_le R a (by omega)
    unfold bsI
    split <;> omega
theorem bsI_T (R : RT) : ∀ a, a ≤ 10 → ((bsI R a = 10 ∧ bsT R a = 100) ∨ (bsI R a < a ∧ bsT R a < 100 ∧ R 4 (bsI R a) = 0 ∧ bsT R a = ftN R (bsI R a)))
  | 0, _ => Or.inl ⟨rfl, rfl⟩
  | a + 1, ha => by
    have h := bsI_T R a (by omega)
    have hl := bsT_le R a
    by_cases q : R 4 a = 0 ∧ ftN R a < bsT R a
    · have e1 : bsI R (a + 1) = a := if_pos q
      have e2 : bsT R (a + 1) = ftN R a := if_pos q
      rw [e1, e2]
      exact Or.inr ⟨by omega, by omega, q.1, rfl⟩
    · have e1 : bsI R (a + 1) = bsI R a := if_neg q
      have e2 : bsT R (a + 1) = bsT R a := if_neg q
      rw [e1, e2]
      rcases h with h | h
      · exact Or.inl h
      · exact Or.inr ⟨by omega, h.2⟩
theorem bsT_min (R : RT) : ∀ n a, a < n → R 4 a = 0 → bsT R n ≤ ftN R a
  | 0, a, h, _ => absurd h (Nat.not_lt_zero _)
  | n + 1, a, h, h4 => by
    by_cases q : R 4 n = 0 ∧ ftN R n < bsT R n
    · have e2 : bsT R (n + 1) = ftN R n := if_pos q
      rw [e2]
      by_cases e : a = n
      · rw [e]; exact Nat.le_refl _
      · have := bsT_min R n a (by omega) h4; omega
    · have e2 : bsT R (n + 1) = bsT R n := if_neg q
      rw [e2]
      by_cases e : a = n
      · subst e; omega
      · exact bsT_min R n a (by omega) h4
def bstI (t : Nat) : Int32 := if t < 100 then nI t else 1000000000
theorem bst_lt {t b : Nat} (ht : t < 100) (hb : b ≤ 100) : ftI t < bstI b ↔ t < b := by
  rw [ftI_lt ht]
  unfold bstI
  by_cases h : b < 100
  · rw [if_pos h]; exact nI_ltI (by omega) (by omega)
  · rw [if_neg h, Int32.lt_iff_toInt_lt, tN (by omega), show (1000000000 : Int32).toInt = 1000000000 from by decide +kernel]
    omega
theorem bst_ft {t : Nat} (h : t < 100) : bstI t = ftI t := by unfold bstI; rw [if_pos h, ftI_lt h]
noncomputable def vFirst (R : RT) (w : Int) : Int32 := if bsI R (R 0 0) = 10 ∨ w = 0 then onI (bsI R (R 0 0)) else nI (bsT R (R 0 0))
theorem how_step (R : RT) (k a : Nat) (ha : a < R 0 0) : itF R (k + 1) 4 a = itF R k 4 a ∨ (itF R k 4 a = 0 ∧ itF R (k + 1) 4 a = 1) := by
  have e0 : bmp (itF R k) 0 0 = R 0 0 := itF_00 R k
  show minF (bmp (itF R k)) 0 4 a = _ ∨ _
  have e : minF (bmp (itF R k)) 0 4 a = howF (bmp (itF R k)) 0 a := by unfold minF; rw [if_neg (by omega), if_pos (by omega)]
  rw [show itF R (k + 1) 4 a = minF (bmp (itF R k)) 0 4 a from rfl, e]
  have e4 : bmp (itF R k) 4 a = itF R k 4 a := upR_n (by omega)
  unfold howF
  by_cases q : bmp (itF R k) 4 a = 0 ∧ habF (bmp (itF R k)) a (slF (bmp (itF R k))) < airF (bmp (itF R k)) 0 a
  · rw [if_pos q]; exact Or.inr ⟨by rw [← e4]; exact q.1, rfl⟩
  · rw [if_neg q]; exact Or.inl e4
theorem how_keep (R : RT) (a : Nat) (ha : a < R 0 0) (j : Nat) (h : itF R j 4 a ≠ 0) : ∀ d, itF R (j + d) 4 a = itF R j 4 a
  | 0 => rfl
  | d + 1 => by
    have ih := how_keep R a ha j h d
    rcases how_step R (j + d) a ha with q | q
    · exact q.trans ih
    · rw [ih] at q; exact absurd q.1 h
theorem how_01 (R : RT) (a : Nat) (ha : a < R 0 0) (h : R 4 a = 0) : ∀ k, itF R k 4 a = 0 ∨ itF R k 4 a = 1
  | 0 => Or.inl h
  | k + 1 => by
    rcases how_01 R a ha h k with q | q
    · rcases how_step R k a ha with z | z
      · exact Or.inl (z.trans q)
      · exact Or.inr z.2
    · exact Or.inr ((how_keep R a ha k (by omega) 1).trans q)
/-- who STANDS, LIES, is GONE behind k MINUTES, by when it LIES first -/
theorem howT (R : RT) (a k : Nat) (ha : a < R 0 0) (hk : k < 100) : itF R k 4 a = if R 4 a = 0 then (if ftN R a ≤ k then 1 else 0) else R 4 a := by
  by_cases h : R 4 a = 0
  · rw [if_pos h]
    by_cases q : ftN R a ≤ k
    · rw [if_pos q]
      have h1 : lieP R a (ftN R a) = true := lf_at _ _ (by have := q; unfold ftN at this; omega)
      unfold lieP at h1
      rw [decide_eq_true_eq] at h1
      have h2 := how_keep R a ha (ftN R a) (by omega) (k - ftN R a)
      rw [show ftN R a + (k - ftN R a) = k by omega] at h2
      omega
    · rw [if_neg q]
      have h1 : lieP R a k = false := lf_bf _ 100 _ (by unfold ftN at q; omega)
      unfold lieP at h1
      rw [decide_eq_false_iff_not] at h1
      rcases how_01 R a ha h k with z | z
      · exact z
      · exact absurd z h1
  · rw [if_neg h]
    have h2 := how_keep R a ha 0 h k
    rw [Nat.zero_add] at h2
    exact h2
theorem lie_same (R : RT) (k : Nat) (hk : k < 100) (h : k < bsT R (R 0 0)) : setF (itF R k) 1 = setF R 1 := by
  unfold setF
  rw [itF_00]
  refine bs_congr fun a ha => ?_
  unfold isS
  rw [howT R a k ha hk]
  by_cases h4 : R 4 a = 0
  · have := bsT_min R (R 0 0) a ha h4
    rw [if_pos h4, if_neg (by omega), h4]
  · rw [if_neg h4]
theorem lie_diff (R : RT) (k : Nat) (hn : R 0 0 ≤ 10) (hk : k < 100) (h : bsT R (R 0 0) ≤ k) : setF (itF R k) 1 ≠ setF R 1 := by
  intro e
  rcases bsI_T R (R 0 0) hn with q | q
  · omega
  · have hb := congrArg (fun x => Nat.testBit x (bsI R (R 0 0))) e
    unfold setF at hb
    simp only [bs_bit, itF_00, q.1, decide_true, Bool.true_and] at hb
    unfold isS at hb
    rw [howT R _ k q.1 hk, if_pos q.2.2.1, if_pos (by omega)] at hb
    simp [q.2.2.1] at hb
theorem bsT_pos (R : RT) (hn : R 0 0 ≤ 10) : 0 < bsT R (R 0 0) := by
  rcases bsI_T R (R 0 0) hn with q | q
  · omega
  · rcases Nat.eq_zero_or_pos (bsT R (R 0 0)) with z | z
    · have h1 := lf_at (lieP R (bsI R (R 0 0))) 100 (by have := q.2.2.2; unfold ftN at this; omega)
      have e : lf (lieP R (bsI R (R 0 0))) 100 = 0 := by have := q.2.2.2; unfold ftN at this; omega
      rw [e] at h1
      unfold lieP at h1
      rw [decide_eq_true_eq] at h1
      have : R 4 (bsI R (R 0 0)) = 1 := h1
      omega
    · exact z
def cRow (v : Int) (rm : Nat) : Nat := if wbN v 99 ≠ 0 then wbN v 99 else if rm = 16 then 6 else 0
noncomputable def jdN (R : RT) (rv : Nat → Nat) (rm : Nat) : Nat := lf (fun k => decide (stN (itF R k) ≠ rv k)) rm
noncomputable def jdI (R : RT) (rv : Nat → Nat) (rm : Nat) : Int32 := if jdN R rv rm < rm then nI (jdN R rv rm) else -9
def cOn (im : Nat) : Nat := if im = 0 then 3 else 0
def vCount (R : RT) (rf : Nat → Nat) (rm lm : Nat) (w : Int) : Int32 := if 11 ≤ w ∧ w ≤ 16 then nI (rf (w - 10).toNat) else if 2 ≤ w ∧ w ≤ 4 then nI (setF R (w - 2).toNat) else if w = 0 then nI (R 0 0) else if w = 1 then nI (R 0 1) else if w = 5 then nI (R 0 2) else if w = 6 then nI rm else if w = 7 then nI lm else -9
theorem subT {x : Int32} {z : Int} (c : Nat) (hx : x.toInt = z) (h0 : (c : Int) ≤ z) (h1 : z < 2147483648) : x - nI c = nI (z - (c : Int)).toNat := by
  rw [ofT hx (by omega) h1, pk_sub (by omega)]
  congr 1
  omega
theorem stN_le (R : RT) (h : R 0 0 ≤ 10) : stN R ≤ 10 := Nat.le_trans (ct_le _ _) h
def kyS (R : RT) (m a : Nat) : Nat := stN (itF (pulF R a 9) m)
def kyT (R : RT) (m : Nat) : Nat → Nat
  | 0 => 11
  | a + 1 => if R 4 a = 0 ∧ kyS R m a < kyT R m a then kyS R m a else kyT R m a
def kyI (R : RT) (m : Nat) : Nat → Nat
  | 0 => 10
  | a + 1 => if R 4 a = 0 ∧ kyS R m a < kyT R m a then a else kyI R m a
theorem kyT_le (R : RT) (m : Nat) : ∀ a, kyT R m a ≤ 11
  | 0 => Nat.le_refl _
  | a + 1 => by
    have h := kyT_le R m a
    unfold kyT
    split <;> omega
def bsk (t : Nat) : Int32 := if t < 11 then nI t else 1000000000
theorem bsk_lt {t b : Nat} (ht : t ≤ 10) (hb : b ≤ 11) : nI t < bsk b ↔ t < b := by
  unfold bsk
  by_cases h : b < 11
  · rw [if_pos h]; exact nI_ltI (by omega) (by omega)
  · rw [if_neg h, Int32.lt_iff_toInt_lt, tN (by omega), show (1000000000 : Int32).toInt = 1000000000 from by decide +kernel]
    omega
theorem tb_pow (a b : Nat) : (2 ^ a).testBit b = decide (a = b) := Nat.testBit_two_pow
theorem psR_1 (R : RT) (a : Nat) : ∀ n, psR R (2 ^ a) n = if a < n then pulF R a 9 else R
  | 0 => rfl
  | n + 1 => by
    have ih := psR_1 R a n
    by_cases e : a = n
    · subst e
      rw [psR_t (by simp [tb_pow]), ih, if_neg (Nat.lt_irrefl _), if_pos (by omega)]
    · rw [psR_f (by simp [tb_pow, e]), ih]
      by_cases q : a < n
      · rw [if_pos q, if_pos (by omega)]
      · rw [if_neg q, if_neg (by omega)]
theorem psB_1 (R : RT) (a : Nat) : ∀ n, psB R (2 ^ a) n = true ↔ (a < n → R 4 a = 0)
  | 0 => by simp [psB]
  | n + 1 => by
    have ih := psB_1 R a n
    unfold psB
    rw [Bool.and_eq_true, ih]
    by_cases e : a = n
    · subst e
      simp [tb_pow, psR_1]
    · simp only [tb_pow, e, decide_false, Bool.not_false, Bool.true_or, and_true]
      constructor
      · intro h q; exact h (by omega)
      · intro h q; exact h (by omega)
def cTwo (R : RT) (a b n : Int) : Nat := if (0 ≤ a ∧ a < ((R 0 0 : Nat) : Int)) ∧ (0 ≤ b ∧ b < ((R 0 0 : Nat) : Int)) ∧ a ≠ b then wbN n 99 else 1
def twS (R : RT) (a b n x y : Nat) : Nat := stN (itF (spF R a x b y) n)
def vTwo (R : RT) (a b n : Nat) : Int32 := if twS R a b n 1 0 ≤ twS R a b n 0 0 ∧ twS R a b n 0 0 ≤ twS R a b n 0 1 then nI 0 else if twS R a b n 1 1 ≤ twS R a b n 0 1 ∧ twS R a b n 0 1 ≤ twS R a b n 0 0 then nI 1 else if twS R a b n 0 0 ≤ twS R a b n 1 0 ∧ twS R a b n 1 0 ≤ twS R a b n 1 1 then nI 10 else if twS R a b n 0 1 ≤ twS R a b n 1 1 ∧ twS R a b n 1 1 ≤ twS R a b n 1 0 then nI 11 else -9
set_option maxRecDepth 100000 in
set_option maxHeartbeats 4000000 in
theorem kX2_first (l : Launch) (G : GT) (h0 : Nat) (a1 : Nat) (a2 : Nat) (a3 : Nat) (a4 : Nat) (a5 : Nat) (a6 : Nat) (a7 : Nat) (a8 : Nat) (im : Nat) (lm : Nat) (rm : Nat) (pl : Nat) (sd : Int32) (R : RT) (Rm : RT) (rf : Nat → Nat) (ww : Int32) (wwz : Int) (h_ww : ww.toInt = wwz) (hR : OK R) (hK : AK R) : Ct l yX2_first cX2_first 6 (some .int) 6 131 [.ref h0, .int ww] G [(h0, .inr (2, [.ref a1, .ref a2, .ref a3, .ref a4, .int (nI im), .ref a5, .ref a6, .ref a7, .int (nI lm), .int (nI rm), .int (nI pl), .ref a8, .int sd])), (a1, aI G 54 (fl R)), (a2, aI G 54 (fl Rm)), (a7, aI G 7 (cN rf))] (QI G [(h0, .inr (2, [.ref a1, .ref a2, .ref a3, .ref a4, .int (nI im), .ref a5, .ref a6, .ref a7, .int (nI lm), .int (nI rm), .int (nI pl), .ref a8, .int sd])), (a1, aI G 54 (fl R)), (a2, aI G 54 (fl Rm)), (a7, aI G 7 (cN rf))] (fun (r : Int32) (u : RT) => r = anI (cWhat wwz) (vFirst R wwz)) (fun u => [(h0, .inr (2, [.ref a1, .ref a2, .ref a3, .ref a4, .int (nI im), .ref a5, .ref a6, .ref a7, .int (nI lm), .int (nI rm), .int (nI pl), .ref a8, .int sd])), (a1, aI G 54 (fl R)), (a2, aI G 54 (fl u)), (a7, aI G 7 (cN (rfU rf (cWhat wwz))))])) := by
  refine en (by decide +kernel) (Nat.le_of_ble_eq_true rfl) ?_
  intro p e s m below meth c ls H locs C hl hw
  have xx := C.1
  have xb := C.2.1
  have hw : Wd G (fA [(h0, .inr (2, [.ref a1, .ref a2, .ref a3, .ref a4, .int (nI im), .ref a5, .ref a6, .ref a7, .int (nI lm), .int (nI rm), .int (nI pl), .ref a8, .int sd])), (a1, aI G 54 (fl R)), (a2, aI G 54 (fl Rm)), (a7, aI G 7 (cN rf))]) s [(h0, .inr (2, [.ref a1, .ref a2, .ref a3, .ref a4, .int (nI im), .ref a5, .ref a6, .ref a7, .int (nI lm), .int (nI rm), .int (nI pl), .ref a8, .int sd])), (a1, aI G 54 (fl R)), (a2, aI G 54 (fl Rm)), (a7, aI G 7 (cN rf))] H locs := hw
  have hl : lv_has ls 6 [(0, .ref h0), (1, .int ww)] := hl
  obtain ⟨hn, hf0, hpr, hA⟩ := id hR
  refine lv_iload_n xx xb dX2_first_0 rfl (lv_at hl 1 rfl) ?_
  refine lv_iconst (v := nI 0) xx xb dX2_first_1 (by decide) ?_
  refine lv_iconst (v := nI 1) xx xb dX2_first_2 (by decide) ?_
  have hM := kX2_isIn l G ww wwz (nI 0) 0 (nI 1) 1 h_ww (tN (by omega)) (tN (by omega))
  refine cs_i C hw hM ysX2_isIn ml_X2_40 rfl [] rfl rfl (fun _ => (rfl : ([] : List Nat) = [])) (by decide) ⟨Nat.zero_le _, Nat.zero_le _⟩ hl.1 rfl (Nat.le_of_ble_eq_true rfl) dX2_first_3 (fun r _ H locs hr hw => ?_)
  have hw : Wd G (fA [(h0, .inr (2, [.ref a1, .ref a2, .ref a3, .ref a4, .int (nI im), .ref a5, .ref a6, .ref a7, .int (nI lm), .int (nI rm), .int (nI pl), .ref a8, .int sd])), (a1, aI G 54 (fl R)), (a2, aI G 54 (fl Rm)), (a7, aI G 7 (cN rf))]) s [(h0, .inr (2, [.ref a1, .ref a2, .ref a3, .ref a4, .int (nI im), .ref a5, .ref a6, .ref a7, .int (nI lm), .int (nI rm), .int (nI pl), .ref a8, .int sd])), (a1, aI G 54 (fl R)), (a2, aI G 54 (fl Rm)), (a7, aI G 7 (cN rf))] H locs := hw
  subst hr
  refine lv_if_ne (tgt := 16) xx xb dX2_first_6 (by decide) (fun c_6 => ?_) (fun c_6 => ?_)
  · skip
    have c_6 := b1_c c_6
    refine lv_bipush (v := (-9)) xx xb dX2_first_16 (by decide) ?_
    refine lv_istore_n (lv' := [(2, .int (-9)), (0, .ref h0), (1, .int ww)]) xx xb dX2_first_18 rfl hl (by decide) rfl (fun ls hl => ?_)
    refine m_ldc C kc_X2_147 dX2_first_19 ?_
    refine lv_istore_n (lv' := [(3, .int (1000000000 : Int32)), (2, .int (-9)), (0, .ref h0), (1, .int ww)]) xx xb dX2_first_21 rfl hl (by decide) rfl (fun ls hl => ?_)
    refine lv_iconst (v := nI 0) xx xb dX2_first_22 (by decide) ?_
    refine lv_istore (lv' := [(4, .int (nI 0)), (3, .int (1000000000 : Int32)), (2, .int (-9)), (0, .ref h0), (1, .int ww)]) xx xb dX2_first_23 hl (by decide) rfl (fun ls hl => ?_)
    have hl : lv_has ls 6 [(4, .int (nI 0)), (3, .int (1000000000 : Int32)), (2, .int (onI (bsI R 0))), (0, .ref h0), (1, .int ww)] := hl
    have hl : lv_has ls 6 [(4, .int (nI 0)), (3, .int (bstI (bsT R 0))), (2, .int (onI (bsI R 0))), (0, .ref h0), (1, .int ww)] := hl
    have L_25 : ∀ (fu : Nat) (i : Nat) (Y : RT) (H : Heap) (locs : List Loc) (ls : Array Slot), 10 - i < fu → (i ≤ R 0 0) → Wd G (fA [(h0, .inr (2, [.ref a1, .ref a2, .ref a3, .ref a4, .int (nI im), .ref a5, .ref a6, .ref a7, .int (nI lm), .int (nI rm), .int (nI pl), .ref a8, .int sd])), (a1, aI G 54 (fl R)), (a2, aI G 54 (fl Rm)), (a7, aI G 7 (cN rf))]) s [(h0, .inr (2, [.ref a1, .ref a2, .ref a3, .ref a4, .int (nI im), .ref a5, .ref a6, .ref a7, .int (nI lm), .int (nI rm), .int (nI pl), .ref a8, .int sd])), (a1, aI G 54 (fl R)), (a2, aI G 54 (fl Y)), (a7, aI G 7 (cN rf))] H locs → lv_has ls 6 [(0, .ref h0), (1, .int ww), (2, .int (onI (bsI R i))), (3, .int (bstI (bsT R i))), (4, .int (nI i))] → W p l e ({ frames := 6, cells := 0, slots := 0, locals := 131 }) s m (([.ref h0, .int ww] : List Value).toArray) below meth c H locs 0 0 (MQ below (QI G [(h0, .inr (2, [.ref a1, .ref a2, .ref a3, .ref a4, .int (nI im), .ref a5, .ref a6, .ref a7, .int (nI lm), .int (nI rm), .int (nI pl), .ref a8, .int sd])), (a1, aI G 54 (fl R)), (a2, aI G 54 (fl Rm)), (a7, aI G 7 (cN rf))] (fun (r : Int32) (u : RT) => r = anI (cWhat wwz) (vFirst R wwz)) (fun u => [(h0, .inr (2, [.ref a1, .ref a2, .ref a3, .ref a4, .int (nI im), .ref a5, .ref a6, .ref a7, .int (nI lm), .int (nI rm), .int (nI pl), .ref a8, .int sd])), (a1, aI G 54 (fl R)), (a2, aI G 54 (fl u)), (a7, aI G 7 (cN (rfU rf (cWhat wwz))))])) (([.ref h0, .int ww] : List Value).toArray) s 0 0 (fA [(h0, .inr (2, [.ref a1, .ref a2, .ref a3, .ref a4, .int (nI im), .ref a5, .ref a6, .ref a7, .int (nI lm), .int (nI rm), .int (nI pl), .ref a8, .int sd])), (a1, aI G 54 (fl R)), (a2, aI G 54 (fl Rm)), (a7, aI G 7 (cN rf))])) (F0 m 25 ls []) := by
      intro fu
      induction fu with
      | zero => intro i Y H locs ls hfu; exact absurd hfu (Nat.not_lt_zero _)
      | succ fu ih_25 =>
        intro i Y H locs ls hfu hi hw hl
        refine lv_iload xx xb dX2_first_25 (lv_at hl 4 rfl) ?_
        refine lv_aload_n xx xb dX2_first_27 rfl (lv_at hl 0 rfl) ?_
        refine m_get C hw 0 rfl fk_X2_9 rfl dX2_first_28 ?_
        refine lv_iconst (v := nI 0) xx xb dX2_first_31 (by decide) ?_
        refine m_ald C hw 1 rfl 0 rfl (by omega) (by decide) dX2_first_32 ?_
        refine re_i (nI (R 0 0)) (fl_h R (by decide)) ?_
        refine lv_icmp_ge (tgt := 87) xx xb dX2_first_33 (by decide) (fun c_33 => ?_) (fun c_33 => ?_)
        · skip
          have c_33 := le_c (tN (by omega)) (tN (by omega)) c_33
          have hin : R 0 0 = i := by omega
          have hbl := bsI_le R i (by omega)
          have hbT := bsI_T R i (by omega)
          refine lv_iload_n xx xb dX2_first_87 rfl (lv_at hl 2 rfl) ?_
          refine lv_if_lt (tgt := 95) xx xb dX2_first_88 (by decide) (fun c_88 => ?_) (fun c_88 => ?_)
          · skip
            have c_88 := (onI_neg (by omega)).mp c_88
            refine lv_iload_n xx xb dX2_first_95 rfl (lv_at hl 2 rfl) ?_
            refine lv_goto (tgt := 100) xx xb dX2_first_96 (by decide) ?_
            refine re_i (vFirst R wwz) (by unfold vFirst; rw [hin]; first | (rw [if_pos (Or.inl c_88)]; done) | (rw [if_pos (Or.inr (by omega))]; done) | (rw [if_neg (by omega)]; exact (if_pos (by omega)))) ?_
            have hc : cWhat wwz = 0 := by unfold cWhat; (repeat' split) <;> omega
            exact rt_i C hw Y (by exact (anI_0 hc _).symm) (by rw [rfU_0 hc]) dX2_first_100
          · skip
            have c_88 := mt (onI_neg (by omega)).mpr c_88
            refine lv_iload_n xx xb dX2_first_91 rfl (lv_at hl 1 rfl) ?_
            refine lv_if_ne (tgt := 99) xx xb dX2_first_92 (by decide) (fun c_92 => ?_) (fun c_92 => ?_)
            · skip
              have c_92 := ne_c h_ww Int32.toInt_zero c_92
              refine lv_iload_n xx xb dX2_first_99 rfl (lv_at hl 3 rfl) ?_
              refine re_i (vFirst R wwz) (by unfold vFirst; rw [hin]; first | (rw [if_pos (Or.inl c_88)]; done) | (rw [if_pos (Or.inr (by omega))]; done) | (rw [if_neg (by omega)]; exact (if_pos (by omega)))) ?_
              have hc : cWhat wwz = 0 := by unfold cWhat; (repeat' split) <;> omega
              exact rt_i C hw Y (by exact (anI_0 hc _).symm) (by rw [rfU_0 hc]) dX2_first_100
            · skip
              have c_92 := eq_c h_ww Int32.toInt_zero c_92
              refine lv_iload_n xx xb dX2_first_95 rfl (lv_at hl 2 rfl) ?_
              refine lv_goto (tgt := 100) xx xb dX2_first_96 (by decide) ?_
              refine re_i (vFirst R wwz) (by unfold vFirst; rw [hin]; first | (rw [if_pos (Or.inl c_88)]; done) | (rw [if_pos (Or.inr (by omega))]; done) | (rw [if_neg (by omega)]; exact (if_pos (by omega)))) ?_
              have hc : cWhat wwz = 0 := by unfold cWhat; (repeat' split) <;> omega
              exact rt_i C hw Y (by exact (anI_0 hc _).symm) (by rw [rfU_0 hc]) dX2_first_100
        · skip
          have c_33 := nle_c (tN (by omega)) (tN (by omega)) c_33
          have hbl := bsI_le R i (by omega)
          refine lv_aload_n xx xb dX2_first_36 rfl (lv_at hl 0 rfl) ?_
          refine m_get C hw 0 rfl fk_X2_9 rfl dX2_first_37 ?_
          refine lv_iload xx xb dX2_first_40 (lv_at hl 4 rfl) ?_
          have hM := kX2_stands l G a1 R i (by first | assumption | omega) (by first | assumption | omega)
          refine cs_i C hw hM ysX2_stands ml_X2_55 rfl [1] rfl rfl (fun _ => (rfl : ([a1] : List Nat) = [a1])) (by decide) ⟨Nat.zero_le _, Nat.zero_le _⟩ hl.1 rfl (Nat.le_of_ble_eq_true rfl) dX2_first_42 (fun r _ H locs hr hw => ?_)
          have hw : Wd G (fA [(h0, .inr (2, [.ref a1, .ref a2, .ref a3, .ref a4, .int (nI im), .ref a5, .ref a6, .ref a7, .int (nI lm), .int (nI rm), .int (nI pl), .ref a8, .int sd])), (a1, aI G 54 (fl R)), (a2, aI G 54 (fl Rm)), (a7, aI G 7 (cN rf))]) s [(h0, .inr (2, [.ref a1, .ref a2, .ref a3, .ref a4, .int (nI im), .ref a5, .ref a6, .ref a7, .int (nI lm), .int (nI rm), .int (nI pl), .ref a8, .int sd])), (a1, aI G 54 (fl R)), (a2, aI G 54 (fl Y)), (a7, aI G 7 (cN rf))] H locs := hw
          subst hr
          refine lv_if_eq (tgt := 57) xx xb dX2_first_45 (by decide) (fun c_45 => ?_) (fun c_45 => ?_)
          · skip
            have c_45 := b0_c c_45
            refine lv_bipush (v := (-9)) xx xb dX2_first_57 (by decide) ?_
            refine lv_istore (lv' := [(5, .int (-9)), (0, .ref h0), (1, .int ww), (2, .int (onI (bsI R i))), (3, .int (bstI (bsT R i))), (4, .int (nI i))]) xx xb dX2_first_59 hl (by decide) rfl (fun ls hl => ?_)
            refine lv_iload xx xb dX2_first_61 (lv_at hl 0 rfl) ?_
            refine lv_if_lt (tgt := 81) xx xb dX2_first_63 (by decide) (fun c_63 => ?_) (fun c_63 => ?_)
            · skip
              have hnq : ¬ (R 4 i = 0 ∧ ftN R i < bsT R i) := fun q => by first | exact c_45 q.1 | exact c_69 q.2 | (have z1 := bsT_le R i; have z2 := q.2; omega)
              have e1 : bsI R (i + 1) = bsI R i := if_neg hnq
              have e2 : bsT R (i + 1) = bsT R i := if_neg hnq
              have hl : lv_has ls 6 [(5, .int (-9)), (0, .ref h0), (1, .int ww), (2, .int (onI (bsI R (i + 1)))), (3, .int (bstI (bsT R i))), (4, .int (nI i))] := by rw [e1]; exact hl
              have hl : lv_has ls 6 [(5, .int (-9)), (0, .ref h0), (1, .int ww), (2, .int (onI (bsI R (i + 1)))), (3, .int (bstI (bsT R (i + 1)))), (4, .int (nI i))] := by rw [e2]; exact hl
              refine lv_iinc (v := nI (i + 1)) (lv' := [(4, .int (nI (i + 1))), (5, .int (-9)), (0, .ref h0), (1, .int ww), (2, .int (onI (bsI R (i + 1)))), (3, .int (bstI (bsT R (i + 1))))]) xx xb dX2_first_81 hl (k := 5) rfl (nI_add _ 1) (by decide) rfl (fun ls hl => ?_)
              refine lv_goto (tgt := 25) xx xb dX2_first_84 (by decide) ?_
              exact ih_25 (i + 1) Y H _ ls (by omega) (by omega) hw (lv_sub hl [2, 3, 4, 5, 0] rfl)
            · skip
              exact absurd (by decide) c_63
          · skip
            have c_45 := b1_c c_45
            refine lv_aload_n xx xb dX2_first_48 rfl (lv_at hl 0 rfl) ?_
            refine lv_iload xx xb dX2_first_49 (lv_at hl 4 rfl) ?_
            have hM := kX2_fallsOf l G h0 a1 a2 a3 a4 a5 a6 a7 a8 im lm rm pl sd R Y i (by first | assumption | omega) (by first | assumption | omega) (by first | assumption | omega)
            refine cv_i C hw hM yvX2_fallsOf ml_X2_144 0 rfl rfl rfl [0, 1, 2] rfl rfl (fun _ => (rfl : ([h0, a1, a2] : List Nat) = [h0, a1, a2])) (by decide) ⟨Nat.zero_le _, Nat.zero_le _⟩ hl.1 rfl (Nat.le_of_ble_eq_true rfl) dX2_first_51 (fun r _ H locs hr hw => ?_)
            have hw : Wd G (fA [(h0, .inr (2, [.ref a1, .ref a2, .ref a3, .ref a4, .int (nI im), .ref a5, .ref a6, .ref a7, .int (nI lm), .int (nI rm), .int (nI pl), .ref a8, .int sd])), (a1, aI G 54 (fl R)), (a2, aI G 54 (fl Rm)), (a7, aI G 7 (cN rf))]) s [(h0, .inr (2, [.ref a1, .ref a2, .ref a3, .ref a4, .int (nI im), .ref a5, .ref a6, .ref a7, .int (nI lm), .int (nI rm), .int (nI pl), .ref a8, .int sd])), (a1, aI G 54 (fl R)), (a2, aI G 54 (fl (itF R (ftN R i)))), (a7, aI G 7 (cN rf))] H locs := hw
            subst hr
            refine lv_goto (tgt := 59) xx xb dX2_first_54 (by decide) ?_
            refine lv_istore (lv' := [(5, .int (ftI (ftN R i))), (0, .ref h0), (1, .int ww), (2, .int (onI (bsI R i))), (3, .int (bstI (bsT R i))), (4, .int (nI i))]) xx xb dX2_first_59 hl (by decide) rfl (fun ls hl => ?_)
            refine lv_iload xx xb dX2_first_61 (lv_at hl 0 rfl) ?_
            refine lv_if_lt (tgt := 81) xx xb dX2_first_63 (by decide) (fun c_63 => ?_) (fun c_63 => ?_)
            · skip
              have c_63 := (ftI_neg (ftN_le _ _)).mp c_63
              have hnq : ¬ (R 4 i = 0 ∧ ftN R i < bsT R i) := fun q => by first | exact c_45 q.1 | exact c_69 q.2 | (have z1 := bsT_le R i; have z2 := q.2; omega)
              have e1 : bsI R (i + 1) = bsI R i := if_neg hnq
              have e2 : bsT R (i + 1) = bsT R i := if_neg hnq
              have hl : lv_has ls 6 [(5, .int (ftI (ftN R i))), (0, .ref h0), (1, .int ww), (2, .int (onI (bsI R (i + 1)))), (3, .int (bstI (bsT R i))), (4, .int (nI i))] := by rw [e1]; exact hl
              have hl : lv_has ls 6 [(5, .int (ftI (ftN R i))), (0, .ref h0), (1, .int ww), (2, .int (onI (bsI R (i + 1)))), (3, .int (bstI (bsT R (i + 1)))), (4, .int (nI i))] := by rw [e2]; exact hl
              refine lv_iinc (v := nI (i + 1)) (lv' := [(4, .int (nI (i + 1))), (5, .int (ftI (ftN R i))), (0, .ref h0), (1, .int ww), (2, .int (onI (bsI R (i + 1)))), (3, .int (bstI (bsT R (i + 1))))]) xx xb dX2_first_81 hl (k := 5) rfl (nI_add _ 1) (by decide) rfl (fun ls hl => ?_)
              refine lv_goto (tgt := 25) xx xb dX2_first_84 (by decide) ?_
              exact ih_25 (i + 1) (itF R (ftN R i)) H _ ls (by omega) (by omega) hw (lv_sub hl [2, 3, 4, 5, 0] rfl)
            · skip
              have c_63 := Nat.lt_of_not_le (mt (ftI_neg (ftN_le _ _)).mpr c_63)
              refine lv_iload xx xb dX2_first_66 (lv_at hl 0 rfl) ?_
              refine lv_iload_n xx xb dX2_first_68 rfl (lv_at hl 4 rfl) ?_
              refine lv_icmp_lt (tgt := 75) xx xb dX2_first_69 (by decide) (fun c_69 => ?_) (fun c_69 => ?_)
              · skip
                have c_69 := (bst_lt c_63 (bsT_le _ _)).mp c_69
                refine lv_iload xx xb dX2_first_75 (lv_at hl 5 rfl) ?_
                refine lv_istore_n (lv' := [(2, .int (nI i)), (5, .int (ftI (ftN R i))), (0, .ref h0), (1, .int ww), (3, .int (bstI (bsT R i))), (4, .int (nI i))]) xx xb dX2_first_77 rfl hl (by decide) rfl (fun ls hl => ?_)
                refine lv_iload xx xb dX2_first_78 (lv_at hl 1 rfl) ?_
                refine lv_istore_n (lv' := [(3, .int (ftI (ftN R i))), (2, .int (nI i)), (5, .int (ftI (ftN R i))), (0, .ref h0), (1, .int ww), (4, .int (nI i))]) xx xb dX2_first_80 rfl hl (by decide) rfl (fun ls hl => ?_)
                have e1 : bsI R (i + 1) = i := if_pos ⟨c_45, c_69⟩
                have e2 : bsT R (i + 1) = ftN R i := if_pos ⟨c_45, c_69⟩
                have hl : lv_has ls 6 [(3, .int (ftI (ftN R i))), (2, .int (onI (bsI R (i + 1)))), (5, .int (ftI (ftN R i))), (0, .ref h0), (1, .int ww), (4, .int (nI i))] := by rw [e1, onI_lt (by omega)]; exact hl
                have hl : lv_has ls 6 [(3, .int (bstI (bsT R (i + 1)))), (2, .int (onI (bsI R (i + 1)))), (5, .int (ftI (ftN R i))), (0, .ref h0), (1, .int ww), (4, .int (nI i))] := by rw [e2, bst_ft c_63]; exact hl
                refine lv_iinc (v := nI (i + 1)) (lv' := [(4, .int (nI (i + 1))), (3, .int (bstI (bsT R (i + 1)))), (2, .int (onI (bsI R (i + 1)))), (5, .int (ftI (ftN R i))), (0, .ref h0), (1, .int ww)]) xx xb dX2_first_81 hl (k := 5) rfl (nI_add _ 1) (by decide) rfl (fun ls hl => ?_)
                refine lv_goto (tgt := 25) xx xb dX2_first_84 (by decide) ?_
                exact ih_25 (i + 1) (itF R (ftN R i)) H _ ls (by omega) (by omega) hw (lv_sub hl [4, 5, 2, 1, 0] rfl)
              · skip
                have c_69 := mt (bst_lt c_63 (bsT_le _ _)).mpr c_69
                refine lv_goto (tgt := 81) xx xb dX2_first_72 (by decide) ?_
                have hnq : ¬ (R 4 i = 0 ∧ ftN R i < bsT R i) := fun q => by first | exact c_45 q.1 | exact c_69 q.2 | (have z1 := bsT_le R i; have z2 := q.2; omega)
                have e1 : bsI R (i + 1) = bsI R i := if_neg hnq
                have e2 : bsT R (i + 1) = bsT R i := if_neg hnq
                have hl : lv_has ls 6 [(5, .int (ftI (ftN R i))), (0, .ref h0), (1, .int ww), (2, .int (onI (bsI R (i + 1)))), (3, .int (bstI (bsT R i))), (4, .int (nI i))] := by rw [e1]; exact hl
                have hl : lv_has ls 6 [(5, .int (ftI (ftN R i))), (0, .ref h0), (1, .int ww), (2, .int (onI (bsI R (i + 1)))), (3, .int (bstI (bsT R (i + 1)))), (4, .int (nI i))] := by rw [e2]; exact hl
                refine lv_iinc (v := nI (i + 1)) (lv' := [(4, .int (nI (i + 1))), (5, .int (ftI (ftN R i))), (0, .ref h0), (1, .int ww), (2, .int (onI (bsI R (i + 1)))), (3, .int (bstI (bsT R (i + 1))))]) xx xb dX2_first_81 hl (k := 5) rfl (nI_add _ 1) (by decide) rfl (fun ls hl => ?_)
                refine lv_goto (tgt := 25) xx xb dX2_first_84 (by decide) ?_
                exact ih_25 (i + 1) (itF R (ftN R i)) H _ ls (by omega) (by omega) hw (lv_sub hl [2, 3, 4, 5, 0] rfl)
    exact L_25 (_ + 1) 0 Rm H _ ls (Nat.lt_succ_self _) (by omega) hw (lv_sub hl [3, 4, 2, 1, 0] rfl)
  · skip
    have c_6 := b0_c c_6
    refine lv_aload_n xx xb dX2_first_9 rfl (lv_at hl 0 rfl) ?_
    refine lv_bipush (v := (-2)) xx xb dX2_first_10 (by decide) ?_
    have hM := kX2_no l G h0 a1 a2 a3 a4 a5 a6 a7 a8 im lm rm pl sd rf 2 (by first | assumption | omega)
    refine cv_i C hw hM yvX2_no ml_X2_36 0 rfl rfl rfl [0, 3] rfl rfl (fun _ => (rfl : ([h0, a7] : List Nat) = [h0, a7])) (by decide) ⟨Nat.zero_le _, Nat.zero_le _⟩ hl.1 rfl (Nat.le_of_ble_eq_true rfl) dX2_first_12 (fun r _ H locs hr hw => ?_)
    have hw : Wd G (fA [(h0, .inr (2, [.ref a1, .ref a2, .ref a3, .ref a4, .int (nI im), .ref a5, .ref a6, .ref a7, .int (nI lm), .int (nI rm), .int (nI pl), .ref a8, .int sd])), (a1, aI G 54 (fl R)), (a2, aI G 54 (fl Rm)), (a7, aI G 7 (cN rf))]) s [(h0, .inr (2, [.ref a1, .ref a2, .ref a3, .ref a4, .int (nI im), .ref a5, .ref a6, .ref a7, .int (nI lm), .int (nI rm), .int (nI pl), .ref a8, .int sd])), (a1, aI G 54 (fl R)), (a2, aI G 54 (fl Rm)), (a7, aI G 7 (cN (upN rf 2 (rf 2 + 1))))] H locs := hw
    subst hr
    have hc : cWhat wwz = 2 := by unfold cWhat; (repeat' split) <;> omega
    have hj : 2 ≠ 0 := by omega
    exact rt_i C hw Rm (by exact (anI_r hc hj _).symm) (by rw [rfU_r hc hj]) dX2_first_15
set_option maxRecDepth 100000 in
set_option maxHeartbeats 4000000 in
theorem kX2_allStand (l : Launch) (G : GT) (h0 : Nat) (a1 : Nat) (a2 : Nat) (a3 : Nat) (a4 : Nat) (a5 : Nat) (a6 : Nat) (a7 : Nat) (a8 : Nat) (im : Nat) (lm : Nat) (rm : Nat) (pl : Nat) (sd : Int32) (R : RT) (Rm : RT) (hR : OK R) (hK : AK R) : Ct l yX2_allStand cX2_allStand 3 (some .int) 4 88 [.ref h0] G [(h0, .inr (2, [.ref a1, .ref a2, .ref a3, .ref a4, .int (nI im), .ref a5, .ref a6, .ref a7, .int (nI lm), .int (nI rm), .int (nI pl), .ref a8, .int sd])), (a1, aI G 54 (fl R)), (a2, aI G 54 (fl Rm))] (QI G [(h0, .inr (2, [.ref a1, .ref a2, .ref a3, .ref a4, .int (nI im), .ref a5, .ref a6, .ref a7, .int (nI lm), .int (nI rm), .int (nI pl), .ref a8, .int sd])), (a1, aI G 54 (fl R)), (a2, aI G 54 (fl Rm))] (fun (r : Int32) (u : RT) => r = nI (bsT R (R 0 0) - 1)) (fun u => [(h0, .inr (2, [.ref a1, .ref a2, .ref a3, .ref a4, .int (nI im), .ref a5, .ref a6, .ref a7, .int (nI lm), .int (nI rm), .int (nI pl), .ref a8, .int sd])), (a1, aI G 54 (fl R)), (a2, aI G 54 (fl u))])) := by
  refine en (by decide +kernel) (Nat.le_of_ble_eq_true rfl) ?_
  intro p e s m below meth c ls H locs C hl hw
  have xx := C.1
  have xb := C.2.1
  have hw : Wd G (fA [(h0, .inr (2, [.ref a1, .ref a2, .ref a3, .ref a4, .int (nI im), .ref a5, .ref a6, .ref a7, .int (nI lm), .int (nI rm), .int (nI pl), .ref a8, .int sd])), (a1, aI G 54 (fl R)), (a2, aI G 54 (fl Rm))]) s [(h0, .inr (2, [.ref a1, .ref a2, .ref a3, .ref a4, .int (nI im), .ref a5, .ref a6, .ref a7, .int (nI lm), .int (nI rm), .int (nI pl), .ref a8, .int sd])), (a1, aI G 54 (fl R)), (a2, aI G 54 (fl Rm))] H locs := hw
  have hl : lv_has ls 3 [(0, .ref h0)] := hl
  obtain ⟨hn, hf0, hpr, hA⟩ := id hR
  have hs1 := setF_lt hR 1
  have hbp := bsT_pos R hn
  have hbl := bsT_le R (R 0 0)
  refine lv_aload_n xx xb dX2_allStand_0 rfl (lv_at hl 0 rfl) ?_
  refine m_get C hw 0 rfl fk_X2_9 rfl dX2_allStand_1 ?_
  refine lv_aload_n xx xb dX2_allStand_4 rfl (lv_at hl 0 rfl) ?_
  refine m_get C hw 0 rfl fk_X2_13 rfl dX2_allStand_5 ?_
  have hM := kX2_copies l G a1 a2 (fl R) (fl Rm) 
  refine cs_v C hw hM ysX2_copies ml_X2_121 rfl [1, 2] rfl rfl (fun _ => (rfl : ([a1, a2] : List Nat) = [a1, a2])) (by decide) ⟨Nat.zero_le _, Nat.zero_le _⟩ hl.1 rfl (Nat.le_of_ble_eq_true rfl) dX2_allStand_8 (fun _ H locs hr hw => ?_)
  have hw : Wd G (fA [(h0, .inr (2, [.ref a1, .ref a2, .ref a3, .ref a4, .int (nI im), .ref a5, .ref a6, .ref a7, .int (nI lm), .int (nI rm), .int (nI pl), .ref a8, .int sd])), (a1, aI G 54 (fl R)), (a2, aI G 54 (fl Rm))]) s [(h0, .inr (2, [.ref a1, .ref a2, .ref a3, .ref a4, .int (nI im), .ref a5, .ref a6, .ref a7, .int (nI lm), .int (nI rm), .int (nI pl), .ref a8, .int sd])), (a1, aI G 54 (fl R)), (a2, aI G 54 (fl R))] H locs := hw
  refine lv_aload_n xx xb dX2_allStand_11 rfl (lv_at hl 0 rfl) ?_
  refine m_get C hw 0 rfl fk_X2_9 rfl dX2_allStand_12 ?_
  refine lv_iconst (v := nI 1) xx xb dX2_allStand_15 (by decide) ?_
  have hM := kX2_setOf l G a1 R 1 (by first | assumption | omega) (by first | assumption | omega)
  refine cs_i C hw hM ysX2_setOf ml_X2_73 rfl [1] rfl rfl (fun _ => (rfl : ([a1] : List Nat) = [a1])) (by decide) ⟨Nat.zero_le _, Nat.zero_le _⟩ hl.1 rfl (Nat.le_of_ble_eq_true rfl) dX2_allStand_16 (fun r _ H locs hr hw => ?_)
  have hw : Wd G (fA [(h0, .inr (2, [.ref a1, .ref a2, .ref a3, .ref a4, .int (nI im), .ref a5, .ref a6, .ref a7, .int (nI lm), .int (nI rm), .int (nI pl), .ref a8, .int sd])), (a1, aI G 54 (fl R)), (a2, aI G 54 (fl Rm))]) s [(h0, .inr (2, [.ref a1, .ref a2, .ref a3, .ref a4, .int (nI im), .ref a5, .ref a6, .ref a7, .int (nI lm), .int (nI rm), .int (nI pl), .ref a8, .int sd])), (a1, aI G 54 (fl R)), (a2, aI G 54 (fl R))] H locs := hw
  subst hr
  refine lv_istore_n (lv' := [(1, .int (nI (setF R 1))), (0, .ref h0)]) xx xb dX2_allStand_19 rfl hl (by decide) rfl (fun ls hl => ?_)
  refine lv_iconst (v := nI 0) xx xb dX2_allStand_20 (by decide) ?_
  refine lv_istore_n (lv' := [(2, .int (nI 0)), (1, .int (nI (setF R 1))), (0, .ref h0)]) xx xb dX2_allStand_21 rfl hl (by decide) rfl (fun ls hl => ?_)
  have hw : Wd G (fA [(h0, .inr (2, [.ref a1, .ref a2, .ref a3, .ref a4, .int (nI im), .ref a5, .ref a6, .ref a7, .int (nI lm), .int (nI rm), .int (nI pl), .ref a8, .int sd])), (a1, aI G 54 (fl R)), (a2, aI G 54 (fl Rm))]) s [(h0, .inr (2, [.ref a1, .ref a2, .ref a3, .ref a4, .int (nI im), .ref a5, .ref a6, .ref a7, .int (nI lm), .int (nI rm), .int (nI pl), .ref a8, .int sd])), (a1, aI G 54 (fl R)), (a2, aI G 54 (fl (itF R 0)))] H locs := hw
  have L_22 : ∀ (fu : Nat) (i : Nat) (H : Heap) (locs : List Loc) (ls : Array Slot), 99 - i < fu → (i ≤ 99) → (i < bsT R (R 0 0)) → Wd G (fA [(h0, .inr (2, [.ref a1, .ref a2, .ref a3, .ref a4, .int (nI im), .ref a5, .ref a6, .ref a7, .int (nI lm), .int (nI rm), .int (nI pl), .ref a8, .int sd])), (a1, aI G 54 (fl R)), (a2, aI G 54 (fl Rm))]) s [(h0, .inr (2, [.ref a1, .ref a2, .ref a3, .ref a4, .int (nI im), .ref a5, .ref a6, .ref a7, .int (nI lm), .int (nI rm), .int (nI pl), .ref a8, .int sd])), (a1, aI G 54 (fl R)), (a2, aI G 54 (fl (itF R i)))] H locs → lv_has ls 3 [(0, .ref h0), (1, .int (nI (setF R 1))), (2, .int (nI i))] → W p l e ({ frames := 4, cells := 0, slots := 0, locals := 88 }) s m (([.ref h0] : List Value).toArray) below meth c H locs 0 0 (MQ below (QI G [(h0, .inr (2, [.ref a1, .ref a2, .ref a3, .ref a4, .int (nI im), .ref a5, .ref a6, .ref a7, .int (nI lm), .int (nI rm), .int (nI pl), .ref a8, .int sd])), (a1, aI G 54 (fl R)), (a2, aI G 54 (fl Rm))] (fun (r : Int32) (u : RT) => r = nI (bsT R (R 0 0) - 1)) (fun u => [(h0, .inr (2, [.ref a1, .ref a2, .ref a3, .ref a4, .int (nI im), .ref a5, .ref a6, .ref a7, .int (nI lm), .int (nI rm), .int (nI pl), .ref a8, .int sd])), (a1, aI G 54 (fl R)), (a2, aI G 54 (fl u))])) (([.ref h0] : List Value).toArray) s 0 0 (fA [(h0, .inr (2, [.ref a1, .ref a2, .ref a3, .ref a4, .int (nI im), .ref a5, .ref a6, .ref a7, .int (nI lm), .int (nI rm), .int (nI pl), .ref a8, .int sd])), (a1, aI G 54 (fl R)), (a2, aI G 54 (fl Rm))])) (F0 m 22 ls []) := by
    intro fu
    induction fu with
    | zero => intro i H locs ls hfu; exact absurd hfu (Nat.not_lt_zero _)
    | succ fu ih_22 =>
      intro i H locs ls hfu hi hb hw hl
      refine lv_iload_n xx xb dX2_allStand_22 rfl (lv_at hl 2 rfl) ?_
      refine lv_bipush (v := nI 99) xx xb dX2_allStand_23 (by decide) ?_
      refine lv_icmp_ge (tgt := 56) xx xb dX2_allStand_25 (by decide) (fun c_25 => ?_) (fun c_25 => ?_)
      · skip
        have c_25 := le_c (tN (by omega)) (tN (by omega)) c_25
        refine lv_bipush (v := nI 99) xx xb dX2_allStand_56 (by decide) ?_
        exact rt_i C hw (itF R i) (congrArg nI (by omega)) rfl dX2_allStand_58
      · skip
        have c_25 := nle_c (tN (by omega)) (tN (by omega)) c_25
        refine lv_aload_n xx xb dX2_allStand_28 rfl (lv_at hl 0 rfl) ?_
        refine m_get C hw 0 rfl fk_X2_13 rfl dX2_allStand_29 ?_
        refine lv_iconst (v := nI 0) xx xb dX2_allStand_32 (by decide) ?_
        have hM := kX2_minute l G a2 (itF R i) 0 (OK_itF hR i) (AK_itF hR hK i) (by first | assumption | omega)
        refine cs_v C hw hM ysX2_minute ml_X2_80 rfl [2] rfl rfl (fun _ => (rfl : ([a2] : List Nat) = [a2])) (by decide) ⟨Nat.zero_le _, Nat.zero_le _⟩ hl.1 rfl (Nat.le_of_ble_eq_true rfl) dX2_allStand_33 (fun _ H locs hr hw => ?_)
        have hw : Wd G (fA [(h0, .inr (2, [.ref a1, .ref a2, .ref a3, .ref a4, .int (nI im), .ref a5, .ref a6, .ref a7, .int (nI lm), .int (nI rm), .int (nI pl), .ref a8, .int sd])), (a1, aI G 54 (fl R)), (a2, aI G 54 (fl Rm))]) s [(h0, .inr (2, [.ref a1, .ref a2, .ref a3, .ref a4, .int (nI im), .ref a5, .ref a6, .ref a7, .int (nI lm), .int (nI rm), .int (nI pl), .ref a8, .int sd])), (a1, aI G 54 (fl R)), (a2, aI G 54 (fl (miF (itF R i) 0)))] H locs := hw
        have hw : Wd G (fA [(h0, .inr (2, [.ref a1, .ref a2, .ref a3, .ref a4, .int (nI im), .ref a5, .ref a6, .ref a7, .int (nI lm), .int (nI rm), .int (nI pl), .ref a8, .int sd])), (a1, aI G 54 (fl R)), (a2, aI G 54 (fl Rm))]) s [(h0, .inr (2, [.ref a1, .ref a2, .ref a3, .ref a4, .int (nI im), .ref a5, .ref a6, .ref a7, .int (nI lm), .int (nI rm), .int (nI pl), .ref a8, .int sd])), (a1, aI G 54 (fl R)), (a2, aI G 54 (fl (itF R (i + 1))))] H locs := hw
        have hS := OK_itF hR (i + 1)
        have hs2 := setF_lt hS 1
        refine lv_aload_n xx xb dX2_allStand_36 rfl (lv_at hl 0 rfl) ?_
        refine m_get C hw 0 rfl fk_X2_13 rfl dX2_allStand_37 ?_
        refine lv_iconst (v := nI 1) xx xb dX2_allStand_40 (by decide) ?_
        have hM := kX2_setOf l G a2 (itF R (i + 1)) 1 (by first | assumption | omega) (by first | assumption | omega)
        refine cs_i C hw hM ysX2_setOf ml_X2_73 rfl [2] rfl rfl (fun _ => (rfl : ([a2] : List Nat) = [a2])) (by decide) ⟨Nat.zero_le _, Nat.zero_le _⟩ hl.1 rfl (Nat.le_of_ble_eq_true rfl) dX2_allStand_41 (fun r _ H locs hr hw => ?_)
        have hw : Wd G (fA [(h0, .inr (2, [.ref a1, .ref a2, .ref a3, .ref a4, .int (nI im), .ref a5, .ref a6, .ref a7, .int (nI lm), .int (nI rm), .int (nI pl), .ref a8, .int sd])), (a1, aI G 54 (fl R)), (a2, aI G 54 (fl Rm))]) s [(h0, .inr (2, [.ref a1, .ref a2, .ref a3, .ref a4, .int (nI im), .ref a5, .ref a6, .ref a7, .int (nI lm), .int (nI rm), .int (nI pl), .ref a8, .int sd])), (a1, aI G 54 (fl R)), (a2, aI G 54 (fl (itF R (i + 1))))] H locs := hw
        subst hr
        refine lv_iload_n xx xb dX2_allStand_44 rfl (lv_at hl 1 rfl) ?_
        refine lv_icmp_eq (tgt := 50) xx xb dX2_allStand_45 (by decide) (fun c_45 => ?_) (fun c_45 => ?_)
        · skip
          have c_45 := eq_c (tN (by omega)) (tN (by omega)) c_45
          have hd : i + 1 < bsT R (R 0 0) := Nat.lt_of_not_le (fun q => lie_diff R (i + 1) hn (by omega) q (by omega))
          refine lv_iinc (v := nI (i + 1)) (lv' := [(2, .int (nI (i + 1))), (0, .ref h0), (1, .int (nI (setF R 1)))]) xx xb dX2_allStand_50 hl (k := 2) rfl (nI_add _ 1) (by decide) rfl (fun ls hl => ?_)
          refine lv_goto (tgt := 22) xx xb dX2_allStand_53 (by decide) ?_
          exact ih_22 (i + 1) H _ ls (by omega) (by omega) hd hw (lv_sub hl [1, 2, 0] rfl)
        · skip
          have c_45 := ne_c (tN (by omega)) (tN (by omega)) c_45
          refine lv_iload_n xx xb dX2_allStand_48 rfl (lv_at hl 2 rfl) ?_
          have hd : ¬ i + 1 < bsT R (R 0 0) := fun q => absurd (lie_same R (i + 1) (by omega) q) (by omega)
          exact rt_i C hw (itF R (i + 1)) (congrArg nI (by omega)) rfl dX2_allStand_49
  exact L_22 (_ + 1) 0 H _ ls (Nat.lt_succ_self _) (by omega) hbp hw (lv_sub hl [2, 1, 0] rfl)
set_option maxRecDepth 100000 in
set_option maxHeartbeats 4000000 in
theorem kX2_row (l : Launch) (G : GT) (h0 : Nat) (a1 : Nat) (a2 : Nat) (a3 : Nat) (a4 : Nat) (a5 : Nat) (a6 : Nat) (a7 : Nat) (a8 : Nat) (im : Nat) (lm : Nat) (rm : Nat) (pl : Nat) (sd : Int32) (rv : Nat → Nat) (rf : Nat → Nat) (v : Int32) (vz : Int) (h_v : v.toInt = vz) (hrm : rm ≤ 16) : Ct l yX2_row cX2_row 3 (some .int) 1 21 [.ref h0, .int v] G [(h0, .inr (2, [.ref a1, .ref a2, .ref a3, .ref a4, .int (nI im), .ref a5, .ref a6, .ref a7, .int (nI lm), .int (nI rm), .int (nI pl), .ref a8, .int sd])), (a6, aI G 16 (cN rv)), (a7, aI G 7 (cN rf))] (QI G [(h0, .inr (2, [.ref a1, .ref a2, .ref a3, .ref a4, .int (nI im), .ref a5, .ref a6, .ref a7, .int (nI lm), .int (nI rm), .int (nI pl), .ref a8, .int sd])), (a6, aI G 16 (cN rv)), (a7, aI G 7 (cN rf))] (fun (r : Int32) (u : Unit) => r = anI (cRow vz rm) (nI (rm + 1))) (fun u => [(h0, .inr (2, [.ref a1, .ref a2, .ref a3, .ref a4, .int (nI im), .ref a5, .ref a6, .ref a7, .int (nI lm), .int (nI (selN (cRow vz rm) (rm + 1) rm)), .int (nI pl), .ref a8, .int sd])), (a6, aI G 16 (cN (selF (cRow vz rm) (upN rv rm vz.toNat) rv))), (a7, aI G 7 (cN (rfU rf (cRow vz rm))))])) := by
  refine en (by decide +kernel) (Nat.le_of_ble_eq_true rfl) ?_
  intro p e s m below meth c ls H locs C hl hw
  have xx := C.1
  have xb := C.2.1
  have hw : Wd G (fA [(h0, .inr (2, [.ref a1, .ref a2, .ref a3, .ref a4, .int (nI im), .ref a5, .ref a6, .ref a7, .int (nI lm), .int (nI rm), .int (nI pl), .ref a8, .int sd])), (a6, aI G 16 (cN rv)), (a7, aI G 7 (cN rf))]) s [(h0, .inr (2, [.ref a1, .ref a2, .ref a3, .ref a4, .int (nI im), .ref a5, .ref a6, .ref a7, .int (nI lm), .int (nI rm), .int (nI pl), .ref a8, .int sd])), (a6, aI G 16 (cN rv)), (a7, aI G 7 (cN rf))] H locs := hw
  have hl : lv_has ls 3 [(0, .ref h0), (1, .int v)] := hl
  have hb9 := wbN_le vz 99
  refine lv_iload_n xx xb dX2_row_0 rfl (lv_at hl 1 rfl) ?_
  refine lv_bipush (v := nI 99) xx xb dX2_row_1 (by decide) ?_
  have hM := kX2_wrongBy l G v vz (nI 99) 99 h_v (tN (by omega))
  refine cs_i C hw hM ysX2_wrongBy ml_X2_128 rfl [] rfl rfl (fun _ => (rfl : ([] : List Nat) = [])) (by decide) ⟨Nat.zero_le _, Nat.zero_le _⟩ hl.1 rfl (Nat.le_of_ble_eq_true rfl) dX2_row_3 (fun r _ H locs hr hw => ?_)
  have hw : Wd G (fA [(h0, .inr (2, [.ref a1, .ref a2, .ref a3, .ref a4, .int (nI im), .ref a5, .ref a6, .ref a7, .int (nI lm), .int (nI rm), .int (nI pl), .ref a8, .int sd])), (a6, aI G 16 (cN rv)), (a7, aI G 7 (cN rf))]) s [(h0, .inr (2, [.ref a1, .ref a2, .ref a3, .ref a4, .int (nI im), .ref a5, .ref a6, .ref a7, .int (nI lm), .int (nI rm), .int (nI pl), .ref a8, .int sd])), (a6, aI G 16 (cN rv)), (a7, aI G 7 (cN rf))] H locs := hw
  subst hr
  refine lv_istore_n (lv' := [(2, .int (nG (wbN vz 99))), (0, .ref h0), (1, .int v)]) xx xb dX2_row_6 rfl hl (by decide) rfl (fun ls hl => ?_)
  refine lv_iload_n xx xb dX2_row_7 rfl (lv_at hl 0 rfl) ?_
  refine lv_if_ne (tgt := 23) xx xb dX2_row_8 (by decide) (fun c_8 => ?_) (fun c_8 => ?_)
  · skip
    have c_8 := g0_n c_8
    refine lv_iload_n xx xb dX2_row_23 rfl (lv_at hl 0 rfl) ?_
    refine lv_if_eq (tgt := 33) xx xb dX2_row_24 (by decide) (fun c_24 => ?_) (fun c_24 => ?_)
    · skip
      have c_24 := g0_c (by omega) c_24
      obtain ⟨g1, g2⟩ := wbN_0 (z := vz) (a := 99) (by omega)
      refine lv_aload_n xx xb dX2_row_33 rfl (lv_at hl 1 rfl) ?_
      refine m_get C hw 0 rfl fk_X2_25 rfl dX2_row_34 ?_
      refine lv_aload_n xx xb dX2_row_37 rfl (lv_at hl 1 rfl) ?_
      refine m_get C hw 0 rfl fk_X2_181 rfl dX2_row_38 ?_
      refine lv_iload_n xx xb dX2_row_41 rfl (lv_at hl 2 rfl) ?_
      refine re_i (nI vz.toNat) (ofT h_v (by omega) (by omega)) ?_
      refine m_ast C hw 1 rfl rm rfl (by omega) (by decide) (cN (upN rv rm vz.toNat)) (cN_u _ _ _) dX2_row_42 (fun H locs hw => ?_)
      have hw : Wd G (fA [(h0, .inr (2, [.ref a1, .ref a2, .ref a3, .ref a4, .int (nI im), .ref a5, .ref a6, .ref a7, .int (nI lm), .int (nI rm), .int (nI pl), .ref a8, .int sd])), (a6, aI G 16 (cN rv)), (a7, aI G 7 (cN rf))]) s [(h0, .inr (2, [.ref a1, .ref a2, .ref a3, .ref a4, .int (nI im), .ref a5, .ref a6, .ref a7, .int (nI lm), .int (nI rm), .int (nI pl), .ref a8, .int sd])), (a6, aI G 16 (cN (upN rv rm vz.toNat))), (a7, aI G 7 (cN rf))] H locs := hw
      refine lv_aload_n xx xb dX2_row_43 rfl (lv_at hl 1 rfl) ?_
      refine lv_dup xx xb dX2_row_44 rfl ?_
      refine m_get C hw 0 rfl fk_X2_181 rfl dX2_row_45 ?_
      refine lv_iconst (v := nI 1) xx xb dX2_row_48 (by decide) ?_
      refine lv_iadd xx xb dX2_row_49 ?_
      refine re_i (nI (rm + 1)) (nI_add _ _) ?_
      refine m_put C hw 0 rfl rfl tyX2 tyX2_ok nmX2 fk_X2_181 rfl rfl rfl rfl (Nat.le_of_ble_eq_true rfl) dX2_row_50 (fun H locs hw => ?_)
      have hw : Wd G (fA [(h0, .inr (2, [.ref a1, .ref a2, .ref a3, .ref a4, .int (nI im), .ref a5, .ref a6, .ref a7, .int (nI lm), .int (nI rm), .int (nI pl), .ref a8, .int sd])), (a6, aI G 16 (cN rv)), (a7, aI G 7 (cN rf))]) s [(h0, .inr (2, [.ref a1, .ref a2, .ref a3, .ref a4, .int (nI im), .ref a5, .ref a6, .ref a7, .int (nI lm), .int (nI (rm + 1)), .int (nI pl), .ref a8, .int sd])), (a6, aI G 16 (cN (upN rv rm vz.toNat))), (a7, aI G 7 (cN rf))] H locs := hw
      refine lv_aload_n xx xb dX2_row_53 rfl (lv_at hl 1 rfl) ?_
      refine m_get C hw 0 rfl fk_X2_181 rfl dX2_row_54 ?_
      have hc : cRow vz rm = 0 := by unfold cRow; (repeat' split) <;> omega
      exact rt_i C hw () (by exact (anI_0 hc _).symm) (by rw [rfU_0 hc, selN_0 hc, selF_0 hc]) dX2_row_57
    · skip
      have c_24 := g0_n c_24
      refine lv_aload_n xx xb dX2_row_27 rfl (lv_at hl 1 rfl) ?_
      refine lv_iload_n xx xb dX2_row_28 rfl (lv_at hl 0 rfl) ?_
      have hM := kX2_no l G h0 a1 a2 a3 a4 a5 a6 a7 a8 im lm rm pl sd rf (wbN vz 99) (by omega)
      refine cv_i C hw hM yvX2_no ml_X2_36 0 rfl rfl rfl [0, 2] rfl rfl (fun _ => (rfl : ([h0, a7] : List Nat) = [h0, a7])) (by decide) ⟨Nat.zero_le _, Nat.zero_le _⟩ hl.1 rfl (Nat.le_of_ble_eq_true rfl) dX2_row_29 (fun r _ H locs hr hw => ?_)
      have hw : Wd G (fA [(h0, .inr (2, [.ref a1, .ref a2, .ref a3, .ref a4, .int (nI im), .ref a5, .ref a6, .ref a7, .int (nI lm), .int (nI rm), .int (nI pl), .ref a8, .int sd])), (a6, aI G 16 (cN rv)), (a7, aI G 7 (cN rf))]) s [(h0, .inr (2, [.ref a1, .ref a2, .ref a3, .ref a4, .int (nI im), .ref a5, .ref a6, .ref a7, .int (nI lm), .int (nI rm), .int (nI pl), .ref a8, .int sd])), (a6, aI G 16 (cN rv)), (a7, aI G 7 (cN (upN rf (wbN vz 99) (rf (wbN vz 99) + 1))))] H locs := hw
      subst hr
      have hc : cRow vz rm = (wbN vz 99) := by unfold cRow; (repeat' split) <;> omega
      have hj : (wbN vz 99) ≠ 0 := by omega
      exact rt_i C hw () (by exact (anI_r hc hj _).symm) (by rw [rfU_r hc hj, selN_r hc hj, selF_r hc hj]) dX2_row_32
  · skip
    have c_8 := g0_c (by omega) c_8
    refine lv_aload_n xx xb dX2_row_11 rfl (lv_at hl 1 rfl) ?_
    refine m_get C hw 0 rfl fk_X2_181 rfl dX2_row_12 ?_
    refine lv_bipush (v := nI 16) xx xb dX2_row_15 (by decide) ?_
    refine lv_icmp_ne (tgt := 23) xx xb dX2_row_17 (by decide) (fun c_17 => ?_) (fun c_17 => ?_)
    · skip
      have c_17 := ne_c (tN (by omega)) (tN (by omega)) c_17
      refine lv_iload_n xx xb dX2_row_23 rfl (lv_at hl 0 rfl) ?_
      refine lv_if_eq (tgt := 33) xx xb dX2_row_24 (by decide) (fun c_24 => ?_) (fun c_24 => ?_)
      · skip
        have c_24 := g0_c (by omega) c_24
        obtain ⟨g1, g2⟩ := wbN_0 (z := vz) (a := 99) (by omega)
        refine lv_aload_n xx xb dX2_row_33 rfl (lv_at hl 1 rfl) ?_
        refine m_get C hw 0 rfl fk_X2_25 rfl dX2_row_34 ?_
        refine lv_aload_n xx xb dX2_row_37 rfl (lv_at hl 1 rfl) ?_
        refine m_get C hw 0 rfl fk_X2_181 rfl dX2_row_38 ?_
        refine lv_iload_n xx xb dX2_row_41 rfl (lv_at hl 2 rfl) ?_
        refine re_i (nI vz.toNat) (ofT h_v (by omega) (by omega)) ?_
        refine m_ast C hw 1 rfl rm rfl (by omega) (by decide) (cN (upN rv rm vz.toNat)) (cN_u _ _ _) dX2_row_42 (fun H locs hw => ?_)
        have hw : Wd G (fA [(h0, .inr (2, [.ref a1, .ref a2, .ref a3, .ref a4, .int (nI im), .ref a5, .ref a6, .ref a7, .int (nI lm), .int (nI rm), .int (nI pl), .ref a8, .int sd])), (a6, aI G 16 (cN rv)), (a7, aI G 7 (cN rf))]) s [(h0, .inr (2, [.ref a1, .ref a2, .ref a3, .ref a4, .int (nI im), .ref a5, .ref a6, .ref a7, .int (nI lm), .int (nI rm), .int (nI pl), .ref a8, .int sd])), (a6, aI G 16 (cN (upN rv rm vz.toNat))), (a7, aI G 7 (cN rf))] H locs := hw
        refine lv_aload_n xx xb dX2_row_43 rfl (lv_at hl 1 rfl) ?_
        refine lv_dup xx xb dX2_row_44 rfl ?_
        refine m_get C hw 0 rfl fk_X2_181 rfl dX2_row_45 ?_
        refine lv_iconst (v := nI 1) xx xb dX2_row_48 (by decide) ?_
        refine lv_iadd xx xb dX2_row_49 ?_
        refine re_i (nI (rm + 1)) (nI_add _ _) ?_
        refine m_put C hw 0 rfl rfl tyX2 tyX2_ok nmX2 fk_X2_181 rfl rfl rfl rfl (Nat.le_of_ble_eq_true rfl) dX2_row_50 (fun H locs hw => ?_)
        have hw : Wd G (fA [(h0, .inr (2, [.ref a1, .ref a2, .ref a3, .ref a4, .int (nI im), .ref a5, .ref a6, .ref a7, .int (nI lm), .int (nI rm), .int (nI pl), .ref a8, .int sd])), (a6, aI G 16 (cN rv)), (a7, aI G 7 (cN rf))]) s [(h0, .inr (2, [.ref a1, .ref a2, .ref a3, .ref a4, .int (nI im), .ref a5, .ref a6, .ref a7, .int (nI lm), .int (nI (rm + 1)), .int (nI pl), .ref a8, .int sd])), (a6, aI G 16 (cN (upN rv rm vz.toNat))), (a7, aI G 7 (cN rf))] H locs := hw
        refine lv_aload_n xx xb dX2_row_53 rfl (lv_at hl 1 rfl) ?_
        refine m_get C hw 0 rfl fk_X2_181 rfl dX2_row_54 ?_
        have hc : cRow vz rm = 0 := by unfold cRow; (repeat' split) <;> omega
        exact rt_i C hw () (by exact (anI_0 hc _).symm) (by rw [rfU_0 hc, selN_0 hc, selF_0 hc]) dX2_row_57
      · skip
        have c_24 := g0_n c_24
        refine lv_aload_n xx xb dX2_row_27 rfl (lv_at hl 1 rfl) ?_
        refine lv_iload_n xx xb dX2_row_28 rfl (lv_at hl 0 rfl) ?_
        have hM := kX2_no l G h0 a1 a2 a3 a4 a5 a6 a7 a8 im lm rm pl sd rf (wbN vz 99) (by omega)
        refine cv_i C hw hM yvX2_no ml_X2_36 0 rfl rfl rfl [0, 2] rfl rfl (fun _ => (rfl : ([h0, a7] : List Nat) = [h0, a7])) (by decide) ⟨Nat.zero_le _, Nat.zero_le _⟩ hl.1 rfl (Nat.le_of_ble_eq_true rfl) dX2_row_29 (fun r _ H locs hr hw => ?_)
        have hw : Wd G (fA [(h0, .inr (2, [.ref a1, .ref a2, .ref a3, .ref a4, .int (nI im), .ref a5, .ref a6, .ref a7, .int (nI lm), .int (nI rm), .int (nI pl), .ref a8, .int sd])), (a6, aI G 16 (cN rv)), (a7, aI G 7 (cN rf))]) s [(h0, .inr (2, [.ref a1, .ref a2, .ref a3, .ref a4, .int (nI im), .ref a5, .ref a6, .ref a7, .int (nI lm), .int (nI rm), .int (nI pl), .ref a8, .int sd])), (a6, aI G 16 (cN rv)), (a7, aI G 7 (cN (upN rf (wbN vz 99) (rf (wbN vz 99) + 1))))] H locs := hw
        subst hr
        have hc : cRow vz rm = (wbN vz 99) := by unfold cRow; (repeat' split) <;> omega
        have hj : (wbN vz 99) ≠ 0 := by omega
        exact rt_i C hw () (by exact (anI_r hc hj _).symm) (by rw [rfU_r hc hj, selN_r hc hj, selF_r hc hj]) dX2_row_32
    · skip
      have c_17 := eq_c (tN (by omega)) (tN (by omega)) c_17
      refine lv_bipush (v := (-6)) xx xb dX2_row_20 (by decide) ?_
      refine lv_istore_n (lv' := [(2, .int (-6)), (0, .ref h0), (1, .int v)]) xx xb dX2_row_22 rfl hl (by decide) rfl (fun ls hl => ?_)
      refine lv_iload_n xx xb dX2_row_23 rfl (lv_at hl 0 rfl) ?_
      refine lv_if_eq (tgt := 33) xx xb dX2_row_24 (by decide) (fun c_24 => ?_) (fun c_24 => ?_)
      · skip
        exact absurd c_24 (by decide)
      · skip
        refine lv_aload_n xx xb dX2_row_27 rfl (lv_at hl 1 rfl) ?_
        refine lv_iload_n xx xb dX2_row_28 rfl (lv_at hl 0 rfl) ?_
        have hM := kX2_no l G h0 a1 a2 a3 a4 a5 a6 a7 a8 im lm rm pl sd rf 6 (by omega)
        refine cv_i C hw hM yvX2_no ml_X2_36 0 rfl rfl rfl [0, 2] rfl rfl (fun _ => (rfl : ([h0, a7] : List Nat) = [h0, a7])) (by decide) ⟨Nat.zero_le _, Nat.zero_le _⟩ hl.1 rfl (Nat.le_of_ble_eq_true rfl) dX2_row_29 (fun r _ H locs hr hw => ?_)
        have hw : Wd G (fA [(h0, .inr (2, [.ref a1, .ref a2, .ref a3, .ref a4, .int (nI im), .ref a5, .ref a6, .ref a7, .int (nI lm), .int (nI rm), .int (nI pl), .ref a8, .int sd])), (a6, aI G 16 (cN rv)), (a7, aI G 7 (cN rf))]) s [(h0, .inr (2, [.ref a1, .ref a2, .ref a3, .ref a4, .int (nI im), .ref a5, .ref a6, .ref a7, .int (nI lm), .int (nI rm), .int (nI pl), .ref a8, .int sd])), (a6, aI G 16 (cN rv)), (a7, aI G 7 (cN (upN rf 6 (rf 6 + 1))))] H locs := hw
        subst hr
        have hc : cRow vz rm = 6 := by unfold cRow; (repeat' split) <;> omega
        have hj : 6 ≠ 0 := by omega
        exact rt_i C hw () (by exact (anI_r hc hj _).symm) (by rw [rfU_r hc hj, selN_r hc hj, selF_r hc hj]) dX2_row_32
set_option maxRecDepth 100000 in
set_option maxHeartbeats 4000000 in
theorem kX2_judge (l : Launch) (G : GT) (h0 : Nat) (a1 : Nat) (a2 : Nat) (a3 : Nat) (a4 : Nat) (a5 : Nat) (a6 : Nat) (a7 : Nat) (a8 : Nat) (im : Nat) (lm : Nat) (rm : Nat) (pl : Nat) (sd : Int32) (R : RT) (Rm : RT) (rv : Nat → Nat) (hR : OK R) (hK : AK R) (hrm : rm ≤ 16) (hrv : ∀ k, k < rm → rv k ≤ 99) : Ct l yX2_judge cX2_judge 3 (some .int) 4 88 [.ref h0] G [(h0, .inr (2, [.ref a1, .ref a2, .ref a3, .ref a4, .int (nI im), .ref a5, .ref a6, .ref a7, .int (nI lm), .int (nI rm), .int (nI pl), .ref a8, .int sd])), (a1, aI G 54 (fl R)), (a2, aI G 54 (fl Rm)), (a6, aI G 16 (cN rv))] (QI G [(h0, .inr (2, [.ref a1, .ref a2, .ref a3, .ref a4, .int (nI im), .ref a5, .ref a6, .ref a7, .int (nI lm), .int (nI rm), .int (nI pl), .ref a8, .int sd])), (a1, aI G 54 (fl R)), (a2, aI G 54 (fl Rm)), (a6, aI G 16 (cN rv))] (fun (r : Int32) (u : Unit) => r = jdI R rv rm) (fun u => [(h0, .inr (2, [.ref a1, .ref a2, .ref a3, .ref a4, .int (nI im), .ref a5, .ref a6, .ref a7, .int (nI lm), .int (nI 0), .int (nI pl), .ref a8, .int sd])), (a1, aI G 54 (fl R)), (a2, aI G 54 (fl (itF R (jdN R rv rm)))), (a6, aI G 16 (cN rv))])) := by
  refine en (by decide +kernel) (Nat.le_of_ble_eq_true rfl) ?_
  intro p e s m below meth c ls H locs C hl hw
  have xx := C.1
  have xb := C.2.1
  have hw : Wd G (fA [(h0, .inr (2, [.ref a1, .ref a2, .ref a3, .ref a4, .int (nI im), .ref a5, .ref a6, .ref a7, .int (nI lm), .int (nI rm), .int (nI pl), .ref a8, .int sd])), (a1, aI G 54 (fl R)), (a2, aI G 54 (fl Rm)), (a6, aI G 16 (cN rv))]) s [(h0, .inr (2, [.ref a1, .ref a2, .ref a3, .ref a4, .int (nI im), .ref a5, .ref a6, .ref a7, .int (nI lm), .int (nI rm), .int (nI pl), .ref a8, .int sd])), (a1, aI G 54 (fl R)), (a2, aI G 54 (fl Rm)), (a6, aI G 16 (cN rv))] H locs := hw
  have hl : lv_has ls 3 [(0, .ref h0)] := hl
  have hn := hR.1
  refine lv_aload_n xx xb dX2_judge_0 rfl (lv_at hl 0 rfl) ?_
  refine m_get C hw 0 rfl fk_X2_181 rfl dX2_judge_1 ?_
  refine lv_istore_n (lv' := [(1, .int (nI rm)), (0, .ref h0)]) xx xb dX2_judge_4 rfl hl (by decide) rfl (fun ls hl => ?_)
  refine lv_aload_n xx xb dX2_judge_5 rfl (lv_at hl 1 rfl) ?_
  refine lv_iconst (v := nI 0) xx xb dX2_judge_6 (by decide) ?_
  refine m_put C hw 0 rfl rfl tyX2 tyX2_ok nmX2 fk_X2_181 rfl rfl rfl rfl (Nat.le_of_ble_eq_true rfl) dX2_judge_7 (fun H locs hw => ?_)
  have hw : Wd G (fA [(h0, .inr (2, [.ref a1, .ref a2, .ref a3, .ref a4, .int (nI im), .ref a5, .ref a6, .ref a7, .int (nI lm), .int (nI rm), .int (nI pl), .ref a8, .int sd])), (a1, aI G 54 (fl R)), (a2, aI G 54 (fl Rm)), (a6, aI G 16 (cN rv))]) s [(h0, .inr (2, [.ref a1, .ref a2, .ref a3, .ref a4, .int (nI im), .ref a5, .ref a6, .ref a7, .int (nI lm), .int (nI 0), .int (nI pl), .ref a8, .int sd])), (a1, aI G 54 (fl R)), (a2, aI G 54 (fl Rm)), (a6, aI G 16 (cN rv))] H locs := hw
  refine lv_aload_n xx xb dX2_judge_10 rfl (lv_at hl 1 rfl) ?_
  refine m_get C hw 0 rfl fk_X2_9 rfl dX2_judge_11 ?_
  refine lv_aload_n xx xb dX2_judge_14 rfl (lv_at hl 1 rfl) ?_
  refine m_get C hw 0 rfl fk_X2_13 rfl dX2_judge_15 ?_
  have hM := kX2_copies l G a1 a2 (fl R) (fl Rm) 
  refine cs_v C hw hM ysX2_copies ml_X2_121 rfl [1, 2] rfl rfl (fun _ => (rfl : ([a1, a2] : List Nat) = [a1, a2])) (by decide) ⟨Nat.zero_le _, Nat.zero_le _⟩ hl.1 rfl (Nat.le_of_ble_eq_true rfl) dX2_judge_18 (fun _ H locs hr hw => ?_)
  have hw : Wd G (fA [(h0, .inr (2, [.ref a1, .ref a2, .ref a3, .ref a4, .int (nI im), .ref a5, .ref a6, .ref a7, .int (nI lm), .int (nI rm), .int (nI pl), .ref a8, .int sd])), (a1, aI G 54 (fl R)), (a2, aI G 54 (fl Rm)), (a6, aI G 16 (cN rv))]) s [(h0, .inr (2, [.ref a1, .ref a2, .ref a3, .ref a4, .int (nI im), .ref a5, .ref a6, .ref a7, .int (nI lm), .int (nI 0), .int (nI pl), .ref a8, .int sd])), (a1, aI G 54 (fl R)), (a2, aI G 54 (fl R)), (a6, aI G 16 (cN rv))] H locs := hw
  refine lv_iconst (v := nI 0) xx xb dX2_judge_21 (by decide) ?_
  refine lv_istore_n (lv' := [(2, .int (nI 0)), (1, .int (nI rm)), (0, .ref h0)]) xx xb dX2_judge_22 rfl hl (by decide) rfl (fun ls hl => ?_)
  have hw : Wd G (fA [(h0, .inr (2, [.ref a1, .ref a2, .ref a3, .ref a4, .int (nI im), .ref a5, .ref a6, .ref a7, .int (nI lm), .int (nI rm), .int (nI pl), .ref a8, .int sd])), (a1, aI G 54 (fl R)), (a2, aI G 54 (fl Rm)), (a6, aI G 16 (cN rv))]) s [(h0, .inr (2, [.ref a1, .ref a2, .ref a3, .ref a4, .int (nI im), .ref a5, .ref a6, .ref a7, .int (nI lm), .int (nI 0), .int (nI pl), .ref a8, .int sd])), (a1, aI G 54 (fl R)), (a2, aI G 54 (fl (itF R 0))), (a6, aI G 16 (cN rv))] H locs := hw
  have L_23 : ∀ (fu : Nat) (i : Nat) (H : Heap) (locs : List Loc) (ls : Array Slot), rm - i < fu → (i ≤ rm) → (∀ j, j < i → decide (stN (itF R j) ≠ rv j) = false) → Wd G (fA [(h0, .inr (2, [.ref a1, .ref a2, .ref a3, .ref a4, .int (nI im), .ref a5, .ref a6, .ref a7, .int (nI lm), .int (nI rm), .int (nI pl), .ref a8, .int sd])), (a1, aI G 54 (fl R)), (a2, aI G 54 (fl Rm)), (a6, aI G 16 (cN rv))]) s [(h0, .inr (2, [.ref a1, .ref a2, .ref a3, .ref a4, .int (nI im), .ref a5, .ref a6, .ref a7, .int (nI lm), .int (nI 0), .int (nI pl), .ref a8, .int sd])), (a1, aI G 54 (fl R)), (a2, aI G 54 (fl (itF R i))), (a6, aI G 16 (cN rv))] H locs → lv_has ls 3 [(0, .ref h0), (1, .int (nI rm)), (2, .int (nI i))] → W p l e ({ frames := 4, cells := 0, slots := 0, locals := 88 }) s m (([.ref h0] : List Value).toArray) below meth c H locs 0 0 (MQ below (QI G [(h0, .inr (2, [.ref a1, .ref a2, .ref a3, .ref a4, .int (nI im), .ref a5, .ref a6, .ref a7, .int (nI lm), .int (nI rm), .int (nI pl), .ref a8, .int sd])), (a1, aI G 54 (fl R)), (a2, aI G 54 (fl Rm)), (a6, aI G 16 (cN rv))] (fun (r : Int32) (u : Unit) => r = jdI R rv rm) (fun u => [(h0, .inr (2, [.ref a1, .ref a2, .ref a3, .ref a4, .int (nI im), .ref a5, .ref a6, .ref a7, .int (nI lm), .int (nI 0), .int (nI pl), .ref a8, .int sd])), (a1, aI G 54 (fl R)), (a2, aI G 54 (fl (itF R (jdN R rv rm)))), (a6, aI G 16 (cN rv))])) (([.ref h0] : List Value).toArray) s 0 0 (fA [(h0, .inr (2, [.ref a1, .ref a2, .ref a3, .ref a4, .int (nI im), .ref a5, .ref a6, .ref a7, .int (nI lm), .int (nI rm), .int (nI pl), .ref a8, .int sd])), (a1, aI G 54 (fl R)), (a2, aI G 54 (fl Rm)), (a6, aI G 16 (cN rv))])) (F0 m 23 ls []) := by
    intro fu
    induction fu with
    | zero => intro i H locs ls hfu; exact absurd hfu (Nat.not_lt_zero _)
    | succ fu ih_23 =>
      intro i H locs ls hfu hi hP hw hl
      refine lv_iload_n xx xb dX2_judge_23 rfl (lv_at hl 2 rfl) ?_
      refine lv_iload_n xx xb dX2_judge_24 rfl (lv_at hl 1 rfl) ?_
      refine lv_icmp_ge (tgt := 57) xx xb dX2_judge_25 (by decide) (fun c_25 => ?_) (fun c_25 => ?_)
      · skip
        have c_25 := le_c (tN (by omega)) (tN (by omega)) c_25
        refine lv_bipush (v := (-9)) xx xb dX2_judge_57 (by decide) ?_
        have hj : jdN R rv rm = i := lf_eq _ _ _ (by omega) hP (fun q => absurd q (by omega))
        exact rt_i C hw () (by unfold jdI; rw [hj]; first | (rw [if_pos (by omega)]; done) | (rw [if_neg (by omega)]; done)) (by rw [hj]) dX2_judge_59
      · skip
        have c_25 := nle_c (tN (by omega)) (tN (by omega)) c_25
        refine lv_aload_n xx xb dX2_judge_28 rfl (lv_at hl 0 rfl) ?_
        have hM := kX2_standingIn l G h0 a1 a2 a3 a4 a5 a6 a7 a8 im lm 0 pl sd (itF R i) (OK_itF hR i)
        refine cv_i C hw hM yvX2_standingIn ml_X2_138 0 rfl rfl rfl [0, 2] rfl rfl (fun _ => (rfl : ([h0, a2] : List Nat) = [h0, a2])) (by decide) ⟨Nat.zero_le _, Nat.zero_le _⟩ hl.1 rfl (Nat.le_of_ble_eq_true rfl) dX2_judge_29 (fun r _ H locs hr hw => ?_)
        have hw : Wd G (fA [(h0, .inr (2, [.ref a1, .ref a2, .ref a3, .ref a4, .int (nI im), .ref a5, .ref a6, .ref a7, .int (nI lm), .int (nI rm), .int (nI pl), .ref a8, .int sd])), (a1, aI G 54 (fl R)), (a2, aI G 54 (fl Rm)), (a6, aI G 16 (cN rv))]) s [(h0, .inr (2, [.ref a1, .ref a2, .ref a3, .ref a4, .int (nI im), .ref a5, .ref a6, .ref a7, .int (nI lm), .int (nI 0), .int (nI pl), .ref a8, .int sd])), (a1, aI G 54 (fl R)), (a2, aI G 54 (fl (itF R i))), (a6, aI G 16 (cN rv))] H locs := hw
        subst hr
        refine lv_aload_n xx xb dX2_judge_32 rfl (lv_at hl 0 rfl) ?_
        refine m_get C hw 0 rfl fk_X2_25 rfl dX2_judge_33 ?_
        refine lv_iload_n xx xb dX2_judge_36 rfl (lv_at hl 2 rfl) ?_
        refine m_ald C hw 3 rfl i rfl (by omega) (by decide) dX2_judge_37 ?_
        refine re_i (nI (rv i)) rfl ?_
        have hr9 := hrv i (by omega)
        have hs9 := stN_le (itF R i) (by rw [itF_00]; exact hn)
        refine lv_icmp_eq (tgt := 43) xx xb dX2_judge_38 (by decide) (fun c_38 => ?_) (fun c_38 => ?_)
        · skip
          have c_38 := eq_c (tN (by omega)) (tN (by omega)) c_38
          have hP2 : ∀ j, j < i + 1 → decide (stN (itF R j) ≠ rv j) = false := fun j hj => by
            by_cases hj2 : j < i
            · exact hP j hj2
            · have e : j = i := (by omega)
              rw [e, decide_eq_false_iff_not]; omega
          refine lv_aload_n xx xb dX2_judge_43 rfl (lv_at hl 0 rfl) ?_
          refine m_get C hw 0 rfl fk_X2_13 rfl dX2_judge_44 ?_
          refine lv_iconst (v := nI 0) xx xb dX2_judge_47 (by decide) ?_
          have hM := kX2_minute l G a2 (itF R i) 0 (OK_itF hR i) (AK_itF hR hK i) (by first | assumption | omega)
          refine cs_v C hw hM ysX2_minute ml_X2_80 rfl [2] rfl rfl (fun _ => (rfl : ([a2] : List Nat) = [a2])) (by decide) ⟨Nat.zero_le _, Nat.zero_le _⟩ hl.1 rfl (Nat.le_of_ble_eq_true rfl) dX2_judge_48 (fun _ H locs hr hw => ?_)
          have hw : Wd G (fA [(h0, .inr (2, [.ref a1, .ref a2, .ref a3, .ref a4, .int (nI im), .ref a5, .ref a6, .ref a7, .int (nI lm), .int (nI rm), .int (nI pl), .ref a8, .int sd])), (a1, aI G 54 (fl R)), (a2, aI G 54 (fl Rm)), (a6, aI G 16 (cN rv))]) s [(h0, .inr (2, [.ref a1, .ref a2, .ref a3, .ref a4, .int (nI im), .ref a5, .ref a6, .ref a7, .int (nI lm), .int (nI 0), .int (nI pl), .ref a8, .int sd])), (a1, aI G 54 (fl R)), (a2, aI G 54 (fl (miF (itF R i) 0))), (a6, aI G 16 (cN rv))] H locs := hw
          have hw : Wd G (fA [(h0, .inr (2, [.ref a1, .ref a2, .ref a3, .ref a4, .int (nI im), .ref a5, .ref a6, .ref a7, .int (nI lm), .int (nI rm), .int (nI pl), .ref a8, .int sd])), (a1, aI G 54 (fl R)), (a2, aI G 54 (fl Rm)), (a6, aI G 16 (cN rv))]) s [(h0, .inr (2, [.ref a1, .ref a2, .ref a3, .ref a4, .int (nI im), .ref a5, .ref a6, .ref a7, .int (nI lm), .int (nI 0), .int (nI pl), .ref a8, .int sd])), (a1, aI G 54 (fl R)), (a2, aI G 54 (fl (itF R (i + 1)))), (a6, aI G 16 (cN rv))] H locs := hw
          refine lv_iinc (v := nI (i + 1)) (lv' := [(2, .int (nI (i + 1))), (0, .ref h0), (1, .int (nI rm))]) xx xb dX2_judge_51 hl (k := 2) rfl (nI_add _ 1) (by decide) rfl (fun ls hl => ?_)
          refine lv_goto (tgt := 23) xx xb dX2_judge_54 (by decide) ?_
          exact ih_23 (i + 1) H _ ls (by omega) (by omega) hP2 hw (lv_sub hl [1, 2, 0] rfl)
        · skip
          have c_38 := ne_c (tN (by omega)) (tN (by omega)) c_38
          refine lv_iload_n xx xb dX2_judge_41 rfl (lv_at hl 2 rfl) ?_
          have hj : jdN R rv rm = i := lf_eq _ _ _ (by omega) hP (fun _ => by rw [decide_eq_true_eq]; omega)
          exact rt_i C hw () (by unfold jdI; rw [hj]; first | (rw [if_pos (by omega)]; done) | (rw [if_neg (by omega)]; done)) (by rw [hj]) dX2_judge_42
  exact L_23 (_ + 1) 0 H _ ls (Nat.lt_succ_self _) (by omega) (fun j hj => absurd hj (Nat.not_lt_zero _)) hw (lv_sub hl [2, 1, 0] rfl)
set_option maxRecDepth 100000 in
set_option maxHeartbeats 4000000 in
theorem kX2_clear (l : Launch) (G : GT) (h0 : Nat) (a1 : Nat) (a2 : Nat) (a3 : Nat) (a4 : Nat) (a5 : Nat) (a6 : Nat) (a7 : Nat) (a8 : Nat) (im : Nat) (lm : Nat) (rm : Nat) (pl : Nat) (sd : Int32)  : Ct l yX2_clear cX2_clear 2 (some .int) 0 0 [.ref h0] G [(h0, .inr (2, [.ref a1, .ref a2, .ref a3, .ref a4, .int (nI im), .ref a5, .ref a6, .ref a7, .int (nI lm), .int (nI rm), .int (nI pl), .ref a8, .int sd]))] (QI G [(h0, .inr (2, [.ref a1, .ref a2, .ref a3, .ref a4, .int (nI im), .ref a5, .ref a6, .ref a7, .int (nI lm), .int (nI rm), .int (nI pl), .ref a8, .int sd]))] (fun (r : Int32) (u : Unit) => r = nI rm) (fun u => [(h0, .inr (2, [.ref a1, .ref a2, .ref a3, .ref a4, .int (nI im), .ref a5, .ref a6, .ref a7, .int (nI lm), .int (nI 0), .int (nI pl), .ref a8, .int sd]))])) := by
  refine en (by decide +kernel) (Nat.le_of_ble_eq_true rfl) ?_
  intro p e s m below meth c ls H locs C hl hw
  have xx := C.1
  have xb := C.2.1
  have hw : Wd G (fA [(h0, .inr (2, [.ref a1, .ref a2, .ref a3, .ref a4, .int (nI im), .ref a5, .ref a6, .ref a7, .int (nI lm), .int (nI rm), .int (nI pl), .ref a8, .int sd]))]) s [(h0, .inr (2, [.ref a1, .ref a2, .ref a3, .ref a4, .int (nI im), .ref a5, .ref a6, .ref a7, .int (nI lm), .int (nI rm), .int (nI pl), .ref a8, .int sd]))] H locs := hw
  have hl : lv_has ls 2 [(0, .ref h0)] := hl
  refine lv_aload_n xx xb dX2_clear_0 rfl (lv_at hl 0 rfl) ?_
  refine m_get C hw 0 rfl fk_X2_181 rfl dX2_clear_1 ?_
  refine lv_istore_n (lv' := [(1, .int (nI rm)), (0, .ref h0)]) xx xb dX2_clear_4 rfl hl (by decide) rfl (fun ls hl => ?_)
  refine lv_aload_n xx xb dX2_clear_5 rfl (lv_at hl 1 rfl) ?_
  refine lv_iconst (v := nI 0) xx xb dX2_clear_6 (by decide) ?_
  refine m_put C hw 0 rfl rfl tyX2 tyX2_ok nmX2 fk_X2_181 rfl rfl rfl rfl (Nat.le_of_ble_eq_true rfl) dX2_clear_7 (fun H locs hw => ?_)
  have hw : Wd G (fA [(h0, .inr (2, [.ref a1, .ref a2, .ref a3, .ref a4, .int (nI im), .ref a5, .ref a6, .ref a7, .int (nI lm), .int (nI rm), .int (nI pl), .ref a8, .int sd]))]) s [(h0, .inr (2, [.ref a1, .ref a2, .ref a3, .ref a4, .int (nI im), .ref a5, .ref a6, .ref a7, .int (nI lm), .int (nI 0), .int (nI pl), .ref a8, .int sd]))] H locs := hw
  refine lv_iload_n xx xb dX2_clear_10 rfl (lv_at hl 0 rfl) ?_
  exact rt_i C hw () rfl rfl dX2_clear_11
set_option maxRecDepth 100000 in
set_option maxHeartbeats 4000000 in
theorem kX2_image (l : Launch) (G : GT) (h0 : Nat) (a1 : Nat) (a2 : Nat) (a3 : Nat) (a4 : Nat) (a5 : Nat) (a6 : Nat) (a7 : Nat) (a8 : Nat) (im : Nat) (lm : Nat) (rm : Nat) (pl : Nat) (sd : Int32) (R : RT) (Rg : RT)  : Ct l yX2_image cX2_image 1 (some .int) 1 22 [.ref h0] G [(h0, .inr (2, [.ref a1, .ref a2, .ref a3, .ref a4, .int (nI im), .ref a5, .ref a6, .ref a7, .int (nI lm), .int (nI rm), .int (nI pl), .ref a8, .int sd])), (a1, aI G 54 (fl R)), (a3, aI G 54 (fl Rg))] (QI G [(h0, .inr (2, [.ref a1, .ref a2, .ref a3, .ref a4, .int (nI im), .ref a5, .ref a6, .ref a7, .int (nI lm), .int (nI rm), .int (nI pl), .ref a8, .int sd])), (a1, aI G 54 (fl R)), (a3, aI G 54 (fl Rg))] (fun (r : Int32) (u : Unit) => r = nI (R 0 1)) (fun u => [(h0, .inr (2, [.ref a1, .ref a2, .ref a3, .ref a4, .int (nI 1), .ref a5, .ref a6, .ref a7, .int (nI lm), .int (nI rm), .int (nI pl), .ref a8, .int sd])), (a1, aI G 54 (fl R)), (a3, aI G 54 (fl R))])) := by
  refine en (by decide +kernel) (Nat.le_of_ble_eq_true rfl) ?_
  intro p e s m below meth c ls H locs C hl hw
  have xx := C.1
  have xb := C.2.1
  have hw : Wd G (fA [(h0, .inr (2, [.ref a1, .ref a2, .ref a3, .ref a4, .int (nI im), .ref a5, .ref a6, .ref a7, .int (nI lm), .int (nI rm), .int (nI pl), .ref a8, .int sd])), (a1, aI G 54 (fl R)), (a3, aI G 54 (fl Rg))]) s [(h0, .inr (2, [.ref a1, .ref a2, .ref a3, .ref a4, .int (nI im), .ref a5, .ref a6, .ref a7, .int (nI lm), .int (nI rm), .int (nI pl), .ref a8, .int sd])), (a1, aI G 54 (fl R)), (a3, aI G 54 (fl Rg))] H locs := hw
  have hl : lv_has ls 1 [(0, .ref h0)] := hl
  refine lv_aload_n xx xb dX2_image_0 rfl (lv_at hl 0 rfl) ?_
  refine m_get C hw 0 rfl fk_X2_9 rfl dX2_image_1 ?_
  refine lv_aload_n xx xb dX2_image_4 rfl (lv_at hl 0 rfl) ?_
  refine m_get C hw 0 rfl fk_X2_16 rfl dX2_image_5 ?_
  have hM := kX2_copies l G a1 a3 (fl R) (fl Rg) 
  refine cs_v C hw hM ysX2_copies ml_X2_121 rfl [1, 2] rfl rfl (fun _ => (rfl : ([a1, a3] : List Nat) = [a1, a3])) (by decide) ⟨Nat.zero_le _, Nat.zero_le _⟩ hl.1 rfl (Nat.le_of_ble_eq_true rfl) dX2_image_8 (fun _ H locs hr hw => ?_)
  have hw : Wd G (fA [(h0, .inr (2, [.ref a1, .ref a2, .ref a3, .ref a4, .int (nI im), .ref a5, .ref a6, .ref a7, .int (nI lm), .int (nI rm), .int (nI pl), .ref a8, .int sd])), (a1, aI G 54 (fl R)), (a3, aI G 54 (fl Rg))]) s [(h0, .inr (2, [.ref a1, .ref a2, .ref a3, .ref a4, .int (nI im), .ref a5, .ref a6, .ref a7, .int (nI lm), .int (nI rm), .int (nI pl), .ref a8, .int sd])), (a1, aI G 54 (fl R)), (a3, aI G 54 (fl R))] H locs := hw
  refine lv_aload_n xx xb dX2_image_11 rfl (lv_at hl 0 rfl) ?_
  refine lv_iconst (v := nI 1) xx xb dX2_image_12 (by decide) ?_
  refine m_put C hw 0 rfl rfl tyX2 tyX2_ok nmX2 fk_X2_193 rfl rfl rfl rfl (Nat.le_of_ble_eq_true rfl) dX2_image_13 (fun H locs hw => ?_)
  have hw : Wd G (fA [(h0, .inr (2, [.ref a1, .ref a2, .ref a3, .ref a4, .int (nI im), .ref a5, .ref a6, .ref a7, .int (nI lm), .int (nI rm), .int (nI pl), .ref a8, .int sd])), (a1, aI G 54 (fl R)), (a3, aI G 54 (fl Rg))]) s [(h0, .inr (2, [.ref a1, .ref a2, .ref a3, .ref a4, .int (nI 1), .ref a5, .ref a6, .ref a7, .int (nI lm), .int (nI rm), .int (nI pl), .ref a8, .int sd])), (a1, aI G 54 (fl R)), (a3, aI G 54 (fl R))] H locs := hw
  refine lv_aload_n xx xb dX2_image_16 rfl (lv_at hl 0 rfl) ?_
  refine m_get C hw 0 rfl fk_X2_9 rfl dX2_image_17 ?_
  refine lv_iconst (v := nI 1) xx xb dX2_image_20 (by decide) ?_
  refine m_ald C hw 1 rfl 1 rfl (by omega) (by decide) dX2_image_21 ?_
  refine re_i (nI (R 0 1)) (fl_h R (by decide)) ?_
  exact rt_i C hw () rfl rfl dX2_image_22
set_option maxRecDepth 100000 in
set_option maxHeartbeats 4000000 in
theorem kX2_on (l : Launch) (G : GT) (h0 : Nat) (a1 : Nat) (a2 : Nat) (a3 : Nat) (a4 : Nat) (a5 : Nat) (a6 : Nat) (a7 : Nat) (a8 : Nat) (im : Nat) (lm : Nat) (rm : Nat) (pl : Nat) (sd : Int32) (R : RT) (Rg : RT) (rf : Nat → Nat) (him : im ≤ 1) : Ct l yX2_on cX2_on 1 (some .int) 1 22 [.ref h0] G [(h0, .inr (2, [.ref a1, .ref a2, .ref a3, .ref a4, .int (nI im), .ref a5, .ref a6, .ref a7, .int (nI lm), .int (nI rm), .int (nI pl), .ref a8, .int sd])), (a1, aI G 54 (fl R)), (a3, aI G 54 (fl Rg)), (a7, aI G 7 (cN rf))] (QI G [(h0, .inr (2, [.ref a1, .ref a2, .ref a3, .ref a4, .int (nI im), .ref a5, .ref a6, .ref a7, .int (nI lm), .int (nI rm), .int (nI pl), .ref a8, .int sd])), (a1, aI G 54 (fl R)), (a3, aI G 54 (fl Rg)), (a7, aI G 7 (cN rf))] (fun (r : Int32) (u : Unit) => r = anI (cOn im) (nI (Rg 0 1))) (fun u => [(h0, .inr (2, [.ref a1, .ref a2, .ref a3, .ref a4, .int (nI im), .ref a5, .ref a6, .ref a7, .int (nI lm), .int (nI rm), .int (nI pl), .ref a8, .int sd])), (a1, aI G 54 (fl (selR (cOn im) Rg R))), (a3, aI G 54 (fl Rg)), (a7, aI G 7 (cN (rfU rf (cOn im))))])) := by
  refine en (by decide +kernel) (Nat.le_of_ble_eq_true rfl) ?_
  intro p e s m below meth c ls H locs C hl hw
  have xx := C.1
  have xb := C.2.1
  have hw : Wd G (fA [(h0, .inr (2, [.ref a1, .ref a2, .ref a3, .ref a4, .int (nI im), .ref a5, .ref a6, .ref a7, .int (nI lm), .int (nI rm), .int (nI pl), .ref a8, .int sd])), (a1, aI G 54 (fl R)), (a3, aI G 54 (fl Rg)), (a7, aI G 7 (cN rf))]) s [(h0, .inr (2, [.ref a1, .ref a2, .ref a3, .ref a4, .int (nI im), .ref a5, .ref a6, .ref a7, .int (nI lm), .int (nI rm), .int (nI pl), .ref a8, .int sd])), (a1, aI G 54 (fl R)), (a3, aI G 54 (fl Rg)), (a7, aI G 7 (cN rf))] H locs := hw
  have hl : lv_has ls 1 [(0, .ref h0)] := hl
  refine lv_aload_n xx xb dX2_on_0 rfl (lv_at hl 0 rfl) ?_
  refine m_get C hw 0 rfl fk_X2_193 rfl dX2_on_1 ?_
  refine lv_if_ne (tgt := 14) xx xb dX2_on_4 (by decide) (fun c_4 => ?_) (fun c_4 => ?_)
  · skip
    have c_4 := ne_c (tN (by omega)) Int32.toInt_zero c_4
    refine lv_aload_n xx xb dX2_on_14 rfl (lv_at hl 0 rfl) ?_
    refine m_get C hw 0 rfl fk_X2_16 rfl dX2_on_15 ?_
    refine lv_aload_n xx xb dX2_on_18 rfl (lv_at hl 0 rfl) ?_
    refine m_get C hw 0 rfl fk_X2_9 rfl dX2_on_19 ?_
    have hM := kX2_copies l G a3 a1 (fl Rg) (fl R) 
    refine cs_v C hw hM ysX2_copies ml_X2_121 rfl [2, 1] rfl rfl (fun _ => (rfl : ([a3, a1] : List Nat) = [a3, a1])) (by decide) ⟨Nat.zero_le _, Nat.zero_le _⟩ hl.1 rfl (Nat.le_of_ble_eq_true rfl) dX2_on_22 (fun _ H locs hr hw => ?_)
    have hw : Wd G (fA [(h0, .inr (2, [.ref a1, .ref a2, .ref a3, .ref a4, .int (nI im), .ref a5, .ref a6, .ref a7, .int (nI lm), .int (nI rm), .int (nI pl), .ref a8, .int sd])), (a1, aI G 54 (fl R)), (a3, aI G 54 (fl Rg)), (a7, aI G 7 (cN rf))]) s [(h0, .inr (2, [.ref a1, .ref a2, .ref a3, .ref a4, .int (nI im), .ref a5, .ref a6, .ref a7, .int (nI lm), .int (nI rm), .int (nI pl), .ref a8, .int sd])), (a1, aI G 54 (fl Rg)), (a3, aI G 54 (fl Rg)), (a7, aI G 7 (cN rf))] H locs := hw
    refine lv_aload_n xx xb dX2_on_25 rfl (lv_at hl 0 rfl) ?_
    refine m_get C hw 0 rfl fk_X2_9 rfl dX2_on_26 ?_
    refine lv_iconst (v := nI 1) xx xb dX2_on_29 (by decide) ?_
    refine m_ald C hw 1 rfl 1 rfl (by omega) (by decide) dX2_on_30 ?_
    refine re_i (nI (Rg 0 1)) (fl_h Rg (by decide)) ?_
    have hc : cOn im = 0 := by unfold cOn; (repeat' split) <;> omega
    exact rt_i C hw () (by exact (anI_0 hc _).symm) (by rw [rfU_0 hc, selR_0 hc]) dX2_on_31
  · skip
    have c_4 := eq_c (tN (by omega)) Int32.toInt_zero c_4
    refine lv_aload_n xx xb dX2_on_7 rfl (lv_at hl 0 rfl) ?_
    refine lv_bipush (v := (-3)) xx xb dX2_on_8 (by decide) ?_
    have hM := kX2_no l G h0 a1 a2 a3 a4 a5 a6 a7 a8 im lm rm pl sd rf 3 (by first | assumption | omega)
    refine cv_i C hw hM yvX2_no ml_X2_36 0 rfl rfl rfl [0, 3] rfl rfl (fun _ => (rfl : ([h0, a7] : List Nat) = [h0, a7])) (by decide) ⟨Nat.zero_le _, Nat.zero_le _⟩ hl.1 rfl (Nat.le_of_ble_eq_true rfl) dX2_on_10 (fun r _ H locs hr hw => ?_)
    have hw : Wd G (fA [(h0, .inr (2, [.ref a1, .ref a2, .ref a3, .ref a4, .int (nI im), .ref a5, .ref a6, .ref a7, .int (nI lm), .int (nI rm), .int (nI pl), .ref a8, .int sd])), (a1, aI G 54 (fl R)), (a3, aI G 54 (fl Rg)), (a7, aI G 7 (cN rf))]) s [(h0, .inr (2, [.ref a1, .ref a2, .ref a3, .ref a4, .int (nI im), .ref a5, .ref a6, .ref a7, .int (nI lm), .int (nI rm), .int (nI pl), .ref a8, .int sd])), (a1, aI G 54 (fl R)), (a3, aI G 54 (fl Rg)), (a7, aI G 7 (cN (upN rf 3 (rf 3 + 1))))] H locs := hw
    subst hr
    have hc : cOn im = 3 := by unfold cOn; (repeat' split) <;> omega
    have hj : 3 ≠ 0 := by omega
    exact rt_i C hw () (by exact (anI_r hc hj _).symm) (by rw [rfU_r hc hj, selR_r hc hj]) dX2_on_13
set_option maxRecDepth 100000 in
set_option maxHeartbeats 4000000 in
theorem kX2_count (l : Launch) (G : GT) (h0 : Nat) (a1 : Nat) (a2 : Nat) (a3 : Nat) (a4 : Nat) (a5 : Nat) (a6 : Nat) (a7 : Nat) (a8 : Nat) (im : Nat) (lm : Nat) (rm : Nat) (pl : Nat) (sd : Int32) (R : RT) (rf : Nat → Nat) (w9 : Int32) (w9z : Int) (h_w9 : w9.toInt = w9z) (hR : OK R) : Ct l yX2_count cX2_count 2 (some .int) 2 44 [.ref h0, .int w9] G [(h0, .inr (2, [.ref a1, .ref a2, .ref a3, .ref a4, .int (nI im), .ref a5, .ref a6, .ref a7, .int (nI lm), .int (nI rm), .int (nI pl), .ref a8, .int sd])), (a1, aI G 54 (fl R)), (a7, aI G 7 (cN rf))] (QI G [(h0, .inr (2, [.ref a1, .ref a2, .ref a3, .ref a4, .int (nI im), .ref a5, .ref a6, .ref a7, .int (nI lm), .int (nI rm), .int (nI pl), .ref a8, .int sd])), (a1, aI G 54 (fl R)), (a7, aI G 7 (cN rf))] (fun (r : Int32) (u : Unit) => r = vCount R rf rm lm w9z) (fun u => [(h0, .inr (2, [.ref a1, .ref a2, .ref a3, .ref a4, .int (nI im), .ref a5, .ref a6, .ref a7, .int (nI lm), .int (nI rm), .int (nI pl), .ref a8, .int sd])), (a1, aI G 54 (fl R)), (a7, aI G 7 (cN rf))])) := by
  refine en (by decide +kernel) (Nat.le_of_ble_eq_true rfl) ?_
  intro p e s m below meth c ls H locs C hl hw
  have xx := C.1
  have xb := C.2.1
  have hw : Wd G (fA [(h0, .inr (2, [.ref a1, .ref a2, .ref a3, .ref a4, .int (nI im), .ref a5, .ref a6, .ref a7, .int (nI lm), .int (nI rm), .int (nI pl), .ref a8, .int sd])), (a1, aI G 54 (fl R)), (a7, aI G 7 (cN rf))]) s [(h0, .inr (2, [.ref a1, .ref a2, .ref a3, .ref a4, .int (nI im), .ref a5, .ref a6, .ref a7, .int (nI lm), .int (nI rm), .int (nI pl), .ref a8, .int sd])), (a1, aI G 54 (fl R)), (a7, aI G 7 (cN rf))] H locs := hw
  have hl : lv_has ls 2 [(0, .ref h0), (1, .int w9)] := hl
  obtain ⟨hn, hf0, hpr, hA⟩ := id hR
  refine lv_iload_n xx xb dX2_count_0 rfl (lv_at hl 1 rfl) ?_
  refine lv_bipush (v := nI 11) xx xb dX2_count_1 (by decide) ?_
  refine lv_bipush (v := nI 16) xx xb dX2_count_3 (by decide) ?_
  have hM := kX2_isIn l G w9 w9z (nI 11) 11 (nI 16) 16 h_w9 (tN (by omega)) (tN (by omega))
  refine cs_i C hw hM ysX2_isIn ml_X2_40 rfl [] rfl rfl (fun _ => (rfl : ([] : List Nat) = [])) (by decide) ⟨Nat.zero_le _, Nat.zero_le _⟩ hl.1 rfl (Nat.le_of_ble_eq_true rfl) dX2_count_5 (fun r _ H locs hr hw => ?_)
  have hw : Wd G (fA [(h0, .inr (2, [.ref a1, .ref a2, .ref a3, .ref a4, .int (nI im), .ref a5, .ref a6, .ref a7, .int (nI lm), .int (nI rm), .int (nI pl), .ref a8, .int sd])), (a1, aI G 54 (fl R)), (a7, aI G 7 (cN rf))]) s [(h0, .inr (2, [.ref a1, .ref a2, .ref a3, .ref a4, .int (nI im), .ref a5, .ref a6, .ref a7, .int (nI lm), .int (nI rm), .int (nI pl), .ref a8, .int sd])), (a1, aI G 54 (fl R)), (a7, aI G 7 (cN rf))] H locs := hw
  subst hr
  refine lv_if_eq (tgt := 21) xx xb dX2_count_8 (by decide) (fun c_8 => ?_) (fun c_8 => ?_)
  · skip
    have c_8 := b0_c c_8
    refine lv_iload_n xx xb dX2_count_21 rfl (lv_at hl 1 rfl) ?_
    refine lv_iconst (v := nI 2) xx xb dX2_count_22 (by decide) ?_
    refine lv_iconst (v := nI 4) xx xb dX2_count_23 (by decide) ?_
    have hM := kX2_isIn l G w9 w9z (nI 2) 2 (nI 4) 4 h_w9 (tN (by omega)) (tN (by omega))
    refine cs_i C hw hM ysX2_isIn ml_X2_40 rfl [] rfl rfl (fun _ => (rfl : ([] : List Nat) = [])) (by decide) ⟨Nat.zero_le _, Nat.zero_le _⟩ hl.1 rfl (Nat.le_of_ble_eq_true rfl) dX2_count_24 (fun r _ H locs hr hw => ?_)
    have hw : Wd G (fA [(h0, .inr (2, [.ref a1, .ref a2, .ref a3, .ref a4, .int (nI im), .ref a5, .ref a6, .ref a7, .int (nI lm), .int (nI rm), .int (nI pl), .ref a8, .int sd])), (a1, aI G 54 (fl R)), (a7, aI G 7 (cN rf))]) s [(h0, .inr (2, [.ref a1, .ref a2, .ref a3, .ref a4, .int (nI im), .ref a5, .ref a6, .ref a7, .int (nI lm), .int (nI rm), .int (nI pl), .ref a8, .int sd])), (a1, aI G 54 (fl R)), (a7, aI G 7 (cN rf))] H locs := hw
    subst hr
    refine lv_if_eq (tgt := 41) xx xb dX2_count_27 (by decide) (fun c_27 => ?_) (fun c_27 => ?_)
    · skip
      have c_27 := b0_c c_27
      refine lv_iload_n xx xb dX2_count_41 rfl (lv_at hl 1 rfl) ?_
      by_cases k_42_0 : w9 = nI 0
      · skip
        refine re_i (nI 0) k_42_0 ?_
        refine lv_tableIn (off := 46) (tgt := 88) xx xb dX2_count_42 (by decide +kernel) (by decide +kernel) (by decide +kernel) (by decide) ?_
        have zz := eq_c h_w9 (tN (by omega)) k_42_0
        have hl : lv_has ls 2 [(0, .ref h0), (1, .int (nI 0))] := by rw [← k_42_0]; exact hl
        refine lv_aload_n xx xb dX2_count_88 rfl (lv_at hl 0 rfl) ?_
        refine m_get C hw 0 rfl fk_X2_9 rfl dX2_count_89 ?_
        refine lv_iload_n xx xb dX2_count_92 rfl (lv_at hl 1 rfl) ?_
        refine m_ald C hw 1 rfl 0 rfl (by omega) (by decide) dX2_count_93 ?_
        refine re_i (nI (R 0 0)) (fl_h R (by decide)) ?_
        exact rt_i C hw () (by unfold vCount; first | (rw [if_pos (by omega)]; done) | (rw [if_neg (by omega), if_pos (by omega)]; done) | (rw [if_neg (by omega), if_neg (by omega), if_pos (by omega)]; done) | (rw [if_neg (by omega), if_neg (by omega), if_neg (by omega), if_pos (by omega)]; done) | (rw [if_neg (by omega), if_neg (by omega), if_neg (by omega), if_neg (by omega), if_pos (by omega)]; done) | (rw [if_neg (by omega), if_neg (by omega), if_neg (by omega), if_neg (by omega), if_neg (by omega), if_pos (by omega)]; done) | (rw [if_neg (by omega), if_neg (by omega), if_neg (by omega), if_neg (by omega), if_neg (by omega), if_neg (by omega), if_pos (by omega)]; done) | (rw [if_neg (by omega), if_neg (by omega), if_neg (by omega), if_neg (by omega), if_neg (by omega), if_neg (by omega), if_neg (by omega)]; done)) rfl dX2_count_94
      have zk_42_0 := ne_c h_w9 (tN (by decide)) k_42_0
      by_cases k_42_1 : w9 = nI 1
      · skip
        refine re_i (nI 1) k_42_1 ?_
        refine lv_tableIn (off := 46) (tgt := 88) xx xb dX2_count_42 (by decide +kernel) (by decide +kernel) (by decide +kernel) (by decide) ?_
        have zz := eq_c h_w9 (tN (by omega)) k_42_1
        have hl : lv_has ls 2 [(0, .ref h0), (1, .int (nI 1))] := by rw [← k_42_1]; exact hl
        refine lv_aload_n xx xb dX2_count_88 rfl (lv_at hl 0 rfl) ?_
        refine m_get C hw 0 rfl fk_X2_9 rfl dX2_count_89 ?_
        refine lv_iload_n xx xb dX2_count_92 rfl (lv_at hl 1 rfl) ?_
        refine m_ald C hw 1 rfl 1 rfl (by omega) (by decide) dX2_count_93 ?_
        refine re_i (nI (R 0 1)) (fl_h R (by decide)) ?_
        exact rt_i C hw () (by unfold vCount; first | (rw [if_pos (by omega)]; done) | (rw [if_neg (by omega), if_pos (by omega)]; done) | (rw [if_neg (by omega), if_neg (by omega), if_pos (by omega)]; done) | (rw [if_neg (by omega), if_neg (by omega), if_neg (by omega), if_pos (by omega)]; done) | (rw [if_neg (by omega), if_neg (by omega), if_neg (by omega), if_neg (by omega), if_pos (by omega)]; done) | (rw [if_neg (by omega), if_neg (by omega), if_neg (by omega), if_neg (by omega), if_neg (by omega), if_pos (by omega)]; done) | (rw [if_neg (by omega), if_neg (by omega), if_neg (by omega), if_neg (by omega), if_neg (by omega), if_neg (by omega), if_pos (by omega)]; done) | (rw [if_neg (by omega), if_neg (by omega), if_neg (by omega), if_neg (by omega), if_neg (by omega), if_neg (by omega), if_neg (by omega)]; done)) rfl dX2_count_94
      have zk_42_1 := ne_c h_w9 (tN (by decide)) k_42_1
      by_cases k_42_2 : w9 = nI 2
      · skip
        refine re_i (nI 2) k_42_2 ?_
        refine lv_tableIn (off := 70) (tgt := 112) xx xb dX2_count_42 (by decide +kernel) (by decide +kernel) (by decide +kernel) (by decide) ?_
        exact absurd (eq_c h_w9 (tN (by omega)) k_42_2) (by omega)
      have zk_42_2 := ne_c h_w9 (tN (by decide)) k_42_2
      by_cases k_42_3 : w9 = nI 3
      · skip
        refine re_i (nI 3) k_42_3 ?_
        refine lv_tableIn (off := 70) (tgt := 112) xx xb dX2_count_42 (by decide +kernel) (by decide +kernel) (by decide +kernel) (by decide) ?_
        exact absurd (eq_c h_w9 (tN (by omega)) k_42_3) (by omega)
      have zk_42_3 := ne_c h_w9 (tN (by decide)) k_42_3
      by_cases k_42_4 : w9 = nI 4
      · skip
        refine re_i (nI 4) k_42_4 ?_
        refine lv_tableIn (off := 70) (tgt := 112) xx xb dX2_count_42 (by decide +kernel) (by decide +kernel) (by decide +kernel) (by decide) ?_
        exact absurd (eq_c h_w9 (tN (by omega)) k_42_4) (by omega)
      have zk_42_4 := ne_c h_w9 (tN (by decide)) k_42_4
      by_cases k_42_5 : w9 = nI 5
      · skip
        refine re_i (nI 5) k_42_5 ?_
        refine lv_tableIn (off := 53) (tgt := 95) xx xb dX2_count_42 (by decide +kernel) (by decide +kernel) (by decide +kernel) (by decide) ?_
        have zz := eq_c h_w9 (tN (by omega)) k_42_5
        refine lv_aload_n xx xb dX2_count_95 rfl (lv_at hl 0 rfl) ?_
        refine m_get C hw 0 rfl fk_X2_9 rfl dX2_count_96 ?_
        refine lv_iconst (v := nI 2) xx xb dX2_count_99 (by decide) ?_
        refine m_ald C hw 1 rfl 2 rfl (by omega) (by decide) dX2_count_100 ?_
        refine re_i (nI (R 0 2)) (fl_h R (by decide)) ?_
        exact rt_i C hw () (by unfold vCount; first | (rw [if_pos (by omega)]; done) | (rw [if_neg (by omega), if_pos (by omega)]; done) | (rw [if_neg (by omega), if_neg (by omega), if_pos (by omega)]; done) | (rw [if_neg (by omega), if_neg (by omega), if_neg (by omega), if_pos (by omega)]; done) | (rw [if_neg (by omega), if_neg (by omega), if_neg (by omega), if_neg (by omega), if_pos (by omega)]; done) | (rw [if_neg (by omega), if_neg (by omega), if_neg (by omega), if_neg (by omega), if_neg (by omega), if_pos (by omega)]; done) | (rw [if_neg (by omega), if_neg (by omega), if_neg (by omega), if_neg (by omega), if_neg (by omega), if_neg (by omega), if_pos (by omega)]; done) | (rw [if_neg (by omega), if_neg (by omega), if_neg (by omega), if_neg (by omega), if_neg (by omega), if_neg (by omega), if_neg (by omega)]; done)) rfl dX2_count_101
      have zk_42_5 := ne_c h_w9 (tN (by decide)) k_42_5
      by_cases k_42_6 : w9 = nI 6
      · skip
        refine re_i (nI 6) k_42_6 ?_
        refine lv_tableIn (off := 60) (tgt := 102) xx xb dX2_count_42 (by decide +kernel) (by decide +kernel) (by decide +kernel) (by decide) ?_
        have zz := eq_c h_w9 (tN (by omega)) k_42_6
        refine lv_aload_n xx xb dX2_count_102 rfl (lv_at hl 0 rfl) ?_
        refine m_get C hw 0 rfl fk_X2_181 rfl dX2_count_103 ?_
        exact rt_i C hw () (by unfold vCount; first | (rw [if_pos (by omega)]; done) | (rw [if_neg (by omega), if_pos (by omega)]; done) | (rw [if_neg (by omega), if_neg (by omega), if_pos (by omega)]; done) | (rw [if_neg (by omega), if_neg (by omega), if_neg (by omega), if_pos (by omega)]; done) | (rw [if_neg (by omega), if_neg (by omega), if_neg (by omega), if_neg (by omega), if_pos (by omega)]; done) | (rw [if_neg (by omega), if_neg (by omega), if_neg (by omega), if_neg (by omega), if_neg (by omega), if_pos (by omega)]; done) | (rw [if_neg (by omega), if_neg (by omega), if_neg (by omega), if_neg (by omega), if_neg (by omega), if_neg (by omega), if_pos (by omega)]; done) | (rw [if_neg (by omega), if_neg (by omega), if_neg (by omega), if_neg (by omega), if_neg (by omega), if_neg (by omega), if_neg (by omega)]; done)) rfl dX2_count_106
      have zk_42_6 := ne_c h_w9 (tN (by decide)) k_42_6
      by_cases k_42_7 : w9 = nI 7
      · skip
        refine re_i (nI 7) k_42_7 ?_
        refine lv_tableIn (off := 65) (tgt := 107) xx xb dX2_count_42 (by decide +kernel) (by decide +kernel) (by decide +kernel) (by decide) ?_
        have zz := eq_c h_w9 (tN (by omega)) k_42_7
        refine lv_aload_n xx xb dX2_count_107 rfl (lv_at hl 0 rfl) ?_
        refine m_get C hw 0 rfl fk_X2_84 rfl dX2_count_108 ?_
        exact rt_i C hw () (by unfold vCount; first | (rw [if_pos (by omega)]; done) | (rw [if_neg (by omega), if_pos (by omega)]; done) | (rw [if_neg (by omega), if_neg (by omega), if_pos (by omega)]; done) | (rw [if_neg (by omega), if_neg (by omega), if_neg (by omega), if_pos (by omega)]; done) | (rw [if_neg (by omega), if_neg (by omega), if_neg (by omega), if_neg (by omega), if_pos (by omega)]; done) | (rw [if_neg (by omega), if_neg (by omega), if_neg (by omega), if_neg (by omega), if_neg (by omega), if_pos (by omega)]; done) | (rw [if_neg (by omega), if_neg (by omega), if_neg (by omega), if_neg (by omega), if_neg (by omega), if_neg (by omega), if_pos (by omega)]; done) | (rw [if_neg (by omega), if_neg (by omega), if_neg (by omega), if_neg (by omega), if_neg (by omega), if_neg (by omega), if_neg (by omega)]; done)) rfl dX2_count_111
      have zk_42_7 := ne_c h_w9 (tN (by decide)) k_42_7
      · skip
        refine lv_tableOut (tgt := 112) xx xb dX2_count_42 (by rw [show _ = _ from h_w9]; omega) (by decide) ?_
        refine lv_bipush (v := (-9)) xx xb dX2_count_112 (by decide) ?_
        exact rt_i C hw () (by unfold vCount; first | (rw [if_pos (by omega)]; done) | (rw [if_neg (by omega), if_pos (by omega)]; done) | (rw [if_neg (by omega), if_neg (by omega), if_pos (by omega)]; done) | (rw [if_neg (by omega), if_neg (by omega), if_neg (by omega), if_pos (by omega)]; done) | (rw [if_neg (by omega), if_neg (by omega), if_neg (by omega), if_neg (by omega), if_pos (by omega)]; done) | (rw [if_neg (by omega), if_neg (by omega), if_neg (by omega), if_neg (by omega), if_neg (by omega), if_pos (by omega)]; done) | (rw [if_neg (by omega), if_neg (by omega), if_neg (by omega), if_neg (by omega), if_neg (by omega), if_neg (by omega), if_pos (by omega)]; done) | (rw [if_neg (by omega), if_neg (by omega), if_neg (by omega), if_neg (by omega), if_neg (by omega), if_neg (by omega), if_neg (by omega)]; done)) rfl dX2_count_114
    · skip
      have c_27 := b1_c c_27
      refine lv_aload_n xx xb dX2_count_30 rfl (lv_at hl 0 rfl) ?_
      refine m_get C hw 0 rfl fk_X2_9 rfl dX2_count_31 ?_
      refine lv_iload_n xx xb dX2_count_34 rfl (lv_at hl 1 rfl) ?_
      refine lv_iconst (v := nI 2) xx xb dX2_count_35 (by decide) ?_
      refine lv_isub xx xb dX2_count_36 ?_
      refine re_i (nI ((w9z - 2).toNat)) (subT 2 h_w9 (by omega) (by omega)) ?_
      have hM := kX2_setOf l G a1 R ((w9z - 2).toNat) (by first | assumption | omega) (by first | assumption | omega)
      refine cs_i C hw hM ysX2_setOf ml_X2_73 rfl [1] rfl rfl (fun _ => (rfl : ([a1] : List Nat) = [a1])) (by decide) ⟨Nat.zero_le _, Nat.zero_le _⟩ hl.1 rfl (Nat.le_of_ble_eq_true rfl) dX2_count_37 (fun r _ H locs hr hw => ?_)
      have hw : Wd G (fA [(h0, .inr (2, [.ref a1, .ref a2, .ref a3, .ref a4, .int (nI im), .ref a5, .ref a6, .ref a7, .int (nI lm), .int (nI rm), .int (nI pl), .ref a8, .int sd])), (a1, aI G 54 (fl R)), (a7, aI G 7 (cN rf))]) s [(h0, .inr (2, [.ref a1, .ref a2, .ref a3, .ref a4, .int (nI im), .ref a5, .ref a6, .ref a7, .int (nI lm), .int (nI rm), .int (nI pl), .ref a8, .int sd])), (a1, aI G 54 (fl R)), (a7, aI G 7 (cN rf))] H locs := hw
      subst hr
      exact rt_i C hw () (by unfold vCount; first | (rw [if_pos (by omega)]; done) | (rw [if_neg (by omega), if_pos (by omega)]; done) | (rw [if_neg (by omega), if_neg (by omega), if_pos (by omega)]; done) | (rw [if_neg (by omega), if_neg (by omega), if_neg (by omega), if_pos (by omega)]; done) | (rw [if_neg (by omega), if_neg (by omega), if_neg (by omega), if_neg (by omega), if_pos (by omega)]; done) | (rw [if_neg (by omega), if_neg (by omega), if_neg (by omega), if_neg (by omega), if_neg (by omega), if_pos (by omega)]; done) | (rw [if_neg (by omega), if_neg (by omega), if_neg (by omega), if_neg (by omega), if_neg (by omega), if_neg (by omega), if_pos (by omega)]; done) | (rw [if_neg (by omega), if_neg (by omega), if_neg (by omega), if_neg (by omega), if_neg (by omega), if_neg (by omega), if_neg (by omega)]; done)) rfl dX2_count_40
  · skip
    have c_8 := b1_c c_8
    refine lv_aload_n xx xb dX2_count_11 rfl (lv_at hl 0 rfl) ?_
    refine m_get C hw 0 rfl fk_X2_28 rfl dX2_count_12 ?_
    refine lv_iload_n xx xb dX2_count_15 rfl (lv_at hl 1 rfl) ?_
    refine lv_bipush (v := nI 10) xx xb dX2_count_16 (by decide) ?_
    refine lv_isub xx xb dX2_count_18 ?_
    refine re_i (nI ((w9z - 10).toNat)) (subT 10 h_w9 (by omega) (by omega)) ?_
    refine m_ald C hw 2 rfl ((w9z - 10).toNat) rfl (by omega) (by decide) dX2_count_19 ?_
    refine re_i (nI (rf ((w9z - 10).toNat))) rfl ?_
    exact rt_i C hw () (by unfold vCount; first | (rw [if_pos (by omega)]; done) | (rw [if_neg (by omega), if_pos (by omega)]; done) | (rw [if_neg (by omega), if_neg (by omega), if_pos (by omega)]; done) | (rw [if_neg (by omega), if_neg (by omega), if_neg (by omega), if_pos (by omega)]; done) | (rw [if_neg (by omega), if_neg (by omega), if_neg (by omega), if_neg (by omega), if_pos (by omega)]; done) | (rw [if_neg (by omega), if_neg (by omega), if_neg (by omega), if_neg (by omega), if_neg (by omega), if_pos (by omega)]; done) | (rw [if_neg (by omega), if_neg (by omega), if_neg (by omega), if_neg (by omega), if_neg (by omega), if_neg (by omega), if_pos (by omega)]; done) | (rw [if_neg (by omega), if_neg (by omega), if_neg (by omega), if_neg (by omega), if_neg (by omega), if_neg (by omega), if_neg (by omega)]; done)) rfl dX2_count_20
