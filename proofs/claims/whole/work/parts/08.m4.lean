theorem lf_ex (P : Nat → Bool) : ∀ b : Nat, ∃ i : Nat, i ≤ b ∧ (∀ j, j < i → P j = false) ∧ (i < b → P i = true)
  | 0 => ⟨0, Nat.le_refl _, fun _ h => absurd h (Nat.not_lt_zero _), fun h => absurd h (Nat.lt_irrefl _)⟩
  | b + 1 => by
    obtain ⟨i, h1, h2, h3⟩ := lf_ex P b
    by_cases hi : i < b
    · exact ⟨i, by omega, h2, fun _ => h3 hi⟩
    · have e : i = b := by omega
      subst e
      by_cases hp : P i = true
      · exact ⟨i, by omega, h2, fun _ => hp⟩
      · refine ⟨i + 1, Nat.le_refl _, fun j hj => ?_, fun q => absurd q (Nat.lt_irrefl _)⟩
        by_cases hj2 : j = i
        · rw [hj2]; exact Bool.eq_false_iff.mpr hp
        · exact h2 j (by omega)
/-- the least place below b where P holds; b if none -/
noncomputable def lf (P : Nat → Bool) (b : Nat) : Nat := Classical.choose (lf_ex P b)
theorem lf_le (P : Nat → Bool) (b : Nat) : lf P b ≤ b := (Classical.choose_spec (lf_ex P b)).1
theorem lf_bf (P : Nat → Bool) (b j : Nat) (h : j < lf P b) : P j = false := (Classical.choose_spec (lf_ex P b)).2.1 j h
theorem lf_at (P : Nat → Bool) (b : Nat) (h : lf P b < b) : P (lf P b) = true := (Classical.choose_spec (lf_ex P b)).2.2 h
theorem lf_eq (P : Nat → Bool) (b i : Nat) (h : i ≤ b) (h1 : ∀ j, j < i → P j = false) (h2 : i < b → P i = true) : lf P b = i := by
  rcases Nat.lt_trichotomy (lf P b) i with q | q | q
  · have h3 := lf_at P b (by omega)
    rw [h1 _ q] at h3; cases h3
  · exact q
  · have h3 := h2 (by have := lf_le P b; omega)
    rw [lf_bf P b i q] at h3; cases h3
def lieP (R : RT) (a : Nat) : Nat → Bool := fun n => decide (itF R n 4 a = 1)
/-- when it LIES first, in mind; 100 if it never does -/
noncomputable def ftN (R : RT) (a : Nat) : Nat := lf (lieP R a) 100
def ftI (t : Nat) : Int32 := if t < 100 then nI t else -9
theorem ftI_lt {t : Nat} (h : t < 100) : ftI t = nI t := if_pos h
theorem ofT {x : Int32} {z : Int} (hx : x.toInt = z) (h0 : 0 ≤ z) (h1 : z < 2147483648) : x = nI z.toNat := of_toInt (by rw [hx]; omega) (by omega)
/-- how many STAND -/
def stN (R : RT) : Nat := ct (isS R 0) (R 0 0)
def wpN (R : RT) (x v : Int) : Nat := if 0 ≤ x ∧ x < ((R 0 0 : Nat) : Int) then (if wbN v 9 ≠ 0 then wbN v 9 else if R 4 x.toNat = 0 then 0 else 3) else 1
theorem wbN_0 {z a : Int} (h : wbN z a = 0) : 0 ≤ z ∧ z ≤ a := by
  unfold wbN at h
  split at h
  · omega
  · split at h
    · omega
    · omega
theorem itF_00 (R : RT) : ∀ n, itF R n 0 0 = R 0 0
  | 0 => rfl
  | n + 1 => itF_00 R n
set_option maxRecDepth 100000 in
set_option maxHeartbeats 4000000 in
theorem kX2_isThing (l : Launch) (G : GT) (h0 : Nat) (a1 : Nat) (a2 : Nat) (a3 : Nat) (a4 : Nat) (a5 : Nat) (a6 : Nat) (a7 : Nat) (a8 : Nat) (im : Nat) (lm : Nat) (rm : Nat) (pl : Nat) (sd : Int32) (R : RT) (x : Int32) (xz : Int) (h_x : x.toInt = xz) (hR : OK R) : Ct l yX2_isThing cX2_isThing 2 (some .boolean) 1 22 [.ref h0, .int x] G [(h0, .inr (2, [.ref a1, .ref a2, .ref a3, .ref a4, .int (nI im), .ref a5, .ref a6, .ref a7, .int (nI lm), .int (nI rm), .int (nI pl), .ref a8, .int sd])), (a1, aI G 54 (fl R))] (QI G [(h0, .inr (2, [.ref a1, .ref a2, .ref a3, .ref a4, .int (nI im), .ref a5, .ref a6, .ref a7, .int (nI lm), .int (nI rm), .int (nI pl), .ref a8, .int sd])), (a1, aI G 54 (fl R))] (fun (r : Int32) (u : Unit) => r = if 0 ≤ xz ∧ xz < ((R 0 0 : Nat) : Int) then 1 else 0) (fun u => [(h0, .inr (2, [.ref a1, .ref a2, .ref a3, .ref a4, .int (nI im), .ref a5, .ref a6, .ref a7, .int (nI lm), .int (nI rm), .int (nI pl), .ref a8, .int sd])), (a1, aI G 54 (fl R))])) := by
  refine en (by decide +kernel) (Nat.le_of_ble_eq_true rfl) ?_
  intro p e s m below meth c ls H locs C hl hw
  have xx := C.1
  have xb := C.2.1
  have hw : Wd G (fA [(h0, .inr (2, [.ref a1, .ref a2, .ref a3, .ref a4, .int (nI im), .ref a5, .ref a6, .ref a7, .int (nI lm), .int (nI rm), .int (nI pl), .ref a8, .int sd])), (a1, aI G 54 (fl R))]) s [(h0, .inr (2, [.ref a1, .ref a2, .ref a3, .ref a4, .int (nI im), .ref a5, .ref a6, .ref a7, .int (nI lm), .int (nI rm), .int (nI pl), .ref a8, .int sd])), (a1, aI G 54 (fl R))] H locs := hw
  have hl : lv_has ls 2 [(0, .ref h0), (1, .int x)] := hl
  obtain ⟨hn, hf0, hpr, hA⟩ := id hR
  refine lv_iload_n xx xb dX2_isThing_0 rfl (lv_at hl 1 rfl) ?_
  refine lv_iconst (v := nI 0) xx xb dX2_isThing_1 (by decide) ?_
  refine lv_aload_n xx xb dX2_isThing_2 rfl (lv_at hl 0 rfl) ?_
  refine m_get C hw 0 rfl fk_X2_9 rfl dX2_isThing_3 ?_
  refine lv_iconst (v := nI 0) xx xb dX2_isThing_6 (by decide) ?_
  refine m_ald C hw 1 rfl 0 rfl (by omega) (by decide) dX2_isThing_7 ?_
  refine re_i (nI (R 0 0)) (fl_h R (by decide)) ?_
  refine lv_iconst (v := nI 1) xx xb dX2_isThing_8 (by decide) ?_
  refine lv_isub xx xb dX2_isThing_9 ?_
  have hM := kX2_isIn l G x xz (nI 0) 0 ((nI (R 0 0)) - (nI 1)) (((nI (R 0 0)) - (nI 1)).toInt) h_x (tN (by omega)) rfl
  refine cs_i C hw hM ysX2_isIn ml_X2_40 rfl [] rfl rfl (fun _ => (rfl : ([] : List Nat) = [])) (by decide) ⟨Nat.zero_le _, Nat.zero_le _⟩ hl.1 rfl (Nat.le_of_ble_eq_true rfl) dX2_isThing_10 (fun r _ H locs hr hw => ?_)
  have hw : Wd G (fA [(h0, .inr (2, [.ref a1, .ref a2, .ref a3, .ref a4, .int (nI im), .ref a5, .ref a6, .ref a7, .int (nI lm), .int (nI rm), .int (nI pl), .ref a8, .int sd])), (a1, aI G 54 (fl R))]) s [(h0, .inr (2, [.ref a1, .ref a2, .ref a3, .ref a4, .int (nI im), .ref a5, .ref a6, .ref a7, .int (nI lm), .int (nI rm), .int (nI pl), .ref a8, .int sd])), (a1, aI G 54 (fl R))] H locs := hw
  subst hr
  refine re_i (if 0 ≤ xz ∧ xz < ((R 0 0 : Nat) : Int) then 1 else 0) (ifc (by rw [n1_t _ hn]; omega)) ?_
  exact rt_z C hw () (b01 _) rfl rfl dX2_isThing_13
set_option maxRecDepth 100000 in
set_option maxHeartbeats 4000000 in
theorem kX2_no (l : Launch) (G : GT) (h0 : Nat) (a1 : Nat) (a2 : Nat) (a3 : Nat) (a4 : Nat) (a5 : Nat) (a6 : Nat) (a7 : Nat) (a8 : Nat) (im : Nat) (lm : Nat) (rm : Nat) (pl : Nat) (sd : Int32) (rf : Nat → Nat) (j : Nat) (hj : 1 ≤ j ∧ j ≤ 6) : Ct l yX2_no cX2_no 2 (some .int) 0 0 [.ref h0, .int (nG j)] G [(h0, .inr (2, [.ref a1, .ref a2, .ref a3, .ref a4, .int (nI im), .ref a5, .ref a6, .ref a7, .int (nI lm), .int (nI rm), .int (nI pl), .ref a8, .int sd])), (a7, aI G 7 (cN rf))] (QI G [(h0, .inr (2, [.ref a1, .ref a2, .ref a3, .ref a4, .int (nI im), .ref a5, .ref a6, .ref a7, .int (nI lm), .int (nI rm), .int (nI pl), .ref a8, .int sd])), (a7, aI G 7 (cN rf))] (fun (r : Int32) (u : Unit) => r = nG j) (fun u => [(h0, .inr (2, [.ref a1, .ref a2, .ref a3, .ref a4, .int (nI im), .ref a5, .ref a6, .ref a7, .int (nI lm), .int (nI rm), .int (nI pl), .ref a8, .int sd])), (a7, aI G 7 (cN (upN rf j (rf j + 1))))])) := by
  refine en (by decide +kernel) (Nat.le_of_ble_eq_true rfl) ?_
  intro p e s m below meth c ls H locs C hl hw
  have xx := C.1
  have xb := C.2.1
  have hw : Wd G (fA [(h0, .inr (2, [.ref a1, .ref a2, .ref a3, .ref a4, .int (nI im), .ref a5, .ref a6, .ref a7, .int (nI lm), .int (nI rm), .int (nI pl), .ref a8, .int sd])), (a7, aI G 7 (cN rf))]) s [(h0, .inr (2, [.ref a1, .ref a2, .ref a3, .ref a4, .int (nI im), .ref a5, .ref a6, .ref a7, .int (nI lm), .int (nI rm), .int (nI pl), .ref a8, .int sd])), (a7, aI G 7 (cN rf))] H locs := hw
  have hl : lv_has ls 2 [(0, .ref h0), (1, .int (nG j))] := hl
  refine lv_aload_n xx xb dX2_no_0 rfl (lv_at hl 0 rfl) ?_
  refine m_get C hw 0 rfl fk_X2_28 rfl dX2_no_1 ?_
  refine lv_iload_n xx xb dX2_no_4 rfl (lv_at hl 1 rfl) ?_
  refine lv_ineg xx xb dX2_no_5 ?_
  refine re_i (nI j) (nG_neg _) ?_
  refine lv_dup2_11 xx xb dX2_no_6 rfl rfl ?_
  refine m_ald C hw 1 rfl j rfl (by omega) (by decide) dX2_no_7 ?_
  refine re_i (nI (rf j)) rfl ?_
  refine lv_iconst (v := nI 1) xx xb dX2_no_8 (by decide) ?_
  refine lv_iadd xx xb dX2_no_9 ?_
  refine re_i (nI ((rf j) + 1)) (nI_add _ _) ?_
  refine m_ast C hw 1 rfl j rfl (by omega) (by decide) (cN (upN rf j ((rf j) + 1))) (cN_u _ _ _) dX2_no_10 (fun H locs hw => ?_)
  have hw : Wd G (fA [(h0, .inr (2, [.ref a1, .ref a2, .ref a3, .ref a4, .int (nI im), .ref a5, .ref a6, .ref a7, .int (nI lm), .int (nI rm), .int (nI pl), .ref a8, .int sd])), (a7, aI G 7 (cN rf))]) s [(h0, .inr (2, [.ref a1, .ref a2, .ref a3, .ref a4, .int (nI im), .ref a5, .ref a6, .ref a7, .int (nI lm), .int (nI rm), .int (nI pl), .ref a8, .int sd])), (a7, aI G 7 (cN (upN rf j ((rf j) + 1))))] H locs := hw
  refine lv_iload_n xx xb dX2_no_11 rfl (lv_at hl 1 rfl) ?_
  exact rt_i C hw () rfl rfl dX2_no_12
set_option maxRecDepth 100000 in
set_option maxHeartbeats 4000000 in
theorem kX2_noWide (l : Launch) (G : GT) (h0 : Nat) (a1 : Nat) (a2 : Nat) (a3 : Nat) (a4 : Nat) (a5 : Nat) (a6 : Nat) (a7 : Nat) (a8 : Nat) (im : Nat) (lm : Nat) (rm : Nat) (pl : Nat) (sd : Int32) (rf : Nat → Nat) (j : Nat) (hj : 1 ≤ j ∧ j ≤ 6) : Ct l yX2_noWide cX2_noWide 2 (some .long) 1 21 [.ref h0, .int (nG j)] G [(h0, .inr (2, [.ref a1, .ref a2, .ref a3, .ref a4, .int (nI im), .ref a5, .ref a6, .ref a7, .int (nI lm), .int (nI rm), .int (nI pl), .ref a8, .int sd])), (a7, aI G 7 (cN rf))] (QL G [(h0, .inr (2, [.ref a1, .ref a2, .ref a3, .ref a4, .int (nI im), .ref a5, .ref a6, .ref a7, .int (nI lm), .int (nI rm), .int (nI pl), .ref a8, .int sd])), (a7, aI G 7 (cN rf))] (fun (r : Int64) (u : Unit) => r = (4000000000000000000 : Int64) - (nG j).toInt64) (fun u => [(h0, .inr (2, [.ref a1, .ref a2, .ref a3, .ref a4, .int (nI im), .ref a5, .ref a6, .ref a7, .int (nI lm), .int (nI rm), .int (nI pl), .ref a8, .int sd])), (a7, aI G 7 (cN (upN rf j (rf j + 1))))])) := by
  refine en (by decide +kernel) (Nat.le_of_ble_eq_true rfl) ?_
  intro p e s m below meth c ls H locs C hl hw
  have xx := C.1
  have xb := C.2.1
  have hw : Wd G (fA [(h0, .inr (2, [.ref a1, .ref a2, .ref a3, .ref a4, .int (nI im), .ref a5, .ref a6, .ref a7, .int (nI lm), .int (nI rm), .int (nI pl), .ref a8, .int sd])), (a7, aI G 7 (cN rf))]) s [(h0, .inr (2, [.ref a1, .ref a2, .ref a3, .ref a4, .int (nI im), .ref a5, .ref a6, .ref a7, .int (nI lm), .int (nI rm), .int (nI pl), .ref a8, .int sd])), (a7, aI G 7 (cN rf))] H locs := hw
  have hl : lv_has ls 2 [(0, .ref h0), (1, .int (nG j))] := hl
  refine m_ldc2 C kl_X2_34 dX2_noWide_0 ?_
  refine lv_aload_n xx xb dX2_noWide_3 rfl (lv_at hl 0 rfl) ?_
  refine lv_iload_n xx xb dX2_noWide_4 rfl (lv_at hl 1 rfl) ?_
  have hM := kX2_no l G h0 a1 a2 a3 a4 a5 a6 a7 a8 im lm rm pl sd rf j (by first | assumption | omega)
  refine cv_i C hw hM yvX2_no ml_X2_36 0 rfl rfl rfl [0, 1] rfl rfl (fun _ => (rfl : ([h0, a7] : List Nat) = [h0, a7])) (by decide) ⟨Nat.zero_le _, Nat.zero_le _⟩ hl.1 rfl (Nat.le_of_ble_eq_true rfl) dX2_noWide_5 (fun r _ H locs hr hw => ?_)
  have hw : Wd G (fA [(h0, .inr (2, [.ref a1, .ref a2, .ref a3, .ref a4, .int (nI im), .ref a5, .ref a6, .ref a7, .int (nI lm), .int (nI rm), .int (nI pl), .ref a8, .int sd])), (a7, aI G 7 (cN rf))]) s [(h0, .inr (2, [.ref a1, .ref a2, .ref a3, .ref a4, .int (nI im), .ref a5, .ref a6, .ref a7, .int (nI lm), .int (nI rm), .int (nI pl), .ref a8, .int sd])), (a7, aI G 7 (cN (upN rf j (rf j + 1))))] H locs := hw
  subst hr
  refine lv_i2l (v := (nG j).toInt64) xx xb dX2_noWide_8 rfl ?_
  refine lv_lsub xx xb dX2_noWide_9 ?_
  exact rt_l C hw () rfl rfl dX2_noWide_10
set_option maxRecDepth 100000 in
set_option maxHeartbeats 4000000 in
theorem kX2_wrongPull (l : Launch) (G : GT) (h0 : Nat) (a1 : Nat) (a2 : Nat) (a3 : Nat) (a4 : Nat) (a5 : Nat) (a6 : Nat) (a7 : Nat) (a8 : Nat) (im : Nat) (lm : Nat) (rm : Nat) (pl : Nat) (sd : Int32) (R : RT) (x : Int32) (xz : Int) (v : Int32) (vz : Int) (h_x : x.toInt = xz) (h_v : v.toInt = vz) (hR : OK R) : Ct l yX2_wrongPull cX2_wrongPull 4 (some .int) 2 43 [.ref h0, .int x, .int v] G [(h0, .inr (2, [.ref a1, .ref a2, .ref a3, .ref a4, .int (nI im), .ref a5, .ref a6, .ref a7, .int (nI lm), .int (nI rm), .int (nI pl), .ref a8, .int sd])), (a1, aI G 54 (fl R))] (QI G [(h0, .inr (2, [.ref a1, .ref a2, .ref a3, .ref a4, .int (nI im), .ref a5, .ref a6, .ref a7, .int (nI lm), .int (nI rm), .int (nI pl), .ref a8, .int sd])), (a1, aI G 54 (fl R))] (fun (r : Int32) (u : Unit) => r = nG (wpN R xz vz)) (fun u => [(h0, .inr (2, [.ref a1, .ref a2, .ref a3, .ref a4, .int (nI im), .ref a5, .ref a6, .ref a7, .int (nI lm), .int (nI rm), .int (nI pl), .ref a8, .int sd])), (a1, aI G 54 (fl R))])) := by
  refine en (by decide +kernel) (Nat.le_of_ble_eq_true rfl) ?_
  intro p e s m below meth c ls H locs C hl hw
  have xx := C.1
  have xb := C.2.1
  have hw : Wd G (fA [(h0, .inr (2, [.ref a1, .ref a2, .ref a3, .ref a4, .int (nI im), .ref a5, .ref a6, .ref a7, .int (nI lm), .int (nI rm), .int (nI pl), .ref a8, .int sd])), (a1, aI G 54 (fl R))]) s [(h0, .inr (2, [.ref a1, .ref a2, .ref a3, .ref a4, .int (nI im), .ref a5, .ref a6, .ref a7, .int (nI lm), .int (nI rm), .int (nI pl), .ref a8, .int sd])), (a1, aI G 54 (fl R))] H locs := hw
  have hl : lv_has ls 4 [(0, .ref h0), (1, .int x), (2, .int v)] := hl
  obtain ⟨hn, hf0, hpr, hA⟩ := id hR
  have hb9 := wbN_le vz 9
  refine lv_aload_n xx xb dX2_wrongPull_0 rfl (lv_at hl 0 rfl) ?_
  refine lv_iload_n xx xb dX2_wrongPull_1 rfl (lv_at hl 1 rfl) ?_
  have hM := kX2_isThing l G h0 a1 a2 a3 a4 a5 a6 a7 a8 im lm rm pl sd R x xz h_x (by first | assumption | omega)
  refine cv_i C hw hM yvX2_isThing ml_X2_105 0 rfl rfl rfl [0, 1] rfl rfl (fun _ => (rfl : ([h0, a1] : List Nat) = [h0, a1])) (by decide) ⟨Nat.zero_le _, Nat.zero_le _⟩ hl.1 rfl (Nat.le_of_ble_eq_true rfl) dX2_wrongPull_2 (fun r _ H locs hr hw => ?_)
  have hw : Wd G (fA [(h0, .inr (2, [.ref a1, .ref a2, .ref a3, .ref a4, .int (nI im), .ref a5, .ref a6, .ref a7, .int (nI lm), .int (nI rm), .int (nI pl), .ref a8, .int sd])), (a1, aI G 54 (fl R))]) s [(h0, .inr (2, [.ref a1, .ref a2, .ref a3, .ref a4, .int (nI im), .ref a5, .ref a6, .ref a7, .int (nI lm), .int (nI rm), .int (nI pl), .ref a8, .int sd])), (a1, aI G 54 (fl R))] H locs := hw
  subst hr
  refine lv_if_eq (tgt := 17) xx xb dX2_wrongPull_5 (by decide) (fun c_5 => ?_) (fun c_5 => ?_)
  · skip
    have c_5 := b0_c c_5
    refine lv_iconst (v := (-1)) xx xb dX2_wrongPull_17 (by decide) ?_
    refine lv_istore_n (lv' := [(3, .int (-1)), (0, .ref h0), (1, .int x), (2, .int v)]) xx xb dX2_wrongPull_18 rfl hl (by decide) rfl (fun ls hl => ?_)
    refine lv_iload_n xx xb dX2_wrongPull_19 rfl (lv_at hl 0 rfl) ?_
    refine lv_if_ne (tgt := 39) xx xb dX2_wrongPull_20 (by decide) (fun c_20 => ?_) (fun c_20 => ?_)
    · skip
      refine lv_iload_n xx xb dX2_wrongPull_39 rfl (lv_at hl 0 rfl) ?_
      exact rt_i C hw () (by unfold wpN; first | (rw [if_neg c_5]; rfl) | (rw [if_pos c_5, if_pos c_20]) | (rw [if_pos c_5, if_neg (Classical.not_not.mpr c_20), if_pos c_31]; rw [c_20]) | (rw [if_pos c_5, if_neg (Classical.not_not.mpr c_20), if_neg c_31]; rfl)) rfl dX2_wrongPull_40
    · skip
      exact absurd c_20 (by decide)
  · skip
    have c_5 := b1_c c_5
    refine lv_iload_n xx xb dX2_wrongPull_8 rfl (lv_at hl 2 rfl) ?_
    refine lv_bipush (v := nI 9) xx xb dX2_wrongPull_9 (by decide) ?_
    have hM := kX2_wrongBy l G v vz (nI 9) 9 h_v (tN (by omega))
    refine cs_i C hw hM ysX2_wrongBy ml_X2_128 rfl [] rfl rfl (fun _ => (rfl : ([] : List Nat) = [])) (by decide) ⟨Nat.zero_le _, Nat.zero_le _⟩ hl.1 rfl (Nat.le_of_ble_eq_true rfl) dX2_wrongPull_11 (fun r _ H locs hr hw => ?_)
    have hw : Wd G (fA [(h0, .inr (2, [.ref a1, .ref a2, .ref a3, .ref a4, .int (nI im), .ref a5, .ref a6, .ref a7, .int (nI lm), .int (nI rm), .int (nI pl), .ref a8, .int sd])), (a1, aI G 54 (fl R))]) s [(h0, .inr (2, [.ref a1, .ref a2, .ref a3, .ref a4, .int (nI im), .ref a5, .ref a6, .ref a7, .int (nI lm), .int (nI rm), .int (nI pl), .ref a8, .int sd])), (a1, aI G 54 (fl R))] H locs := hw
    subst hr
    refine lv_goto (tgt := 18) xx xb dX2_wrongPull_14 (by decide) ?_
    refine lv_istore_n (lv' := [(3, .int (nG (wbN vz 9))), (0, .ref h0), (1, .int x), (2, .int v)]) xx xb dX2_wrongPull_18 rfl hl (by decide) rfl (fun ls hl => ?_)
    refine lv_iload_n xx xb dX2_wrongPull_19 rfl (lv_at hl 0 rfl) ?_
    refine lv_if_ne (tgt := 39) xx xb dX2_wrongPull_20 (by decide) (fun c_20 => ?_) (fun c_20 => ?_)
    · skip
      have c_20 := g0_n c_20
      refine lv_iload_n xx xb dX2_wrongPull_39 rfl (lv_at hl 0 rfl) ?_
      exact rt_i C hw () (by unfold wpN; first | (rw [if_neg c_5]; rfl) | (rw [if_pos c_5, if_pos c_20]) | (rw [if_pos c_5, if_neg (Classical.not_not.mpr c_20), if_pos c_31]; rw [c_20]) | (rw [if_pos c_5, if_neg (Classical.not_not.mpr c_20), if_neg c_31]; rfl)) rfl dX2_wrongPull_40
    · skip
      have c_20 := g0_c (by omega) c_20
      refine lv_aload_n xx xb dX2_wrongPull_23 rfl (lv_at hl 1 rfl) ?_
      refine m_get C hw 0 rfl fk_X2_9 rfl dX2_wrongPull_24 ?_
      refine lv_iload_n xx xb dX2_wrongPull_27 rfl (lv_at hl 2 rfl) ?_
      refine re_i (nI xz.toNat) (ofT h_x (by omega) (by omega)) ?_
      have hM := kX2_stands l G a1 R xz.toNat (by first | assumption | omega) (by first | assumption | omega)
      refine cs_i C hw hM ysX2_stands ml_X2_55 rfl [1] rfl rfl (fun _ => (rfl : ([a1] : List Nat) = [a1])) (by decide) ⟨Nat.zero_le _, Nat.zero_le _⟩ hl.1 rfl (Nat.le_of_ble_eq_true rfl) dX2_wrongPull_28 (fun r _ H locs hr hw => ?_)
      have hw : Wd G (fA [(h0, .inr (2, [.ref a1, .ref a2, .ref a3, .ref a4, .int (nI im), .ref a5, .ref a6, .ref a7, .int (nI lm), .int (nI rm), .int (nI pl), .ref a8, .int sd])), (a1, aI G 54 (fl R))]) s [(h0, .inr (2, [.ref a1, .ref a2, .ref a3, .ref a4, .int (nI im), .ref a5, .ref a6, .ref a7, .int (nI lm), .int (nI rm), .int (nI pl), .ref a8, .int sd])), (a1, aI G 54 (fl R))] H locs := hw
      subst hr
      refine lv_if_ne (tgt := 39) xx xb dX2_wrongPull_31 (by decide) (fun c_31 => ?_) (fun c_31 => ?_)
      · skip
        have c_31 := b1_c c_31
        refine lv_iload_n xx xb dX2_wrongPull_39 rfl (lv_at hl 0 rfl) ?_
        exact rt_i C hw () (by unfold wpN; first | (rw [if_neg c_5]; rfl) | (rw [if_pos c_5, if_pos c_20]) | (rw [if_pos c_5, if_neg (Classical.not_not.mpr c_20), if_pos c_31]; rw [c_20]) | (rw [if_pos c_5, if_neg (Classical.not_not.mpr c_20), if_neg c_31]; rfl)) rfl dX2_wrongPull_40
      · skip
        have c_31 := b0_c c_31
        refine lv_bipush (v := (-3)) xx xb dX2_wrongPull_34 (by decide) ?_
        refine lv_goto (tgt := 40) xx xb dX2_wrongPull_36 (by decide) ?_
        exact rt_i C hw () (by unfold wpN; first | (rw [if_neg c_5]; rfl) | (rw [if_pos c_5, if_pos c_20]) | (rw [if_pos c_5, if_neg (Classical.not_not.mpr c_20), if_pos c_31]; rw [c_20]) | (rw [if_pos c_5, if_neg (Classical.not_not.mpr c_20), if_neg c_31]; rfl)) rfl dX2_wrongPull_40
set_option maxRecDepth 100000 in
set_option maxHeartbeats 4000000 in
theorem kX2_takes (l : Launch) (G : GT) (h0 : Nat) (a1 : Nat) (a2 : Nat) (a3 : Nat) (a4 : Nat) (a5 : Nat) (a6 : Nat) (a7 : Nat) (a8 : Nat) (im : Nat) (lm : Nat) (rm : Nat) (pl : Nat) (sd : Int32) (R : RT) (Rm : RT) (n : Nat) (hR : OK R) (hK : AK R) (hn : n < 1000) : Ct l yX2_takes cX2_takes 2 (none) 5 110 [.ref h0, .int (nI n)] G [(h0, .inr (2, [.ref a1, .ref a2, .ref a3, .ref a4, .int (nI im), .ref a5, .ref a6, .ref a7, .int (nI lm), .int (nI rm), .int (nI pl), .ref a8, .int sd])), (a1, aI G 54 (fl R)), (a2, aI G 54 (fl Rm))] (QV G [(h0, .inr (2, [.ref a1, .ref a2, .ref a3, .ref a4, .int (nI im), .ref a5, .ref a6, .ref a7, .int (nI lm), .int (nI rm), .int (nI pl), .ref a8, .int sd])), (a1, aI G 54 (fl R)), (a2, aI G 54 (fl Rm))] (fun u : Unit => True) (fun u => [(h0, .inr (2, [.ref a1, .ref a2, .ref a3, .ref a4, .int (nI im), .ref a5, .ref a6, .ref a7, .int (nI lm), .int (nI rm), .int (nI pl), .ref a8, .int sd])), (a1, aI G 54 (fl R)), (a2, aI G 54 (fl (itF R n)))])) := by
  refine en (by decide +kernel) (Nat.le_of_ble_eq_true rfl) ?_
  intro p e s m below meth c ls H locs C hl hw
  have xx := C.1
  have xb := C.2.1
  have hw : Wd G (fA [(h0, .inr (2, [.ref a1, .ref a2, .ref a3, .ref a4, .int (nI im), .ref a5, .ref a6, .ref a7, .int (nI lm), .int (nI rm), .int (nI pl), .ref a8, .int sd])), (a1, aI G 54 (fl R)), (a2, aI G 54 (fl Rm))]) s [(h0, .inr (2, [.ref a1, .ref a2, .ref a3, .ref a4, .int (nI im), .ref a5, .ref a6, .ref a7, .int (nI lm), .int (nI rm), .int (nI pl), .ref a8, .int sd])), (a1, aI G 54 (fl R)), (a2, aI G 54 (fl Rm))] H locs := hw
  have hl : lv_has ls 2 [(0, .ref h0), (1, .int (nI n))] := hl
  refine lv_aload_n xx xb dX2_takes_0 rfl (lv_at hl 0 rfl) ?_
  refine m_get C hw 0 rfl fk_X2_9 rfl dX2_takes_1 ?_
  refine lv_aload_n xx xb dX2_takes_4 rfl (lv_at hl 0 rfl) ?_
  refine m_get C hw 0 rfl fk_X2_13 rfl dX2_takes_5 ?_
  have hM := kX2_copies l G a1 a2 (fl R) (fl Rm) 
  refine cs_v C hw hM ysX2_copies ml_X2_121 rfl [1, 2] rfl rfl (fun _ => (rfl : ([a1, a2] : List Nat) = [a1, a2])) (by decide) ⟨Nat.zero_le _, Nat.zero_le _⟩ hl.1 rfl (Nat.le_of_ble_eq_true rfl) dX2_takes_8 (fun _ H locs hr hw => ?_)
  have hw : Wd G (fA [(h0, .inr (2, [.ref a1, .ref a2, .ref a3, .ref a4, .int (nI im), .ref a5, .ref a6, .ref a7, .int (nI lm), .int (nI rm), .int (nI pl), .ref a8, .int sd])), (a1, aI G 54 (fl R)), (a2, aI G 54 (fl Rm))]) s [(h0, .inr (2, [.ref a1, .ref a2, .ref a3, .ref a4, .int (nI im), .ref a5, .ref a6, .ref a7, .int (nI lm), .int (nI rm), .int (nI pl), .ref a8, .int sd])), (a1, aI G 54 (fl R)), (a2, aI G 54 (fl R))] H locs := hw
  refine lv_aload_n xx xb dX2_takes_11 rfl (lv_at hl 0 rfl) ?_
  refine m_get C hw 0 rfl fk_X2_13 rfl dX2_takes_12 ?_
  refine lv_iload_n xx xb dX2_takes_15 rfl (lv_at hl 1 rfl) ?_
  have hM := kX2_minutesOn l G a2 R n (by first | assumption | omega) (by first | assumption | omega) (by first | assumption | omega)
  refine cs_v C hw hM ysX2_minutesOn ml_X2_115 rfl [2] rfl rfl (fun _ => (rfl : ([a2] : List Nat) = [a2])) (by decide) ⟨Nat.zero_le _, Nat.zero_le _⟩ hl.1 rfl (Nat.le_of_ble_eq_true rfl) dX2_takes_16 (fun _ H locs hr hw => ?_)
  have hw : Wd G (fA [(h0, .inr (2, [.ref a1, .ref a2, .ref a3, .ref a4, .int (nI im), .ref a5, .ref a6, .ref a7, .int (nI lm), .int (nI rm), .int (nI pl), .ref a8, .int sd])), (a1, aI G 54 (fl R)), (a2, aI G 54 (fl Rm))]) s [(h0, .inr (2, [.ref a1, .ref a2, .ref a3, .ref a4, .int (nI im), .ref a5, .ref a6, .ref a7, .int (nI lm), .int (nI rm), .int (nI pl), .ref a8, .int sd])), (a1, aI G 54 (fl R)), (a2, aI G 54 (fl (itF R n)))] H locs := hw
  exact rt_v C hw () trivial rfl dX2_takes_19
set_option maxRecDepth 100000 in
set_option maxHeartbeats 4000000 in
theorem kX2_standingIn (l : Launch) (G : GT) (h0 : Nat) (a1 : Nat) (a2 : Nat) (a3 : Nat) (a4 : Nat) (a5 : Nat) (a6 : Nat) (a7 : Nat) (a8 : Nat) (im : Nat) (lm : Nat) (rm : Nat) (pl : Nat) (sd : Int32) (Rm : RT) (hR : OK Rm) : Ct l yX2_standingIn cX2_standingIn 1 (some .int) 2 44 [.ref h0] G [(h0, .inr (2, [.ref a1, .ref a2, .ref a3, .ref a4, .int (nI im), .ref a5, .ref a6, .ref a7, .int (nI lm), .int (nI rm), .int (nI pl), .ref a8, .int sd])), (a2, aI G 54 (fl Rm))] (QI G [(h0, .inr (2, [.ref a1, .ref a2, .ref a3, .ref a4, .int (nI im), .ref a5, .ref a6, .ref a7, .int (nI lm), .int (nI rm), .int (nI pl), .ref a8, .int sd])), (a2, aI G 54 (fl Rm))] (fun (r : Int32) (u : Unit) => r = nI (stN Rm)) (fun u => [(h0, .inr (2, [.ref a1, .ref a2, .ref a3, .ref a4, .int (nI im), .ref a5, .ref a6, .ref a7, .int (nI lm), .int (nI rm), .int (nI pl), .ref a8, .int sd])), (a2, aI G 54 (fl Rm))])) := by
  refine en (by decide +kernel) (Nat.le_of_ble_eq_true rfl) ?_
  intro p e s m below meth c ls H locs C hl hw
  have xx := C.1
  have xb := C.2.1
  have hw : Wd G (fA [(h0, .inr (2, [.ref a1, .ref a2, .ref a3, .ref a4, .int (nI im), .ref a5, .ref a6, .ref a7, .int (nI lm), .int (nI rm), .int (nI pl), .ref a8, .int sd])), (a2, aI G 54 (fl Rm))]) s [(h0, .inr (2, [.ref a1, .ref a2, .ref a3, .ref a4, .int (nI im), .ref a5, .ref a6, .ref a7, .int (nI lm), .int (nI rm), .int (nI pl), .ref a8, .int sd])), (a2, aI G 54 (fl Rm))] H locs := hw
  have hl : lv_has ls 1 [(0, .ref h0)] := hl
  have hs := setF_lt hR 0
  refine lv_aload_n xx xb dX2_standingIn_0 rfl (lv_at hl 0 rfl) ?_
  refine m_get C hw 0 rfl fk_X2_13 rfl dX2_standingIn_1 ?_
  refine lv_iconst (v := nI 0) xx xb dX2_standingIn_4 (by decide) ?_
  have hM := kX2_setOf l G a2 Rm 0 (by first | assumption | omega) (by first | assumption | omega)
  refine cs_i C hw hM ysX2_setOf ml_X2_73 rfl [1] rfl rfl (fun _ => (rfl : ([a2] : List Nat) = [a2])) (by decide) ⟨Nat.zero_le _, Nat.zero_le _⟩ hl.1 rfl (Nat.le_of_ble_eq_true rfl) dX2_standingIn_5 (fun r _ H locs hr hw => ?_)
  have hw : Wd G (fA [(h0, .inr (2, [.ref a1, .ref a2, .ref a3, .ref a4, .int (nI im), .ref a5, .ref a6, .ref a7, .int (nI lm), .int (nI rm), .int (nI pl), .ref a8, .int sd])), (a2, aI G 54 (fl Rm))]) s [(h0, .inr (2, [.ref a1, .ref a2, .ref a3, .ref a4, .int (nI im), .ref a5, .ref a6, .ref a7, .int (nI lm), .int (nI rm), .int (nI pl), .ref a8, .int sd])), (a2, aI G 54 (fl Rm))] H locs := hw
  subst hr
  have hM := kX2_bits l G (setF Rm 0) (by first | assumption | omega)
  refine cs_i C hw hM ysX2_bits ml_X2_67 rfl [] rfl rfl (fun _ => (rfl : ([] : List Nat) = [])) (by decide) ⟨Nat.zero_le _, Nat.zero_le _⟩ hl.1 rfl (Nat.le_of_ble_eq_true rfl) dX2_standingIn_8 (fun r _ H locs hr hw => ?_)
  have hw : Wd G (fA [(h0, .inr (2, [.ref a1, .ref a2, .ref a3, .ref a4, .int (nI im), .ref a5, .ref a6, .ref a7, .int (nI lm), .int (nI rm), .int (nI pl), .ref a8, .int sd])), (a2, aI G 54 (fl Rm))]) s [(h0, .inr (2, [.ref a1, .ref a2, .ref a3, .ref a4, .int (nI im), .ref a5, .ref a6, .ref a7, .int (nI lm), .int (nI rm), .int (nI pl), .ref a8, .int sd])), (a2, aI G 54 (fl Rm))] H locs := hw
  subst hr
  refine re_i (nI (stN Rm)) (congrArg nI (pc_bs _ hR.1)) ?_
  exact rt_i C hw () rfl rfl dX2_standingIn_11
set_option maxRecDepth 100000 in
set_option maxHeartbeats 4000000 in
theorem kX2_fallsIn (l : Launch) (G : GT) (h0 : Nat) (a1 : Nat) (a2 : Nat) (a3 : Nat) (a4 : Nat) (a5 : Nat) (a6 : Nat) (a7 : Nat) (a8 : Nat) (im : Nat) (lm : Nat) (rm : Nat) (pl : Nat) (sd : Int32) (Rm : RT) (a : Nat) (hR : OK Rm) (hK : AK Rm) (ha : a < Rm 0 0) : Ct l yX2_fallsIn cX2_fallsIn 3 (some .int) 4 88 [.ref h0, .int (nI a)] G [(h0, .inr (2, [.ref a1, .ref a2, .ref a3, .ref a4, .int (nI im), .ref a5, .ref a6, .ref a7, .int (nI lm), .int (nI rm), .int (nI pl), .ref a8, .int sd])), (a2, aI G 54 (fl Rm))] (QI G [(h0, .inr (2, [.ref a1, .ref a2, .ref a3, .ref a4, .int (nI im), .ref a5, .ref a6, .ref a7, .int (nI lm), .int (nI rm), .int (nI pl), .ref a8, .int sd])), (a2, aI G 54 (fl Rm))] (fun (r : Int32) (u : Unit) => r = ftI (ftN Rm a)) (fun u => [(h0, .inr (2, [.ref a1, .ref a2, .ref a3, .ref a4, .int (nI im), .ref a5, .ref a6, .ref a7, .int (nI lm), .int (nI rm), .int (nI pl), .ref a8, .int sd])), (a2, aI G 54 (fl (itF Rm (ftN Rm a))))])) := by
  refine en (by decide +kernel) (Nat.le_of_ble_eq_true rfl) ?_
  intro p e s m below meth c ls H locs C hl hw
  have xx := C.1
  have xb := C.2.1
  have hw : Wd G (fA [(h0, .inr (2, [.ref a1, .ref a2, .ref a3, .ref a4, .int (nI im), .ref a5, .ref a6, .ref a7, .int (nI lm), .int (nI rm), .int (nI pl), .ref a8, .int sd])), (a2, aI G 54 (fl Rm))]) s [(h0, .inr (2, [.ref a1, .ref a2, .ref a3, .ref a4, .int (nI im), .ref a5, .ref a6, .ref a7, .int (nI lm), .int (nI rm), .int (nI pl), .ref a8, .int sd])), (a2, aI G 54 (fl Rm))] H locs := hw
  have hl : lv_has ls 3 [(0, .ref h0), (1, .int (nI a))] := hl
  have hn := hR.1
  refine lv_iconst (v := nI 0) xx xb dX2_fallsIn_0 (by decide) ?_
  refine lv_istore_n (lv' := [(2, .int (nI 0)), (0, .ref h0), (1, .int (nI a))]) xx xb dX2_fallsIn_1 rfl hl (by decide) rfl (fun ls hl => ?_)
  have hw : Wd G (fA [(h0, .inr (2, [.ref a1, .ref a2, .ref a3, .ref a4, .int (nI im), .ref a5, .ref a6, .ref a7, .int (nI lm), .int (nI rm), .int (nI pl), .ref a8, .int sd])), (a2, aI G 54 (fl Rm))]) s [(h0, .inr (2, [.ref a1, .ref a2, .ref a3, .ref a4, .int (nI im), .ref a5, .ref a6, .ref a7, .int (nI lm), .int (nI rm), .int (nI pl), .ref a8, .int sd])), (a2, aI G 54 (fl (itF Rm 0)))] H locs := hw
  have L_2 : ∀ (fu : Nat) (i : Nat) (H : Heap) (locs : List Loc) (ls : Array Slot), 100 - i < fu → (i ≤ 100) → (∀ j, j < i → lieP Rm a j = false) → Wd G (fA [(h0, .inr (2, [.ref a1, .ref a2, .ref a3, .ref a4, .int (nI im), .ref a5, .ref a6, .ref a7, .int (nI lm), .int (nI rm), .int (nI pl), .ref a8, .int sd])), (a2, aI G 54 (fl Rm))]) s [(h0, .inr (2, [.ref a1, .ref a2, .ref a3, .ref a4, .int (nI im), .ref a5, .ref a6, .ref a7, .int (nI lm), .int (nI rm), .int (nI pl), .ref a8, .int sd])), (a2, aI G 54 (fl (itF Rm i)))] H locs → lv_has ls 3 [(0, .ref h0), (1, .int (nI a)), (2, .int (nI i))] → W p l e ({ frames := 4, cells := 0, slots := 0, locals := 88 }) s m (([.ref h0, .int (nI a)] : List Value).toArray) below meth c H locs 0 0 (MQ below (QI G [(h0, .inr (2, [.ref a1, .ref a2, .ref a3, .ref a4, .int (nI im), .ref a5, .ref a6, .ref a7, .int (nI lm), .int (nI rm), .int (nI pl), .ref a8, .int sd])), (a2, aI G 54 (fl Rm))] (fun (r : Int32) (u : Unit) => r = ftI (ftN Rm a)) (fun u => [(h0, .inr (2, [.ref a1, .ref a2, .ref a3, .ref a4, .int (nI im), .ref a5, .ref a6, .ref a7, .int (nI lm), .int (nI rm), .int (nI pl), .ref a8, .int sd])), (a2, aI G 54 (fl (itF Rm (ftN Rm a))))])) (([.ref h0, .int (nI a)] : List Value).toArray) s 0 0 (fA [(h0, .inr (2, [.ref a1, .ref a2, .ref a3, .ref a4, .int (nI im), .ref a5, .ref a6, .ref a7, .int (nI lm), .int (nI rm), .int (nI pl), .ref a8, .int sd])), (a2, aI G 54 (fl Rm))])) (F0 m 2 ls []) := by
    intro fu
    induction fu with
    | zero => intro i H locs ls hfu; exact absurd hfu (Nat.not_lt_zero _)
    | succ fu ih_2 =>
      intro i H locs ls hfu hi hP hw hl
      refine lv_iload_n xx xb dX2_fallsIn_2 rfl (lv_at hl 2 rfl) ?_
      refine lv_bipush (v := nI 99) xx xb dX2_fallsIn_3 (by decide) ?_
      refine lv_icmp_gt (tgt := 38) xx xb dX2_fallsIn_5 (by decide) (fun c_5 => ?_) (fun c_5 => ?_)
      · skip
        have c_5 := lt_c (tN (by omega)) (tN (by omega)) c_5
        refine lv_bipush (v := (-9)) xx xb dX2_fallsIn_38 (by decide) ?_
        have hft : ftN Rm a = 100 := by rw [show 100 = i by omega]; exact lf_eq _ _ _ (by omega) hP (fun q => absurd q (by omega))
        exact rt_i C hw () (by first | (rw [hft]; exact (ftI_lt (by omega)).symm) | (rw [hft]; done) | (rw [hft]; rfl)) (by first | (rw [hft]; done) | (have e : i = 100 := (by omega); rw [hft, ← e]; done)) dX2_fallsIn_40
      · skip
        have c_5 := nlt_c (tN (by omega)) (tN (by omega)) c_5
        have h4 := (OK_itF hR i).2.2.2 a (by rw [itF_00]; exact ha)
        refine lv_aload_n xx xb dX2_fallsIn_8 rfl (lv_at hl 0 rfl) ?_
        refine m_get C hw 0 rfl fk_X2_13 rfl dX2_fallsIn_9 ?_
        refine lv_iload_n xx xb dX2_fallsIn_12 rfl (lv_at hl 1 rfl) ?_
        refine lv_iconst (v := nI 3) xx xb dX2_fallsIn_13 (by decide) ?_
        have hM := kX2_of l G a 3 
        refine cs_i C hw hM ysX2_of ml_X2_44 rfl [] rfl rfl (fun _ => (rfl : ([] : List Nat) = [])) (by decide) ⟨Nat.zero_le _, Nat.zero_le _⟩ hl.1 rfl (Nat.le_of_ble_eq_true rfl) dX2_fallsIn_14 (fun r _ H locs hr hw => ?_)
        have hw : Wd G (fA [(h0, .inr (2, [.ref a1, .ref a2, .ref a3, .ref a4, .int (nI im), .ref a5, .ref a6, .ref a7, .int (nI lm), .int (nI rm), .int (nI pl), .ref a8, .int sd])), (a2, aI G 54 (fl Rm))]) s [(h0, .inr (2, [.ref a1, .ref a2, .ref a3, .ref a4, .int (nI im), .ref a5, .ref a6, .ref a7, .int (nI lm), .int (nI rm), .int (nI pl), .ref a8, .int sd])), (a2, aI G 54 (fl (itF Rm i)))] H locs := hw
        subst hr
        refine m_ald C hw 1 rfl (4 + 5 * a + 3) rfl (by omega) (by decide) dX2_fallsIn_17 ?_
        refine re_i (nI ((itF Rm i) 4 a)) (fl_k (itF Rm i) (by decide) (by decide)) ?_
        refine lv_iconst (v := nI 1) xx xb dX2_fallsIn_18 (by decide) ?_
        refine lv_icmp_ne (tgt := 24) xx xb dX2_fallsIn_19 (by decide) (fun c_19 => ?_) (fun c_19 => ?_)
        · skip
          have c_19 := ne_c (tN (by omega)) (tN (by omega)) c_19
          have hP2 : ∀ j, j < i + 1 → lieP Rm a j = false := fun j hj => by
            by_cases hj2 : j < i
            · exact hP j hj2
            · have : j = i := by omega
              subst this; unfold lieP; rw [decide_eq_false_iff_not]; omega
          refine lv_aload_n xx xb dX2_fallsIn_24 rfl (lv_at hl 0 rfl) ?_
          refine m_get C hw 0 rfl fk_X2_13 rfl dX2_fallsIn_25 ?_
          refine lv_iconst (v := nI 0) xx xb dX2_fallsIn_28 (by decide) ?_
          have hM := kX2_minute l G a2 (itF Rm i) 0 (OK_itF hR i) (AK_itF hR hK i) (by first | assumption | omega)
          refine cs_v C hw hM ysX2_minute ml_X2_80 rfl [1] rfl rfl (fun _ => (rfl : ([a2] : List Nat) = [a2])) (by decide) ⟨Nat.zero_le _, Nat.zero_le _⟩ hl.1 rfl (Nat.le_of_ble_eq_true rfl) dX2_fallsIn_29 (fun _ H locs hr hw => ?_)
          have hw : Wd G (fA [(h0, .inr (2, [.ref a1, .ref a2, .ref a3, .ref a4, .int (nI im), .ref a5, .ref a6, .ref a7, .int (nI lm), .int (nI rm), .int (nI pl), .ref a8, .int sd])), (a2, aI G 54 (fl Rm))]) s [(h0, .inr (2, [.ref a1, .ref a2, .ref a3, .ref a4, .int (nI im), .ref a5, .ref a6, .ref a7, .int (nI lm), .int (nI rm), .int (nI pl), .ref a8, .int sd])), (a2, aI G 54 (fl (miF (itF Rm i) 0)))] H locs := hw
          have hw : Wd G (fA [(h0, .inr (2, [.ref a1, .ref a2, .ref a3, .ref a4, .int (nI im), .ref a5, .ref a6, .ref a7, .int (nI lm), .int (nI rm), .int (nI pl), .ref a8, .int sd])), (a2, aI G 54 (fl Rm))]) s [(h0, .inr (2, [.ref a1, .ref a2, .ref a3, .ref a4, .int (nI im), .ref a5, .ref a6, .ref a7, .int (nI lm), .int (nI rm), .int (nI pl), .ref a8, .int sd])), (a2, aI G 54 (fl (itF Rm (i + 1))))] H locs := hw
          refine lv_iinc (v := nI (i + 1)) (lv' := [(2, .int (nI (i + 1))), (0, .ref h0), (1, .int (nI a))]) xx xb dX2_fallsIn_32 hl (k := 2) rfl (nI_add _ 1) (by decide) rfl (fun ls hl => ?_)
          refine lv_goto (tgt := 2) xx xb dX2_fallsIn_35 (by decide) ?_
          exact ih_2 (i + 1) H _ ls (by omega) (by omega) hP2 hw (lv_sub hl [1, 2, 0] rfl)
        · skip
          have c_19 := eq_c (tN (by omega)) (tN (by omega)) c_19
          refine lv_iload_n xx xb dX2_fallsIn_22 rfl (lv_at hl 2 rfl) ?_
          have hft : ftN Rm a = i := lf_eq _ _ _ (by omega) hP (fun _ => by unfold lieP; rw [decide_eq_true_eq]; omega)
          exact rt_i C hw () (by first | (rw [hft]; exact (ftI_lt (by omega)).symm) | (rw [hft]; done) | (rw [hft]; rfl)) (by first | (rw [hft]; done) | (have e : i = 100 := (by omega); rw [hft, ← e]; done)) dX2_fallsIn_23
  exact L_2 (_ + 1) 0 H _ ls (Nat.lt_succ_self _) (by omega) (fun j hj => absurd hj (Nat.not_lt_zero _)) hw (lv_sub hl [1, 2, 0] rfl)
set_option maxRecDepth 100000 in
set_option maxHeartbeats 4000000 in
theorem kX2_fallsOf (l : Launch) (G : GT) (h0 : Nat) (a1 : Nat) (a2 : Nat) (a3 : Nat) (a4 : Nat) (a5 : Nat) (a6 : Nat) (a7 : Nat) (a8 : Nat) (im : Nat) (lm : Nat) (rm : Nat) (pl : Nat) (sd : Int32) (R : RT) (Rm : RT) (a : Nat) (hR : OK R) (hK : AK R) (ha : a < R 0 0) : Ct l yX2_fallsOf cX2_fallsOf 2 (some .int) 5 110 [.ref h0, .int (nI a)] G [(h0, .inr (2, [.ref a1, .ref a2, .ref a3, .ref a4, .int (nI im), .ref a5, .ref a6, .ref a7, .int (nI lm), .int (nI rm), .int (nI pl), .ref a8, .int sd])), (a1, aI G 54 (fl R)), (a2, aI G 54 (fl Rm))] (QI G [(h0, .inr (2, [.ref a1, .ref a2, .ref a3, .ref a4, .int (nI im), .ref a5, .ref a6, .ref a7, .int (nI lm), .int (nI rm), .int (nI pl), .ref a8, .int sd])), (a1, aI G 54 (fl R)), (a2, aI G 54 (fl Rm))] (fun (r : Int32) (u : Unit) => r = ftI (ftN R a)) (fun u => [(h0, .inr (2, [.ref a1, .ref a2, .ref a3, .ref a4, .int (nI im), .ref a5, .ref a6, .ref a7, .int (nI lm), .int (nI rm), .int (nI pl), .ref a8, .int sd])), (a1, aI G 54 (fl R)), (a2, aI G 54 (fl (itF R (ftN R a))))])) := by
  refine en (by decide +kernel) (Nat.le_of_ble_eq_true rfl) ?_
  intro p e s m below meth c ls H locs C hl hw
  have xx := C.1
  have xb := C.2.1
  have hw : Wd G (fA [(h0, .inr (2, [.ref a1, .ref a2, .ref a3, .ref a4, .int (nI im), .ref a5, .ref a6, .ref a7, .int (nI lm), .int (nI rm), .int (nI pl), .ref a8, .int sd])), (a1, aI G 54 (fl R)), (a2, aI G 54 (fl Rm))]) s [(h0, .inr (2, [.ref a1, .ref a2, .ref a3, .ref a4, .int (nI im), .ref a5, .ref a6, .ref a7, .int (nI lm), .int (nI rm), .int (nI pl), .ref a8, .int sd])), (a1, aI G 54 (fl R)), (a2, aI G 54 (fl Rm))] H locs := hw
  have hl : lv_has ls 2 [(0, .ref h0), (1, .int (nI a))] := hl
  refine lv_aload_n xx xb dX2_fallsOf_0 rfl (lv_at hl 0 rfl) ?_
  refine m_get C hw 0 rfl fk_X2_9 rfl dX2_fallsOf_1 ?_
  refine lv_aload_n xx xb dX2_fallsOf_4 rfl (lv_at hl 0 rfl) ?_
  refine m_get C hw 0 rfl fk_X2_13 rfl dX2_fallsOf_5 ?_
  have hM := kX2_copies l G a1 a2 (fl R) (fl Rm) 
  refine cs_v C hw hM ysX2_copies ml_X2_121 rfl [1, 2] rfl rfl (fun _ => (rfl : ([a1, a2] : List Nat) = [a1, a2])) (by decide) ⟨Nat.zero_le _, Nat.zero_le _⟩ hl.1 rfl (Nat.le_of_ble_eq_true rfl) dX2_fallsOf_8 (fun _ H locs hr hw => ?_)
  have hw : Wd G (fA [(h0, .inr (2, [.ref a1, .ref a2, .ref a3, .ref a4, .int (nI im), .ref a5, .ref a6, .ref a7, .int (nI lm), .int (nI rm), .int (nI pl), .ref a8, .int sd])), (a1, aI G 54 (fl R)), (a2, aI G 54 (fl Rm))]) s [(h0, .inr (2, [.ref a1, .ref a2, .ref a3, .ref a4, .int (nI im), .ref a5, .ref a6, .ref a7, .int (nI lm), .int (nI rm), .int (nI pl), .ref a8, .int sd])), (a1, aI G 54 (fl R)), (a2, aI G 54 (fl R))] H locs := hw
  refine lv_aload_n xx xb dX2_fallsOf_11 rfl (lv_at hl 0 rfl) ?_
  refine lv_iload_n xx xb dX2_fallsOf_12 rfl (lv_at hl 1 rfl) ?_
  have hM := kX2_fallsIn l G h0 a1 a2 a3 a4 a5 a6 a7 a8 im lm rm pl sd R a (by first | assumption | omega) (by first | assumption | omega) (by first | assumption | omega)
  refine cv_i C hw hM yvX2_fallsIn ml_X2_141 0 rfl rfl rfl [0, 2] rfl rfl (fun _ => (rfl : ([h0, a2] : List Nat) = [h0, a2])) (by decide) ⟨Nat.zero_le _, Nat.zero_le _⟩ hl.1 rfl (Nat.le_of_ble_eq_true rfl) dX2_fallsOf_13 (fun r _ H locs hr hw => ?_)
  have hw : Wd G (fA [(h0, .inr (2, [.ref a1, .ref a2, .ref a3, .ref a4, .int (nI im), .ref a5, .ref a6, .ref a7, .int (nI lm), .int (nI rm), .int (nI pl), .ref a8, .int sd])), (a1, aI G 54 (fl R)), (a2, aI G 54 (fl Rm))]) s [(h0, .inr (2, [.ref a1, .ref a2, .ref a3, .ref a4, .int (nI im), .ref a5, .ref a6, .ref a7, .int (nI lm), .int (nI rm), .int (nI pl), .ref a8, .int sd])), (a1, aI G 54 (fl R)), (a2, aI G 54 (fl (itF R (ftN R a))))] H locs := hw
  subst hr
  exact rt_i C hw () rfl rfl dX2_fallsOf_16
