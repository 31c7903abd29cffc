noncomputable def rbN (R : RT) : Nat := lf (fun a => decide (R 4 a = 1) && heldF R a) (R 0 0)
/-- the least that LIES and, set up, is HELD; 10 if none -/
noncomputable def rbO (R : RT) : Nat := if rbN R < R 0 0 then rbN R else 10
theorem rbO_s {R : RT} {i : Nat} (hi : i < R 0 0) (hP : ∀ j, j < i → (decide (R 4 j = 1) && heldF R j) = false) (h1 : R 4 i = 1) (h2 : heldF R i = true) : rbO R = i := by
  have e : rbN R = i := lf_eq _ _ _ (by omega) hP (fun _ => by simp [h1, h2])
  unfold rbO; rw [e, if_pos hi]
theorem rbO_n {R : RT} (hP : ∀ j, j < R 0 0 → (decide (R 4 j = 1) && heldF R j) = false) : rbO R = 10 := by
  have e : rbN R = R 0 0 := lf_eq _ _ _ (Nat.le_refl _) hP (fun q => absurd q (Nat.lt_irrefl _))
  unfold rbO; rw [e, if_neg (Nat.lt_irrefl _)]
theorem rbO_lt {R : RT} (h : rbO R ≠ 10) : rbO R < R 0 0 ∧ R 4 (rbO R) = 1 ∧ heldF R (rbO R) = true := by
  unfold rbO at h ⊢
  by_cases q : rbN R < R 0 0
  · rw [if_pos q]
    have := lf_at (fun a => decide (R 4 a = 1) && heldF R a) (R 0 0) q
    simp only [Bool.and_eq_true, decide_eq_true_eq] at this
    exact ⟨q, this.1, this.2⟩
  · rw [if_neg q] at h; exact absurd rfl h
theorem rbO_le (R : RT) (h : OK R) : rbO R = 10 ∨ rbO R < R 0 0 := by
  by_cases q : rbO R = 10
  · exact Or.inl q
  · exact Or.inr (rbO_lt q).1
theorem lN_ne0 {y : Nat} (h : y ≠ 0) (hy : y < 2 ^ 63) : ¬ lN y = 0 := fun q => h ((pk_lEQ hy (by decide)).mp q)
set_option maxRecDepth 100000 in
set_option maxHeartbeats 4000000 in
theorem kX2_rebuilt (l : Launch) (G : GT) (ar : Nat) (R : RT) (hR : OK R) : Ct l yX2_rebuilt cX2_rebuilt 2 (some .int) 3 64 [.ref ar] G [(ar, aI G 54 (fl R))] (QI G [(ar, aI G 54 (fl R))] (fun (r : Int32) (u : Unit) => r = onI (rbO R)) (fun u => [(ar, aI G 54 (fl R))])) := by
  refine en (by decide +kernel) (Nat.le_of_ble_eq_true rfl) ?_
  intro p e s m below meth c ls H locs C hl hw
  have xx := C.1
  have xb := C.2.1
  have hw : Wd G (fA [(ar, aI G 54 (fl R))]) s [(ar, aI G 54 (fl R))] H locs := hw
  have hl : lv_has ls 2 [(0, .ref ar)] := hl
  obtain ⟨hn, hf0, hpr, hA⟩ := id hR
  refine lv_iconst (v := nI 0) xx xb dX2_rebuilt_0 (by decide) ?_
  refine lv_istore_n (lv' := [(1, .int (nI 0)), (0, .ref ar)]) xx xb dX2_rebuilt_1 rfl hl (by decide) rfl (fun ls hl => ?_)
  have L_2 : ∀ (fu : Nat) (i : Nat) (H : Heap) (locs : List Loc) (ls : Array Slot), 10 - i < fu → (i ≤ R 0 0) → (∀ j, j < i → (decide (R 4 j = 1) && heldF R j) = false) → Wd G (fA [(ar, aI G 54 (fl R))]) s [(ar, aI G 54 (fl R))] H locs → lv_has ls 2 [(0, .ref ar), (1, .int (nI i))] → W p l e ({ frames := 3, cells := 0, slots := 0, locals := 64 }) s m (([.ref ar] : List Value).toArray) below meth c H locs 0 0 (MQ below (QI G [(ar, aI G 54 (fl R))] (fun (r : Int32) (u : Unit) => r = onI (rbO R)) (fun u => [(ar, aI G 54 (fl R))])) (([.ref ar] : List Value).toArray) s 0 0 (fA [(ar, aI G 54 (fl R))])) (F0 m 2 ls []) := by
    intro fu
    induction fu with
    | zero => intro i H locs ls hfu; exact absurd hfu (Nat.not_lt_zero _)
    | succ fu ih_2 =>
      intro i H locs ls hfu hi hP hw hl
      refine lv_iload_n xx xb dX2_rebuilt_2 rfl (lv_at hl 1 rfl) ?_
      refine lv_aload_n xx xb dX2_rebuilt_3 rfl (lv_at hl 0 rfl) ?_
      refine lv_iconst (v := nI 0) xx xb dX2_rebuilt_4 (by decide) ?_
      refine m_ald C hw 0 rfl 0 rfl (by omega) (by decide) dX2_rebuilt_5 ?_
      refine re_i (nI (R 0 0)) (fl_h R (by decide)) ?_
      refine lv_icmp_ge (tgt := 36) xx xb dX2_rebuilt_6 (by decide) (fun c_6 => ?_) (fun c_6 => ?_)
      · skip
        have c_6 := le_c (tN (by omega)) (tN (by omega)) c_6
        refine lv_bipush (v := (-9)) xx xb dX2_rebuilt_36 (by decide) ?_
        exact rt_i C hw () (by first | (rw [rbO_s (by omega) hP (by omega) c_25, onI_lt (by omega)]; done) | (rw [rbO_n (fun j hj => hP j (by omega))]; rfl)) rfl dX2_rebuilt_38
      · skip
        have c_6 := nle_c (tN (by omega)) (tN (by omega)) c_6
        obtain ⟨q1, q2, q3, q4, q5⟩ := hA i (by omega)
        refine lv_aload_n xx xb dX2_rebuilt_9 rfl (lv_at hl 0 rfl) ?_
        refine lv_iload_n xx xb dX2_rebuilt_10 rfl (lv_at hl 1 rfl) ?_
        refine lv_iconst (v := nI 3) xx xb dX2_rebuilt_11 (by decide) ?_
        have hM := kX2_of l G i 3 
        refine cs_i C hw hM ysX2_of ml_X2_44 rfl [] rfl rfl (fun _ => (rfl : ([] : List Nat) = [])) (by decide) ⟨Nat.zero_le _, Nat.zero_le _⟩ hl.1 rfl (Nat.le_of_ble_eq_true rfl) dX2_rebuilt_12 (fun r _ H locs hr hw => ?_)
        have hw : Wd G (fA [(ar, aI G 54 (fl R))]) s [(ar, aI G 54 (fl R))] H locs := hw
        subst hr
        refine m_ald C hw 0 rfl (4 + 5 * i + 3) rfl (by omega) (by decide) dX2_rebuilt_15 ?_
        refine re_i (nI (R 4 i)) (fl_k R (by decide) (by decide)) ?_
        refine lv_iconst (v := nI 1) xx xb dX2_rebuilt_16 (by decide) ?_
        refine lv_icmp_ne (tgt := 30) xx xb dX2_rebuilt_17 (by decide) (fun c_17 => ?_) (fun c_17 => ?_)
        · skip
          have c_17 := ne_c (tN (by omega)) (tN (by omega)) c_17
          have hP2 : ∀ j, j < i + 1 → (decide (R 4 j = 1) && heldF R j) = false := fun j hj => by
            by_cases hj2 : j < i
            · exact hP j hj2
            · have e : j = i := (by omega)
              rw [e]
              first | (have z : ¬ R 4 i = 1 := (by omega); simp [z]; done) | simp [c_25]
          refine lv_iinc (v := nI (i + 1)) (lv' := [(1, .int (nI (i + 1))), (0, .ref ar)]) xx xb dX2_rebuilt_30 hl (k := 1) rfl (nI_add _ 1) (by decide) rfl (fun ls hl => ?_)
          refine lv_goto (tgt := 2) xx xb dX2_rebuilt_33 (by decide) ?_
          exact ih_2 (i + 1) H _ ls (by omega) (by omega) hP2 hw (lv_sub hl [1, 0] rfl)
        · skip
          have c_17 := eq_c (tN (by omega)) (tN (by omega)) c_17
          refine lv_aload_n xx xb dX2_rebuilt_20 rfl (lv_at hl 0 rfl) ?_
          refine lv_iload_n xx xb dX2_rebuilt_21 rfl (lv_at hl 1 rfl) ?_
          have hM := kX2_isHeld l G ar R i (by first | assumption | omega) (by first | assumption | omega)
          refine cs_i C hw hM ysX2_isHeld ml_X2_70 rfl [0] rfl rfl (fun _ => (rfl : ([ar] : List Nat) = [ar])) (by decide) ⟨Nat.zero_le _, Nat.zero_le _⟩ hl.1 rfl (Nat.le_of_ble_eq_true rfl) dX2_rebuilt_22 (fun r _ H locs hr hw => ?_)
          have hw : Wd G (fA [(ar, aI G 54 (fl R))]) s [(ar, aI G 54 (fl R))] H locs := hw
          subst hr
          refine lv_if_eq (tgt := 30) xx xb dX2_rebuilt_25 (by decide) (fun c_25 => ?_) (fun c_25 => ?_)
          · skip
            have c_25 := b0_c c_25
            have hP2 : ∀ j, j < i + 1 → (decide (R 4 j = 1) && heldF R j) = false := fun j hj => by
              by_cases hj2 : j < i
              · exact hP j hj2
              · have e : j = i := (by omega)
                rw [e]
                first | (have z : ¬ R 4 i = 1 := (by omega); simp [z]; done) | simp [c_25]
            refine lv_iinc (v := nI (i + 1)) (lv' := [(1, .int (nI (i + 1))), (0, .ref ar)]) xx xb dX2_rebuilt_30 hl (k := 1) rfl (nI_add _ 1) (by decide) rfl (fun ls hl => ?_)
            refine lv_goto (tgt := 2) xx xb dX2_rebuilt_33 (by decide) ?_
            exact ih_2 (i + 1) H _ ls (by omega) (by omega) hP2 hw (lv_sub hl [1, 0] rfl)
          · skip
            have c_25 := b1_c c_25
            refine lv_iload_n xx xb dX2_rebuilt_28 rfl (lv_at hl 1 rfl) ?_
            exact rt_i C hw () (by first | (rw [rbO_s (by omega) hP (by omega) c_25, onI_lt (by omega)]; done) | (rw [rbO_n (fun j hj => hP j (by omega))]; rfl)) rfl dX2_rebuilt_29
  exact L_2 (_ + 1) 0 H _ ls (Nat.lt_succ_self _) (by omega) (fun j hj => absurd hj (Nat.not_lt_zero _)) hw (lv_sub hl [1, 0] rfl)
set_option maxRecDepth 100000 in
set_option maxHeartbeats 4000000 in
theorem kX2_gcd (l : Launch) (G : GT) (a : Nat) (b : Nat) (ha : a < 4611686018427387904) (hb : b < 4611686018427387904) : Ct l yX2_gcd cX2_gcd 10 (some .long) 0 0 [.long (lN a), .long (lN b)] G [] (QL G [] (fun (r : Int64) (u : Unit) => r = lN (Nat.gcd a b)) (fun u => [])) := by
  refine en (by decide +kernel) (Nat.le_of_ble_eq_true rfl) ?_
  intro p e s m below meth c ls H locs C hl hw
  have xx := C.1
  have xb := C.2.1
  have hw : Wd G (fA []) s [] H locs := hw
  have hl : lv_has ls 10 [(0, .long (lN a)), (2, .long (lN b))] := hl
  refine lv_lload_n xx xb dX2_gcd_0 rfl (lv_at hl 0 rfl) ?_
  refine lv_lstore (lv' := [(4, .long (lN a)), (0, .long (lN a)), (2, .long (lN b))]) xx xb dX2_gcd_1 hl (by decide) rfl (fun ls hl => ?_)
  refine lv_lload_n xx xb dX2_gcd_3 rfl (lv_at hl 2 rfl) ?_
  refine lv_lstore (lv' := [(6, .long (lN b)), (4, .long (lN a)), (0, .long (lN a)), (2, .long (lN b))]) xx xb dX2_gcd_4 hl (by decide) rfl (fun ls hl => ?_)
  have L_6 : ∀ (fu : Nat) (x : Nat) (y : Nat) (H : Heap) (locs : List Loc) (ls : Array Slot), y < fu → (x < 4611686018427387904) → (y < 4611686018427387904) → (Nat.gcd x y = Nat.gcd a b) → Wd G (fA []) s [] H locs → lv_has ls 10 [(4, .long (lN x)), (6, .long (lN y))] → W p l e ({ frames := 0, cells := 0, slots := 0, locals := 0 }) s m (([.long (lN a), .long (lN b)] : List Value).toArray) below meth c H locs 0 0 (MQ below (QL G [] (fun (r : Int64) (u : Unit) => r = lN (Nat.gcd a b)) (fun u => [])) (([.long (lN a), .long (lN b)] : List Value).toArray) s 0 0 (fA [])) (F0 m 6 ls []) := by
    intro fu
    induction fu with
    | zero => intro x y H locs ls hfu; exact absurd hfu (Nat.not_lt_zero _)
    | succ fu ih_6 =>
      intro x y H locs ls hfu hx hy hg hw hl
      refine lv_lload xx xb dX2_gcd_6 (lv_at hl 1 rfl) ?_
      refine lv_lconst (v := lN 0) xx xb dX2_gcd_8 rfl ?_
      refine W.lcmp xx xb dX2_gcd_9 ?_
      refine lv_if_eq (tgt := 31) xx xb dX2_gcd_10 (by decide) (fun c_10 => ?_) (fun c_10 => ?_)
      · skip
        have c_10 := (lg_z (by omega) (by omega)).mp c_10
        refine lv_lload xx xb dX2_gcd_31 (lv_at hl 0 rfl) ?_
        exact rt_l C hw () (by rw [← hg, show y = 0 by omega, Nat.gcd_zero_right]) rfl dX2_gcd_33
      · skip
        have c_10 := mt (lg_z (by omega) (by omega)).mpr c_10
        have hm : x % y < y := Nat.mod_lt _ (by omega)
        have hg2 : Nat.gcd y (x % y) = Nat.gcd a b := by rw [← hg, Nat.gcd_comm x y, Nat.gcd_rec y x, Nat.gcd_comm]
        refine lv_lload xx xb dX2_gcd_13 (lv_at hl 0 rfl) ?_
        refine lv_lload xx xb dX2_gcd_15 (lv_at hl 1 rfl) ?_
        refine lv_lrem xx xb dX2_gcd_17 (lN_ne0 (by omega) (by omega)) ?_
        refine re_l (lN (x % y)) (pk_lRem (by omega) (by omega) (by omega)) ?_
        refine lv_lstore (lv' := [(8, .long (lN (x % y))), (4, .long (lN x)), (6, .long (lN y))]) xx xb dX2_gcd_18 hl (by decide) rfl (fun ls hl => ?_)
        refine lv_lload xx xb dX2_gcd_20 (lv_at hl 2 rfl) ?_
        refine lv_lstore (lv' := [(4, .long (lN y)), (8, .long (lN (x % y))), (6, .long (lN y))]) xx xb dX2_gcd_22 hl (by decide) rfl (fun ls hl => ?_)
        refine lv_lload xx xb dX2_gcd_24 (lv_at hl 1 rfl) ?_
        refine lv_lstore (lv' := [(6, .long (lN (x % y))), (4, .long (lN y)), (8, .long (lN (x % y)))]) xx xb dX2_gcd_26 hl (by decide) rfl (fun ls hl => ?_)
        refine lv_goto (tgt := 6) xx xb dX2_gcd_28 (by decide) ?_
        exact ih_6 y (x % y) H _ ls (by omega) (by omega) (by omega) hg2 hw (lv_sub hl [1, 0] rfl)
  exact L_6 (_ + 1) a b H _ ls (Nat.lt_succ_self _) ha hb rfl hw (lv_sub hl [1, 0] rfl)
set_option maxRecDepth 100000 in
set_option maxHeartbeats 4000000 in
theorem kX2_partOf (l : Launch) (G : GT) (x : Nat) (y : Nat) (q : Nat) (hx : x < 4611686018427387904) (hy : y < 4611686018427387904) (hy0 : 0 < y) (hq : q ≤ 1) : Ct l yX2_partOf cX2_partOf 5 (some .long) 1 29 [.long (lN x), .long (lN y), .int (nI q)] G [] (QL G [] (fun (r : Int64) (u : Unit) => r = lN (if x = 0 then q else (if q = 0 then x else y) / Nat.gcd x y)) (fun u => [])) := by
  refine en (by decide +kernel) (Nat.le_of_ble_eq_true rfl) ?_
  intro p e s m below meth c ls H locs C hl hw
  have xx := C.1
  have xb := C.2.1
  have hw : Wd G (fA []) s [] H locs := hw
  have hl : lv_has ls 5 [(0, .long (lN x)), (2, .long (lN y)), (4, .int (nI q))] := hl
  have hgp : 0 < Nat.gcd x y := Nat.gcd_pos_of_pos_right x hy0
  have hgl : Nat.gcd x y ≤ y := Nat.gcd_le_right x hy0
  refine lv_lload_n xx xb dX2_partOf_0 rfl (lv_at hl 0 rfl) ?_
  refine lv_lconst (v := lN 0) xx xb dX2_partOf_1 rfl ?_
  refine W.lcmp xx xb dX2_partOf_2 ?_
  refine lv_if_ne (tgt := 10) xx xb dX2_partOf_3 (by decide) (fun c_3 => ?_) (fun c_3 => ?_)
  · skip
    have c_3 := mt (lg_z (by omega) (by omega)).mpr c_3
    refine lv_iload xx xb dX2_partOf_10 (lv_at hl 2 rfl) ?_
    refine lv_if_ne (tgt := 19) xx xb dX2_partOf_12 (by decide) (fun c_12 => ?_) (fun c_12 => ?_)
    · skip
      have c_12 := ne_c (tN (by omega)) Int32.toInt_zero c_12
      refine lv_lload_n xx xb dX2_partOf_19 rfl (lv_at hl 1 rfl) ?_
      refine lv_lload_n xx xb dX2_partOf_20 rfl (lv_at hl 0 rfl) ?_
      refine lv_lload_n xx xb dX2_partOf_21 rfl (lv_at hl 1 rfl) ?_
      have hM := kX2_gcd l G x y (by first | assumption | omega) (by first | assumption | omega)
      refine cs_l C hw hM ysX2_gcd ml_X2_165 rfl [] rfl rfl (fun _ => (rfl : ([] : List Nat) = [])) (by decide) ⟨Nat.zero_le _, Nat.zero_le _⟩ hl.1 rfl (Nat.le_of_ble_eq_true rfl) dX2_partOf_22 (fun r _ H locs hr hw => ?_)
      have hw : Wd G (fA []) s [] H locs := hw
      subst hr
      refine lv_ldiv xx xb dX2_partOf_25 (lN_ne0 (by omega) (by omega)) ?_
      refine re_l (lN (y / (Nat.gcd x y))) (pk_lDiv (by omega) (by omega) (by omega)) ?_
      exact rt_l C hw () (by first | (rw [if_pos (by omega)]; done) | (rw [if_neg (by omega), if_pos (by omega)]; done) | (rw [if_neg (by omega), if_neg (by omega)]; done)) rfl dX2_partOf_26
    · skip
      have c_12 := eq_c (tN (by omega)) Int32.toInt_zero c_12
      refine lv_lload_n xx xb dX2_partOf_15 rfl (lv_at hl 0 rfl) ?_
      refine lv_goto (tgt := 20) xx xb dX2_partOf_16 (by decide) ?_
      refine lv_lload_n xx xb dX2_partOf_20 rfl (lv_at hl 0 rfl) ?_
      refine lv_lload_n xx xb dX2_partOf_21 rfl (lv_at hl 1 rfl) ?_
      have hM := kX2_gcd l G x y (by first | assumption | omega) (by first | assumption | omega)
      refine cs_l C hw hM ysX2_gcd ml_X2_165 rfl [] rfl rfl (fun _ => (rfl : ([] : List Nat) = [])) (by decide) ⟨Nat.zero_le _, Nat.zero_le _⟩ hl.1 rfl (Nat.le_of_ble_eq_true rfl) dX2_partOf_22 (fun r _ H locs hr hw => ?_)
      have hw : Wd G (fA []) s [] H locs := hw
      subst hr
      refine lv_ldiv xx xb dX2_partOf_25 (lN_ne0 (by omega) (by omega)) ?_
      refine re_l (lN (x / (Nat.gcd x y))) (pk_lDiv (by omega) (by omega) (by omega)) ?_
      exact rt_l C hw () (by first | (rw [if_pos (by omega)]; done) | (rw [if_neg (by omega), if_pos (by omega)]; done) | (rw [if_neg (by omega), if_neg (by omega)]; done)) rfl dX2_partOf_26
  · skip
    have c_3 := (lg_z (by omega) (by omega)).mp c_3
    refine lv_iload xx xb dX2_partOf_6 (lv_at hl 2 rfl) ?_
    refine lv_i2l (v := lN q) xx xb dX2_partOf_8 (nI_l (by omega)) ?_
    exact rt_l C hw () (by first | (rw [if_pos (by omega)]; done) | (rw [if_neg (by omega), if_pos (by omega)]; done) | (rw [if_neg (by omega), if_neg (by omega)]; done)) rfl dX2_partOf_9
