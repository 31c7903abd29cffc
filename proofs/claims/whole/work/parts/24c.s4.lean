theorem cp_nat : Cond.native arraycopyName ∈ TB := tbm 237 (by decide +kernel) (by decide +kernel)
theorem cp_stat : Cond.static arraycopyName ∈ TB := tbm 236 (by decide +kernel) (by decide +kernel)
theorem cp_init : Cond.initialized "java/lang/System" ∈ TB := tbm 53 (by decide +kernel) (by decide +kernel)
theorem cp_link : Cond.methodLink RX0 41 arraycopyName ∈ TB := tbm 235 (by decide +kernel) (by decide +kernel)
def onZ (o : Nat) : Int := if o < 10 then ((o : Nat) : Int) else -9
theorem onI_z {o : Nat} (ho : o ≤ 10) : (onI o).toInt = onZ o := by
  have : ∀ o, o ≤ 10 → (onI o).toInt = onZ o := by decide +kernel
  exact this o ho
theorem onZ_y {o : Nat} (h : 0 ≤ onZ o) : o < 10 ∧ onZ o = (o : Int) := by
  unfold onZ at h ⊢
  by_cases q : o < 10
  · rw [if_pos q]; exact ⟨q, rfl⟩
  · rw [if_neg q] at h; omega
theorem onZ_10 {o n : Nat} (ho : o = 10 ∨ o < n) (hn : n ≤ 10) (h : ¬ (0 ≤ onZ o ∧ onZ o < ((n : Nat) : Int))) : o = 10 := by
  rcases ho with q | q
  · exact q
  · exfalso; apply h
    unfold onZ; rw [if_pos (by omega)]; omega
theorem surB_s {R : RT} {i : Nat} (h : surB R i = true) (h2 : R 4 i = 0 → heldF R i = true) : surB R (i + 1) = true := by
  show (surB R i && (!decide (R 4 i = 0) || heldF R i)) = true
  rw [h]
  by_cases q : R 4 i = 0
  · simp [h2 q]
  · simp [q]
theorem surB_z {R : RT} {i : Nat} (h4 : R 4 i = 0) (h : ¬ heldF R i = true) : ∀ d, surB R (i + 1 + d) = false
  | 0 => surB_f h4 h
  | d + 1 => by
    show (surB R (i + 1 + d) && _) = false
    rw [surB_z h4 h d]; rfl
def hu (R : RT) (f u : Nat) : Nat := if u < 10 then hgt R f u + 1 else 0
theorem hu_s (R : RT) (f k : Nat) : hgt R (f + 1) k = hu R f (R 3 k) := rfl
theorem hu_y {R : RT} {f u : Nat} (h : u < 10) : hu R (f + 1) u = hu R f (R 3 u) + 1 := by unfold hu; rw [if_pos h]; rfl
theorem hu_10 (R : RT) (f : Nat) : hu R f 10 = 0 := rfl
theorem rch_fu (R : RT) (b : Nat) (hA : ∀ k, k < 10 → R 3 k < 10 → R 3 k < k) (hb : b < 10) : ∀ (f k : Nat), k + 1 ≤ f → k < 10 → ∀ f', k + 1 ≤ f' → rch R b f k = rch R b f' k
  | 0, k, h, _, _, _ => by omega
  | f + 1, k, h, hk, 0, h' => by omega
  | f + 1, k, h, hk, f' + 1, h' => by
    by_cases q : k = b
    · subst q; rw [rch_b, rch_b]
    · rw [rch_s R q hk, rch_s R q hk]
      by_cases z : R 3 k < 10
      · have := hA k hk z
        exact rch_fu R b hA hb f (R 3 k) (by omega) z f' (by omega)
      · by_cases z2 : R 3 k = 10
        · rw [z2, rch_10 R hb, rch_10 R hb]
        · have g : ∀ f, rch R b f (R 3 k) = false := fun f => by
            cases f
            · show decide (R 3 k = b) = false; simp; omega
            · show (if R 3 k = b then true else if R 3 k < 10 then _ else false) = false
              rw [if_neg (by omega), if_neg z]
          rw [g, g]
set_option maxRecDepth 100000 in
set_option maxHeartbeats 4000000 in
theorem kX0_firstToSetUp (l : Launch) (G : GT) (so : Nat) (ak : Nat) (af : Nat) (ab : Nat) (aa : Nat) (mi : Nat) (R : RT) (hR : OK R) (hp : R 0 3 = 0) : Ct l yX0_firstToSetUp cX0_firstToSetUp 2 (some .int) 1 22 [.ref so] G [(so, .inr (0, [.int (nI (sN R)), .int (nI mi), .int (nI (sF R)), .int (nI (sS R)), .int (nI (sL R)), .ref ak, .ref af, .ref ab, .ref aa])), (ak, aI G 10 (sK R)), (af, aI G 10 (sG R)), (ab, aI G 10 (sO R)), (aa, aI G 10 (sA R))] (QI G [(so, .inr (0, [.int (nI (sN R)), .int (nI mi), .int (nI (sF R)), .int (nI (sS R)), .int (nI (sL R)), .ref ak, .ref af, .ref ab, .ref aa])), (ak, aI G 10 (sK R)), (af, aI G 10 (sG R)), (ab, aI G 10 (sO R)), (aa, aI G 10 (sA R))] (fun (r : Int32) (u : Unit) => r = onI (rbO R)) (fun u => [(so, .inr (0, [.int (nI (sN R)), .int (nI mi), .int (nI (sF R)), .int (nI (sS R)), .int (nI (sL R)), .ref ak, .ref af, .ref ab, .ref aa])), (ak, aI G 10 (sK R)), (af, aI G 10 (sG R)), (ab, aI G 10 (sO R)), (aa, aI G 10 (sA R))])) := by
  refine en (by decide +kernel) (Nat.le_of_ble_eq_true rfl) ?_
  intro p e s m below meth c ls H locs C hl hw
  have xx := C.1
  have xb := C.2.1
  have hw : Wd G (fA [(so, .inr (0, [.int (nI (sN R)), .int (nI mi), .int (nI (sF R)), .int (nI (sS R)), .int (nI (sL R)), .ref ak, .ref af, .ref ab, .ref aa])), (ak, aI G 10 (sK R)), (af, aI G 10 (sG R)), (ab, aI G 10 (sO R)), (aa, aI G 10 (sA R))]) s [(so, .inr (0, [.int (nI (sN R)), .int (nI mi), .int (nI (sF R)), .int (nI (sS R)), .int (nI (sL R)), .ref ak, .ref af, .ref ab, .ref aa])), (ak, aI G 10 (sK R)), (af, aI G 10 (sG R)), (ab, aI G 10 (sO R)), (aa, aI G 10 (sA R))] H locs := hw
  have hl : lv_has ls 2 [(0, .ref so)] := hl
  obtain ⟨hn, hf0, hpr, hA⟩ := id hR
  refine lv_iconst (v := nI 0) xx xb dX0_firstToSetUp_0 (by decide) ?_
  refine lv_istore_n (lv' := [(1, .int (nI 0)), (0, .ref so)]) xx xb dX0_firstToSetUp_1 rfl hl (by decide) rfl (fun ls hl => ?_)
  have L_2 : ∀ (fu : Nat) (i : Nat) (H : Heap) (locs : List Loc) (ls : Array Slot), 10 - i < fu → (i ≤ R 0 0) → (∀ j, j < i → (decide (R 4 j = 1) && heldF R j) = false) → Wd G (fA [(so, .inr (0, [.int (nI (sN R)), .int (nI mi), .int (nI (sF R)), .int (nI (sS R)), .int (nI (sL R)), .ref ak, .ref af, .ref ab, .ref aa])), (ak, aI G 10 (sK R)), (af, aI G 10 (sG R)), (ab, aI G 10 (sO R)), (aa, aI G 10 (sA R))]) s [(so, .inr (0, [.int (nI (sN R)), .int (nI mi), .int (nI (sF R)), .int (nI (sS R)), .int (nI (sL R)), .ref ak, .ref af, .ref ab, .ref aa])), (ak, aI G 10 (sK R)), (af, aI G 10 (sG R)), (ab, aI G 10 (sO R)), (aa, aI G 10 (sA R))] H locs → lv_has ls 2 [(0, .ref so), (1, .int (nI i))] → W p l e ({ frames := 1, cells := 0, slots := 0, locals := 22 }) s m (([.ref so] : List Value).toArray) below meth c H locs 0 0 (MQ below (QI G [(so, .inr (0, [.int (nI (sN R)), .int (nI mi), .int (nI (sF R)), .int (nI (sS R)), .int (nI (sL R)), .ref ak, .ref af, .ref ab, .ref aa])), (ak, aI G 10 (sK R)), (af, aI G 10 (sG R)), (ab, aI G 10 (sO R)), (aa, aI G 10 (sA R))] (fun (r : Int32) (u : Unit) => r = onI (rbO R)) (fun u => [(so, .inr (0, [.int (nI (sN R)), .int (nI mi), .int (nI (sF R)), .int (nI (sS R)), .int (nI (sL R)), .ref ak, .ref af, .ref ab, .ref aa])), (ak, aI G 10 (sK R)), (af, aI G 10 (sG R)), (ab, aI G 10 (sO R)), (aa, aI G 10 (sA R))])) (([.ref so] : List Value).toArray) s 0 0 (fA [(so, .inr (0, [.int (nI (sN R)), .int (nI mi), .int (nI (sF R)), .int (nI (sS R)), .int (nI (sL R)), .ref ak, .ref af, .ref ab, .ref aa])), (ak, aI G 10 (sK R)), (af, aI G 10 (sG R)), (ab, aI G 10 (sO R)), (aa, aI G 10 (sA R))])) (F0 m 2 ls []) := by
    intro fu
    induction fu with
    | zero => intro i H locs ls hfu; exact absurd hfu (Nat.not_lt_zero _)
    | succ fu ih_2 =>
      intro i H locs ls hfu hi hP hw hl
      refine lv_iload_n xx xb dX0_firstToSetUp_2 rfl (lv_at hl 1 rfl) ?_
      refine lv_aload_n xx xb dX0_firstToSetUp_3 rfl (lv_at hl 0 rfl) ?_
      refine m_get C hw 0 rfl fk_X0_28 rfl dX0_firstToSetUp_4 ?_
      refine re_i (nI (R 0 0)) rfl ?_
      refine lv_icmp_ge (tgt := 34) xx xb dX0_firstToSetUp_7 (by decide) (fun c_7 => ?_) (fun c_7 => ?_)
      · skip
        have c_7 := le_c (tN (by omega)) (tN (by omega)) c_7
        refine lv_bipush (v := (-9)) xx xb dX0_firstToSetUp_34 (by decide) ?_
        exact rt_i C hw () (by first | (rw [rbO_s (by omega) hP c_15 ((held_0 hp i).trans c_23), onI_lt (by omega)]; done) | (rw [rbO_n (fun j hj => hP j (by omega))]; rfl)) rfl dX0_firstToSetUp_36
      · skip
        have c_7 := nle_c (tN (by omega)) (tN (by omega)) c_7
        obtain ⟨q1, q2, q3, q4, q5⟩ := hA i (by omega)
        refine lv_aload_n xx xb dX0_firstToSetUp_10 rfl (lv_at hl 0 rfl) ?_
        refine lv_iload_n xx xb dX0_firstToSetUp_11 rfl (lv_at hl 1 rfl) ?_
        have hM := kX0_lies l G so ak af ab aa mi R (nI i) ((i : Nat) : Int) (tN (by omega)) (by first | assumption | omega)
        refine cv_i C hw hM yvX0_lies ml_X0_51 0 rfl rfl rfl [0, 1, 2, 3, 4] rfl rfl (fun _ => (rfl : ([so, ak, af, ab, aa] : List Nat) = [so, ak, af, ab, aa])) (by decide) ⟨Nat.zero_le _, Nat.zero_le _⟩ hl.1 rfl (Nat.le_of_ble_eq_true rfl) dX0_firstToSetUp_12 (fun r _ H locs hr hw => ?_)
        have hw : Wd G (fA [(so, .inr (0, [.int (nI (sN R)), .int (nI mi), .int (nI (sF R)), .int (nI (sS R)), .int (nI (sL R)), .ref ak, .ref af, .ref ab, .ref aa])), (ak, aI G 10 (sK R)), (af, aI G 10 (sG R)), (ab, aI G 10 (sO R)), (aa, aI G 10 (sA R))]) s [(so, .inr (0, [.int (nI (sN R)), .int (nI mi), .int (nI (sF R)), .int (nI (sS R)), .int (nI (sL R)), .ref ak, .ref af, .ref ab, .ref aa])), (ak, aI G 10 (sK R)), (af, aI G 10 (sG R)), (ab, aI G 10 (sO R)), (aa, aI G 10 (sA R))] H locs := hw
        subst hr
        refine re_i (if R 4 i = 1 then 1 else 0) (st_i (by omega)) ?_
        refine lv_if_eq (tgt := 28) xx xb dX0_firstToSetUp_15 (by decide) (fun c_15 => ?_) (fun c_15 => ?_)
        · skip
          have c_15 := b0_c c_15
          have hP2 : ∀ j, j < i + 1 → (decide (R 4 j = 1) && heldF R j) = false := fun j hj => by
            by_cases hj2 : j < i
            · exact hP j hj2
            · have e : j = i := (by omega)
              rw [e, held_0 hp]
              first | (have z : ¬ R 4 i = 1 := c_15; simp [z]; done) | simp [c_23]
          refine lv_iinc (v := nI (i + 1)) (lv' := [(1, .int (nI (i + 1))), (0, .ref so)]) xx xb dX0_firstToSetUp_28 hl (k := 1) rfl (nI_add _ 1) (by decide) rfl (fun ls hl => ?_)
          refine lv_goto (tgt := 2) xx xb dX0_firstToSetUp_31 (by decide) ?_
          exact ih_2 (i + 1) H _ ls (by omega) (by omega) hP2 hw (lv_sub hl [1, 0] rfl)
        · skip
          have c_15 := b1_c c_15
          refine lv_aload_n xx xb dX0_firstToSetUp_18 rfl (lv_at hl 0 rfl) ?_
          refine lv_iload_n xx xb dX0_firstToSetUp_19 rfl (lv_at hl 1 rfl) ?_
          have hM := kX0_hasGround l G so ak af ab aa mi R i (by first | assumption | omega) (by first | assumption | omega)
          refine cv_i C hw hM yvX0_hasGround ml_X0_60 0 rfl rfl rfl [0, 1, 2, 3, 4] rfl rfl (fun _ => (rfl : ([so, ak, af, ab, aa] : List Nat) = [so, ak, af, ab, aa])) (by decide) ⟨Nat.zero_le _, Nat.zero_le _⟩ hl.1 rfl (Nat.le_of_ble_eq_true rfl) dX0_firstToSetUp_20 (fun r _ H locs hr hw => ?_)
          have hw : Wd G (fA [(so, .inr (0, [.int (nI (sN R)), .int (nI mi), .int (nI (sF R)), .int (nI (sS R)), .int (nI (sL R)), .ref ak, .ref af, .ref ab, .ref aa])), (ak, aI G 10 (sK R)), (af, aI G 10 (sG R)), (ab, aI G 10 (sO R)), (aa, aI G 10 (sA R))]) s [(so, .inr (0, [.int (nI (sN R)), .int (nI mi), .int (nI (sF R)), .int (nI (sS R)), .int (nI (sL R)), .ref ak, .ref af, .ref ab, .ref aa])), (ak, aI G 10 (sK R)), (af, aI G 10 (sG R)), (ab, aI G 10 (sO R)), (aa, aI G 10 (sA R))] H locs := hw
          subst hr
          refine lv_if_eq (tgt := 28) xx xb dX0_firstToSetUp_23 (by decide) (fun c_23 => ?_) (fun c_23 => ?_)
          · skip
            have c_23 := b0_c c_23
            have hP2 : ∀ j, j < i + 1 → (decide (R 4 j = 1) && heldF R j) = false := fun j hj => by
              by_cases hj2 : j < i
              · exact hP j hj2
              · have e : j = i := (by omega)
                rw [e, held_0 hp]
                first | (have z : ¬ R 4 i = 1 := c_15; simp [z]; done) | simp [c_23]
            refine lv_iinc (v := nI (i + 1)) (lv' := [(1, .int (nI (i + 1))), (0, .ref so)]) xx xb dX0_firstToSetUp_28 hl (k := 1) rfl (nI_add _ 1) (by decide) rfl (fun ls hl => ?_)
            refine lv_goto (tgt := 2) xx xb dX0_firstToSetUp_31 (by decide) ?_
            exact ih_2 (i + 1) H _ ls (by omega) (by omega) hP2 hw (lv_sub hl [1, 0] rfl)
          · skip
            have c_23 := b1_c c_23
            refine lv_iload_n xx xb dX0_firstToSetUp_26 rfl (lv_at hl 1 rfl) ?_
            exact rt_i C hw () (by first | (rw [rbO_s (by omega) hP c_15 ((held_0 hp i).trans c_23), onI_lt (by omega)]; done) | (rw [rbO_n (fun j hj => hP j (by omega))]; rfl)) rfl dX0_firstToSetUp_27
  exact L_2 (_ + 1) 0 H _ ls (Nat.lt_succ_self _) (by omega) (fun j hj => absurd hj (Nat.not_lt_zero _)) hw (lv_sub hl [1, 0] rfl)
set_option maxRecDepth 100000 in
set_option maxHeartbeats 4000000 in
theorem kX0_isSure (l : Launch) (G : GT) (so : Nat) (ak : Nat) (af : Nat) (ab : Nat) (aa : Nat) (mi : Nat) (R : RT) (hR : OK R) (hp : R 0 3 = 0) : Ct l yX0_isSure cX0_isSure 2 (some .boolean) 1 22 [.ref so] G [(so, .inr (0, [.int (nI (sN R)), .int (nI mi), .int (nI (sF R)), .int (nI (sS R)), .int (nI (sL R)), .ref ak, .ref af, .ref ab, .ref aa])), (ak, aI G 10 (sK R)), (af, aI G 10 (sG R)), (ab, aI G 10 (sO R)), (aa, aI G 10 (sA R))] (QI G [(so, .inr (0, [.int (nI (sN R)), .int (nI mi), .int (nI (sF R)), .int (nI (sS R)), .int (nI (sL R)), .ref ak, .ref af, .ref ab, .ref aa])), (ak, aI G 10 (sK R)), (af, aI G 10 (sG R)), (ab, aI G 10 (sO R)), (aa, aI G 10 (sA R))] (fun (r : Int32) (u : Unit) => r = if surB R (R 0 0) = true then 1 else 0) (fun u => [(so, .inr (0, [.int (nI (sN R)), .int (nI mi), .int (nI (sF R)), .int (nI (sS R)), .int (nI (sL R)), .ref ak, .ref af, .ref ab, .ref aa])), (ak, aI G 10 (sK R)), (af, aI G 10 (sG R)), (ab, aI G 10 (sO R)), (aa, aI G 10 (sA R))])) := by
  refine en (by decide +kernel) (Nat.le_of_ble_eq_true rfl) ?_
  intro p e s m below meth c ls H locs C hl hw
  have xx := C.1
  have xb := C.2.1
  have hw : Wd G (fA [(so, .inr (0, [.int (nI (sN R)), .int (nI mi), .int (nI (sF R)), .int (nI (sS R)), .int (nI (sL R)), .ref ak, .ref af, .ref ab, .ref aa])), (ak, aI G 10 (sK R)), (af, aI G 10 (sG R)), (ab, aI G 10 (sO R)), (aa, aI G 10 (sA R))]) s [(so, .inr (0, [.int (nI (sN R)), .int (nI mi), .int (nI (sF R)), .int (nI (sS R)), .int (nI (sL R)), .ref ak, .ref af, .ref ab, .ref aa])), (ak, aI G 10 (sK R)), (af, aI G 10 (sG R)), (ab, aI G 10 (sO R)), (aa, aI G 10 (sA R))] H locs := hw
  have hl : lv_has ls 2 [(0, .ref so)] := hl
  obtain ⟨hn, hf0, hpr, hA⟩ := id hR
  refine lv_iconst (v := nI 0) xx xb dX0_isSure_0 (by decide) ?_
  refine lv_istore_n (lv' := [(1, .int (nI 0)), (0, .ref so)]) xx xb dX0_isSure_1 rfl hl (by decide) rfl (fun ls hl => ?_)
  have L_2 : ∀ (fu : Nat) (i : Nat) (H : Heap) (locs : List Loc) (ls : Array Slot), 10 - i < fu → (i ≤ R 0 0) → (surB R i = true) → Wd G (fA [(so, .inr (0, [.int (nI (sN R)), .int (nI mi), .int (nI (sF R)), .int (nI (sS R)), .int (nI (sL R)), .ref ak, .ref af, .ref ab, .ref aa])), (ak, aI G 10 (sK R)), (af, aI G 10 (sG R)), (ab, aI G 10 (sO R)), (aa, aI G 10 (sA R))]) s [(so, .inr (0, [.int (nI (sN R)), .int (nI mi), .int (nI (sF R)), .int (nI (sS R)), .int (nI (sL R)), .ref ak, .ref af, .ref ab, .ref aa])), (ak, aI G 10 (sK R)), (af, aI G 10 (sG R)), (ab, aI G 10 (sO R)), (aa, aI G 10 (sA R))] H locs → lv_has ls 2 [(0, .ref so), (1, .int (nI i))] → W p l e ({ frames := 1, cells := 0, slots := 0, locals := 22 }) s m (([.ref so] : List Value).toArray) below meth c H locs 0 0 (MQ below (QI G [(so, .inr (0, [.int (nI (sN R)), .int (nI mi), .int (nI (sF R)), .int (nI (sS R)), .int (nI (sL R)), .ref ak, .ref af, .ref ab, .ref aa])), (ak, aI G 10 (sK R)), (af, aI G 10 (sG R)), (ab, aI G 10 (sO R)), (aa, aI G 10 (sA R))] (fun (r : Int32) (u : Unit) => r = if surB R (R 0 0) = true then 1 else 0) (fun u => [(so, .inr (0, [.int (nI (sN R)), .int (nI mi), .int (nI (sF R)), .int (nI (sS R)), .int (nI (sL R)), .ref ak, .ref af, .ref ab, .ref aa])), (ak, aI G 10 (sK R)), (af, aI G 10 (sG R)), (ab, aI G 10 (sO R)), (aa, aI G 10 (sA R))])) (([.ref so] : List Value).toArray) s 0 0 (fA [(so, .inr (0, [.int (nI (sN R)), .int (nI mi), .int (nI (sF R)), .int (nI (sS R)), .int (nI (sL R)), .ref ak, .ref af, .ref ab, .ref aa])), (ak, aI G 10 (sK R)), (af, aI G 10 (sG R)), (ab, aI G 10 (sO R)), (aa, aI G 10 (sA R))])) (F0 m 2 ls []) := by
    intro fu
    induction fu with
    | zero => intro i H locs ls hfu; exact absurd hfu (Nat.not_lt_zero _)
    | succ fu ih_2 =>
      intro i H locs ls hfu hi hB hw hl
      refine lv_iload_n xx xb dX0_isSure_2 rfl (lv_at hl 1 rfl) ?_
      refine lv_aload_n xx xb dX0_isSure_3 rfl (lv_at hl 0 rfl) ?_
      refine m_get C hw 0 rfl fk_X0_28 rfl dX0_isSure_4 ?_
      refine re_i (nI (R 0 0)) rfl ?_
      refine lv_icmp_ge (tgt := 34) xx xb dX0_isSure_7 (by decide) (fun c_7 => ?_) (fun c_7 => ?_)
      · skip
        have c_7 := le_c (tN (by omega)) (tN (by omega)) c_7
        refine lv_iconst (v := nI 1) xx xb dX0_isSure_34 (by decide) ?_
        exact rt_z C hw () (Or.inr rfl) (by first | (rw [show R 0 0 = i by omega]; exact r1 hB) | exact r0 (by rw [show R 0 0 = i + 1 + (R 0 0 - (i + 1)) by omega, surB_z c_15 (by rw [held_0 hp]; exact c_23)]; decide)) rfl dX0_isSure_35
      · skip
        have c_7 := nle_c (tN (by omega)) (tN (by omega)) c_7
        obtain ⟨q1, q2, q3, q4, q5⟩ := hA i (by omega)
        refine lv_aload_n xx xb dX0_isSure_10 rfl (lv_at hl 0 rfl) ?_
        refine lv_iload_n xx xb dX0_isSure_11 rfl (lv_at hl 1 rfl) ?_
        have hM := kX0_stands l G so ak af ab aa mi R (nI i) ((i : Nat) : Int) (tN (by omega)) (by first | assumption | omega)
        refine cv_i C hw hM yvX0_stands ml_X0_47 0 rfl rfl rfl [0, 1, 2, 3, 4] rfl rfl (fun _ => (rfl : ([so, ak, af, ab, aa] : List Nat) = [so, ak, af, ab, aa])) (by decide) ⟨Nat.zero_le _, Nat.zero_le _⟩ hl.1 rfl (Nat.le_of_ble_eq_true rfl) dX0_isSure_12 (fun r _ H locs hr hw => ?_)
        have hw : Wd G (fA [(so, .inr (0, [.int (nI (sN R)), .int (nI mi), .int (nI (sF R)), .int (nI (sS R)), .int (nI (sL R)), .ref ak, .ref af, .ref ab, .ref aa])), (ak, aI G 10 (sK R)), (af, aI G 10 (sG R)), (ab, aI G 10 (sO R)), (aa, aI G 10 (sA R))]) s [(so, .inr (0, [.int (nI (sN R)), .int (nI mi), .int (nI (sF R)), .int (nI (sS R)), .int (nI (sL R)), .ref ak, .ref af, .ref ab, .ref aa])), (ak, aI G 10 (sK R)), (af, aI G 10 (sG R)), (ab, aI G 10 (sO R)), (aa, aI G 10 (sA R))] H locs := hw
        subst hr
        refine re_i (if R 4 i = 0 then 1 else 0) (st_i (by omega)) ?_
        refine lv_if_eq (tgt := 28) xx xb dX0_isSure_15 (by decide) (fun c_15 => ?_) (fun c_15 => ?_)
        · skip
          have c_15 := b0_c c_15
          have hB2 : surB R (i + 1) = true := surB_s hB (fun q => by first | exact (held_0 hp i).trans c_23 | exact absurd q c_15)
          refine lv_iinc (v := nI (i + 1)) (lv' := [(1, .int (nI (i + 1))), (0, .ref so)]) xx xb dX0_isSure_28 hl (k := 1) rfl (nI_add _ 1) (by decide) rfl (fun ls hl => ?_)
          refine lv_goto (tgt := 2) xx xb dX0_isSure_31 (by decide) ?_
          exact ih_2 (i + 1) H _ ls (by omega) (by omega) hB2 hw (lv_sub hl [1, 0] rfl)
        · skip
          have c_15 := b1_c c_15
          refine lv_aload_n xx xb dX0_isSure_18 rfl (lv_at hl 0 rfl) ?_
          refine lv_iload_n xx xb dX0_isSure_19 rfl (lv_at hl 1 rfl) ?_
          have hM := kX0_hasGround l G so ak af ab aa mi R i (by first | assumption | omega) (by first | assumption | omega)
          refine cv_i C hw hM yvX0_hasGround ml_X0_60 0 rfl rfl rfl [0, 1, 2, 3, 4] rfl rfl (fun _ => (rfl : ([so, ak, af, ab, aa] : List Nat) = [so, ak, af, ab, aa])) (by decide) ⟨Nat.zero_le _, Nat.zero_le _⟩ hl.1 rfl (Nat.le_of_ble_eq_true rfl) dX0_isSure_20 (fun r _ H locs hr hw => ?_)
          have hw : Wd G (fA [(so, .inr (0, [.int (nI (sN R)), .int (nI mi), .int (nI (sF R)), .int (nI (sS R)), .int (nI (sL R)), .ref ak, .ref af, .ref ab, .ref aa])), (ak, aI G 10 (sK R)), (af, aI G 10 (sG R)), (ab, aI G 10 (sO R)), (aa, aI G 10 (sA R))]) s [(so, .inr (0, [.int (nI (sN R)), .int (nI mi), .int (nI (sF R)), .int (nI (sS R)), .int (nI (sL R)), .ref ak, .ref af, .ref ab, .ref aa])), (ak, aI G 10 (sK R)), (af, aI G 10 (sG R)), (ab, aI G 10 (sO R)), (aa, aI G 10 (sA R))] H locs := hw
          subst hr
          refine lv_if_ne (tgt := 28) xx xb dX0_isSure_23 (by decide) (fun c_23 => ?_) (fun c_23 => ?_)
          · skip
            have c_23 := b1_c c_23
            have hB2 : surB R (i + 1) = true := surB_s hB (fun q => by first | exact (held_0 hp i).trans c_23 | exact absurd q c_15)
            refine lv_iinc (v := nI (i + 1)) (lv' := [(1, .int (nI (i + 1))), (0, .ref so)]) xx xb dX0_isSure_28 hl (k := 1) rfl (nI_add _ 1) (by decide) rfl (fun ls hl => ?_)
            refine lv_goto (tgt := 2) xx xb dX0_isSure_31 (by decide) ?_
            exact ih_2 (i + 1) H _ ls (by omega) (by omega) hB2 hw (lv_sub hl [1, 0] rfl)
          · skip
            have c_23 := b0_c c_23
            refine lv_iconst (v := nI 0) xx xb dX0_isSure_26 (by decide) ?_
            exact rt_z C hw () (Or.inl rfl) (by first | (rw [show R 0 0 = i by omega]; exact r1 hB) | exact r0 (by rw [show R 0 0 = i + 1 + (R 0 0 - (i + 1)) by omega, surB_z c_15 (by rw [held_0 hp]; exact c_23)]; decide)) rfl dX0_isSure_27
  exact L_2 (_ + 1) 0 H _ ls (Nat.lt_succ_self _) (by omega) rfl hw (lv_sub hl [1, 0] rfl)
set_option maxRecDepth 100000 in
set_option maxHeartbeats 4000000 in
theorem kX0_countWatching (l : Launch) (G : GT) (so : Nat) (ak : Nat) (af : Nat) (ab : Nat) (aa : Nat) (mi : Nat) (R : RT) (hR : OK R) : Ct l yX0_countWatching cX0_countWatching 3 (some .int) 1 21 [.ref so] G [(so, .inr (0, [.int (nI (sN R)), .int (nI mi), .int (nI (sF R)), .int (nI (sS R)), .int (nI (sL R)), .ref ak, .ref af, .ref ab, .ref aa])), (ak, aI G 10 (sK R)), (af, aI G 10 (sG R)), (ab, aI G 10 (sO R)), (aa, aI G 10 (sA R))] (QI G [(so, .inr (0, [.int (nI (sN R)), .int (nI mi), .int (nI (sF R)), .int (nI (sS R)), .int (nI (sL R)), .ref ak, .ref af, .ref ab, .ref aa])), (ak, aI G 10 (sK R)), (af, aI G 10 (sG R)), (ab, aI G 10 (sO R)), (aa, aI G 10 (sA R))] (fun (r : Int32) (u : Unit) => r = nI (watN R)) (fun u => [(so, .inr (0, [.int (nI (sN R)), .int (nI mi), .int (nI (sF R)), .int (nI (sS R)), .int (nI (sL R)), .ref ak, .ref af, .ref ab, .ref aa])), (ak, aI G 10 (sK R)), (af, aI G 10 (sG R)), (ab, aI G 10 (sO R)), (aa, aI G 10 (sA R))])) := by
  refine en (by decide +kernel) (Nat.le_of_ble_eq_true rfl) ?_
  intro p e s m below meth c ls H locs C hl hw
  have xx := C.1
  have xb := C.2.1
  have hw : Wd G (fA [(so, .inr (0, [.int (nI (sN R)), .int (nI mi), .int (nI (sF R)), .int (nI (sS R)), .int (nI (sL R)), .ref ak, .ref af, .ref ab, .ref aa])), (ak, aI G 10 (sK R)), (af, aI G 10 (sG R)), (ab, aI G 10 (sO R)), (aa, aI G 10 (sA R))]) s [(so, .inr (0, [.int (nI (sN R)), .int (nI mi), .int (nI (sF R)), .int (nI (sS R)), .int (nI (sL R)), .ref ak, .ref af, .ref ab, .ref aa])), (ak, aI G 10 (sK R)), (af, aI G 10 (sG R)), (ab, aI G 10 (sO R)), (aa, aI G 10 (sA R))] H locs := hw
  have hl : lv_has ls 3 [(0, .ref so)] := hl
  obtain ⟨hn, hf0, hpr, hA⟩ := id hR
  have hs1 := setF_lt hR 1
  refine lv_iconst (v := nI 0) xx xb dX0_countWatching_0 (by decide) ?_
  refine lv_istore_n (lv' := [(1, .int (nI 0)), (0, .ref so)]) xx xb dX0_countWatching_1 rfl hl (by decide) rfl (fun ls hl => ?_)
  refine lv_iconst (v := nI 0) xx xb dX0_countWatching_2 (by decide) ?_
  refine lv_istore_n (lv' := [(2, .int (nI 0)), (1, .int (nI 0)), (0, .ref so)]) xx xb dX0_countWatching_3 rfl hl (by decide) rfl (fun ls hl => ?_)
  have hl : lv_has ls 3 [(2, .int (nI 0)), (1, .int (nI (watA R 0))), (0, .ref so)] := by rw [watA_0]; exact hl
  have L_4 : ∀ (fu : Nat) (i : Nat) (H : Heap) (locs : List Loc) (ls : Array Slot), 10 - i < fu → (i ≤ R 0 0) → Wd G (fA [(so, .inr (0, [.int (nI (sN R)), .int (nI mi), .int (nI (sF R)), .int (nI (sS R)), .int (nI (sL R)), .ref ak, .ref af, .ref ab, .ref aa])), (ak, aI G 10 (sK R)), (af, aI G 10 (sG R)), (ab, aI G 10 (sO R)), (aa, aI G 10 (sA R))]) s [(so, .inr (0, [.int (nI (sN R)), .int (nI mi), .int (nI (sF R)), .int (nI (sS R)), .int (nI (sL R)), .ref ak, .ref af, .ref ab, .ref aa])), (ak, aI G 10 (sK R)), (af, aI G 10 (sG R)), (ab, aI G 10 (sO R)), (aa, aI G 10 (sA R))] H locs → lv_has ls 3 [(0, .ref so), (1, .int (nI (watA R i))), (2, .int (nI i))] → W p l e ({ frames := 1, cells := 0, slots := 0, locals := 21 }) s m (([.ref so] : List Value).toArray) below meth c H locs 0 0 (MQ below (QI G [(so, .inr (0, [.int (nI (sN R)), .int (nI mi), .int (nI (sF R)), .int (nI (sS R)), .int (nI (sL R)), .ref ak, .ref af, .ref ab, .ref aa])), (ak, aI G 10 (sK R)), (af, aI G 10 (sG R)), (ab, aI G 10 (sO R)), (aa, aI G 10 (sA R))] (fun (r : Int32) (u : Unit) => r = nI (watN R)) (fun u => [(so, .inr (0, [.int (nI (sN R)), .int (nI mi), .int (nI (sF R)), .int (nI (sS R)), .int (nI (sL R)), .ref ak, .ref af, .ref ab, .ref aa])), (ak, aI G 10 (sK R)), (af, aI G 10 (sG R)), (ab, aI G 10 (sO R)), (aa, aI G 10 (sA R))])) (([.ref so] : List Value).toArray) s 0 0 (fA [(so, .inr (0, [.int (nI (sN R)), .int (nI mi), .int (nI (sF R)), .int (nI (sS R)), .int (nI (sL R)), .ref ak, .ref af, .ref ab, .ref aa])), (ak, aI G 10 (sK R)), (af, aI G 10 (sG R)), (ab, aI G 10 (sO R)), (aa, aI G 10 (sA R))])) (F0 m 4 ls []) := by
    intro fu
    induction fu with
    | zero => intro i H locs ls hfu; exact absurd hfu (Nat.not_lt_zero _)
    | succ fu ih_4 =>
      intro i H locs ls hfu hi hw hl
      refine lv_aload_n xx xb dX0_countWatching_4 rfl (lv_at hl 0 rfl) ?_
      refine m_get C hw 0 rfl fk_X0_38 rfl dX0_countWatching_5 ?_
      refine re_i (nI (setF R 1)) rfl ?_
      refine lv_if_eq (tgt := 46) xx xb dX0_countWatching_8 (by decide) (fun c_8 => ?_) (fun c_8 => ?_)
      · skip
        have c_8 := eq_c (tN (by omega)) Int32.toInt_zero c_8
        refine lv_iload_n xx xb dX0_countWatching_46 rfl (lv_at hl 1 rfl) ?_
        exact rt_i C hw () (congrArg nI (by rw [watA_e]; first | (rw [show R 0 0 = i by omega]; done) | (unfold watA; rw [if_pos (by omega), if_pos (by omega)]; done))) rfl dX0_countWatching_47
      · skip
        have c_8 := ne_c (tN (by omega)) Int32.toInt_zero c_8
        refine lv_iload_n xx xb dX0_countWatching_11 rfl (lv_at hl 2 rfl) ?_
        refine lv_aload_n xx xb dX0_countWatching_12 rfl (lv_at hl 0 rfl) ?_
        refine m_get C hw 0 rfl fk_X0_28 rfl dX0_countWatching_13 ?_
        refine re_i (nI (R 0 0)) rfl ?_
        refine lv_icmp_ge (tgt := 46) xx xb dX0_countWatching_16 (by decide) (fun c_16 => ?_) (fun c_16 => ?_)
        · skip
          have c_16 := le_c (tN (by omega)) (tN (by omega)) c_16
          refine lv_iload_n xx xb dX0_countWatching_46 rfl (lv_at hl 1 rfl) ?_
          exact rt_i C hw () (congrArg nI (by rw [watA_e]; first | (rw [show R 0 0 = i by omega]; done) | (unfold watA; rw [if_pos (by omega), if_pos (by omega)]; done))) rfl dX0_countWatching_47
        · skip
          have c_16 := nle_c (tN (by omega)) (tN (by omega)) c_16
          obtain ⟨q1, q2, q3, q4, q5⟩ := hA i (by omega)
          refine lv_aload_n xx xb dX0_countWatching_19 rfl (lv_at hl 0 rfl) ?_
          refine lv_iload_n xx xb dX0_countWatching_20 rfl (lv_at hl 2 rfl) ?_
          have hM := kX0_stands l G so ak af ab aa mi R (nI i) ((i : Nat) : Int) (tN (by omega)) (by first | assumption | omega)
          refine cv_i C hw hM yvX0_stands ml_X0_47 0 rfl rfl rfl [0, 1, 2, 3, 4] rfl rfl (fun _ => (rfl : ([so, ak, af, ab, aa] : List Nat) = [so, ak, af, ab, aa])) (by decide) ⟨Nat.zero_le _, Nat.zero_le _⟩ hl.1 rfl (Nat.le_of_ble_eq_true rfl) dX0_countWatching_21 (fun r _ H locs hr hw => ?_)
          have hw : Wd G (fA [(so, .inr (0, [.int (nI (sN R)), .int (nI mi), .int (nI (sF R)), .int (nI (sS R)), .int (nI (sL R)), .ref ak, .ref af, .ref ab, .ref aa])), (ak, aI G 10 (sK R)), (af, aI G 10 (sG R)), (ab, aI G 10 (sO R)), (aa, aI G 10 (sA R))]) s [(so, .inr (0, [.int (nI (sN R)), .int (nI mi), .int (nI (sF R)), .int (nI (sS R)), .int (nI (sL R)), .ref ak, .ref af, .ref ab, .ref aa])), (ak, aI G 10 (sK R)), (af, aI G 10 (sG R)), (ab, aI G 10 (sO R)), (aa, aI G 10 (sA R))] H locs := hw
          subst hr
          refine re_i (if R 4 i = 0 then 1 else 0) (st_i (by omega)) ?_
          refine lv_if_eq (tgt := 40) xx xb dX0_countWatching_24 (by decide) (fun c_24 => ?_) (fun c_24 => ?_)
          · skip
            have c_24 := b0_c c_24
            have hl : lv_has ls 3 [(0, .ref so), (1, .int (nI (watA R (i + 1)))), (2, .int (nI i))] := by first | (rw [← watA_s1 (by omega) c_24 (by omega)]; exact hl) | (rw [← watA_s0 (by omega), Nat.add_zero]; exact hl)
            refine lv_iinc (v := nI (i + 1)) (lv' := [(2, .int (nI (i + 1))), (0, .ref so), (1, .int (nI (watA R (i + 1))))]) xx xb dX0_countWatching_40 hl (k := 2) rfl (nI_add _ 1) (by decide) rfl (fun ls hl => ?_)
            refine lv_goto (tgt := 4) xx xb dX0_countWatching_43 (by decide) ?_
            exact ih_4 (i + 1) H _ ls (by omega) (by omega) hw (lv_sub hl [1, 2, 0] rfl)
          · skip
            have c_24 := b1_c c_24
            refine lv_aload_n xx xb dX0_countWatching_27 rfl (lv_at hl 0 rfl) ?_
            refine m_get C hw 0 rfl fk_X0_15 rfl dX0_countWatching_28 ?_
            refine lv_iload_n xx xb dX0_countWatching_31 rfl (lv_at hl 2 rfl) ?_
            refine m_ald C hw 1 rfl i rfl (by omega) (by decide) dX0_countWatching_32 ?_
            refine re_i (nI (R 1 i)) rfl ?_
            refine lv_iconst (v := nI 4) xx xb dX0_countWatching_33 (by decide) ?_
            refine lv_icmp_ne (tgt := 40) xx xb dX0_countWatching_34 (by decide) (fun c_34 => ?_) (fun c_34 => ?_)
            · skip
              have c_34 := ne_c (tN (by omega)) (tN (by omega)) c_34
              have hl : lv_has ls 3 [(0, .ref so), (1, .int (nI (watA R (i + 1)))), (2, .int (nI i))] := by first | (rw [← watA_s1 (by omega) c_24 (by omega)]; exact hl) | (rw [← watA_s0 (by omega), Nat.add_zero]; exact hl)
              refine lv_iinc (v := nI (i + 1)) (lv' := [(2, .int (nI (i + 1))), (0, .ref so), (1, .int (nI (watA R (i + 1))))]) xx xb dX0_countWatching_40 hl (k := 2) rfl (nI_add _ 1) (by decide) rfl (fun ls hl => ?_)
              refine lv_goto (tgt := 4) xx xb dX0_countWatching_43 (by decide) ?_
              exact ih_4 (i + 1) H _ ls (by omega) (by omega) hw (lv_sub hl [1, 2, 0] rfl)
            · skip
              have c_34 := eq_c (tN (by omega)) (tN (by omega)) c_34
              refine lv_iinc (v := nI (watA R i + 1)) (lv' := [(1, .int (nI (watA R i + 1))), (0, .ref so), (2, .int (nI i))]) xx xb dX0_countWatching_37 hl (k := 1) rfl (nI_add _ 1) (by decide) rfl (fun ls hl => ?_)
              have hl : lv_has ls 3 [(1, .int (nI (watA R (i + 1)))), (0, .ref so), (2, .int (nI i))] := by first | (rw [← watA_s1 (by omega) c_24 (by omega)]; exact hl) | (rw [← watA_s0 (by omega), Nat.add_zero]; exact hl)
              refine lv_iinc (v := nI (i + 1)) (lv' := [(2, .int (nI (i + 1))), (1, .int (nI (watA R (i + 1)))), (0, .ref so)]) xx xb dX0_countWatching_40 hl (k := 2) rfl (nI_add _ 1) (by decide) rfl (fun ls hl => ?_)
              refine lv_goto (tgt := 4) xx xb dX0_countWatching_43 (by decide) ?_
              exact ih_4 (i + 1) H _ ls (by omega) (by omega) hw (lv_sub hl [2, 1, 0] rfl)
  exact L_4 (_ + 1) 0 H _ ls (Nat.lt_succ_self _) (by omega) hw (lv_sub hl [2, 1, 0] rfl)
set_option maxRecDepth 100000 in
set_option maxHeartbeats 4000000 in
theorem kX0_countOnFloor (l : Launch) (G : GT) (so : Nat) (ak : Nat) (af : Nat) (ab : Nat) (aa : Nat) (mi : Nat) (R : RT) (hR : OK R) : Ct l yX0_countOnFloor cX0_countOnFloor 3 (some .int) 1 21 [.ref so] G [(so, .inr (0, [.int (nI (sN R)), .int (nI mi), .int (nI (sF R)), .int (nI (sS R)), .int (nI (sL R)), .ref ak, .ref af, .ref ab, .ref aa])), (ak, aI G 10 (sK R)), (af, aI G 10 (sG R)), (ab, aI G 10 (sO R)), (aa, aI G 10 (sA R))] (QI G [(so, .inr (0, [.int (nI (sN R)), .int (nI mi), .int (nI (sF R)), .int (nI (sS R)), .int (nI (sL R)), .ref ak, .ref af, .ref ab, .ref aa])), (ak, aI G 10 (sK R)), (af, aI G 10 (sG R)), (ab, aI G 10 (sO R)), (aa, aI G 10 (sA R))] (fun (r : Int32) (u : Unit) => r = nI (ct (flP R) (R 0 0))) (fun u => [(so, .inr (0, [.int (nI (sN R)), .int (nI mi), .int (nI (sF R)), .int (nI (sS R)), .int (nI (sL R)), .ref ak, .ref af, .ref ab, .ref aa])), (ak, aI G 10 (sK R)), (af, aI G 10 (sG R)), (ab, aI G 10 (sO R)), (aa, aI G 10 (sA R))])) := by
  refine en (by decide +kernel) (Nat.le_of_ble_eq_true rfl) ?_
  intro p e s m below meth c ls H locs C hl hw
  have xx := C.1
  have xb := C.2.1
  have hw : Wd G (fA [(so, .inr (0, [.int (nI (sN R)), .int (nI mi), .int (nI (sF R)), .int (nI (sS R)), .int (nI (sL R)), .ref ak, .ref af, .ref ab, .ref aa])), (ak, aI G 10 (sK R)), (af, aI G 10 (sG R)), (ab, aI G 10 (sO R)), (aa, aI G 10 (sA R))]) s [(so, .inr (0, [.int (nI (sN R)), .int (nI mi), .int (nI (sF R)), .int (nI (sS R)), .int (nI (sL R)), .ref ak, .ref af, .ref ab, .ref aa])), (ak, aI G 10 (sK R)), (af, aI G 10 (sG R)), (ab, aI G 10 (sO R)), (aa, aI G 10 (sA R))] H locs := hw
  have hl : lv_has ls 3 [(0, .ref so)] := hl
  obtain ⟨hn, hf0, hpr, hA⟩ := id hR
  refine lv_iconst (v := nI 0) xx xb dX0_countOnFloor_0 (by decide) ?_
  refine lv_istore_n (lv' := [(1, .int (nI 0)), (0, .ref so)]) xx xb dX0_countOnFloor_1 rfl hl (by decide) rfl (fun ls hl => ?_)
  refine lv_iconst (v := nI 0) xx xb dX0_countOnFloor_2 (by decide) ?_
  refine lv_istore_n (lv' := [(2, .int (nI 0)), (1, .int (nI 0)), (0, .ref so)]) xx xb dX0_countOnFloor_3 rfl hl (by decide) rfl (fun ls hl => ?_)
  have hl : lv_has ls 3 [(2, .int (nI 0)), (1, .int (nI (ct (flP R) 0))), (0, .ref so)] := hl
  have L_4 : ∀ (fu : Nat) (i : Nat) (H : Heap) (locs : List Loc) (ls : Array Slot), 10 - i < fu → (i ≤ R 0 0) → Wd G (fA [(so, .inr (0, [.int (nI (sN R)), .int (nI mi), .int (nI (sF R)), .int (nI (sS R)), .int (nI (sL R)), .ref ak, .ref af, .ref ab, .ref aa])), (ak, aI G 10 (sK R)), (af, aI G 10 (sG R)), (ab, aI G 10 (sO R)), (aa, aI G 10 (sA R))]) s [(so, .inr (0, [.int (nI (sN R)), .int (nI mi), .int (nI (sF R)), .int (nI (sS R)), .int (nI (sL R)), .ref ak, .ref af, .ref ab, .ref aa])), (ak, aI G 10 (sK R)), (af, aI G 10 (sG R)), (ab, aI G 10 (sO R)), (aa, aI G 10 (sA R))] H locs → lv_has ls 3 [(0, .ref so), (1, .int (nI (ct (flP R) i))), (2, .int (nI i))] → W p l e ({ frames := 1, cells := 0, slots := 0, locals := 21 }) s m (([.ref so] : List Value).toArray) below meth c H locs 0 0 (MQ below (QI G [(so, .inr (0, [.int (nI (sN R)), .int (nI mi), .int (nI (sF R)), .int (nI (sS R)), .int (nI (sL R)), .ref ak, .ref af, .ref ab, .ref aa])), (ak, aI G 10 (sK R)), (af, aI G 10 (sG R)), (ab, aI G 10 (sO R)), (aa, aI G 10 (sA R))] (fun (r : Int32) (u : Unit) => r = nI (ct (flP R) (R 0 0))) (fun u => [(so, .inr (0, [.int (nI (sN R)), .int (nI mi), .int (nI (sF R)), .int (nI (sS R)), .int (nI (sL R)), .ref ak, .ref af, .ref ab, .ref aa])), (ak, aI G 10 (sK R)), (af, aI G 10 (sG R)), (ab, aI G 10 (sO R)), (aa, aI G 10 (sA R))])) (([.ref so] : List Value).toArray) s 0 0 (fA [(so, .inr (0, [.int (nI (sN R)), .int (nI mi), .int (nI (sF R)), .int (nI (sS R)), .int (nI (sL R)), .ref ak, .ref af, .ref ab, .ref aa])), (ak, aI G 10 (sK R)), (af, aI G 10 (sG R)), (ab, aI G 10 (sO R)), (aa, aI G 10 (sA R))])) (F0 m 4 ls []) := by
    intro fu
    induction fu with
    | zero => intro i H locs ls hfu; exact absurd hfu (Nat.not_lt_zero _)
    | succ fu ih_4 =>
      intro i H locs ls hfu hi hw hl
      refine lv_iload_n xx xb dX0_countOnFloor_4 rfl (lv_at hl 2 rfl) ?_
      refine lv_aload_n xx xb dX0_countOnFloor_5 rfl (lv_at hl 0 rfl) ?_
      refine m_get C hw 0 rfl fk_X0_28 rfl dX0_countOnFloor_6 ?_
      refine re_i (nI (R 0 0)) rfl ?_
      refine lv_icmp_ge (tgt := 40) xx xb dX0_countOnFloor_9 (by decide) (fun c_9 => ?_) (fun c_9 => ?_)
      · skip
        have c_9 := le_c (tN (by omega)) (tN (by omega)) c_9
        refine lv_iload_n xx xb dX0_countOnFloor_40 rfl (lv_at hl 1 rfl) ?_
        exact rt_i C hw () (by rw [show R 0 0 = i by omega]) rfl dX0_countOnFloor_41
      · skip
        have c_9 := nle_c (tN (by omega)) (tN (by omega)) c_9
        obtain ⟨q1, q2, q3, q4, q5⟩ := hA i (by omega)
        refine lv_aload_n xx xb dX0_countOnFloor_12 rfl (lv_at hl 0 rfl) ?_
        refine lv_iload_n xx xb dX0_countOnFloor_13 rfl (lv_at hl 2 rfl) ?_
        have hM := kX0_stands l G so ak af ab aa mi R (nI i) ((i : Nat) : Int) (tN (by omega)) (by first | assumption | omega)
        refine cv_i C hw hM yvX0_stands ml_X0_47 0 rfl rfl rfl [0, 1, 2, 3, 4] rfl rfl (fun _ => (rfl : ([so, ak, af, ab, aa] : List Nat) = [so, ak, af, ab, aa])) (by decide) ⟨Nat.zero_le _, Nat.zero_le _⟩ hl.1 rfl (Nat.le_of_ble_eq_true rfl) dX0_countOnFloor_14 (fun r _ H locs hr hw => ?_)
        have hw : Wd G (fA [(so, .inr (0, [.int (nI (sN R)), .int (nI mi), .int (nI (sF R)), .int (nI (sS R)), .int (nI (sL R)), .ref ak, .ref af, .ref ab, .ref aa])), (ak, aI G 10 (sK R)), (af, aI G 10 (sG R)), (ab, aI G 10 (sO R)), (aa, aI G 10 (sA R))]) s [(so, .inr (0, [.int (nI (sN R)), .int (nI mi), .int (nI (sF R)), .int (nI (sS R)), .int (nI (sL R)), .ref ak, .ref af, .ref ab, .ref aa])), (ak, aI G 10 (sK R)), (af, aI G 10 (sG R)), (ab, aI G 10 (sO R)), (aa, aI G 10 (sA R))] H locs := hw
        subst hr
        refine re_i (if R 4 i = 0 then 1 else 0) (st_i (by omega)) ?_
        refine lv_if_eq (tgt := 34) xx xb dX0_countOnFloor_17 (by decide) (fun c_17 => ?_) (fun c_17 => ?_)
        · skip
          have c_17 := b0_c c_17
          have hl : lv_has ls 3 [(0, .ref so), (1, .int (nI (ct (flP R) (i + 1)))), (2, .int (nI i))] := by first | (rw [← ct_t (flP_t c_17 c_28)]; exact hl) | (rw [← ct_f (flP_f (by omega)), Nat.add_zero]; exact hl)
          refine lv_iinc (v := nI (i + 1)) (lv' := [(2, .int (nI (i + 1))), (0, .ref so), (1, .int (nI (ct (flP R) (i + 1))))]) xx xb dX0_countOnFloor_34 hl (k := 2) rfl (nI_add _ 1) (by decide) rfl (fun ls hl => ?_)
          refine lv_goto (tgt := 4) xx xb dX0_countOnFloor_37 (by decide) ?_
          exact ih_4 (i + 1) H _ ls (by omega) (by omega) hw (lv_sub hl [1, 2, 0] rfl)
        · skip
          have c_17 := b1_c c_17
          refine lv_aload_n xx xb dX0_countOnFloor_20 rfl (lv_at hl 0 rfl) ?_
          refine m_get C hw 0 rfl fk_X0_22 rfl dX0_countOnFloor_21 ?_
          refine lv_iload_n xx xb dX0_countOnFloor_24 rfl (lv_at hl 2 rfl) ?_
          refine m_ald C hw 3 rfl i rfl (by omega) (by decide) dX0_countOnFloor_25 ?_
          refine re_i (onI (R 3 i)) rfl ?_
          refine lv_bipush (v := (-9)) xx xb dX0_countOnFloor_26 (by decide) ?_
          refine lv_icmp_ne (tgt := 34) xx xb dX0_countOnFloor_28 (by decide) (fun c_28 => ?_) (fun c_28 => ?_)
          · skip
            have c_28 := (mt (onI_inj (f := 10) (by omega) (by omega)).mpr c_28)
            have hl : lv_has ls 3 [(0, .ref so), (1, .int (nI (ct (flP R) (i + 1)))), (2, .int (nI i))] := by first | (rw [← ct_t (flP_t c_17 c_28)]; exact hl) | (rw [← ct_f (flP_f (by omega)), Nat.add_zero]; exact hl)
            refine lv_iinc (v := nI (i + 1)) (lv' := [(2, .int (nI (i + 1))), (0, .ref so), (1, .int (nI (ct (flP R) (i + 1))))]) xx xb dX0_countOnFloor_34 hl (k := 2) rfl (nI_add _ 1) (by decide) rfl (fun ls hl => ?_)
            refine lv_goto (tgt := 4) xx xb dX0_countOnFloor_37 (by decide) ?_
            exact ih_4 (i + 1) H _ ls (by omega) (by omega) hw (lv_sub hl [1, 2, 0] rfl)
          · skip
            have c_28 := (onI_inj (f := 10) (by omega) (by omega)).mp c_28
            refine lv_iinc (v := nI (ct (flP R) i + 1)) (lv' := [(1, .int (nI (ct (flP R) i + 1))), (0, .ref so), (2, .int (nI i))]) xx xb dX0_countOnFloor_31 hl (k := 1) rfl (nI_add _ 1) (by decide) rfl (fun ls hl => ?_)
            have hl : lv_has ls 3 [(1, .int (nI (ct (flP R) (i + 1)))), (0, .ref so), (2, .int (nI i))] := by first | (rw [← ct_t (flP_t c_17 c_28)]; exact hl) | (rw [← ct_f (flP_f (by omega)), Nat.add_zero]; exact hl)
            refine lv_iinc (v := nI (i + 1)) (lv' := [(2, .int (nI (i + 1))), (1, .int (nI (ct (flP R) (i + 1)))), (0, .ref so)]) xx xb dX0_countOnFloor_34 hl (k := 2) rfl (nI_add _ 1) (by decide) rfl (fun ls hl => ?_)
            refine lv_goto (tgt := 4) xx xb dX0_countOnFloor_37 (by decide) ?_
            exact ih_4 (i + 1) H _ ls (by omega) (by omega) hw (lv_sub hl [2, 1, 0] rfl)
  exact L_4 (_ + 1) 0 H _ ls (Nat.lt_succ_self _) (by omega) hw (lv_sub hl [2, 1, 0] rfl)
set_option maxRecDepth 100000 in
set_option maxHeartbeats 4000000 in
theorem kX0_heightOf (l : Launch) (G : GT) (so : Nat) (ak : Nat) (af : Nat) (ab : Nat) (aa : Nat) (mi : Nat) (R : RT) (a : Nat) (hR : OK R) (ha : a < R 0 0) : Ct l yX0_heightOf cX0_heightOf 5 (some .int) 1 21 [.ref so, .int (nI a)] G [(so, .inr (0, [.int (nI (sN R)), .int (nI mi), .int (nI (sF R)), .int (nI (sS R)), .int (nI (sL R)), .ref ak, .ref af, .ref ab, .ref aa])), (ak, aI G 10 (sK R)), (af, aI G 10 (sG R)), (ab, aI G 10 (sO R)), (aa, aI G 10 (sA R))] (QI G [(so, .inr (0, [.int (nI (sN R)), .int (nI mi), .int (nI (sF R)), .int (nI (sS R)), .int (nI (sL R)), .ref ak, .ref af, .ref ab, .ref aa])), (ak, aI G 10 (sK R)), (af, aI G 10 (sG R)), (ab, aI G 10 (sO R)), (aa, aI G 10 (sA R))] (fun (r : Int32) (u : Unit) => r = nI (hgt R 11 a)) (fun u => [(so, .inr (0, [.int (nI (sN R)), .int (nI mi), .int (nI (sF R)), .int (nI (sS R)), .int (nI (sL R)), .ref ak, .ref af, .ref ab, .ref aa])), (ak, aI G 10 (sK R)), (af, aI G 10 (sG R)), (ab, aI G 10 (sO R)), (aa, aI G 10 (sA R))])) := by
  refine en (by decide +kernel) (Nat.le_of_ble_eq_true rfl) ?_
  intro p e s m below meth c ls H locs C hl hw
  have xx := C.1
  have xb := C.2.1
  have hw : Wd G (fA [(so, .inr (0, [.int (nI (sN R)), .int (nI mi), .int (nI (sF R)), .int (nI (sS R)), .int (nI (sL R)), .ref ak, .ref af, .ref ab, .ref aa])), (ak, aI G 10 (sK R)), (af, aI G 10 (sG R)), (ab, aI G 10 (sO R)), (aa, aI G 10 (sA R))]) s [(so, .inr (0, [.int (nI (sN R)), .int (nI mi), .int (nI (sF R)), .int (nI (sS R)), .int (nI (sL R)), .ref ak, .ref af, .ref ab, .ref aa])), (ak, aI G 10 (sK R)), (af, aI G 10 (sG R)), (ab, aI G 10 (sO R)), (aa, aI G 10 (sA R))] H locs := hw
  have hl : lv_has ls 5 [(0, .ref so), (1, .int (nI a))] := hl
  obtain ⟨hn, hf0, hpr, hA⟩ := id hR
  obtain ⟨q1, q2, q3, q4, q5⟩ := hA a ha
  refine lv_iconst (v := nI 0) xx xb dX0_heightOf_0 (by decide) ?_
  refine lv_istore_n (lv' := [(2, .int (nI 0)), (0, .ref so), (1, .int (nI a))]) xx xb dX0_heightOf_1 rfl hl (by decide) rfl (fun ls hl => ?_)
  refine lv_aload_n xx xb dX0_heightOf_2 rfl (lv_at hl 1 rfl) ?_
  refine lv_iload_n xx xb dX0_heightOf_3 rfl (lv_at hl 2 rfl) ?_
  have hM := kX0_isThing l G so ak af ab aa mi R (nI a) ((a : Nat) : Int) (tN (by omega)) (by first | assumption | omega)
  refine cv_i C hw hM yvX0_isThing ml_X0_73 0 rfl rfl rfl [0, 1, 2, 3, 4] rfl rfl (fun _ => (rfl : ([so, ak, af, ab, aa] : List Nat) = [so, ak, af, ab, aa])) (by decide) ⟨Nat.zero_le _, Nat.zero_le _⟩ hl.1 rfl (Nat.le_of_ble_eq_true rfl) dX0_heightOf_4 (fun r _ H locs hr hw => ?_)
  have hw : Wd G (fA [(so, .inr (0, [.int (nI (sN R)), .int (nI mi), .int (nI (sF R)), .int (nI (sS R)), .int (nI (sL R)), .ref ak, .ref af, .ref ab, .ref aa])), (ak, aI G 10 (sK R)), (af, aI G 10 (sG R)), (ab, aI G 10 (sO R)), (aa, aI G 10 (sA R))]) s [(so, .inr (0, [.int (nI (sN R)), .int (nI mi), .int (nI (sF R)), .int (nI (sS R)), .int (nI (sL R)), .ref ak, .ref af, .ref ab, .ref aa])), (ak, aI G 10 (sK R)), (af, aI G 10 (sG R)), (ab, aI G 10 (sO R)), (aa, aI G 10 (sA R))] H locs := hw
  subst hr
  refine lv_if_eq (tgt := 19) xx xb dX0_heightOf_7 (by decide) (fun c_7 => ?_) (fun c_7 => ?_)
  · skip
    have c_7 := b0_c c_7
    exact absurd (And.intro (by omega) (by omega)) c_7
  · skip
    have c_7 := b1_c c_7
    refine lv_aload_n xx xb dX0_heightOf_10 rfl (lv_at hl 1 rfl) ?_
    refine m_get C hw 0 rfl fk_X0_22 rfl dX0_heightOf_11 ?_
    refine lv_iload_n xx xb dX0_heightOf_14 rfl (lv_at hl 2 rfl) ?_
    refine m_ald C hw 3 rfl a rfl (by omega) (by decide) dX0_heightOf_15 ?_
    refine re_i (onI (R 3 a)) rfl ?_
    refine lv_goto (tgt := 21) xx xb dX0_heightOf_16 (by decide) ?_
    refine lv_istore_n (lv' := [(3, .int (onI (R 3 a))), (2, .int (nI 0)), (0, .ref so), (1, .int (nI a))]) xx xb dX0_heightOf_21 rfl hl (by decide) rfl (fun ls hl => ?_)
    refine lv_iconst (v := nI 0) xx xb dX0_heightOf_22 (by decide) ?_
    refine lv_istore (lv' := [(4, .int (nI 0)), (3, .int (onI (R 3 a))), (2, .int (nI 0)), (0, .ref so), (1, .int (nI a))]) xx xb dX0_heightOf_23 hl (by decide) rfl (fun ls hl => ?_)
    have L_25 : ∀ (fu : Nat) (u : Nat) (h : Nat) (i : Nat) (f : Nat) (H : Heap) (locs : List Loc) (ls : Array Slot), f < fu → (u = 10 ∨ u < R 0 0) → (u = 10 ∨ u + 1 ≤ f) → (f + i = 10) → (hu R f u + h = hgt R 11 a) → Wd G (fA [(so, .inr (0, [.int (nI (sN R)), .int (nI mi), .int (nI (sF R)), .int (nI (sS R)), .int (nI (sL R)), .ref ak, .ref af, .ref ab, .ref aa])), (ak, aI G 10 (sK R)), (af, aI G 10 (sG R)), (ab, aI G 10 (sO R)), (aa, aI G 10 (sA R))]) s [(so, .inr (0, [.int (nI (sN R)), .int (nI mi), .int (nI (sF R)), .int (nI (sS R)), .int (nI (sL R)), .ref ak, .ref af, .ref ab, .ref aa])), (ak, aI G 10 (sK R)), (af, aI G 10 (sG R)), (ab, aI G 10 (sO R)), (aa, aI G 10 (sA R))] H locs → lv_has ls 5 [(0, .ref so), (2, .int (nI h)), (3, .int (onI u)), (4, .int (nI i))] → W p l e ({ frames := 1, cells := 0, slots := 0, locals := 21 }) s m (([.ref so, .int (nI a)] : List Value).toArray) below meth c H locs 0 0 (MQ below (QI G [(so, .inr (0, [.int (nI (sN R)), .int (nI mi), .int (nI (sF R)), .int (nI (sS R)), .int (nI (sL R)), .ref ak, .ref af, .ref ab, .ref aa])), (ak, aI G 10 (sK R)), (af, aI G 10 (sG R)), (ab, aI G 10 (sO R)), (aa, aI G 10 (sA R))] (fun (r : Int32) (u : Unit) => r = nI (hgt R 11 a)) (fun u => [(so, .inr (0, [.int (nI (sN R)), .int (nI mi), .int (nI (sF R)), .int (nI (sS R)), .int (nI (sL R)), .ref ak, .ref af, .ref ab, .ref aa])), (ak, aI G 10 (sK R)), (af, aI G 10 (sG R)), (ab, aI G 10 (sO R)), (aa, aI G 10 (sA R))])) (([.ref so, .int (nI a)] : List Value).toArray) s 0 0 (fA [(so, .inr (0, [.int (nI (sN R)), .int (nI mi), .int (nI (sF R)), .int (nI (sS R)), .int (nI (sL R)), .ref ak, .ref af, .ref ab, .ref aa])), (ak, aI G 10 (sK R)), (af, aI G 10 (sG R)), (ab, aI G 10 (sO R)), (aa, aI G 10 (sA R))])) (F0 m 25 ls []) := by
      intro fu
      induction fu with
      | zero => intro u h i f H locs ls hfu; exact absurd hfu (Nat.not_lt_zero _)
      | succ fu ih_25 =>
        intro u h i f H locs ls hfu hu10 hf hfi hh hw hl
        refine lv_iload xx xb dX0_heightOf_25 (lv_at hl 3 rfl) ?_
        refine lv_bipush (v := nI 10) xx xb dX0_heightOf_27 (by decide) ?_
        refine lv_icmp_ge (tgt := 56) xx xb dX0_heightOf_29 (by decide) (fun c_29 => ?_) (fun c_29 => ?_)
        · skip
          have c_29 := le_c (tN (by omega)) (tN (by omega)) c_29
          refine lv_iload_n xx xb dX0_heightOf_56 rfl (lv_at hl 1 rfl) ?_
          exact rt_i C hw () (congrArg nI (by first | (have e := onZ_10 hu10 hn c_37; rw [← hh, e, hu_10, Nat.zero_add]; done) | (have e : u = 10 := (by omega); rw [← hh, e, hu_10, Nat.zero_add]; done))) rfl dX0_heightOf_57
        · skip
          have c_29 := nle_c (tN (by omega)) (tN (by omega)) c_29
          refine lv_aload_n xx xb dX0_heightOf_32 rfl (lv_at hl 0 rfl) ?_
          refine lv_iload_n xx xb dX0_heightOf_33 rfl (lv_at hl 2 rfl) ?_
          have hM := kX0_isThing l G so ak af ab aa mi R (onI u) (onZ u) (onI_z (by omega)) (by first | assumption | omega)
          refine cv_i C hw hM yvX0_isThing ml_X0_73 0 rfl rfl rfl [0, 1, 2, 3, 4] rfl rfl (fun _ => (rfl : ([so, ak, af, ab, aa] : List Nat) = [so, ak, af, ab, aa])) (by decide) ⟨Nat.zero_le _, Nat.zero_le _⟩ hl.1 rfl (Nat.le_of_ble_eq_true rfl) dX0_heightOf_34 (fun r _ H locs hr hw => ?_)
          have hw : Wd G (fA [(so, .inr (0, [.int (nI (sN R)), .int (nI mi), .int (nI (sF R)), .int (nI (sS R)), .int (nI (sL R)), .ref ak, .ref af, .ref ab, .ref aa])), (ak, aI G 10 (sK R)), (af, aI G 10 (sG R)), (ab, aI G 10 (sO R)), (aa, aI G 10 (sA R))]) s [(so, .inr (0, [.int (nI (sN R)), .int (nI mi), .int (nI (sF R)), .int (nI (sS R)), .int (nI (sL R)), .ref ak, .ref af, .ref ab, .ref aa])), (ak, aI G 10 (sK R)), (af, aI G 10 (sG R)), (ab, aI G 10 (sO R)), (aa, aI G 10 (sA R))] H locs := hw
          subst hr
          refine lv_if_eq (tgt := 56) xx xb dX0_heightOf_37 (by decide) (fun c_37 => ?_) (fun c_37 => ?_)
          · skip
            have c_37 := b0_c c_37
            refine lv_iload_n xx xb dX0_heightOf_56 rfl (lv_at hl 1 rfl) ?_
            exact rt_i C hw () (congrArg nI (by first | (have e := onZ_10 hu10 hn c_37; rw [← hh, e, hu_10, Nat.zero_add]; done) | (have e : u = 10 := (by omega); rw [← hh, e, hu_10, Nat.zero_add]; done))) rfl dX0_heightOf_57
          · skip
            have c_37 := b1_c c_37
            refine lv_iinc (v := nI (h + 1)) (lv' := [(2, .int (nI (h + 1))), (0, .ref so), (3, .int (onI u)), (4, .int (nI i))]) xx xb dX0_heightOf_40 hl (k := 1) rfl (nI_add _ 1) (by decide) rfl (fun ls hl => ?_)
            obtain ⟨f1, rfl⟩ : ∃ z, f = z + 1 := ⟨f - 1, by omega⟩
            have hz := onZ_y c_37.1
            have hc2 := c_37.2
            obtain ⟨p1, p2, p3, p4, p5⟩ := hA u (by omega)
            have hy2 := hu_y (R := R) (f := f1) hz.1
            refine lv_aload_n xx xb dX0_heightOf_43 rfl (lv_at hl 1 rfl) ?_
            refine m_get C hw 0 rfl fk_X0_22 rfl dX0_heightOf_44 ?_
            refine lv_iload_n xx xb dX0_heightOf_47 rfl (lv_at hl 2 rfl) ?_
            refine m_ald C hw 3 rfl u (onI_lt (by omega)) (by omega) (by decide) dX0_heightOf_48 ?_
            refine re_i (onI (R 3 u)) rfl ?_
            refine lv_istore_n (lv' := [(3, .int (onI (R 3 u))), (2, .int (nI (h + 1))), (0, .ref so), (4, .int (nI i))]) xx xb dX0_heightOf_49 rfl hl (by decide) rfl (fun ls hl => ?_)
            refine lv_iinc (v := nI (i + 1)) (lv' := [(4, .int (nI (i + 1))), (3, .int (onI (R 3 u))), (2, .int (nI (h + 1))), (0, .ref so)]) xx xb dX0_heightOf_50 hl (k := 3) rfl (nI_add _ 1) (by decide) rfl (fun ls hl => ?_)
            refine lv_goto (tgt := 25) xx xb dX0_heightOf_53 (by decide) ?_
            exact ih_25 (R 3 u) (h + 1) (i + 1) f1 H _ ls (by omega) (by omega) (by omega) (by omega) (by rw [← hh, hy2]; omega) hw (lv_sub hl [3, 2, 1, 0] rfl)
    exact L_25 (_ + 1) (R 3 a) 0 0 10 H _ ls (Nat.lt_succ_self _) (by omega) (by omega) rfl rfl hw (lv_sub hl [3, 2, 1, 0] rfl)
