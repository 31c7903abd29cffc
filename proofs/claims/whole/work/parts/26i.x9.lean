def eug (i x y : Nat) : Prop := (i = 0 ∧ x * y < 2 ^ 68) ∨ (1 ≤ i ∧ y < x ∧ x * y < 2 ^ (69 - i))
theorem eu_s {i x y : Nat} (h : eug i x y) (hy : ¬ y = 0) : eug (i + 1) y (x % y) := by
  have hy0 : 0 < y := by omega
  have hm : x % y < y := Nat.mod_lt _ hy0
  refine Or.inr ⟨by omega, hm, ?_⟩
  rcases h with ⟨h1, h2⟩ | ⟨h1, h2, h3⟩
  · have : y * (x % y) ≤ y * x := Nat.mul_le_mul_left y (Nat.mod_le x y)
    rw [Nat.mul_comm y x] at this
    rw [h1]
    exact Nat.lt_of_le_of_lt this h2
  · have e := Nat.div_add_mod x y
    have hq : 1 ≤ x / y := (Nat.one_le_div_iff hy0).mpr (by omega)
    have h4 : y * 1 ≤ y * (x / y) := Nat.mul_le_mul_left y hq
    have h5 : 2 * (x % y) ≤ x := by omega
    have h6 : y * (2 * (x % y)) ≤ y * x := Nat.mul_le_mul_left y h5
    rw [Nat.mul_comm y x] at h6
    have h7 : y * (2 * (x % y)) = 2 * (y * (x % y)) := by rw [Nat.mul_left_comm]
    rw [h7] at h6
    by_cases h8 : i < 69
    · have h9 : 2 ^ (69 - i) = 2 * 2 ^ (69 - (i + 1)) := by
        rw [show 69 - i = (69 - (i + 1)) + 1 by omega, Nat.pow_succ, Nat.mul_comm]
      rw [h9] at h3
      omega
    · rw [show 69 - i = 0 by omega] at h3
      have : 1 * 1 ≤ x * y := Nat.mul_le_mul (by omega) (by omega)
      omega
theorem eu_0 {i x y : Nat} (h : eug i x y) (hi : 100 ≤ i) : y = 0 := by
  rcases h with ⟨h1, h2⟩ | ⟨h1, h2, h3⟩
  · omega
  · rw [show 69 - i = 0 by omega] at h3
    apply Classical.byContradiction
    intro q
    have : 1 * 1 ≤ x * y := Nat.mul_le_mul (by omega) (by omega)
    omega
theorem mi_keep {R : RT} {d a : Nat} (ha : a < R 0 0) (h : ¬ R 4 a = 0) : miF R d 4 a = R 4 a := by
  rw [how_mi ha, flB_f (fun q => h q.1)]
  rfl
theorem dr_keep {R : RT} {S a k : Nat} (ha : a < R 0 0) (h : ¬ drF R S k 4 a = 0) : ∀ d, ¬ drF R S (k + d) 4 a = 0
  | 0 => h
  | d + 1 => by
    have ih := dr_keep ha h d
    show ¬ miF (drF R S (k + d)) _ 4 a = 0
    rw [mi_keep (by rw [drF_00]; exact ha) ih]
    exact ih
theorem dr03 {R : RT} (hp : R 0 3 = 0) (S : Nat) : ∀ k, drF R S k 0 3 = 0
  | 0 => hp
  | k + 1 => dr03 hp S k
theorem drQ_e (t S : Nat) : ∀ k, drQ t S k = (t - 1) ^ (k - ct (fun j => S.testBit j) k)
  | 0 => rfl
  | k + 1 => by
    have ih := drQ_e t S k
    have hl := ct_le (fun j => S.testBit j) k
    show drQ t S k * (if S.testBit k = true then 1 else t - 1) = (t - 1) ^ (k + 1 - (ct (fun j => S.testBit j) k + (if S.testBit k = true then 1 else 0)))
    rw [ih]
    by_cases q : S.testBit k = true
    · rw [if_pos q, if_pos q, Nat.mul_one]
      congr 1
      omega
    · rw [if_neg q, if_neg q, ← Nat.pow_succ]
      congr 1
      omega
theorem pc_lt {S n : Nat} (h : S < 2 ^ n) (hn : n ≤ 10) : pc S = ct (fun j => S.testBit j) n := by
  unfold pc
  refine ct_ext (fun a ha => ?_) hn
  exact Nat.testBit_lt_two_pow (Nat.lt_of_lt_of_le h (Nat.pow_le_pow_right (by decide) ha))
def dbN (n t : Int) : Nat := if n < 0 ∨ t < 2 then 4 else 0
def daN (n t : Int) : Nat := if 7 < n ∨ 20 < t then 6 else 0
theorem dbN_le (n t : Int) : dbN n t ≤ 6 := by unfold dbN; split <;> omega
theorem daN_le (n t : Int) : daN n t ≤ 6 := by unfold daN; split <;> omega
theorem dr_eq {R : RT} {x n t w : Int} : rtT R x (foN (foN (dbN n t) (daN n t)) (otN w 1)) = cDr R x n t w := by
  unfold rtT cDr
  by_cases h : 0 ≤ x ∧ x < ((R 0 0 : Nat) : Int)
  · rw [if_pos h, if_pos h]
    by_cases h2 : n < 0 ∨ t < 2 <;> by_cases h3 : 7 < n ∨ 20 < t <;> simp [foN, dbN, daN, otN, h2, h3]
  · rw [if_neg h, if_neg h]
theorem cDr_le (R : RT) (x n t w : Int) : cDr R x n t w ≤ 6 := by unfold cDr; (repeat' split) <;> omega
theorem cDr_0 {R : RT} {x n t w : Int} (h : cDr R x n t w = 0) : (0 ≤ x ∧ x < ((R 0 0 : Nat) : Int)) ∧ (0 ≤ n ∧ n ≤ 7) ∧ (2 ≤ t ∧ t ≤ 20) ∧ (0 ≤ w ∧ w ≤ 1) := by
  unfold cDr at h
  by_cases h1 : 0 ≤ x ∧ x < ((R 0 0 : Nat) : Int)
  · rw [if_pos h1] at h
    by_cases h2 : n < 0 ∨ t < 2
    · rw [if_pos h2] at h; omega
    · rw [if_neg h2] at h
      by_cases h3 : 7 < n ∨ 20 < t
      · rw [if_pos h3] at h; omega
      · rw [if_neg h3] at h
        by_cases h4 : 0 ≤ w ∧ w ≤ 1
        · exact ⟨h1, by omega, by omega, h4⟩
        · rw [if_neg h4] at h; omega
  · rw [if_neg h1] at h; omega
theorem vDr_0 {R : RT} {a n t : Nat} (hd : drA R a t n (2 ^ n) ≤ 200000000000) : lN (drA R a t n (2 ^ n) / Nat.gcd (drA R a t n (2 ^ n)) (t ^ n)) = vDr R a n t 0 := by
  unfold vDr
  by_cases q : drA R a t n (2 ^ n) = 0
  · rw [if_pos q, q, Nat.zero_div]
  · rw [if_neg q, if_pos rfl]
theorem vDr_1 {R : RT} {a n t : Nat} (ht : 0 < t ^ n) : lN (t ^ n / Nat.gcd (drA R a t n (2 ^ n)) (t ^ n)) = vDr R a n t 1 := by
  unfold vDr
  by_cases q : drA R a t n (2 ^ n) = 0
  · rw [if_pos q, q, Nat.gcd_zero_left, Nat.div_self ht]
  · rw [if_neg q, if_neg (by decide)]
set_option maxRecDepth 100000 in
set_option maxHeartbeats 4000000 in
theorem kX1_power (l : Launch) (G : GT) (b : Nat) (k1 : Nat) (hb : b ≤ 20) (hk : k1 ≤ 7) : Ct l yX1_power cX1_power 5 (some .long) 0 0 [.int (nI b), .int (nI k1)] G [] (QL G [] (fun (r : Int64) (u : Unit) => r = lN (b ^ k1)) (fun u => [])) := by
  refine en (by decide +kernel) (Nat.le_of_ble_eq_true rfl) ?_
  intro p e s m below meth c ls H locs C hl hw
  have xx := C.1
  have xb := C.2.1
  have hw : Wd G (fA []) s [] H locs := hw
  have hl : lv_has ls 5 [(0, .int (nI b)), (1, .int (nI k1))] := hl
  refine lv_lconst (v := lN 1) xx xb dX1_power_0 rfl ?_
  refine lv_lstore_n (lv' := [(2, .long (lN 1)), (0, .int (nI b)), (1, .int (nI k1))]) xx xb dX1_power_1 rfl hl (by decide) rfl (fun ls hl => ?_)
  refine lv_iconst (v := nI 0) xx xb dX1_power_2 (by decide) ?_
  refine lv_istore (lv' := [(4, .int (nI 0)), (2, .long (lN 1)), (0, .int (nI b)), (1, .int (nI k1))]) xx xb dX1_power_3 hl (by decide) rfl (fun ls hl => ?_)
  have hl : lv_has ls 5 [(4, .int (nI 0)), (2, .long (lN (b ^ 0))), (0, .int (nI b)), (1, .int (nI k1))] := hl
  have L_5 : ∀ (fu : Nat) (i : Nat) (H : Heap) (locs : List Loc) (ls : Array Slot), k1 - i < fu → (i ≤ k1) → Wd G (fA []) s [] H locs → lv_has ls 5 [(0, .int (nI b)), (1, .int (nI k1)), (2, .long (lN (b ^ i))), (4, .int (nI i))] → W p l e ({ frames := 0, cells := 0, slots := 0, locals := 0 }) s m (([.int (nI b), .int (nI k1)] : List Value).toArray) below meth c H locs 0 0 (MQ below (QL G [] (fun (r : Int64) (u : Unit) => r = lN (b ^ k1)) (fun u => [])) (([.int (nI b), .int (nI k1)] : List Value).toArray) s 0 0 (fA [])) (F0 m 5 ls []) := by
    intro fu
    induction fu with
    | zero => intro i H locs ls hfu; exact absurd hfu (Nat.not_lt_zero _)
    | succ fu ih_5 =>
      intro i H locs ls hfu hi hw hl
      refine lv_iload xx xb dX1_power_5 (lv_at hl 3 rfl) ?_
      refine lv_iload_n xx xb dX1_power_7 rfl (lv_at hl 1 rfl) ?_
      refine lv_icmp_ge (tgt := 22) xx xb dX1_power_8 (by decide) (fun c_8 => ?_) (fun c_8 => ?_)
      · skip
        have c_8 := le_c (tN (by omega)) (tN (by omega)) c_8
        refine lv_lload_n xx xb dX1_power_22 rfl (lv_at hl 2 rfl) ?_
        exact rt_l C hw () (by rw [show k1 = i by omega]) rfl dX1_power_23
      · skip
        have c_8 := nle_c (tN (by omega)) (tN (by omega)) c_8
        refine lv_lload_n xx xb dX1_power_11 rfl (lv_at hl 2 rfl) ?_
        refine lv_iload_n xx xb dX1_power_12 rfl (lv_at hl 0 rfl) ?_
        refine lv_i2l (v := lN b) xx xb dX1_power_13 (nI_l (by omega)) ?_
        refine lv_lmul xx xb dX1_power_14 ?_
        refine re_l (lN ((b ^ i) * b)) (lN_mul _ _) ?_
        refine re_l (lN (b ^ (i + 1))) (congrArg lN (Nat.pow_succ _ _).symm) ?_
        refine lv_lstore_n (lv' := [(2, .long (lN (b ^ (i + 1)))), (0, .int (nI b)), (1, .int (nI k1)), (4, .int (nI i))]) xx xb dX1_power_15 rfl hl (by decide) rfl (fun ls hl => ?_)
        refine lv_iinc (v := nI (i + 1)) (lv' := [(4, .int (nI (i + 1))), (2, .long (lN (b ^ (i + 1)))), (0, .int (nI b)), (1, .int (nI k1))]) xx xb dX1_power_16 hl (k := 3) rfl (nI_add _ 1) (by decide) rfl (fun ls hl => ?_)
        refine lv_goto (tgt := 5) xx xb dX1_power_19 (by decide) ?_
        exact ih_5 (i + 1) H _ ls (by omega) (by omega) hw (lv_sub hl [2, 3, 1, 0] rfl)
  exact L_5 (_ + 1) 0 H _ ls (Nat.lt_succ_self _) (by omega) hw (lv_sub hl [2, 3, 1, 0] rfl)
set_option maxRecDepth 100000 in
set_option maxHeartbeats 4000000 in
theorem kX1_greatestCommon (l : Launch) (G : GT) (a : Nat) (b : Nat) (ha : a < 4611686018427387904) (hb : b < 4611686018427387904) (hab : a * b < 2 ^ 68) : Ct l yX1_greatestCommon cX1_greatestCommon 11 (some .long) 0 0 [.long (lN a), .long (lN b)] G [] (QL G [] (fun (r : Int64) (u : Unit) => r = lN (Nat.gcd a b)) (fun u => [])) := by
  refine en (by decide +kernel) (Nat.le_of_ble_eq_true rfl) ?_
  intro p e s m below meth c ls H locs C hl hw
  have xx := C.1
  have xb := C.2.1
  have hw : Wd G (fA []) s [] H locs := hw
  have hl : lv_has ls 11 [(0, .long (lN a)), (2, .long (lN b))] := hl
  refine lv_lload_n xx xb dX1_greatestCommon_0 rfl (lv_at hl 0 rfl) ?_
  refine lv_lstore (lv' := [(4, .long (lN a)), (0, .long (lN a)), (2, .long (lN b))]) xx xb dX1_greatestCommon_1 hl (by decide) rfl (fun ls hl => ?_)
  refine lv_lload_n xx xb dX1_greatestCommon_3 rfl (lv_at hl 2 rfl) ?_
  refine lv_lstore (lv' := [(6, .long (lN b)), (4, .long (lN a)), (0, .long (lN a)), (2, .long (lN b))]) xx xb dX1_greatestCommon_4 hl (by decide) rfl (fun ls hl => ?_)
  refine lv_iconst (v := nI 0) xx xb dX1_greatestCommon_6 (by decide) ?_
  refine lv_istore (lv' := [(8, .int (nI 0)), (6, .long (lN b)), (4, .long (lN a)), (0, .long (lN a)), (2, .long (lN b))]) xx xb dX1_greatestCommon_7 hl (by decide) rfl (fun ls hl => ?_)
  have L_9 : ∀ (fu : Nat) (x : Nat) (y : Nat) (i : Nat) (H : Heap) (locs : List Loc) (ls : Array Slot), 100 - i < fu → (x < 4611686018427387904) → (y < 4611686018427387904) → (i ≤ 100) → (eug i x y) → (Nat.gcd x y = Nat.gcd a b) → Wd G (fA []) s [] H locs → lv_has ls 11 [(4, .long (lN x)), (6, .long (lN y)), (8, .int (nI i))] → W p l e ({ frames := 0, cells := 0, slots := 0, locals := 0 }) s m (([.long (lN a), .long (lN b)] : List Value).toArray) below meth c H locs 0 0 (MQ below (QL G [] (fun (r : Int64) (u : Unit) => r = lN (Nat.gcd a b)) (fun u => [])) (([.long (lN a), .long (lN b)] : List Value).toArray) s 0 0 (fA [])) (F0 m 9 ls []) := by
    intro fu
    induction fu with
    | zero => intro x y i H locs ls hfu; exact absurd hfu (Nat.not_lt_zero _)
    | succ fu ih_9 =>
      intro x y i H locs ls hfu hx hy hi hE hg hw hl
      refine lv_iload xx xb dX1_greatestCommon_9 (lv_at hl 2 rfl) ?_
      refine lv_bipush (v := nI 100) xx xb dX1_greatestCommon_11 (by decide) ?_
      refine lv_icmp_ge (tgt := 44) xx xb dX1_greatestCommon_13 (by decide) (fun c_13 => ?_) (fun c_13 => ?_)
      · skip
        have c_13 := le_c (tN (by omega)) (tN (by omega)) c_13
        refine lv_lload xx xb dX1_greatestCommon_44 (lv_at hl 0 rfl) ?_
        exact rt_l C hw () (by first | (rw [← hg, show y = 0 by omega, Nat.gcd_zero_right]; done) | (rw [← hg, eu_0 hE (by omega), Nat.gcd_zero_right]; done)) rfl dX1_greatestCommon_46
      · skip
        have c_13 := nle_c (tN (by omega)) (tN (by omega)) c_13
        refine lv_lload xx xb dX1_greatestCommon_16 (lv_at hl 1 rfl) ?_
        refine lv_lconst (v := lN 0) xx xb dX1_greatestCommon_18 rfl ?_
        refine W.lcmp xx xb dX1_greatestCommon_19 ?_
        refine lv_if_eq (tgt := 44) xx xb dX1_greatestCommon_20 (by decide) (fun c_20 => ?_) (fun c_20 => ?_)
        · skip
          have c_20 := (lg_z (by omega) (by omega)).mp c_20
          refine lv_lload xx xb dX1_greatestCommon_44 (lv_at hl 0 rfl) ?_
          exact rt_l C hw () (by first | (rw [← hg, show y = 0 by omega, Nat.gcd_zero_right]; done) | (rw [← hg, eu_0 hE (by omega), Nat.gcd_zero_right]; done)) rfl dX1_greatestCommon_46
        · skip
          have c_20 := mt (lg_z (by omega) (by omega)).mpr c_20
          have hm : x % y < y := Nat.mod_lt _ (by omega)
          have hg2 : Nat.gcd y (x % y) = Nat.gcd a b := by rw [← hg, Nat.gcd_comm x y, Nat.gcd_rec y x, Nat.gcd_comm]
          have hE2 := eu_s hE c_20
          refine lv_lload xx xb dX1_greatestCommon_23 (lv_at hl 0 rfl) ?_
          refine lv_lload xx xb dX1_greatestCommon_25 (lv_at hl 1 rfl) ?_
          refine lv_lrem xx xb dX1_greatestCommon_27 (lN_ne0 (by omega) (by omega)) ?_
          refine re_l (lN (x % y)) (pk_lRem (by omega) (by omega) (by omega)) ?_
          refine lv_lstore (lv' := [(9, .long (lN (x % y))), (4, .long (lN x)), (6, .long (lN y)), (8, .int (nI i))]) xx xb dX1_greatestCommon_28 hl (by decide) rfl (fun ls hl => ?_)
          refine lv_lload xx xb dX1_greatestCommon_30 (lv_at hl 2 rfl) ?_
          refine lv_lstore (lv' := [(4, .long (lN y)), (9, .long (lN (x % y))), (6, .long (lN y)), (8, .int (nI i))]) xx xb dX1_greatestCommon_32 hl (by decide) rfl (fun ls hl => ?_)
          refine lv_lload xx xb dX1_greatestCommon_34 (lv_at hl 1 rfl) ?_
          refine lv_lstore (lv' := [(6, .long (lN (x % y))), (4, .long (lN y)), (9, .long (lN (x % y))), (8, .int (nI i))]) xx xb dX1_greatestCommon_36 hl (by decide) rfl (fun ls hl => ?_)
          refine lv_iinc (v := nI (i + 1)) (lv' := [(8, .int (nI (i + 1))), (6, .long (lN (x % y))), (4, .long (lN y)), (9, .long (lN (x % y)))]) xx xb dX1_greatestCommon_38 hl (k := 3) rfl (nI_add _ 1) (by decide) rfl (fun ls hl => ?_)
          refine lv_goto (tgt := 9) xx xb dX1_greatestCommon_41 (by decide) ?_
          exact ih_9 y (x % y) (i + 1) H _ ls (by omega) (by omega) (by omega) (by omega) hE2 hg2 hw (lv_sub hl [2, 1, 0] rfl)
  exact L_9 (_ + 1) a b 0 H _ ls (Nat.lt_succ_self _) ha hb (by omega) (Or.inl ⟨rfl, hab⟩) rfl hw (lv_sub hl [2, 1, 0] rfl)
set_option maxRecDepth 100000 in
set_option maxHeartbeats 4000000 in
theorem kX1_standsInDraughts (l : Launch) (G : GT) (h0 : Nat) (so : Nat) (to : Nat) (uo : Nat) (x5 : Nat) (x6 : Nat) (x7 : Nat) (x8 : Nat) (im : Nat) (lm : Nat) (rm : Nat) (sd : Int32) (ak : Nat) (af : Nat) (ab : Nat) (aa : Nat) (R : RT) (tk : Nat) (tf : Nat) (tb : Nat) (ta : Nat) (m0 : Nat) (S : RT) (a : Nat) (k1 : Nat) (q : Nat) (hR : OK R) (hK : AK R) (hp : R 0 3 = 0) (ha : a < R 0 0) (hk : k1 ≤ 7) (hq : q < 128) : Ct l yX1_standsInDraughts cX1_standsInDraughts 5 (some .boolean) 3 78 [.ref h0, .int (nI a), .int (nI k1), .int (nI q)] G [(h0, .inr (1, [.ref so, .ref to, .ref uo, .int (nI im), .ref x5, .int (nI lm), .ref x6, .int (nI rm), .ref x7, .ref x8, .int sd])), (so, .inr (0, [.int (nI (sN R)), .int (nI (R 0 1)), .int (nI (sF R)), .int (nI (sS R)), .int (nI (sL R)), .ref ak, .ref af, .ref ab, .ref aa])), (ak, aI G 10 (sK R)), (af, aI G 10 (sG R)), (ab, aI G 10 (sO R)), (aa, aI G 10 (sA R)), (to, .inr (0, [.int (nI (sN S)), .int (nI m0), .int (nI (sF S)), .int (nI (sS S)), .int (nI (sL S)), .ref tk, .ref tf, .ref tb, .ref ta])), (tk, aI G 10 (sK S)), (tf, aI G 10 (sG S)), (tb, aI G 10 (sO S)), (ta, aI G 10 (sA S))] (QI G [(h0, .inr (1, [.ref so, .ref to, .ref uo, .int (nI im), .ref x5, .int (nI lm), .ref x6, .int (nI rm), .ref x7, .ref x8, .int sd])), (so, .inr (0, [.int (nI (sN R)), .int (nI (R 0 1)), .int (nI (sF R)), .int (nI (sS R)), .int (nI (sL R)), .ref ak, .ref af, .ref ab, .ref aa])), (ak, aI G 10 (sK R)), (af, aI G 10 (sG R)), (ab, aI G 10 (sO R)), (aa, aI G 10 (sA R)), (to, .inr (0, [.int (nI (sN S)), .int (nI m0), .int (nI (sF S)), .int (nI (sS S)), .int (nI (sL S)), .ref tk, .ref tf, .ref tb, .ref ta])), (tk, aI G 10 (sK S)), (tf, aI G 10 (sG S)), (tb, aI G 10 (sO S)), (ta, aI G 10 (sA S))] (fun (r : Int32) (u : RT) => r = (if drF R q k1 4 a = 0 then 1 else 0) ∧ True) (fun u => [(h0, .inr (1, [.ref so, .ref to, .ref uo, .int (nI im), .ref x5, .int (nI lm), .ref x6, .int (nI rm), .ref x7, .ref x8, .int sd])), (so, .inr (0, [.int (nI (sN R)), .int (nI (R 0 1)), .int (nI (sF R)), .int (nI (sS R)), .int (nI (sL R)), .ref ak, .ref af, .ref ab, .ref aa])), (ak, aI G 10 (sK R)), (af, aI G 10 (sG R)), (ab, aI G 10 (sO R)), (aa, aI G 10 (sA R)), (to, .inr (0, [.int (nI (sN u)), .int (nI (R 0 1)), .int (nI (sF u)), .int (nI (sS u)), .int (nI (sL u)), .ref tk, .ref tf, .ref tb, .ref ta])), (tk, aI G 10 (sK u)), (tf, aI G 10 (sG u)), (tb, aI G 10 (sO u)), (ta, aI G 10 (sA u))])) := by
  refine en (by decide +kernel) (Nat.le_of_ble_eq_true rfl) ?_
  intro p e s m below meth c ls H locs C hl hw
  have xx := C.1
  have xb := C.2.1
  have hw : Wd G (fA [(h0, .inr (1, [.ref so, .ref to, .ref uo, .int (nI im), .ref x5, .int (nI lm), .ref x6, .int (nI rm), .ref x7, .ref x8, .int sd])), (so, .inr (0, [.int (nI (sN R)), .int (nI (R 0 1)), .int (nI (sF R)), .int (nI (sS R)), .int (nI (sL R)), .ref ak, .ref af, .ref ab, .ref aa])), (ak, aI G 10 (sK R)), (af, aI G 10 (sG R)), (ab, aI G 10 (sO R)), (aa, aI G 10 (sA R)), (to, .inr (0, [.int (nI (sN S)), .int (nI m0), .int (nI (sF S)), .int (nI (sS S)), .int (nI (sL S)), .ref tk, .ref tf, .ref tb, .ref ta])), (tk, aI G 10 (sK S)), (tf, aI G 10 (sG S)), (tb, aI G 10 (sO S)), (ta, aI G 10 (sA S))]) s [(h0, .inr (1, [.ref so, .ref to, .ref uo, .int (nI im), .ref x5, .int (nI lm), .ref x6, .int (nI rm), .ref x7, .ref x8, .int sd])), (so, .inr (0, [.int (nI (sN R)), .int (nI (R 0 1)), .int (nI (sF R)), .int (nI (sS R)), .int (nI (sL R)), .ref ak, .ref af, .ref ab, .ref aa])), (ak, aI G 10 (sK R)), (af, aI G 10 (sG R)), (ab, aI G 10 (sO R)), (aa, aI G 10 (sA R)), (to, .inr (0, [.int (nI (sN S)), .int (nI m0), .int (nI (sF S)), .int (nI (sS S)), .int (nI (sL S)), .ref tk, .ref tf, .ref tb, .ref ta])), (tk, aI G 10 (sK S)), (tf, aI G 10 (sG S)), (tb, aI G 10 (sO S)), (ta, aI G 10 (sA S))] H locs := hw
  have hl : lv_has ls 5 [(0, .ref h0), (1, .int (nI a)), (2, .int (nI k1)), (3, .int (nI q))] := hl
  obtain ⟨hn, hf0, hpr, hA⟩ := id hR
  refine lv_aload_n xx xb dX1_standsInDraughts_0 rfl (lv_at hl 0 rfl) ?_
  refine m_get C hw 0 rfl fk_X1_16 rfl dX1_standsInDraughts_1 ?_
  refine lv_aload_n xx xb dX1_standsInDraughts_4 rfl (lv_at hl 0 rfl) ?_
  refine m_get C hw 0 rfl fk_X1_10 rfl dX1_standsInDraughts_5 ?_
  have hM := kX0_copyFrom l G to tk tf tb ta m0 S so ak af ab aa (R 0 1) R (by first | assumption | omega)
  refine cv_v C hw hM yvX0_copyFrom ml_X1_131 6 rfl rfl rfl [6, 7, 8, 9, 10, 1, 2, 3, 4, 5] rfl rfl (fun _ => (rfl : ([to, tk, tf, tb, ta, so, ak, af, ab, aa] : List Nat) = [to, tk, tf, tb, ta, so, ak, af, ab, aa])) (by decide) ⟨Nat.zero_le _, Nat.zero_le _⟩ hl.1 rfl (Nat.le_of_ble_eq_true rfl) dX1_standsInDraughts_8 (fun _ H locs hr hw => ?_)
  have hw : Wd G (fA [(h0, .inr (1, [.ref so, .ref to, .ref uo, .int (nI im), .ref x5, .int (nI lm), .ref x6, .int (nI rm), .ref x7, .ref x8, .int sd])), (so, .inr (0, [.int (nI (sN R)), .int (nI (R 0 1)), .int (nI (sF R)), .int (nI (sS R)), .int (nI (sL R)), .ref ak, .ref af, .ref ab, .ref aa])), (ak, aI G 10 (sK R)), (af, aI G 10 (sG R)), (ab, aI G 10 (sO R)), (aa, aI G 10 (sA R)), (to, .inr (0, [.int (nI (sN S)), .int (nI m0), .int (nI (sF S)), .int (nI (sS S)), .int (nI (sL S)), .ref tk, .ref tf, .ref tb, .ref ta])), (tk, aI G 10 (sK S)), (tf, aI G 10 (sG S)), (tb, aI G 10 (sO S)), (ta, aI G 10 (sA S))]) s [(h0, .inr (1, [.ref so, .ref to, .ref uo, .int (nI im), .ref x5, .int (nI lm), .ref x6, .int (nI rm), .ref x7, .ref x8, .int sd])), (so, .inr (0, [.int (nI (sN R)), .int (nI (R 0 1)), .int (nI (sF R)), .int (nI (sS R)), .int (nI (sL R)), .ref ak, .ref af, .ref ab, .ref aa])), (ak, aI G 10 (sK R)), (af, aI G 10 (sG R)), (ab, aI G 10 (sO R)), (aa, aI G 10 (sA R)), (to, .inr (0, [.int (nI (sN R)), .int (nI (R 0 1)), .int (nI (sF R)), .int (nI (sS R)), .int (nI (sL R)), .ref tk, .ref tf, .ref tb, .ref ta])), (tk, aI G 10 (sK R)), (tf, aI G 10 (sG R)), (tb, aI G 10 (sO R)), (ta, aI G 10 (sA R))] H locs := hw
  refine lv_iconst (v := nI 0) xx xb dX1_standsInDraughts_11 (by decide) ?_
  refine lv_istore (lv' := [(4, .int (nI 0)), (0, .ref h0), (1, .int (nI a)), (2, .int (nI k1)), (3, .int (nI q))]) xx xb dX1_standsInDraughts_12 hl (by decide) rfl (fun ls hl => ?_)
  have hw : Wd G (fA [(h0, .inr (1, [.ref so, .ref to, .ref uo, .int (nI im), .ref x5, .int (nI lm), .ref x6, .int (nI rm), .ref x7, .ref x8, .int sd])), (so, .inr (0, [.int (nI (sN R)), .int (nI (R 0 1)), .int (nI (sF R)), .int (nI (sS R)), .int (nI (sL R)), .ref ak, .ref af, .ref ab, .ref aa])), (ak, aI G 10 (sK R)), (af, aI G 10 (sG R)), (ab, aI G 10 (sO R)), (aa, aI G 10 (sA R)), (to, .inr (0, [.int (nI (sN S)), .int (nI m0), .int (nI (sF S)), .int (nI (sS S)), .int (nI (sL S)), .ref tk, .ref tf, .ref tb, .ref ta])), (tk, aI G 10 (sK S)), (tf, aI G 10 (sG S)), (tb, aI G 10 (sO S)), (ta, aI G 10 (sA S))]) s [(h0, .inr (1, [.ref so, .ref to, .ref uo, .int (nI im), .ref x5, .int (nI lm), .ref x6, .int (nI rm), .ref x7, .ref x8, .int sd])), (so, .inr (0, [.int (nI (sN R)), .int (nI (R 0 1)), .int (nI (sF R)), .int (nI (sS R)), .int (nI (sL R)), .ref ak, .ref af, .ref ab, .ref aa])), (ak, aI G 10 (sK R)), (af, aI G 10 (sG R)), (ab, aI G 10 (sO R)), (aa, aI G 10 (sA R)), (to, .inr (0, [.int (nI (sN (drF R q 0))), .int (nI (R 0 1)), .int (nI (sF (drF R q 0))), .int (nI (sS (drF R q 0))), .int (nI (sL (drF R q 0))), .ref tk, .ref tf, .ref tb, .ref ta])), (tk, aI G 10 (sK (drF R q 0))), (tf, aI G 10 (sG (drF R q 0))), (tb, aI G 10 (sO (drF R q 0))), (ta, aI G 10 (sA (drF R q 0)))] H locs := hw
  have L_14 : ∀ (fu : Nat) (i : Nat) (H : Heap) (locs : List Loc) (ls : Array Slot), k1 - i < fu → (i ≤ k1) → Wd G (fA [(h0, .inr (1, [.ref so, .ref to, .ref uo, .int (nI im), .ref x5, .int (nI lm), .ref x6, .int (nI rm), .ref x7, .ref x8, .int sd])), (so, .inr (0, [.int (nI (sN R)), .int (nI (R 0 1)), .int (nI (sF R)), .int (nI (sS R)), .int (nI (sL R)), .ref ak, .ref af, .ref ab, .ref aa])), (ak, aI G 10 (sK R)), (af, aI G 10 (sG R)), (ab, aI G 10 (sO R)), (aa, aI G 10 (sA R)), (to, .inr (0, [.int (nI (sN S)), .int (nI m0), .int (nI (sF S)), .int (nI (sS S)), .int (nI (sL S)), .ref tk, .ref tf, .ref tb, .ref ta])), (tk, aI G 10 (sK S)), (tf, aI G 10 (sG S)), (tb, aI G 10 (sO S)), (ta, aI G 10 (sA S))]) s [(h0, .inr (1, [.ref so, .ref to, .ref uo, .int (nI im), .ref x5, .int (nI lm), .ref x6, .int (nI rm), .ref x7, .ref x8, .int sd])), (so, .inr (0, [.int (nI (sN R)), .int (nI (R 0 1)), .int (nI (sF R)), .int (nI (sS R)), .int (nI (sL R)), .ref ak, .ref af, .ref ab, .ref aa])), (ak, aI G 10 (sK R)), (af, aI G 10 (sG R)), (ab, aI G 10 (sO R)), (aa, aI G 10 (sA R)), (to, .inr (0, [.int (nI (sN (drF R q i))), .int (nI (R 0 1)), .int (nI (sF (drF R q i))), .int (nI (sS (drF R q i))), .int (nI (sL (drF R q i))), .ref tk, .ref tf, .ref tb, .ref ta])), (tk, aI G 10 (sK (drF R q i))), (tf, aI G 10 (sG (drF R q i))), (tb, aI G 10 (sO (drF R q i))), (ta, aI G 10 (sA (drF R q i)))] H locs → lv_has ls 5 [(0, .ref h0), (1, .int (nI a)), (2, .int (nI k1)), (3, .int (nI q)), (4, .int (nI i))] → W p l e ({ frames := 3, cells := 0, slots := 0, locals := 78 }) s m (([.ref h0, .int (nI a), .int (nI k1), .int (nI q)] : List Value).toArray) below meth c H locs 0 0 (MQ below (QI G [(h0, .inr (1, [.ref so, .ref to, .ref uo, .int (nI im), .ref x5, .int (nI lm), .ref x6, .int (nI rm), .ref x7, .ref x8, .int sd])), (so, .inr (0, [.int (nI (sN R)), .int (nI (R 0 1)), .int (nI (sF R)), .int (nI (sS R)), .int (nI (sL R)), .ref ak, .ref af, .ref ab, .ref aa])), (ak, aI G 10 (sK R)), (af, aI G 10 (sG R)), (ab, aI G 10 (sO R)), (aa, aI G 10 (sA R)), (to, .inr (0, [.int (nI (sN S)), .int (nI m0), .int (nI (sF S)), .int (nI (sS S)), .int (nI (sL S)), .ref tk, .ref tf, .ref tb, .ref ta])), (tk, aI G 10 (sK S)), (tf, aI G 10 (sG S)), (tb, aI G 10 (sO S)), (ta, aI G 10 (sA S))] (fun (r : Int32) (u : RT) => r = (if drF R q k1 4 a = 0 then 1 else 0) ∧ True) (fun u => [(h0, .inr (1, [.ref so, .ref to, .ref uo, .int (nI im), .ref x5, .int (nI lm), .ref x6, .int (nI rm), .ref x7, .ref x8, .int sd])), (so, .inr (0, [.int (nI (sN R)), .int (nI (R 0 1)), .int (nI (sF R)), .int (nI (sS R)), .int (nI (sL R)), .ref ak, .ref af, .ref ab, .ref aa])), (ak, aI G 10 (sK R)), (af, aI G 10 (sG R)), (ab, aI G 10 (sO R)), (aa, aI G 10 (sA R)), (to, .inr (0, [.int (nI (sN u)), .int (nI (R 0 1)), .int (nI (sF u)), .int (nI (sS u)), .int (nI (sL u)), .ref tk, .ref tf, .ref tb, .ref ta])), (tk, aI G 10 (sK u)), (tf, aI G 10 (sG u)), (tb, aI G 10 (sO u)), (ta, aI G 10 (sA u))])) (([.ref h0, .int (nI a), .int (nI k1), .int (nI q)] : List Value).toArray) s 0 0 (fA [(h0, .inr (1, [.ref so, .ref to, .ref uo, .int (nI im), .ref x5, .int (nI lm), .ref x6, .int (nI rm), .ref x7, .ref x8, .int sd])), (so, .inr (0, [.int (nI (sN R)), .int (nI (R 0 1)), .int (nI (sF R)), .int (nI (sS R)), .int (nI (sL R)), .ref ak, .ref af, .ref ab, .ref aa])), (ak, aI G 10 (sK R)), (af, aI G 10 (sG R)), (ab, aI G 10 (sO R)), (aa, aI G 10 (sA R)), (to, .inr (0, [.int (nI (sN S)), .int (nI m0), .int (nI (sF S)), .int (nI (sS S)), .int (nI (sL S)), .ref tk, .ref tf, .ref tb, .ref ta])), (tk, aI G 10 (sK S)), (tf, aI G 10 (sG S)), (tb, aI G 10 (sO S)), (ta, aI G 10 (sA S))])) (F0 m 14 ls []) := by
    intro fu
    induction fu with
    | zero => intro i H locs ls hfu; exact absurd hfu (Nat.not_lt_zero _)
    | succ fu ih_14 =>
      intro i H locs ls hfu hi hw hl
      refine lv_iload xx xb dX1_standsInDraughts_14 (lv_at hl 4 rfl) ?_
      refine lv_iload_n xx xb dX1_standsInDraughts_16 rfl (lv_at hl 2 rfl) ?_
      refine lv_icmp_ge (tgt := 51) xx xb dX1_standsInDraughts_17 (by decide) (fun c_17 => ?_) (fun c_17 => ?_)
      · skip
        have c_17 := le_c (tN (by omega)) (tN (by omega)) c_17
        have heq : drF R q i 4 a = 0 ↔ drF R q k1 4 a = 0 := by
          first
          | (rw [show k1 = i by omega])
          | (have z := dr_keep (S := q) (by omega) c_28 (k1 - i)
             rw [show i + (k1 - i) = k1 by omega] at z
             exact ⟨fun y => absurd y c_28, fun y => absurd y z⟩)
        refine lv_aload_n xx xb dX1_standsInDraughts_51 rfl (lv_at hl 0 rfl) ?_
        refine m_get C hw 0 rfl fk_X1_16 rfl dX1_standsInDraughts_52 ?_
        refine lv_iload_n xx xb dX1_standsInDraughts_55 rfl (lv_at hl 1 rfl) ?_
        have hM := kX0_stands l G to tk tf tb ta (R 0 1) (drF R q i) (nI a) ((a : Nat) : Int) (tN (by omega)) (OK_drF hR q i)
        refine cv_i C hw hM yvX0_stands ml_X1_166 6 rfl rfl rfl [6, 7, 8, 9, 10] rfl rfl (fun _ => (rfl : ([to, tk, tf, tb, ta] : List Nat) = [to, tk, tf, tb, ta])) (by decide) ⟨Nat.zero_le _, Nat.zero_le _⟩ hl.1 rfl (Nat.le_of_ble_eq_true rfl) dX1_standsInDraughts_56 (fun r _ H locs hr hw => ?_)
        have hw : Wd G (fA [(h0, .inr (1, [.ref so, .ref to, .ref uo, .int (nI im), .ref x5, .int (nI lm), .ref x6, .int (nI rm), .ref x7, .ref x8, .int sd])), (so, .inr (0, [.int (nI (sN R)), .int (nI (R 0 1)), .int (nI (sF R)), .int (nI (sS R)), .int (nI (sL R)), .ref ak, .ref af, .ref ab, .ref aa])), (ak, aI G 10 (sK R)), (af, aI G 10 (sG R)), (ab, aI G 10 (sO R)), (aa, aI G 10 (sA R)), (to, .inr (0, [.int (nI (sN S)), .int (nI m0), .int (nI (sF S)), .int (nI (sS S)), .int (nI (sL S)), .ref tk, .ref tf, .ref tb, .ref ta])), (tk, aI G 10 (sK S)), (tf, aI G 10 (sG S)), (tb, aI G 10 (sO S)), (ta, aI G 10 (sA S))]) s [(h0, .inr (1, [.ref so, .ref to, .ref uo, .int (nI im), .ref x5, .int (nI lm), .ref x6, .int (nI rm), .ref x7, .ref x8, .int sd])), (so, .inr (0, [.int (nI (sN R)), .int (nI (R 0 1)), .int (nI (sF R)), .int (nI (sS R)), .int (nI (sL R)), .ref ak, .ref af, .ref ab, .ref aa])), (ak, aI G 10 (sK R)), (af, aI G 10 (sG R)), (ab, aI G 10 (sO R)), (aa, aI G 10 (sA R)), (to, .inr (0, [.int (nI (sN (drF R q i))), .int (nI (R 0 1)), .int (nI (sF (drF R q i))), .int (nI (sS (drF R q i))), .int (nI (sL (drF R q i))), .ref tk, .ref tf, .ref tb, .ref ta])), (tk, aI G 10 (sK (drF R q i))), (tf, aI G 10 (sG (drF R q i))), (tb, aI G 10 (sO (drF R q i))), (ta, aI G 10 (sA (drF R q i)))] H locs := hw
        subst hr
        refine re_i (if drF R q i 4 a = 0 then 1 else 0) (st_i (R := drF R q i) (by rw [drF_00]; omega)) ?_
        exact rt_z C hw (drF R q i) (b01 _) (⟨ifc heq, trivial⟩) rfl dX1_standsInDraughts_59
      · skip
        have c_17 := nle_c (tN (by omega)) (tN (by omega)) c_17
        refine lv_aload_n xx xb dX1_standsInDraughts_20 rfl (lv_at hl 0 rfl) ?_
        refine m_get C hw 0 rfl fk_X1_16 rfl dX1_standsInDraughts_21 ?_
        refine lv_iload_n xx xb dX1_standsInDraughts_24 rfl (lv_at hl 1 rfl) ?_
        have hM := kX0_stands l G to tk tf tb ta (R 0 1) (drF R q i) (nI a) ((a : Nat) : Int) (tN (by omega)) (OK_drF hR q i)
        refine cv_i C hw hM yvX0_stands ml_X1_166 6 rfl rfl rfl [6, 7, 8, 9, 10] rfl rfl (fun _ => (rfl : ([to, tk, tf, tb, ta] : List Nat) = [to, tk, tf, tb, ta])) (by decide) ⟨Nat.zero_le _, Nat.zero_le _⟩ hl.1 rfl (Nat.le_of_ble_eq_true rfl) dX1_standsInDraughts_25 (fun r _ H locs hr hw => ?_)
        have hw : Wd G (fA [(h0, .inr (1, [.ref so, .ref to, .ref uo, .int (nI im), .ref x5, .int (nI lm), .ref x6, .int (nI rm), .ref x7, .ref x8, .int sd])), (so, .inr (0, [.int (nI (sN R)), .int (nI (R 0 1)), .int (nI (sF R)), .int (nI (sS R)), .int (nI (sL R)), .ref ak, .ref af, .ref ab, .ref aa])), (ak, aI G 10 (sK R)), (af, aI G 10 (sG R)), (ab, aI G 10 (sO R)), (aa, aI G 10 (sA R)), (to, .inr (0, [.int (nI (sN S)), .int (nI m0), .int (nI (sF S)), .int (nI (sS S)), .int (nI (sL S)), .ref tk, .ref tf, .ref tb, .ref ta])), (tk, aI G 10 (sK S)), (tf, aI G 10 (sG S)), (tb, aI G 10 (sO S)), (ta, aI G 10 (sA S))]) s [(h0, .inr (1, [.ref so, .ref to, .ref uo, .int (nI im), .ref x5, .int (nI lm), .ref x6, .int (nI rm), .ref x7, .ref x8, .int sd])), (so, .inr (0, [.int (nI (sN R)), .int (nI (R 0 1)), .int (nI (sF R)), .int (nI (sS R)), .int (nI (sL R)), .ref ak, .ref af, .ref ab, .ref aa])), (ak, aI G 10 (sK R)), (af, aI G 10 (sG R)), (ab, aI G 10 (sO R)), (aa, aI G 10 (sA R)), (to, .inr (0, [.int (nI (sN (drF R q i))), .int (nI (R 0 1)), .int (nI (sF (drF R q i))), .int (nI (sS (drF R q i))), .int (nI (sL (drF R q i))), .ref tk, .ref tf, .ref tb, .ref ta])), (tk, aI G 10 (sK (drF R q i))), (tf, aI G 10 (sG (drF R q i))), (tb, aI G 10 (sO (drF R q i))), (ta, aI G 10 (sA (drF R q i)))] H locs := hw
        subst hr
        refine re_i (if drF R q i 4 a = 0 then 1 else 0) (st_i (R := drF R q i) (by rw [drF_00]; omega)) ?_
        refine lv_if_eq (tgt := 51) xx xb dX1_standsInDraughts_28 (by decide) (fun c_28 => ?_) (fun c_28 => ?_)
        · skip
          have c_28 := b0_c c_28
          have heq : drF R q i 4 a = 0 ↔ drF R q k1 4 a = 0 := by
            first
            | (rw [show k1 = i by omega])
            | (have z := dr_keep (S := q) (by omega) c_28 (k1 - i)
               rw [show i + (k1 - i) = k1 by omega] at z
               exact ⟨fun y => absurd y c_28, fun y => absurd y z⟩)
          refine lv_aload_n xx xb dX1_standsInDraughts_51 rfl (lv_at hl 0 rfl) ?_
          refine m_get C hw 0 rfl fk_X1_16 rfl dX1_standsInDraughts_52 ?_
          refine lv_iload_n xx xb dX1_standsInDraughts_55 rfl (lv_at hl 1 rfl) ?_
          have hM := kX0_stands l G to tk tf tb ta (R 0 1) (drF R q i) (nI a) ((a : Nat) : Int) (tN (by omega)) (OK_drF hR q i)
          refine cv_i C hw hM yvX0_stands ml_X1_166 6 rfl rfl rfl [6, 7, 8, 9, 10] rfl rfl (fun _ => (rfl : ([to, tk, tf, tb, ta] : List Nat) = [to, tk, tf, tb, ta])) (by decide) ⟨Nat.zero_le _, Nat.zero_le _⟩ hl.1 rfl (Nat.le_of_ble_eq_true rfl) dX1_standsInDraughts_56 (fun r _ H locs hr hw => ?_)
          have hw : Wd G (fA [(h0, .inr (1, [.ref so, .ref to, .ref uo, .int (nI im), .ref x5, .int (nI lm), .ref x6, .int (nI rm), .ref x7, .ref x8, .int sd])), (so, .inr (0, [.int (nI (sN R)), .int (nI (R 0 1)), .int (nI (sF R)), .int (nI (sS R)), .int (nI (sL R)), .ref ak, .ref af, .ref ab, .ref aa])), (ak, aI G 10 (sK R)), (af, aI G 10 (sG R)), (ab, aI G 10 (sO R)), (aa, aI G 10 (sA R)), (to, .inr (0, [.int (nI (sN S)), .int (nI m0), .int (nI (sF S)), .int (nI (sS S)), .int (nI (sL S)), .ref tk, .ref tf, .ref tb, .ref ta])), (tk, aI G 10 (sK S)), (tf, aI G 10 (sG S)), (tb, aI G 10 (sO S)), (ta, aI G 10 (sA S))]) s [(h0, .inr (1, [.ref so, .ref to, .ref uo, .int (nI im), .ref x5, .int (nI lm), .ref x6, .int (nI rm), .ref x7, .ref x8, .int sd])), (so, .inr (0, [.int (nI (sN R)), .int (nI (R 0 1)), .int (nI (sF R)), .int (nI (sS R)), .int (nI (sL R)), .ref ak, .ref af, .ref ab, .ref aa])), (ak, aI G 10 (sK R)), (af, aI G 10 (sG R)), (ab, aI G 10 (sO R)), (aa, aI G 10 (sA R)), (to, .inr (0, [.int (nI (sN (drF R q i))), .int (nI (R 0 1)), .int (nI (sF (drF R q i))), .int (nI (sS (drF R q i))), .int (nI (sL (drF R q i))), .ref tk, .ref tf, .ref tb, .ref ta])), (tk, aI G 10 (sK (drF R q i))), (tf, aI G 10 (sG (drF R q i))), (tb, aI G 10 (sO (drF R q i))), (ta, aI G 10 (sA (drF R q i)))] H locs := hw
          subst hr
          refine re_i (if drF R q i 4 a = 0 then 1 else 0) (st_i (R := drF R q i) (by rw [drF_00]; omega)) ?_
          exact rt_z C hw (drF R q i) (b01 _) (⟨ifc heq, trivial⟩) rfl dX1_standsInDraughts_59
        · skip
          have c_28 := b1_c c_28
          refine lv_aload_n xx xb dX1_standsInDraughts_31 rfl (lv_at hl 0 rfl) ?_
          refine m_get C hw 0 rfl fk_X1_16 rfl dX1_standsInDraughts_32 ?_
          refine lv_iload_n xx xb dX1_standsInDraughts_35 rfl (lv_at hl 3 rfl) ?_
          refine lv_iload xx xb dX1_standsInDraughts_36 (lv_at hl 4 rfl) ?_
          refine lv_ishr xx xb dX1_standsInDraughts_38 ?_
          refine lv_iconst (v := nI 1) xx xb dX1_standsInDraughts_39 (by decide) ?_
          refine lv_iand xx xb dX1_standsInDraughts_40 ?_
          refine re_i (nI (if q.testBit i = true then 1 else 0)) (bit_N (by omega) (by omega)) ?_
          have hM := kX0_passMinute l G to tk tf tb ta (R 0 1) (drF R q i) (if q.testBit i = true then 1 else 0) (OK_drF hR q i) (AK_drF hR hK q i) (dr03 hp q i) (d01 q i)
          refine cv_i C hw hM yvX0_passMinute ml_X1_296 6 rfl rfl rfl [6, 7, 8, 9, 10] rfl rfl (fun _ => (rfl : ([to, tk, tf, tb, ta] : List Nat) = [to, tk, tf, tb, ta])) (by decide) ⟨Nat.zero_le _, Nat.zero_le _⟩ hl.1 rfl (Nat.le_of_ble_eq_true rfl) dX1_standsInDraughts_41 (fun r _ H locs hr hw => ?_)
          have hw : Wd G (fA [(h0, .inr (1, [.ref so, .ref to, .ref uo, .int (nI im), .ref x5, .int (nI lm), .ref x6, .int (nI rm), .ref x7, .ref x8, .int sd])), (so, .inr (0, [.int (nI (sN R)), .int (nI (R 0 1)), .int (nI (sF R)), .int (nI (sS R)), .int (nI (sL R)), .ref ak, .ref af, .ref ab, .ref aa])), (ak, aI G 10 (sK R)), (af, aI G 10 (sG R)), (ab, aI G 10 (sO R)), (aa, aI G 10 (sA R)), (to, .inr (0, [.int (nI (sN S)), .int (nI m0), .int (nI (sF S)), .int (nI (sS S)), .int (nI (sL S)), .ref tk, .ref tf, .ref tb, .ref ta])), (tk, aI G 10 (sK S)), (tf, aI G 10 (sG S)), (tb, aI G 10 (sO S)), (ta, aI G 10 (sA S))]) s [(h0, .inr (1, [.ref so, .ref to, .ref uo, .int (nI im), .ref x5, .int (nI lm), .ref x6, .int (nI rm), .ref x7, .ref x8, .int sd])), (so, .inr (0, [.int (nI (sN R)), .int (nI (R 0 1)), .int (nI (sF R)), .int (nI (sS R)), .int (nI (sL R)), .ref ak, .ref af, .ref ab, .ref aa])), (ak, aI G 10 (sK R)), (af, aI G 10 (sG R)), (ab, aI G 10 (sO R)), (aa, aI G 10 (sA R)), (to, .inr (0, [.int (nI (sN (miF (drF R q i) (if q.testBit i = true then 1 else 0)))), .int (nI (R 0 1)), .int (nI (sF (miF (drF R q i) (if q.testBit i = true then 1 else 0)))), .int (nI (sS (miF (drF R q i) (if q.testBit i = true then 1 else 0)))), .int (nI (sL (miF (drF R q i) (if q.testBit i = true then 1 else 0)))), .ref tk, .ref tf, .ref tb, .ref ta])), (tk, aI G 10 (sK (miF (drF R q i) (if q.testBit i = true then 1 else 0)))), (tf, aI G 10 (sG (miF (drF R q i) (if q.testBit i = true then 1 else 0)))), (tb, aI G 10 (sO (miF (drF R q i) (if q.testBit i = true then 1 else 0)))), (ta, aI G 10 (sA (miF (drF R q i) (if q.testBit i = true then 1 else 0))))] H locs := hw
          subst hr
          refine lv_pop xx xb dX1_standsInDraughts_44 rfl ?_
          have hw : Wd G (fA [(h0, .inr (1, [.ref so, .ref to, .ref uo, .int (nI im), .ref x5, .int (nI lm), .ref x6, .int (nI rm), .ref x7, .ref x8, .int sd])), (so, .inr (0, [.int (nI (sN R)), .int (nI (R 0 1)), .int (nI (sF R)), .int (nI (sS R)), .int (nI (sL R)), .ref ak, .ref af, .ref ab, .ref aa])), (ak, aI G 10 (sK R)), (af, aI G 10 (sG R)), (ab, aI G 10 (sO R)), (aa, aI G 10 (sA R)), (to, .inr (0, [.int (nI (sN S)), .int (nI m0), .int (nI (sF S)), .int (nI (sS S)), .int (nI (sL S)), .ref tk, .ref tf, .ref tb, .ref ta])), (tk, aI G 10 (sK S)), (tf, aI G 10 (sG S)), (tb, aI G 10 (sO S)), (ta, aI G 10 (sA S))]) s [(h0, .inr (1, [.ref so, .ref to, .ref uo, .int (nI im), .ref x5, .int (nI lm), .ref x6, .int (nI rm), .ref x7, .ref x8, .int sd])), (so, .inr (0, [.int (nI (sN R)), .int (nI (R 0 1)), .int (nI (sF R)), .int (nI (sS R)), .int (nI (sL R)), .ref ak, .ref af, .ref ab, .ref aa])), (ak, aI G 10 (sK R)), (af, aI G 10 (sG R)), (ab, aI G 10 (sO R)), (aa, aI G 10 (sA R)), (to, .inr (0, [.int (nI (sN (drF R q (i + 1)))), .int (nI (R 0 1)), .int (nI (sF (drF R q (i + 1)))), .int (nI (sS (drF R q (i + 1)))), .int (nI (sL (drF R q (i + 1)))), .ref tk, .ref tf, .ref tb, .ref ta])), (tk, aI G 10 (sK (drF R q (i + 1)))), (tf, aI G 10 (sG (drF R q (i + 1)))), (tb, aI G 10 (sO (drF R q (i + 1)))), (ta, aI G 10 (sA (drF R q (i + 1))))] H locs := hw
          refine lv_iinc (v := nI (i + 1)) (lv' := [(4, .int (nI (i + 1))), (0, .ref h0), (1, .int (nI a)), (2, .int (nI k1)), (3, .int (nI q))]) xx xb dX1_standsInDraughts_45 hl (k := 4) rfl (nI_add _ 1) (by decide) rfl (fun ls hl => ?_)
          refine lv_goto (tgt := 14) xx xb dX1_standsInDraughts_48 (by decide) ?_
          exact ih_14 (i + 1) H _ ls (by omega) (by omega) hw (lv_sub hl [1, 2, 3, 4, 0] rfl)
  exact L_14 (_ + 1) 0 H _ ls (Nat.lt_succ_self _) (by omega) hw (lv_sub hl [1, 2, 3, 4, 0] rfl)
set_option maxRecDepth 100000 in
set_option maxHeartbeats 4000000 in
theorem kX1_draught (l : Launch) (G : GT) (h0 : Nat) (so : Nat) (to : Nat) (uo : Nat) (x5 : Nat) (x6 : Nat) (x7 : Nat) (x8 : Nat) (im : Nat) (lm : Nat) (rm : Nat) (sd : Int32) (rf : Nat → Nat) (ak : Nat) (af : Nat) (ab : Nat) (aa : Nat) (R : RT) (tk : Nat) (tf : Nat) (tb : Nat) (ta : Nat) (m0 : Nat) (S : RT) (x : Int32) (xz : Int) (n : Int32) (nz : Int) (t : Int32) (tz : Int) (ww : Int32) (wwz : Int) (h_x : x.toInt = xz) (h_n : n.toInt = nz) (h_t : t.toInt = tz) (h_ww : ww.toInt = wwz) (hR : OK R) (hK : AK R) (hp : R 0 3 = 0) : Ct l yX1_draught cX1_draught 15 (some .long) 4 102 [.ref h0, .int x, .int n, .int t, .int ww] G [(h0, .inr (1, [.ref so, .ref to, .ref uo, .int (nI im), .ref x5, .int (nI lm), .ref x6, .int (nI rm), .ref x7, .ref x8, .int sd])), (so, .inr (0, [.int (nI (sN R)), .int (nI (R 0 1)), .int (nI (sF R)), .int (nI (sS R)), .int (nI (sL R)), .ref ak, .ref af, .ref ab, .ref aa])), (ak, aI G 10 (sK R)), (af, aI G 10 (sG R)), (ab, aI G 10 (sO R)), (aa, aI G 10 (sA R)), (to, .inr (0, [.int (nI (sN S)), .int (nI m0), .int (nI (sF S)), .int (nI (sS S)), .int (nI (sL S)), .ref tk, .ref tf, .ref tb, .ref ta])), (tk, aI G 10 (sK S)), (tf, aI G 10 (sG S)), (tb, aI G 10 (sO S)), (ta, aI G 10 (sA S)), (x7, aI G 7 (cN rf))] (QL G [(h0, .inr (1, [.ref so, .ref to, .ref uo, .int (nI im), .ref x5, .int (nI lm), .ref x6, .int (nI rm), .ref x7, .ref x8, .int sd])), (so, .inr (0, [.int (nI (sN R)), .int (nI (R 0 1)), .int (nI (sF R)), .int (nI (sS R)), .int (nI (sL R)), .ref ak, .ref af, .ref ab, .ref aa])), (ak, aI G 10 (sK R)), (af, aI G 10 (sG R)), (ab, aI G 10 (sO R)), (aa, aI G 10 (sA R)), (to, .inr (0, [.int (nI (sN S)), .int (nI m0), .int (nI (sF S)), .int (nI (sS S)), .int (nI (sL S)), .ref tk, .ref tf, .ref tb, .ref ta])), (tk, aI G 10 (sK S)), (tf, aI G 10 (sG S)), (tb, aI G 10 (sO S)), (ta, aI G 10 (sA S)), (x7, aI G 7 (cN rf))] (fun (r : Int64) (u : Nat × RT) => r = anL (cDr R xz nz tz wwz) (vDr R xz.toNat nz.toNat tz.toNat wwz.toNat)) (fun u => [(h0, .inr (1, [.ref so, .ref to, .ref uo, .int (nI im), .ref x5, .int (nI lm), .ref x6, .int (nI rm), .ref x7, .ref x8, .int sd])), (so, .inr (0, [.int (nI (sN R)), .int (nI (R 0 1)), .int (nI (sF R)), .int (nI (sS R)), .int (nI (sL R)), .ref ak, .ref af, .ref ab, .ref aa])), (ak, aI G 10 (sK R)), (af, aI G 10 (sG R)), (ab, aI G 10 (sO R)), (aa, aI G 10 (sA R)), (to, .inr (0, [.int (nI (sN u.2)), .int (nI u.1), .int (nI (sF u.2)), .int (nI (sS u.2)), .int (nI (sL u.2)), .ref tk, .ref tf, .ref tb, .ref ta])), (tk, aI G 10 (sK u.2)), (tf, aI G 10 (sG u.2)), (tb, aI G 10 (sO u.2)), (ta, aI G 10 (sA u.2)), (x7, aI G 7 (cN (rfU rf (cDr R xz nz tz wwz))))])) := by
  refine en (by decide +kernel) (Nat.le_of_ble_eq_true rfl) ?_
  intro p e s m below meth c ls H locs C hl hw
  have xx := C.1
  have xb := C.2.1
  have hw : Wd G (fA [(h0, .inr (1, [.ref so, .ref to, .ref uo, .int (nI im), .ref x5, .int (nI lm), .ref x6, .int (nI rm), .ref x7, .ref x8, .int sd])), (so, .inr (0, [.int (nI (sN R)), .int (nI (R 0 1)), .int (nI (sF R)), .int (nI (sS R)), .int (nI (sL R)), .ref ak, .ref af, .ref ab, .ref aa])), (ak, aI G 10 (sK R)), (af, aI G 10 (sG R)), (ab, aI G 10 (sO R)), (aa, aI G 10 (sA R)), (to, .inr (0, [.int (nI (sN S)), .int (nI m0), .int (nI (sF S)), .int (nI (sS S)), .int (nI (sL S)), .ref tk, .ref tf, .ref tb, .ref ta])), (tk, aI G 10 (sK S)), (tf, aI G 10 (sG S)), (tb, aI G 10 (sO S)), (ta, aI G 10 (sA S)), (x7, aI G 7 (cN rf))]) s [(h0, .inr (1, [.ref so, .ref to, .ref uo, .int (nI im), .ref x5, .int (nI lm), .ref x6, .int (nI rm), .ref x7, .ref x8, .int sd])), (so, .inr (0, [.int (nI (sN R)), .int (nI (R 0 1)), .int (nI (sF R)), .int (nI (sS R)), .int (nI (sL R)), .ref ak, .ref af, .ref ab, .ref aa])), (ak, aI G 10 (sK R)), (af, aI G 10 (sG R)), (ab, aI G 10 (sO R)), (aa, aI G 10 (sA R)), (to, .inr (0, [.int (nI (sN S)), .int (nI m0), .int (nI (sF S)), .int (nI (sS S)), .int (nI (sL S)), .ref tk, .ref tf, .ref tb, .ref ta])), (tk, aI G 10 (sK S)), (tf, aI G 10 (sG S)), (tb, aI G 10 (sO S)), (ta, aI G 10 (sA S)), (x7, aI G 7 (cN rf))] H locs := hw
  have hl : lv_has ls 15 [(0, .ref h0), (1, .int x), (2, .int n), (3, .int t), (4, .int ww)] := hl
  obtain ⟨hn, hf0, hpr, hA⟩ := id hR
  have hc6 := cDr_le R xz nz tz wwz
  have hdb := dbN_le nz tz
  have hda := daN_le nz tz
  have ho2 := otN_le wwz 1
  have J_37 : ∀  (H : Heap) (locs : List Loc) (ls : Array Slot), Wd G (fA [(h0, .inr (1, [.ref so, .ref to, .ref uo, .int (nI im), .ref x5, .int (nI lm), .ref x6, .int (nI rm), .ref x7, .ref x8, .int sd])), (so, .inr (0, [.int (nI (sN R)), .int (nI (R 0 1)), .int (nI (sF R)), .int (nI (sS R)), .int (nI (sL R)), .ref ak, .ref af, .ref ab, .ref aa])), (ak, aI G 10 (sK R)), (af, aI G 10 (sG R)), (ab, aI G 10 (sO R)), (aa, aI G 10 (sA R)), (to, .inr (0, [.int (nI (sN S)), .int (nI m0), .int (nI (sF S)), .int (nI (sS S)), .int (nI (sL S)), .ref tk, .ref tf, .ref tb, .ref ta])), (tk, aI G 10 (sK S)), (tf, aI G 10 (sG S)), (tb, aI G 10 (sO S)), (ta, aI G 10 (sA S)), (x7, aI G 7 (cN rf))]) s [(h0, .inr (1, [.ref so, .ref to, .ref uo, .int (nI im), .ref x5, .int (nI lm), .ref x6, .int (nI rm), .ref x7, .ref x8, .int sd])), (so, .inr (0, [.int (nI (sN R)), .int (nI (R 0 1)), .int (nI (sF R)), .int (nI (sS R)), .int (nI (sL R)), .ref ak, .ref af, .ref ab, .ref aa])), (ak, aI G 10 (sK R)), (af, aI G 10 (sG R)), (ab, aI G 10 (sO R)), (aa, aI G 10 (sA R)), (to, .inr (0, [.int (nI (sN S)), .int (nI m0), .int (nI (sF S)), .int (nI (sS S)), .int (nI (sL S)), .ref tk, .ref tf, .ref tb, .ref ta])), (tk, aI G 10 (sK S)), (tf, aI G 10 (sG S)), (tb, aI G 10 (sO S)), (ta, aI G 10 (sA S)), (x7, aI G 7 (cN rf))] H locs → lv_has ls 15 [(0, .ref h0), (1, .int x), (2, .int n), (3, .int t), (4, .int ww), (5, .int (nG (dbN nz tz))), (6, .int (nG (daN nz tz)))] → W p l e ({ frames := 4, cells := 0, slots := 0, locals := 102 }) s m (([.ref h0, .int x, .int n, .int t, .int ww] : List Value).toArray) below meth c H locs 0 0 (MQ below (QL G [(h0, .inr (1, [.ref so, .ref to, .ref uo, .int (nI im), .ref x5, .int (nI lm), .ref x6, .int (nI rm), .ref x7, .ref x8, .int sd])), (so, .inr (0, [.int (nI (sN R)), .int (nI (R 0 1)), .int (nI (sF R)), .int (nI (sS R)), .int (nI (sL R)), .ref ak, .ref af, .ref ab, .ref aa])), (ak, aI G 10 (sK R)), (af, aI G 10 (sG R)), (ab, aI G 10 (sO R)), (aa, aI G 10 (sA R)), (to, .inr (0, [.int (nI (sN S)), .int (nI m0), .int (nI (sF S)), .int (nI (sS S)), .int (nI (sL S)), .ref tk, .ref tf, .ref tb, .ref ta])), (tk, aI G 10 (sK S)), (tf, aI G 10 (sG S)), (tb, aI G 10 (sO S)), (ta, aI G 10 (sA S)), (x7, aI G 7 (cN rf))] (fun (r : Int64) (u : Nat × RT) => r = anL (cDr R xz nz tz wwz) (vDr R xz.toNat nz.toNat tz.toNat wwz.toNat)) (fun u => [(h0, .inr (1, [.ref so, .ref to, .ref uo, .int (nI im), .ref x5, .int (nI lm), .ref x6, .int (nI rm), .ref x7, .ref x8, .int sd])), (so, .inr (0, [.int (nI (sN R)), .int (nI (R 0 1)), .int (nI (sF R)), .int (nI (sS R)), .int (nI (sL R)), .ref ak, .ref af, .ref ab, .ref aa])), (ak, aI G 10 (sK R)), (af, aI G 10 (sG R)), (ab, aI G 10 (sO R)), (aa, aI G 10 (sA R)), (to, .inr (0, [.int (nI (sN u.2)), .int (nI u.1), .int (nI (sF u.2)), .int (nI (sS u.2)), .int (nI (sL u.2)), .ref tk, .ref tf, .ref tb, .ref ta])), (tk, aI G 10 (sK u.2)), (tf, aI G 10 (sG u.2)), (tb, aI G 10 (sO u.2)), (ta, aI G 10 (sA u.2)), (x7, aI G 7 (cN (rfU rf (cDr R xz nz tz wwz))))])) (([.ref h0, .int x, .int n, .int t, .int ww] : List Value).toArray) s 0 0 (fA [(h0, .inr (1, [.ref so, .ref to, .ref uo, .int (nI im), .ref x5, .int (nI lm), .ref x6, .int (nI rm), .ref x7, .ref x8, .int sd])), (so, .inr (0, [.int (nI (sN R)), .int (nI (R 0 1)), .int (nI (sF R)), .int (nI (sS R)), .int (nI (sL R)), .ref ak, .ref af, .ref ab, .ref aa])), (ak, aI G 10 (sK R)), (af, aI G 10 (sG R)), (ab, aI G 10 (sO R)), (aa, aI G 10 (sA R)), (to, .inr (0, [.int (nI (sN S)), .int (nI m0), .int (nI (sF S)), .int (nI (sS S)), .int (nI (sL S)), .ref tk, .ref tf, .ref tb, .ref ta])), (tk, aI G 10 (sK S)), (tf, aI G 10 (sG S)), (tb, aI G 10 (sO S)), (ta, aI G 10 (sA S)), (x7, aI G 7 (cN rf))])) (F0 m 37 ls []) := by
    intro  H locs ls  hw hl
    refine lv_iload xx xb dX1_draught_37 (lv_at hl 5 rfl) ?_
    refine lv_iload xx xb dX1_draught_39 (lv_at hl 6 rfl) ?_
    have hM := kX1_firstOf l G (dbN nz tz) (daN nz tz) (by first | assumption | omega)
    refine cs_i C hw hM ysX1_firstOf ml_X1_115 rfl [] rfl rfl (fun _ => (rfl : ([] : List Nat) = [])) (by decide) ⟨Nat.zero_le _, Nat.zero_le _⟩ hl.1 rfl (Nat.le_of_ble_eq_true rfl) dX1_draught_41 (fun r _ H locs hr hw => ?_)
    have hw : Wd G (fA [(h0, .inr (1, [.ref so, .ref to, .ref uo, .int (nI im), .ref x5, .int (nI lm), .ref x6, .int (nI rm), .ref x7, .ref x8, .int sd])), (so, .inr (0, [.int (nI (sN R)), .int (nI (R 0 1)), .int (nI (sF R)), .int (nI (sS R)), .int (nI (sL R)), .ref ak, .ref af, .ref ab, .ref aa])), (ak, aI G 10 (sK R)), (af, aI G 10 (sG R)), (ab, aI G 10 (sO R)), (aa, aI G 10 (sA R)), (to, .inr (0, [.int (nI (sN S)), .int (nI m0), .int (nI (sF S)), .int (nI (sS S)), .int (nI (sL S)), .ref tk, .ref tf, .ref tb, .ref ta])), (tk, aI G 10 (sK S)), (tf, aI G 10 (sG S)), (tb, aI G 10 (sO S)), (ta, aI G 10 (sA S)), (x7, aI G 7 (cN rf))]) s [(h0, .inr (1, [.ref so, .ref to, .ref uo, .int (nI im), .ref x5, .int (nI lm), .ref x6, .int (nI rm), .ref x7, .ref x8, .int sd])), (so, .inr (0, [.int (nI (sN R)), .int (nI (R 0 1)), .int (nI (sF R)), .int (nI (sS R)), .int (nI (sL R)), .ref ak, .ref af, .ref ab, .ref aa])), (ak, aI G 10 (sK R)), (af, aI G 10 (sG R)), (ab, aI G 10 (sO R)), (aa, aI G 10 (sA R)), (to, .inr (0, [.int (nI (sN S)), .int (nI m0), .int (nI (sF S)), .int (nI (sS S)), .int (nI (sL S)), .ref tk, .ref tf, .ref tb, .ref ta])), (tk, aI G 10 (sK S)), (tf, aI G 10 (sG S)), (tb, aI G 10 (sO S)), (ta, aI G 10 (sA S)), (x7, aI G 7 (cN rf))] H locs := hw
    subst hr
    refine lv_iload xx xb dX1_draught_44 (lv_at hl 4 rfl) ?_
    refine lv_iconst (v := nI 1) xx xb dX1_draught_46 (by decide) ?_
    have hM := kX1_otherThan l G ww wwz (nI 1) 1 h_ww (tN (by omega))
    refine cs_i C hw hM ysX1_otherThan ml_X1_51 rfl [] rfl rfl (fun _ => (rfl : ([] : List Nat) = [])) (by decide) ⟨Nat.zero_le _, Nat.zero_le _⟩ hl.1 rfl (Nat.le_of_ble_eq_true rfl) dX1_draught_47 (fun r _ H locs hr hw => ?_)
    have hw : Wd G (fA [(h0, .inr (1, [.ref so, .ref to, .ref uo, .int (nI im), .ref x5, .int (nI lm), .ref x6, .int (nI rm), .ref x7, .ref x8, .int sd])), (so, .inr (0, [.int (nI (sN R)), .int (nI (R 0 1)), .int (nI (sF R)), .int (nI (sS R)), .int (nI (sL R)), .ref ak, .ref af, .ref ab, .ref aa])), (ak, aI G 10 (sK R)), (af, aI G 10 (sG R)), (ab, aI G 10 (sO R)), (aa, aI G 10 (sA R)), (to, .inr (0, [.int (nI (sN S)), .int (nI m0), .int (nI (sF S)), .int (nI (sS S)), .int (nI (sL S)), .ref tk, .ref tf, .ref tb, .ref ta])), (tk, aI G 10 (sK S)), (tf, aI G 10 (sG S)), (tb, aI G 10 (sO S)), (ta, aI G 10 (sA S)), (x7, aI G 7 (cN rf))]) s [(h0, .inr (1, [.ref so, .ref to, .ref uo, .int (nI im), .ref x5, .int (nI lm), .ref x6, .int (nI rm), .ref x7, .ref x8, .int sd])), (so, .inr (0, [.int (nI (sN R)), .int (nI (R 0 1)), .int (nI (sF R)), .int (nI (sS R)), .int (nI (sL R)), .ref ak, .ref af, .ref ab, .ref aa])), (ak, aI G 10 (sK R)), (af, aI G 10 (sG R)), (ab, aI G 10 (sO R)), (aa, aI G 10 (sA R)), (to, .inr (0, [.int (nI (sN S)), .int (nI m0), .int (nI (sF S)), .int (nI (sS S)), .int (nI (sL S)), .ref tk, .ref tf, .ref tb, .ref ta])), (tk, aI G 10 (sK S)), (tf, aI G 10 (sG S)), (tb, aI G 10 (sO S)), (ta, aI G 10 (sA S)), (x7, aI G 7 (cN rf))] H locs := hw
    subst hr
    have hM := kX1_firstOf l G (foN (dbN nz tz) (daN nz tz)) (otN wwz 1) (foN_le hdb hda)
    refine cs_i C hw hM ysX1_firstOf ml_X1_115 rfl [] rfl rfl (fun _ => (rfl : ([] : List Nat) = [])) (by decide) ⟨Nat.zero_le _, Nat.zero_le _⟩ hl.1 rfl (Nat.le_of_ble_eq_true rfl) dX1_draught_50 (fun r _ H locs hr hw => ?_)
    have hw : Wd G (fA [(h0, .inr (1, [.ref so, .ref to, .ref uo, .int (nI im), .ref x5, .int (nI lm), .ref x6, .int (nI rm), .ref x7, .ref x8, .int sd])), (so, .inr (0, [.int (nI (sN R)), .int (nI (R 0 1)), .int (nI (sF R)), .int (nI (sS R)), .int (nI (sL R)), .ref ak, .ref af, .ref ab, .ref aa])), (ak, aI G 10 (sK R)), (af, aI G 10 (sG R)), (ab, aI G 10 (sO R)), (aa, aI G 10 (sA R)), (to, .inr (0, [.int (nI (sN S)), .int (nI m0), .int (nI (sF S)), .int (nI (sS S)), .int (nI (sL S)), .ref tk, .ref tf, .ref tb, .ref ta])), (tk, aI G 10 (sK S)), (tf, aI G 10 (sG S)), (tb, aI G 10 (sO S)), (ta, aI G 10 (sA S)), (x7, aI G 7 (cN rf))]) s [(h0, .inr (1, [.ref so, .ref to, .ref uo, .int (nI im), .ref x5, .int (nI lm), .ref x6, .int (nI rm), .ref x7, .ref x8, .int sd])), (so, .inr (0, [.int (nI (sN R)), .int (nI (R 0 1)), .int (nI (sF R)), .int (nI (sS R)), .int (nI (sL R)), .ref ak, .ref af, .ref ab, .ref aa])), (ak, aI G 10 (sK R)), (af, aI G 10 (sG R)), (ab, aI G 10 (sO R)), (aa, aI G 10 (sA R)), (to, .inr (0, [.int (nI (sN S)), .int (nI m0), .int (nI (sF S)), .int (nI (sS S)), .int (nI (sL S)), .ref tk, .ref tf, .ref tb, .ref ta])), (tk, aI G 10 (sK S)), (tf, aI G 10 (sG S)), (tb, aI G 10 (sO S)), (ta, aI G 10 (sA S)), (x7, aI G 7 (cN rf))] H locs := hw
    subst hr
    refine lv_istore (lv' := [(7, .int (nG (foN (foN (dbN nz tz) (daN nz tz)) (otN wwz 1)))), (0, .ref h0), (1, .int x), (2, .int n), (3, .int t), (4, .int ww), (5, .int (nG (dbN nz tz))), (6, .int (nG (daN nz tz)))]) xx xb dX1_draught_53 hl (by decide) rfl (fun ls hl => ?_)
    refine lv_aload_n xx xb dX1_draught_55 rfl (lv_at hl 1 rfl) ?_
    refine lv_iload_n xx xb dX1_draught_56 rfl (lv_at hl 2 rfl) ?_
    refine lv_iload xx xb dX1_draught_57 (lv_at hl 0 rfl) ?_
    have hM := kX1_refusalOfThing l G h0 so to uo x5 x6 x7 x8 im lm rm sd ak af ab aa (R 0 1) R (foN (foN (dbN nz tz) (daN nz tz)) (otN wwz 1)) x xz h_x (by first | assumption | omega)
    refine cv_i C hw hM yvX1_refusalOfThing ml_X1_55 0 rfl rfl rfl [0, 1, 2, 3, 4, 5] rfl rfl (fun _ => (rfl : ([h0, so, ak, af, ab, aa] : List Nat) = [h0, so, ak, af, ab, aa])) (by decide) ⟨Nat.zero_le _, Nat.zero_le _⟩ hl.1 rfl (Nat.le_of_ble_eq_true rfl) dX1_draught_59 (fun r _ H locs hr hw => ?_)
    have hw : Wd G (fA [(h0, .inr (1, [.ref so, .ref to, .ref uo, .int (nI im), .ref x5, .int (nI lm), .ref x6, .int (nI rm), .ref x7, .ref x8, .int sd])), (so, .inr (0, [.int (nI (sN R)), .int (nI (R 0 1)), .int (nI (sF R)), .int (nI (sS R)), .int (nI (sL R)), .ref ak, .ref af, .ref ab, .ref aa])), (ak, aI G 10 (sK R)), (af, aI G 10 (sG R)), (ab, aI G 10 (sO R)), (aa, aI G 10 (sA R)), (to, .inr (0, [.int (nI (sN S)), .int (nI m0), .int (nI (sF S)), .int (nI (sS S)), .int (nI (sL S)), .ref tk, .ref tf, .ref tb, .ref ta])), (tk, aI G 10 (sK S)), (tf, aI G 10 (sG S)), (tb, aI G 10 (sO S)), (ta, aI G 10 (sA S)), (x7, aI G 7 (cN rf))]) s [(h0, .inr (1, [.ref so, .ref to, .ref uo, .int (nI im), .ref x5, .int (nI lm), .ref x6, .int (nI rm), .ref x7, .ref x8, .int sd])), (so, .inr (0, [.int (nI (sN R)), .int (nI (R 0 1)), .int (nI (sF R)), .int (nI (sS R)), .int (nI (sL R)), .ref ak, .ref af, .ref ab, .ref aa])), (ak, aI G 10 (sK R)), (af, aI G 10 (sG R)), (ab, aI G 10 (sO R)), (aa, aI G 10 (sA R)), (to, .inr (0, [.int (nI (sN S)), .int (nI m0), .int (nI (sF S)), .int (nI (sS S)), .int (nI (sL S)), .ref tk, .ref tf, .ref tb, .ref ta])), (tk, aI G 10 (sK S)), (tf, aI G 10 (sG S)), (tb, aI G 10 (sO S)), (ta, aI G 10 (sA S)), (x7, aI G 7 (cN rf))] H locs := hw
    subst hr
    refine re_i (nG (cDr R xz nz tz wwz)) (congrArg nG dr_eq) ?_
    refine lv_istore (lv' := [(8, .int (nG (cDr R xz nz tz wwz))), (7, .int (nG (foN (foN (dbN nz tz) (daN nz tz)) (otN wwz 1)))), (0, .ref h0), (1, .int x), (2, .int n), (3, .int t), (4, .int ww), (5, .int (nG (dbN nz tz))), (6, .int (nG (daN nz tz)))]) xx xb dX1_draught_62 hl (by decide) rfl (fun ls hl => ?_)
    refine lv_iload xx xb dX1_draught_64 (lv_at hl 0 rfl) ?_
    refine lv_if_eq (tgt := 84) xx xb dX1_draught_66 (by decide) (fun c_66 => ?_) (fun c_66 => ?_)
    · skip
      have c_66 := g0_c (by omega) c_66
      obtain ⟨g1, g2, g3, g4⟩ := cDr_0 c_66
      have hn7 : nz.toNat ≤ 7 := by omega
      have ht20 : tz.toNat ≤ 20 := by omega
      have htp := tpow_le ht20 hn7
      have h2n : 2 ^ nz.toNat ≤ 2 ^ 7 := Nat.pow_le_pow_right (by decide) hn7
      refine lv_iload_n xx xb dX1_draught_84 rfl (lv_at hl 5 rfl) ?_
      refine re_i (nI tz.toNat) (ofT h_t (by omega) (by omega)) ?_
      refine lv_iload_n xx xb dX1_draught_85 rfl (lv_at hl 4 rfl) ?_
      refine re_i (nI nz.toNat) (ofT h_n (by omega) (by omega)) ?_
      have hM := kX1_power l G tz.toNat nz.toNat (by first | assumption | omega) (by first | assumption | omega)
      refine cs_l C hw hM ysX1_power ml_X1_191 rfl [] rfl rfl (fun _ => (rfl : ([] : List Nat) = [])) (by decide) ⟨Nat.zero_le _, Nat.zero_le _⟩ hl.1 rfl (Nat.le_of_ble_eq_true rfl) dX1_draught_86 (fun r _ H locs hr hw => ?_)
      have hw : Wd G (fA [(h0, .inr (1, [.ref so, .ref to, .ref uo, .int (nI im), .ref x5, .int (nI lm), .ref x6, .int (nI rm), .ref x7, .ref x8, .int sd])), (so, .inr (0, [.int (nI (sN R)), .int (nI (R 0 1)), .int (nI (sF R)), .int (nI (sS R)), .int (nI (sL R)), .ref ak, .ref af, .ref ab, .ref aa])), (ak, aI G 10 (sK R)), (af, aI G 10 (sG R)), (ab, aI G 10 (sO R)), (aa, aI G 10 (sA R)), (to, .inr (0, [.int (nI (sN S)), .int (nI m0), .int (nI (sF S)), .int (nI (sS S)), .int (nI (sL S)), .ref tk, .ref tf, .ref tb, .ref ta])), (tk, aI G 10 (sK S)), (tf, aI G 10 (sG S)), (tb, aI G 10 (sO S)), (ta, aI G 10 (sA S)), (x7, aI G 7 (cN rf))]) s [(h0, .inr (1, [.ref so, .ref to, .ref uo, .int (nI im), .ref x5, .int (nI lm), .ref x6, .int (nI rm), .ref x7, .ref x8, .int sd])), (so, .inr (0, [.int (nI (sN R)), .int (nI (R 0 1)), .int (nI (sF R)), .int (nI (sS R)), .int (nI (sL R)), .ref ak, .ref af, .ref ab, .ref aa])), (ak, aI G 10 (sK R)), (af, aI G 10 (sG R)), (ab, aI G 10 (sO R)), (aa, aI G 10 (sA R)), (to, .inr (0, [.int (nI (sN S)), .int (nI m0), .int (nI (sF S)), .int (nI (sS S)), .int (nI (sL S)), .ref tk, .ref tf, .ref tb, .ref ta])), (tk, aI G 10 (sK S)), (tf, aI G 10 (sG S)), (tb, aI G 10 (sO S)), (ta, aI G 10 (sA S)), (x7, aI G 7 (cN rf))] H locs := hw
      subst hr
      refine lv_lstore (lv' := [(9, .long (lN (tz.toNat ^ nz.toNat))), (8, .int (nG (cDr R xz nz tz wwz))), (7, .int (nG (foN (foN (dbN nz tz) (daN nz tz)) (otN wwz 1)))), (0, .ref h0), (1, .int x), (2, .int n), (3, .int t), (4, .int ww), (5, .int (nG (dbN nz tz))), (6, .int (nG (daN nz tz)))]) xx xb dX1_draught_89 hl (by decide) rfl (fun ls hl => ?_)
      refine lv_lconst (v := lN 0) xx xb dX1_draught_91 rfl ?_
      refine lv_lstore (lv' := [(11, .long (lN 0)), (9, .long (lN (tz.toNat ^ nz.toNat))), (8, .int (nG (cDr R xz nz tz wwz))), (7, .int (nG (foN (foN (dbN nz tz) (daN nz tz)) (otN wwz 1)))), (0, .ref h0), (1, .int x), (2, .int n), (3, .int t), (4, .int ww), (5, .int (nG (dbN nz tz))), (6, .int (nG (daN nz tz)))]) xx xb dX1_draught_92 hl (by decide) rfl (fun ls hl => ?_)
      refine lv_iconst (v := nI 0) xx xb dX1_draught_94 (by decide) ?_
      refine lv_istore (lv' := [(13, .int (nI 0)), (11, .long (lN 0)), (9, .long (lN (tz.toNat ^ nz.toNat))), (8, .int (nG (cDr R xz nz tz wwz))), (7, .int (nG (foN (foN (dbN nz tz) (daN nz tz)) (otN wwz 1)))), (0, .ref h0), (1, .int x), (2, .int n), (3, .int t), (4, .int ww), (5, .int (nG (dbN nz tz))), (6, .int (nG (daN nz tz)))]) xx xb dX1_draught_95 hl (by decide) rfl (fun ls hl => ?_)
      have hl : lv_has ls 15 [(13, .int (nI 0)), (11, .long (lN (drA R xz.toNat tz.toNat nz.toNat 0))), (9, .long (lN (tz.toNat ^ nz.toNat))), (8, .int (nG (cDr R xz nz tz wwz))), (7, .int (nG (foN (foN (dbN nz tz) (daN nz tz)) (otN wwz 1)))), (0, .ref h0), (1, .int x), (2, .int n), (3, .int t), (4, .int ww), (5, .int (nG (dbN nz tz))), (6, .int (nG (daN nz tz)))] := hl
      have L_97 : ∀ (fu : Nat) (q : Nat) (y0 : Nat) (Y : RT) (H : Heap) (locs : List Loc) (ls : Array Slot), 128 - q < fu → (q ≤ 2 ^ nz.toNat) → Wd G (fA [(h0, .inr (1, [.ref so, .ref to, .ref uo, .int (nI im), .ref x5, .int (nI lm), .ref x6, .int (nI rm), .ref x7, .ref x8, .int sd])), (so, .inr (0, [.int (nI (sN R)), .int (nI (R 0 1)), .int (nI (sF R)), .int (nI (sS R)), .int (nI (sL R)), .ref ak, .ref af, .ref ab, .ref aa])), (ak, aI G 10 (sK R)), (af, aI G 10 (sG R)), (ab, aI G 10 (sO R)), (aa, aI G 10 (sA R)), (to, .inr (0, [.int (nI (sN S)), .int (nI m0), .int (nI (sF S)), .int (nI (sS S)), .int (nI (sL S)), .ref tk, .ref tf, .ref tb, .ref ta])), (tk, aI G 10 (sK S)), (tf, aI G 10 (sG S)), (tb, aI G 10 (sO S)), (ta, aI G 10 (sA S)), (x7, aI G 7 (cN rf))]) s [(h0, .inr (1, [.ref so, .ref to, .ref uo, .int (nI im), .ref x5, .int (nI lm), .ref x6, .int (nI rm), .ref x7, .ref x8, .int sd])), (so, .inr (0, [.int (nI (sN R)), .int (nI (R 0 1)), .int (nI (sF R)), .int (nI (sS R)), .int (nI (sL R)), .ref ak, .ref af, .ref ab, .ref aa])), (ak, aI G 10 (sK R)), (af, aI G 10 (sG R)), (ab, aI G 10 (sO R)), (aa, aI G 10 (sA R)), (to, .inr (0, [.int (nI (sN Y)), .int (nI y0), .int (nI (sF Y)), .int (nI (sS Y)), .int (nI (sL Y)), .ref tk, .ref tf, .ref tb, .ref ta])), (tk, aI G 10 (sK Y)), (tf, aI G 10 (sG Y)), (tb, aI G 10 (sO Y)), (ta, aI G 10 (sA Y)), (x7, aI G 7 (cN rf))] H locs → lv_has ls 15 [(0, .ref h0), (1, .int x), (2, .int n), (3, .int t), (4, .int ww), (9, .long (lN (tz.toNat ^ nz.toNat))), (11, .long (lN (drA R xz.toNat tz.toNat nz.toNat q))), (13, .int (nI q))] → W p l e ({ frames := 4, cells := 0, slots := 0, locals := 102 }) s m (([.ref h0, .int x, .int n, .int t, .int ww] : List Value).toArray) below meth c H locs 0 0 (MQ below (QL G [(h0, .inr (1, [.ref so, .ref to, .ref uo, .int (nI im), .ref x5, .int (nI lm), .ref x6, .int (nI rm), .ref x7, .ref x8, .int sd])), (so, .inr (0, [.int (nI (sN R)), .int (nI (R 0 1)), .int (nI (sF R)), .int (nI (sS R)), .int (nI (sL R)), .ref ak, .ref af, .ref ab, .ref aa])), (ak, aI G 10 (sK R)), (af, aI G 10 (sG R)), (ab, aI G 10 (sO R)), (aa, aI G 10 (sA R)), (to, .inr (0, [.int (nI (sN S)), .int (nI m0), .int (nI (sF S)), .int (nI (sS S)), .int (nI (sL S)), .ref tk, .ref tf, .ref tb, .ref ta])), (tk, aI G 10 (sK S)), (tf, aI G 10 (sG S)), (tb, aI G 10 (sO S)), (ta, aI G 10 (sA S)), (x7, aI G 7 (cN rf))] (fun (r : Int64) (u : Nat × RT) => r = anL (cDr R xz nz tz wwz) (vDr R xz.toNat nz.toNat tz.toNat wwz.toNat)) (fun u => [(h0, .inr (1, [.ref so, .ref to, .ref uo, .int (nI im), .ref x5, .int (nI lm), .ref x6, .int (nI rm), .ref x7, .ref x8, .int sd])), (so, .inr (0, [.int (nI (sN R)), .int (nI (R 0 1)), .int (nI (sF R)), .int (nI (sS R)), .int (nI (sL R)), .ref ak, .ref af, .ref ab, .ref aa])), (ak, aI G 10 (sK R)), (af, aI G 10 (sG R)), (ab, aI G 10 (sO R)), (aa, aI G 10 (sA R)), (to, .inr (0, [.int (nI (sN u.2)), .int (nI u.1), .int (nI (sF u.2)), .int (nI (sS u.2)), .int (nI (sL u.2)), .ref tk, .ref tf, .ref tb, .ref ta])), (tk, aI G 10 (sK u.2)), (tf, aI G 10 (sG u.2)), (tb, aI G 10 (sO u.2)), (ta, aI G 10 (sA u.2)), (x7, aI G 7 (cN (rfU rf (cDr R xz nz tz wwz))))])) (([.ref h0, .int x, .int n, .int t, .int ww] : List Value).toArray) s 0 0 (fA [(h0, .inr (1, [.ref so, .ref to, .ref uo, .int (nI im), .ref x5, .int (nI lm), .ref x6, .int (nI rm), .ref x7, .ref x8, .int sd])), (so, .inr (0, [.int (nI (sN R)), .int (nI (R 0 1)), .int (nI (sF R)), .int (nI (sS R)), .int (nI (sL R)), .ref ak, .ref af, .ref ab, .ref aa])), (ak, aI G 10 (sK R)), (af, aI G 10 (sG R)), (ab, aI G 10 (sO R)), (aa, aI G 10 (sA R)), (to, .inr (0, [.int (nI (sN S)), .int (nI m0), .int (nI (sF S)), .int (nI (sS S)), .int (nI (sL S)), .ref tk, .ref tf, .ref tb, .ref ta])), (tk, aI G 10 (sK S)), (tf, aI G 10 (sG S)), (tb, aI G 10 (sO S)), (ta, aI G 10 (sA S)), (x7, aI G 7 (cN rf))])) (F0 m 97 ls []) := by
        intro fu
        induction fu with
        | zero => intro q y0 Y H locs ls hfu; exact absurd hfu (Nat.not_lt_zero _)
        | succ fu ih_97 =>
          intro q y0 Y H locs ls hfu hq hw hl
          have hqa := drA_le R xz.toNat ht20 hn7 q
          refine lv_iload xx xb dX1_draught_97 (lv_at hl 7 rfl) ?_
          refine lv_iconst (v := nI 1) xx xb dX1_draught_99 (by decide) ?_
          refine lv_iload_n xx xb dX1_draught_100 rfl (lv_at hl 2 rfl) ?_
          refine re_i (nI nz.toNat) (ofT h_n (by omega) (by omega)) ?_
          refine lv_ishl xx xb dX1_draught_101 ?_
          refine re_i (nI (2 ^ nz.toNat)) (shl1 (by omega)) ?_
          refine lv_icmp_ge (tgt := 140) xx xb dX1_draught_102 (by decide) (fun c_102 => ?_) (fun c_102 => ?_)
          · skip
            have c_102 := le_c (tN (by omega)) (tN (by omega)) c_102
            have eA : drA R xz.toNat tz.toNat nz.toNat (2 ^ nz.toNat) = drA R xz.toNat tz.toNat nz.toNat q := by rw [show 2 ^ nz.toNat = q by omega]
            have hl : lv_has ls 15 [(0, .ref h0), (1, .int x), (2, .int n), (3, .int t), (4, .int ww), (9, .long (lN (tz.toNat ^ nz.toNat))), (11, .long (lN (drA R xz.toNat tz.toNat nz.toNat (2 ^ nz.toNat)))), (13, .int (nI q))] := by rw [eA]; exact hl
            have hal := drA_le R xz.toNat ht20 hn7 (2 ^ nz.toNat)
            have htp0 : 0 < tz.toNat ^ nz.toNat := pw_pos (by omega) _
            have hpr : drA R xz.toNat tz.toNat nz.toNat (2 ^ nz.toNat) * tz.toNat ^ nz.toNat < 2 ^ 68 := Nat.lt_of_le_of_lt (Nat.mul_le_mul (show drA R xz.toNat tz.toNat nz.toNat (2 ^ nz.toNat) ≤ 163840000000 by omega) htp) (by decide)
            have hgp : 0 < Nat.gcd (drA R xz.toNat tz.toNat nz.toNat (2 ^ nz.toNat)) (tz.toNat ^ nz.toNat) := Nat.gcd_pos_of_pos_right _ htp0
            have hgl : Nat.gcd (drA R xz.toNat tz.toNat nz.toNat (2 ^ nz.toNat)) (tz.toNat ^ nz.toNat) ≤ tz.toNat ^ nz.toNat := Nat.gcd_le_right _ htp0
            refine lv_lload xx xb dX1_draught_140 (lv_at hl 6 rfl) ?_
            refine lv_lload xx xb dX1_draught_142 (lv_at hl 5 rfl) ?_
            have hM := kX1_greatestCommon l G (drA R xz.toNat tz.toNat nz.toNat (2 ^ nz.toNat)) (tz.toNat ^ nz.toNat) (by first | assumption | omega) (by first | assumption | omega) (by first | assumption | omega)
            refine cs_l C hw hM ysX1_greatestCommon ml_X1_198 rfl [] rfl rfl (fun _ => (rfl : ([] : List Nat) = [])) (by decide) ⟨Nat.zero_le _, Nat.zero_le _⟩ hl.1 rfl (Nat.le_of_ble_eq_true rfl) dX1_draught_144 (fun r _ H locs hr hw => ?_)
            have hw : Wd G (fA [(h0, .inr (1, [.ref so, .ref to, .ref uo, .int (nI im), .ref x5, .int (nI lm), .ref x6, .int (nI rm), .ref x7, .ref x8, .int sd])), (so, .inr (0, [.int (nI (sN R)), .int (nI (R 0 1)), .int (nI (sF R)), .int (nI (sS R)), .int (nI (sL R)), .ref ak, .ref af, .ref ab, .ref aa])), (ak, aI G 10 (sK R)), (af, aI G 10 (sG R)), (ab, aI G 10 (sO R)), (aa, aI G 10 (sA R)), (to, .inr (0, [.int (nI (sN S)), .int (nI m0), .int (nI (sF S)), .int (nI (sS S)), .int (nI (sL S)), .ref tk, .ref tf, .ref tb, .ref ta])), (tk, aI G 10 (sK S)), (tf, aI G 10 (sG S)), (tb, aI G 10 (sO S)), (ta, aI G 10 (sA S)), (x7, aI G 7 (cN rf))]) s [(h0, .inr (1, [.ref so, .ref to, .ref uo, .int (nI im), .ref x5, .int (nI lm), .ref x6, .int (nI rm), .ref x7, .ref x8, .int sd])), (so, .inr (0, [.int (nI (sN R)), .int (nI (R 0 1)), .int (nI (sF R)), .int (nI (sS R)), .int (nI (sL R)), .ref ak, .ref af, .ref ab, .ref aa])), (ak, aI G 10 (sK R)), (af, aI G 10 (sG R)), (ab, aI G 10 (sO R)), (aa, aI G 10 (sA R)), (to, .inr (0, [.int (nI (sN Y)), .int (nI y0), .int (nI (sF Y)), .int (nI (sS Y)), .int (nI (sL Y)), .ref tk, .ref tf, .ref tb, .ref ta])), (tk, aI G 10 (sK Y)), (tf, aI G 10 (sG Y)), (tb, aI G 10 (sO Y)), (ta, aI G 10 (sA Y)), (x7, aI G 7 (cN rf))] H locs := hw
            subst hr
            refine lv_lstore (lv' := [(13, .long (lN (Nat.gcd (drA R xz.toNat tz.toNat nz.toNat (2 ^ nz.toNat)) (tz.toNat ^ nz.toNat)))), (0, .ref h0), (1, .int x), (2, .int n), (3, .int t), (4, .int ww), (9, .long (lN (tz.toNat ^ nz.toNat))), (11, .long (lN (drA R xz.toNat tz.toNat nz.toNat (2 ^ nz.toNat))))]) xx xb dX1_draught_147 hl (by decide) rfl (fun ls hl => ?_)
            refine lv_lload xx xb dX1_draught_149 (lv_at hl 0 rfl) ?_
            refine lv_lconst (v := lN 0) xx xb dX1_draught_151 rfl ?_
            refine W.lcmp xx xb dX1_draught_152 ?_
            refine lv_if_ne (tgt := 158) xx xb dX1_draught_153 (by decide) (fun c_153 => ?_) (fun c_153 => ?_)
            · skip
              have c_153 := mt (lg_z (by omega) (by omega)).mpr c_153
              refine lv_iload xx xb dX1_draught_158 (lv_at hl 5 rfl) ?_
              refine lv_if_ne (tgt := 171) xx xb dX1_draught_160 (by decide) (fun c_160 => ?_) (fun c_160 => ?_)
              · skip
                have c_160 := ne_c h_ww Int32.toInt_zero c_160
                refine lv_lload xx xb dX1_draught_171 (lv_at hl 6 rfl) ?_
                refine lv_lload xx xb dX1_draught_173 (lv_at hl 0 rfl) ?_
                refine lv_ldiv xx xb dX1_draught_175 (lN_ne0 (by omega) (by omega)) ?_
                refine re_l (lN ((tz.toNat ^ nz.toNat) / (Nat.gcd (drA R xz.toNat tz.toNat nz.toNat (2 ^ nz.toNat)) (tz.toNat ^ nz.toNat)))) (pk_lDiv (by omega) (by omega) (by omega)) ?_
                refine re_l (vDr R xz.toNat nz.toNat tz.toNat wwz.toNat) (by rw [show wwz.toNat = 1 by omega]; exact vDr_1 htp0) ?_
                exact rt_l C hw (y0, Y) ((anL_0 (c := cDr R xz nz tz wwz) (by assumption) _).symm) (by rw [rfU_0 (c := cDr R xz nz tz wwz) (by assumption)]) dX1_draught_176
              · skip
                have c_160 := eq_c h_ww Int32.toInt_zero c_160
                refine lv_lload xx xb dX1_draught_163 (lv_at hl 7 rfl) ?_
                refine lv_lload xx xb dX1_draught_165 (lv_at hl 0 rfl) ?_
                refine lv_ldiv xx xb dX1_draught_167 (lN_ne0 (by omega) (by omega)) ?_
                refine re_l (lN ((drA R xz.toNat tz.toNat nz.toNat (2 ^ nz.toNat)) / (Nat.gcd (drA R xz.toNat tz.toNat nz.toNat (2 ^ nz.toNat)) (tz.toNat ^ nz.toNat)))) (pk_lDiv (by omega) (by omega) (by omega)) ?_
                refine lv_goto (tgt := 176) xx xb dX1_draught_168 (by decide) ?_
                refine re_l (vDr R xz.toNat nz.toNat tz.toNat wwz.toNat) (by rw [show wwz.toNat = 0 by omega]; exact vDr_0 (by omega)) ?_
                exact rt_l C hw (y0, Y) ((anL_0 (c := cDr R xz nz tz wwz) (by assumption) _).symm) (by rw [rfU_0 (c := cDr R xz nz tz wwz) (by assumption)]) dX1_draught_176
            · skip
              have c_153 := (lg_z (by omega) (by omega)).mp c_153
              exact absurd c_153 (by omega)
          · skip
            have c_102 := nle_c (tN (by omega)) (tN (by omega)) c_102
            refine lv_aload_n xx xb dX1_draught_105 rfl (lv_at hl 0 rfl) ?_
            refine lv_iload_n xx xb dX1_draught_106 rfl (lv_at hl 1 rfl) ?_
            refine re_i (nI xz.toNat) (ofT h_x (by omega) (by omega)) ?_
            refine lv_iload_n xx xb dX1_draught_107 rfl (lv_at hl 2 rfl) ?_
            refine re_i (nI nz.toNat) (ofT h_n (by omega) (by omega)) ?_
            refine lv_iload xx xb dX1_draught_108 (lv_at hl 7 rfl) ?_
            have hM := kX1_standsInDraughts l G h0 so to uo x5 x6 x7 x8 im lm rm sd ak af ab aa R tk tf tb ta y0 Y xz.toNat nz.toNat q (by first | assumption | omega) (by first | assumption | omega) (by first | assumption | omega) (by first | assumption | omega) (by first | assumption | omega) (by first | assumption | omega)
            refine cv_i C hw hM yvX1_standsInDraughts ml_X1_195 0 rfl rfl rfl [0, 1, 2, 3, 4, 5, 6, 7, 8, 9, 10] rfl rfl (fun _ => (rfl : ([h0, so, ak, af, ab, aa, to, tk, tf, tb, ta] : List Nat) = [h0, so, ak, af, ab, aa, to, tk, tf, tb, ta])) (by decide) ⟨Nat.zero_le _, Nat.zero_le _⟩ hl.1 rfl (Nat.le_of_ble_eq_true rfl) dX1_draught_110 (fun r u H locs hr hw => ?_)
            obtain ⟨u1, hu1⟩ : ∃ z, z = u := ⟨_, rfl⟩
            subst hu1
            have hw : Wd G (fA [(h0, .inr (1, [.ref so, .ref to, .ref uo, .int (nI im), .ref x5, .int (nI lm), .ref x6, .int (nI rm), .ref x7, .ref x8, .int sd])), (so, .inr (0, [.int (nI (sN R)), .int (nI (R 0 1)), .int (nI (sF R)), .int (nI (sS R)), .int (nI (sL R)), .ref ak, .ref af, .ref ab, .ref aa])), (ak, aI G 10 (sK R)), (af, aI G 10 (sG R)), (ab, aI G 10 (sO R)), (aa, aI G 10 (sA R)), (to, .inr (0, [.int (nI (sN S)), .int (nI m0), .int (nI (sF S)), .int (nI (sS S)), .int (nI (sL S)), .ref tk, .ref tf, .ref tb, .ref ta])), (tk, aI G 10 (sK S)), (tf, aI G 10 (sG S)), (tb, aI G 10 (sO S)), (ta, aI G 10 (sA S)), (x7, aI G 7 (cN rf))]) s [(h0, .inr (1, [.ref so, .ref to, .ref uo, .int (nI im), .ref x5, .int (nI lm), .ref x6, .int (nI rm), .ref x7, .ref x8, .int sd])), (so, .inr (0, [.int (nI (sN R)), .int (nI (R 0 1)), .int (nI (sF R)), .int (nI (sS R)), .int (nI (sL R)), .ref ak, .ref af, .ref ab, .ref aa])), (ak, aI G 10 (sK R)), (af, aI G 10 (sG R)), (ab, aI G 10 (sO R)), (aa, aI G 10 (sA R)), (to, .inr (0, [.int (nI (sN u1)), .int (nI (R 0 1)), .int (nI (sF u1)), .int (nI (sS u1)), .int (nI (sL u1)), .ref tk, .ref tf, .ref tb, .ref ta])), (tk, aI G 10 (sK u1)), (tf, aI G 10 (sG u1)), (tb, aI G 10 (sO u1)), (ta, aI G 10 (sA u1)), (x7, aI G 7 (cN rf))] H locs := hw
            obtain ⟨hr, hq1⟩ := hr
            subst hr
            refine lv_if_eq (tgt := 134) xx xb dX1_draught_113 (by decide) (fun c_113 => ?_) (fun c_113 => ?_)
            · skip
              have c_113 := b0_c c_113
              have hl : lv_has ls 15 [(0, .ref h0), (1, .int x), (2, .int n), (3, .int t), (4, .int ww), (9, .long (lN (tz.toNat ^ nz.toNat))), (11, .long (lN (drA R xz.toNat tz.toNat nz.toNat (q + 1)))), (13, .int (nI q))] := by rw [show drA R xz.toNat tz.toNat nz.toNat (q + 1) = drA R xz.toNat tz.toNat nz.toNat q from (by show drA R xz.toNat tz.toNat nz.toNat q + _ = drA R xz.toNat tz.toNat nz.toNat q; rw [if_neg c_113]; rfl)]; exact hl
              refine lv_iinc (v := nI (q + 1)) (lv' := [(13, .int (nI (q + 1))), (0, .ref h0), (1, .int x), (2, .int n), (3, .int t), (4, .int ww), (9, .long (lN (tz.toNat ^ nz.toNat))), (11, .long (lN (drA R xz.toNat tz.toNat nz.toNat (q + 1))))]) xx xb dX1_draught_134 hl (k := 7) rfl (nI_add _ 1) (by decide) rfl (fun ls hl => ?_)
              refine lv_goto (tgt := 97) xx xb dX1_draught_137 (by decide) ?_
              exact ih_97 (q + 1) (R 0 1) u1 H _ ls (by omega) (by omega) hw (lv_sub hl [1, 2, 3, 4, 5, 6, 7, 0] rfl)
            · skip
              have c_113 := b1_c c_113
              refine lv_lload xx xb dX1_draught_116 (lv_at hl 6 rfl) ?_
              refine lv_iload_n xx xb dX1_draught_118 rfl (lv_at hl 3 rfl) ?_
              refine re_i (nI tz.toNat) (ofT h_t (by omega) (by omega)) ?_
              refine lv_iconst (v := nI 1) xx xb dX1_draught_119 (by decide) ?_
              refine lv_isub xx xb dX1_draught_120 ?_
              refine re_i (nI (tz.toNat - 1)) (pk_sub (by omega)) ?_
              refine lv_iload_n xx xb dX1_draught_121 rfl (lv_at hl 2 rfl) ?_
              refine re_i (nI nz.toNat) (ofT h_n (by omega) (by omega)) ?_
              refine lv_iload xx xb dX1_draught_122 (lv_at hl 7 rfl) ?_
              have hM := kJ6_bitCount_0f7a4 l G q (by omega)
              refine cs_i C hw hM ysJ6_bitCount_0f7a4 ml_X1_93 rfl [] rfl rfl (fun _ => (rfl : ([] : List Nat) = [])) (by decide) ⟨Nat.zero_le _, Nat.zero_le _⟩ hl.1 rfl (Nat.le_of_ble_eq_true rfl) dX1_draught_124 (fun r _ H locs hr hw => ?_)
              have hw : Wd G (fA [(h0, .inr (1, [.ref so, .ref to, .ref uo, .int (nI im), .ref x5, .int (nI lm), .ref x6, .int (nI rm), .ref x7, .ref x8, .int sd])), (so, .inr (0, [.int (nI (sN R)), .int (nI (R 0 1)), .int (nI (sF R)), .int (nI (sS R)), .int (nI (sL R)), .ref ak, .ref af, .ref ab, .ref aa])), (ak, aI G 10 (sK R)), (af, aI G 10 (sG R)), (ab, aI G 10 (sO R)), (aa, aI G 10 (sA R)), (to, .inr (0, [.int (nI (sN S)), .int (nI m0), .int (nI (sF S)), .int (nI (sS S)), .int (nI (sL S)), .ref tk, .ref tf, .ref tb, .ref ta])), (tk, aI G 10 (sK S)), (tf, aI G 10 (sG S)), (tb, aI G 10 (sO S)), (ta, aI G 10 (sA S)), (x7, aI G 7 (cN rf))]) s [(h0, .inr (1, [.ref so, .ref to, .ref uo, .int (nI im), .ref x5, .int (nI lm), .ref x6, .int (nI rm), .ref x7, .ref x8, .int sd])), (so, .inr (0, [.int (nI (sN R)), .int (nI (R 0 1)), .int (nI (sF R)), .int (nI (sS R)), .int (nI (sL R)), .ref ak, .ref af, .ref ab, .ref aa])), (ak, aI G 10 (sK R)), (af, aI G 10 (sG R)), (ab, aI G 10 (sO R)), (aa, aI G 10 (sA R)), (to, .inr (0, [.int (nI (sN u1)), .int (nI (R 0 1)), .int (nI (sF u1)), .int (nI (sS u1)), .int (nI (sL u1)), .ref tk, .ref tf, .ref tb, .ref ta])), (tk, aI G 10 (sK u1)), (tf, aI G 10 (sG u1)), (tb, aI G 10 (sO u1)), (ta, aI G 10 (sA u1)), (x7, aI G 7 (cN rf))] H locs := hw
              subst hr
              have hpq : pc q ≤ nz.toNat := by rw [pc_lt (show q < 2 ^ nz.toNat by omega) (by omega)]; exact ct_le _ _
              refine lv_isub xx xb dX1_draught_127 ?_
              refine re_i (nI (nz.toNat - (pc q))) (pk_sub (by omega)) ?_
              have hpb : nz.toNat - pc q ≤ 7 := by omega
              have hM := kX1_power l G (tz.toNat - 1) (nz.toNat - (pc q)) (by first | assumption | omega) (by first | assumption | omega)
              refine cs_l C hw hM ysX1_power ml_X1_191 rfl [] rfl rfl (fun _ => (rfl : ([] : List Nat) = [])) (by decide) ⟨Nat.zero_le _, Nat.zero_le _⟩ hl.1 rfl (Nat.le_of_ble_eq_true rfl) dX1_draught_128 (fun r _ H locs hr hw => ?_)
              have hw : Wd G (fA [(h0, .inr (1, [.ref so, .ref to, .ref uo, .int (nI im), .ref x5, .int (nI lm), .ref x6, .int (nI rm), .ref x7, .ref x8, .int sd])), (so, .inr (0, [.int (nI (sN R)), .int (nI (R 0 1)), .int (nI (sF R)), .int (nI (sS R)), .int (nI (sL R)), .ref ak, .ref af, .ref ab, .ref aa])), (ak, aI G 10 (sK R)), (af, aI G 10 (sG R)), (ab, aI G 10 (sO R)), (aa, aI G 10 (sA R)), (to, .inr (0, [.int (nI (sN S)), .int (nI m0), .int (nI (sF S)), .int (nI (sS S)), .int (nI (sL S)), .ref tk, .ref tf, .ref tb, .ref ta])), (tk, aI G 10 (sK S)), (tf, aI G 10 (sG S)), (tb, aI G 10 (sO S)), (ta, aI G 10 (sA S)), (x7, aI G 7 (cN rf))]) s [(h0, .inr (1, [.ref so, .ref to, .ref uo, .int (nI im), .ref x5, .int (nI lm), .ref x6, .int (nI rm), .ref x7, .ref x8, .int sd])), (so, .inr (0, [.int (nI (sN R)), .int (nI (R 0 1)), .int (nI (sF R)), .int (nI (sS R)), .int (nI (sL R)), .ref ak, .ref af, .ref ab, .ref aa])), (ak, aI G 10 (sK R)), (af, aI G 10 (sG R)), (ab, aI G 10 (sO R)), (aa, aI G 10 (sA R)), (to, .inr (0, [.int (nI (sN u1)), .int (nI (R 0 1)), .int (nI (sF u1)), .int (nI (sS u1)), .int (nI (sL u1)), .ref tk, .ref tf, .ref tb, .ref ta])), (tk, aI G 10 (sK u1)), (tf, aI G 10 (sG u1)), (tb, aI G 10 (sO u1)), (ta, aI G 10 (sA u1)), (x7, aI G 7 (cN rf))] H locs := hw
              subst hr
              refine re_l (lN (drQ tz.toNat q nz.toNat)) (congrArg lN (by rw [drQ_e, ← pc_lt (show q < 2 ^ nz.toNat by omega) (by omega)])) ?_
              refine lv_ladd xx xb dX1_draught_131 ?_
              refine re_l (lN ((drA R xz.toNat tz.toNat nz.toNat q) + (drQ tz.toNat q nz.toNat))) (lN_add _ _) ?_
              refine re_l (lN (drA R xz.toNat tz.toNat nz.toNat (q + 1))) (congrArg lN (by show _ = drA R xz.toNat tz.toNat nz.toNat q + _; rw [if_pos c_113])) ?_
              refine lv_lstore (lv' := [(11, .long (lN (drA R xz.toNat tz.toNat nz.toNat (q + 1)))), (0, .ref h0), (1, .int x), (2, .int n), (3, .int t), (4, .int ww), (9, .long (lN (tz.toNat ^ nz.toNat))), (13, .int (nI q))]) xx xb dX1_draught_132 hl (by decide) rfl (fun ls hl => ?_)
              refine lv_iinc (v := nI (q + 1)) (lv' := [(13, .int (nI (q + 1))), (11, .long (lN (drA R xz.toNat tz.toNat nz.toNat (q + 1)))), (0, .ref h0), (1, .int x), (2, .int n), (3, .int t), (4, .int ww), (9, .long (lN (tz.toNat ^ nz.toNat)))]) xx xb dX1_draught_134 hl (k := 7) rfl (nI_add _ 1) (by decide) rfl (fun ls hl => ?_)
              refine lv_goto (tgt := 97) xx xb dX1_draught_137 (by decide) ?_
              exact ih_97 (q + 1) (R 0 1) u1 H _ ls (by omega) (by omega) hw (lv_sub hl [2, 3, 4, 5, 6, 7, 1, 0] rfl)
      exact L_97 (_ + 1) 0 m0 S H _ ls (Nat.lt_succ_self _) (Nat.zero_le _) hw (lv_sub hl [5, 6, 7, 8, 9, 2, 1, 0] rfl)
    · skip
      have c_66 := g0_n c_66
      refine lv_aload_n xx xb dX1_draught_69 rfl (lv_at hl 2 rfl) ?_
      refine lv_iload xx xb dX1_draught_70 (lv_at hl 0 rfl) ?_
      have hM := kX1_refuse l G h0 so to uo x5 x6 x7 x8 im lm rm sd rf (cDr R xz nz tz wwz) (by first | assumption | omega)
      refine cv_i C hw hM yvX1_refuse ml_X1_43 0 rfl rfl rfl [0, 11] rfl rfl (fun _ => (rfl : ([h0, x7] : List Nat) = [h0, x7])) (by decide) ⟨Nat.zero_le _, Nat.zero_le _⟩ hl.1 rfl (Nat.le_of_ble_eq_true rfl) dX1_draught_72 (fun r _ H locs hr hw => ?_)
      have hw : Wd G (fA [(h0, .inr (1, [.ref so, .ref to, .ref uo, .int (nI im), .ref x5, .int (nI lm), .ref x6, .int (nI rm), .ref x7, .ref x8, .int sd])), (so, .inr (0, [.int (nI (sN R)), .int (nI (R 0 1)), .int (nI (sF R)), .int (nI (sS R)), .int (nI (sL R)), .ref ak, .ref af, .ref ab, .ref aa])), (ak, aI G 10 (sK R)), (af, aI G 10 (sG R)), (ab, aI G 10 (sO R)), (aa, aI G 10 (sA R)), (to, .inr (0, [.int (nI (sN S)), .int (nI m0), .int (nI (sF S)), .int (nI (sS S)), .int (nI (sL S)), .ref tk, .ref tf, .ref tb, .ref ta])), (tk, aI G 10 (sK S)), (tf, aI G 10 (sG S)), (tb, aI G 10 (sO S)), (ta, aI G 10 (sA S)), (x7, aI G 7 (cN rf))]) s [(h0, .inr (1, [.ref so, .ref to, .ref uo, .int (nI im), .ref x5, .int (nI lm), .ref x6, .int (nI rm), .ref x7, .ref x8, .int sd])), (so, .inr (0, [.int (nI (sN R)), .int (nI (R 0 1)), .int (nI (sF R)), .int (nI (sS R)), .int (nI (sL R)), .ref ak, .ref af, .ref ab, .ref aa])), (ak, aI G 10 (sK R)), (af, aI G 10 (sG R)), (ab, aI G 10 (sO R)), (aa, aI G 10 (sA R)), (to, .inr (0, [.int (nI (sN S)), .int (nI m0), .int (nI (sF S)), .int (nI (sS S)), .int (nI (sL S)), .ref tk, .ref tf, .ref tb, .ref ta])), (tk, aI G 10 (sK S)), (tf, aI G 10 (sG S)), (tb, aI G 10 (sO S)), (ta, aI G 10 (sA S)), (x7, aI G 7 (cN (upN rf (cDr R xz nz tz wwz) (rf (cDr R xz nz tz wwz) + 1))))] H locs := hw
      subst hr
      refine lv_pop xx xb dX1_draught_75 rfl ?_
      refine m_ldc2 C kl_X1_189 dX1_draught_76 ?_
      refine lv_iload xx xb dX1_draught_79 (lv_at hl 0 rfl) ?_
      refine lv_i2l (v := (nG (cDr R xz nz tz wwz)).toInt64) xx xb dX1_draught_81 rfl ?_
      refine lv_lsub xx xb dX1_draught_82 ?_
      exact rt_l C hw (m0, S) ((anL_r (c := cDr R xz nz tz wwz) rfl (by omega) _).symm) (by rw [rfU_r (c := cDr R xz nz tz wwz) rfl (by omega)]) dX1_draught_83
  have J_17 : ∀  (H : Heap) (locs : List Loc) (ls : Array Slot), Wd G (fA [(h0, .inr (1, [.ref so, .ref to, .ref uo, .int (nI im), .ref x5, .int (nI lm), .ref x6, .int (nI rm), .ref x7, .ref x8, .int sd])), (so, .inr (0, [.int (nI (sN R)), .int (nI (R 0 1)), .int (nI (sF R)), .int (nI (sS R)), .int (nI (sL R)), .ref ak, .ref af, .ref ab, .ref aa])), (ak, aI G 10 (sK R)), (af, aI G 10 (sG R)), (ab, aI G 10 (sO R)), (aa, aI G 10 (sA R)), (to, .inr (0, [.int (nI (sN S)), .int (nI m0), .int (nI (sF S)), .int (nI (sS S)), .int (nI (sL S)), .ref tk, .ref tf, .ref tb, .ref ta])), (tk, aI G 10 (sK S)), (tf, aI G 10 (sG S)), (tb, aI G 10 (sO S)), (ta, aI G 10 (sA S)), (x7, aI G 7 (cN rf))]) s [(h0, .inr (1, [.ref so, .ref to, .ref uo, .int (nI im), .ref x5, .int (nI lm), .ref x6, .int (nI rm), .ref x7, .ref x8, .int sd])), (so, .inr (0, [.int (nI (sN R)), .int (nI (R 0 1)), .int (nI (sF R)), .int (nI (sS R)), .int (nI (sL R)), .ref ak, .ref af, .ref ab, .ref aa])), (ak, aI G 10 (sK R)), (af, aI G 10 (sG R)), (ab, aI G 10 (sO R)), (aa, aI G 10 (sA R)), (to, .inr (0, [.int (nI (sN S)), .int (nI m0), .int (nI (sF S)), .int (nI (sS S)), .int (nI (sL S)), .ref tk, .ref tf, .ref tb, .ref ta])), (tk, aI G 10 (sK S)), (tf, aI G 10 (sG S)), (tb, aI G 10 (sO S)), (ta, aI G 10 (sA S)), (x7, aI G 7 (cN rf))] H locs → lv_has ls 15 [(0, .ref h0), (1, .int x), (2, .int n), (3, .int t), (4, .int ww), (5, .int (nG (dbN nz tz)))] → W p l e ({ frames := 4, cells := 0, slots := 0, locals := 102 }) s m (([.ref h0, .int x, .int n, .int t, .int ww] : List Value).toArray) below meth c H locs 0 0 (MQ below (QL G [(h0, .inr (1, [.ref so, .ref to, .ref uo, .int (nI im), .ref x5, .int (nI lm), .ref x6, .int (nI rm), .ref x7, .ref x8, .int sd])), (so, .inr (0, [.int (nI (sN R)), .int (nI (R 0 1)), .int (nI (sF R)), .int (nI (sS R)), .int (nI (sL R)), .ref ak, .ref af, .ref ab, .ref aa])), (ak, aI G 10 (sK R)), (af, aI G 10 (sG R)), (ab, aI G 10 (sO R)), (aa, aI G 10 (sA R)), (to, .inr (0, [.int (nI (sN S)), .int (nI m0), .int (nI (sF S)), .int (nI (sS S)), .int (nI (sL S)), .ref tk, .ref tf, .ref tb, .ref ta])), (tk, aI G 10 (sK S)), (tf, aI G 10 (sG S)), (tb, aI G 10 (sO S)), (ta, aI G 10 (sA S)), (x7, aI G 7 (cN rf))] (fun (r : Int64) (u : Nat × RT) => r = anL (cDr R xz nz tz wwz) (vDr R xz.toNat nz.toNat tz.toNat wwz.toNat)) (fun u => [(h0, .inr (1, [.ref so, .ref to, .ref uo, .int (nI im), .ref x5, .int (nI lm), .ref x6, .int (nI rm), .ref x7, .ref x8, .int sd])), (so, .inr (0, [.int (nI (sN R)), .int (nI (R 0 1)), .int (nI (sF R)), .int (nI (sS R)), .int (nI (sL R)), .ref ak, .ref af, .ref ab, .ref aa])), (ak, aI G 10 (sK R)), (af, aI G 10 (sG R)), (ab, aI G 10 (sO R)), (aa, aI G 10 (sA R)), (to, .inr (0, [.int (nI (sN u.2)), .int (nI u.1), .int (nI (sF u.2)), .int (nI (sS u.2)), .int (nI (sL u.2)), .ref tk, .ref tf, .ref tb, .ref ta])), (tk, aI G 10 (sK u.2)), (tf, aI G 10 (sG u.2)), (tb, aI G 10 (sO u.2)), (ta, aI G 10 (sA u.2)), (x7, aI G 7 (cN (rfU rf (cDr R xz nz tz wwz))))])) (([.ref h0, .int x, .int n, .int t, .int ww] : List Value).toArray) s 0 0 (fA [(h0, .inr (1, [.ref so, .ref to, .ref uo, .int (nI im), .ref x5, .int (nI lm), .ref x6, .int (nI rm), .ref x7, .ref x8, .int sd])), (so, .inr (0, [.int (nI (sN R)), .int (nI (R 0 1)), .int (nI (sF R)), .int (nI (sS R)), .int (nI (sL R)), .ref ak, .ref af, .ref ab, .ref aa])), (ak, aI G 10 (sK R)), (af, aI G 10 (sG R)), (ab, aI G 10 (sO R)), (aa, aI G 10 (sA R)), (to, .inr (0, [.int (nI (sN S)), .int (nI m0), .int (nI (sF S)), .int (nI (sS S)), .int (nI (sL S)), .ref tk, .ref tf, .ref tb, .ref ta])), (tk, aI G 10 (sK S)), (tf, aI G 10 (sG S)), (tb, aI G 10 (sO S)), (ta, aI G 10 (sA S)), (x7, aI G 7 (cN rf))])) (F0 m 17 ls []) := by
    intro  H locs ls  hw hl
    refine lv_iload_n xx xb dX1_draught_17 rfl (lv_at hl 2 rfl) ?_
    refine lv_bipush (v := nI 7) xx xb dX1_draught_18 (by decide) ?_
    refine lv_icmp_gt (tgt := 29) xx xb dX1_draught_20 (by decide) (fun c_20 => ?_) (fun c_20 => ?_)
    · skip
      have c_20 := lt_c (tN (by omega)) h_n c_20
      refine lv_bipush (v := (-6)) xx xb dX1_draught_29 (by decide) ?_
      refine lv_goto (tgt := 35) xx xb dX1_draught_31 (by decide) ?_
      refine re_i (nG (daN nz tz)) (by (try unfold daN); first | (rw [if_pos (by omega)]; decide +kernel) | (rw [if_neg (by omega)]; decide +kernel)) ?_
      refine lv_istore (lv' := [(6, .int (nG (daN nz tz))), (0, .ref h0), (1, .int x), (2, .int n), (3, .int t), (4, .int ww), (5, .int (nG (dbN nz tz)))]) xx xb dX1_draught_35 hl (by decide) rfl (fun ls hl => ?_)
      exact J_37  H _ ls  hw (lv_sub hl [1, 2, 3, 4, 5, 6, 0] rfl)
    · skip
      have c_20 := nlt_c (tN (by omega)) h_n c_20
      refine lv_iload_n xx xb dX1_draught_23 rfl (lv_at hl 3 rfl) ?_
      refine lv_bipush (v := nI 20) xx xb dX1_draught_24 (by decide) ?_
      refine lv_icmp_le (tgt := 34) xx xb dX1_draught_26 (by decide) (fun c_26 => ?_) (fun c_26 => ?_)
      · skip
        have c_26 := le_c h_t (tN (by omega)) c_26
        refine lv_iconst (v := nI 0) xx xb dX1_draught_34 (by decide) ?_
        refine re_i (nG (daN nz tz)) (by (try unfold daN); first | (rw [if_pos (by omega)]; decide +kernel) | (rw [if_neg (by omega)]; decide +kernel)) ?_
        refine lv_istore (lv' := [(6, .int (nG (daN nz tz))), (0, .ref h0), (1, .int x), (2, .int n), (3, .int t), (4, .int ww), (5, .int (nG (dbN nz tz)))]) xx xb dX1_draught_35 hl (by decide) rfl (fun ls hl => ?_)
        exact J_37  H _ ls  hw (lv_sub hl [1, 2, 3, 4, 5, 6, 0] rfl)
      · skip
        have c_26 := nle_c h_t (tN (by omega)) c_26
        refine lv_bipush (v := (-6)) xx xb dX1_draught_29 (by decide) ?_
        refine lv_goto (tgt := 35) xx xb dX1_draught_31 (by decide) ?_
        refine re_i (nG (daN nz tz)) (by (try unfold daN); first | (rw [if_pos (by omega)]; decide +kernel) | (rw [if_neg (by omega)]; decide +kernel)) ?_
        refine lv_istore (lv' := [(6, .int (nG (daN nz tz))), (0, .ref h0), (1, .int x), (2, .int n), (3, .int t), (4, .int ww), (5, .int (nG (dbN nz tz)))]) xx xb dX1_draught_35 hl (by decide) rfl (fun ls hl => ?_)
        exact J_37  H _ ls  hw (lv_sub hl [1, 2, 3, 4, 5, 6, 0] rfl)
  refine lv_iload_n xx xb dX1_draught_0 rfl (lv_at hl 2 rfl) ?_
  refine lv_if_lt (tgt := 9) xx xb dX1_draught_1 (by decide) (fun c_1 => ?_) (fun c_1 => ?_)
  · skip
    have c_1 := lt_c h_n Int32.toInt_zero c_1
    refine lv_bipush (v := (-4)) xx xb dX1_draught_9 (by decide) ?_
    refine lv_goto (tgt := 15) xx xb dX1_draught_11 (by decide) ?_
    refine re_i (nG (dbN nz tz)) (by (try unfold dbN); first | (rw [if_pos (by omega)]; decide +kernel) | (rw [if_neg (by omega)]; decide +kernel)) ?_
    refine lv_istore (lv' := [(5, .int (nG (dbN nz tz))), (0, .ref h0), (1, .int x), (2, .int n), (3, .int t), (4, .int ww)]) xx xb dX1_draught_15 hl (by decide) rfl (fun ls hl => ?_)
    exact J_17  H _ ls  hw (lv_sub hl [1, 2, 3, 4, 5, 0] rfl)
  · skip
    have c_1 := nlt_c h_n Int32.toInt_zero c_1
    refine lv_iload_n xx xb dX1_draught_4 rfl (lv_at hl 3 rfl) ?_
    refine lv_iconst (v := nI 2) xx xb dX1_draught_5 (by decide) ?_
    refine lv_icmp_ge (tgt := 14) xx xb dX1_draught_6 (by decide) (fun c_6 => ?_) (fun c_6 => ?_)
    · skip
      have c_6 := le_c (tN (by omega)) h_t c_6
      refine lv_iconst (v := nI 0) xx xb dX1_draught_14 (by decide) ?_
      refine re_i (nG (dbN nz tz)) (by (try unfold dbN); first | (rw [if_pos (by omega)]; decide +kernel) | (rw [if_neg (by omega)]; decide +kernel)) ?_
      refine lv_istore (lv' := [(5, .int (nG (dbN nz tz))), (0, .ref h0), (1, .int x), (2, .int n), (3, .int t), (4, .int ww)]) xx xb dX1_draught_15 hl (by decide) rfl (fun ls hl => ?_)
      exact J_17  H _ ls  hw (lv_sub hl [1, 2, 3, 4, 5, 0] rfl)
    · skip
      have c_6 := nle_c (tN (by omega)) h_t c_6
      refine lv_bipush (v := (-4)) xx xb dX1_draught_9 (by decide) ?_
      refine lv_goto (tgt := 15) xx xb dX1_draught_11 (by decide) ?_
      refine re_i (nG (dbN nz tz)) (by (try unfold dbN); first | (rw [if_pos (by omega)]; decide +kernel) | (rw [if_neg (by omega)]; decide +kernel)) ?_
      refine lv_istore (lv' := [(5, .int (nG (dbN nz tz))), (0, .ref h0), (1, .int x), (2, .int n), (3, .int t), (4, .int ww)]) xx xb dX1_draught_15 hl (by decide) rfl (fun ls hl => ?_)
      exact J_17  H _ ls  hw (lv_sub hl [1, 2, 3, 4, 5, 0] rfl)
