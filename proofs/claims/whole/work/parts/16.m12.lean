def tld (t : Nat) : Nat := if t < 100 then t else 99
theorem tld_le (t : Nat) : tld t ≤ 99 := by unfold tld; split <;> omega
theorem tld_y {t : Nat} (h : t < 100) : ftI t = nI (tld t) := by unfold tld; rw [if_pos h, ftI_lt h]
theorem tld_n {t : Nat} (h : 100 ≤ t) : nI 99 = nI (tld t) := by unfold tld; rw [if_neg (by omega)]
noncomputable def wwB (S : RT) (rv : Nat → Nat) : Nat → Bool
  | 0 => true
  | a + 1 => wwB S rv a && decide (tld (ftN S a) = rv a)
theorem wwB_t {S : RT} {rv : Nat → Nat} {a : Nat} (h : wwB S rv a = true) (h2 : tld (ftN S a) = rv a) : wwB S rv (a + 1) = true := by
  show (wwB S rv a && decide (tld (ftN S a) = rv a)) = true
  simp [h, h2]
theorem wwB_n {S : RT} {rv : Nat → Nat} {a : Nat} (h2 : tld (ftN S a) ≠ rv a) : wwB S rv (a + 1) = false := by
  show (wwB S rv a && decide (tld (ftN S a) = rv a)) = false
  simp [h2]
theorem wwB_f {S : RT} {rv : Nat → Nat} {a : Nat} (h : ¬ wwB S rv a = true) : ∀ d, wwB S rv (a + d) = false
  | 0 => Bool.eq_false_iff.mpr h
  | d + 1 => by
    show (wwB S rv (a + d) && _) = false
    rw [wwB_f h d]; rfl
def wwI (w : Int) : Nat := if w = 0 then 1 else 2
def wwS (R : RT) (k : Nat) (w : Int) (q : Nat) : RT := upR R (wwI w) k q
noncomputable def wwP (R : RT) (k : Nat) (w : Int) (rv : Nat → Nat) : Nat → Bool := fun q => wwB (wwS R k w q) rv (R 0 0)
theorem wwS_00 (R : RT) (k : Nat) (w : Int) (q : Nat) : wwS R k w q 0 0 = R 0 0 := by
  unfold wwS wwI
  split
  · exact upR_n (by omega)
  · exact upR_n (by omega)
theorem OK_wwS {R : RT} (hR : OK R) (k : Nat) {w : Int} {q : Nat} (h : (w = 0 ∧ q < 6) ∨ (w ≠ 0 ∧ q < 10)) : OK (wwS R k w q) := by
  obtain ⟨h1, h2, h3, h4⟩ := hR
  have e0 : ∀ j, wwS R k w q 0 j = R 0 j := fun j => by
    unfold wwS wwI
    split
    · exact upR_n (by omega)
    · exact upR_n (by omega)
  refine ⟨by rw [e0]; exact h1, by rw [e0]; exact h2, by rw [e0]; exact h3, fun a ha => ?_⟩
  rw [e0] at ha
  obtain ⟨g1, g2, g3, g4, g5⟩ := h4 a ha
  have e3 : ∀ i, 3 ≤ i → wwS R k w q i a = R i a := fun i hi => by
    unfold wwS wwI
    split
    · exact upR_n (by omega)
    · exact upR_n (by omega)
  rw [e3 3 (by omega), e3 4 (by omega)]
  refine ⟨?_, ?_, g3, g4, g5⟩
  · unfold wwS wwI upR
    rcases h with h | h
    · rw [if_pos h.1]; split <;> omega
    · rw [if_neg h.1, if_neg (by omega)]; exact g1
  · unfold wwS wwI upR
    rcases h with h | h
    · rw [if_pos h.1, if_neg (by omega)]; exact g2
    · rw [if_neg h.1]; split <;> omega
theorem AK_wwS {R : RT} (hK : AK R) (k : Nat) (w : Int) (q : Nat) : AK (wwS R k w q) := by
  intro a ha
  rw [wwS_00] at ha
  have e3 : ∀ i, 3 ≤ i → wwS R k w q i a = R i a := fun i hi => by
    unfold wwS wwI
    split
    · exact upR_n (by omega)
    · exact upR_n (by omega)
  rw [e3 4 (by omega), e3 5 (by omega)]
  exact hK a ha
def cWW (R : RT) (x w : Int) (rm : Nat) : Nat := if 0 ≤ x ∧ x < ((R 0 0 : Nat) : Int) then (if 0 ≤ w ∧ w ≤ 1 then (if rm = R 0 0 then 0 else 3) else 2) else 1
noncomputable def vWW (R : RT) (k : Nat) (w : Int) (rv : Nat → Nat) : Nat := bs (wwP R k w rv) (if w = 0 then 6 else 10)
def gdB (R : RT) (k m s : Nat) : Bool := !s.testBit k && (psB R s (R 0 0) && decide (itF (psR R s (R 0 0)) m 4 k = 0))
def pmF (R : RT) (k m : Nat) : Nat → Nat
  | 0 => 1024
  | s + 1 => if gdB R k m s = true ∧ (pmF R k m s = 1024 ∨ pc (pmF R k m s) < pc s) then s else pmF R k m s
theorem pmF_y {R : RT} {k m s : Nat} (h : gdB R k m s = true ∧ (pmF R k m s = 1024 ∨ pc (pmF R k m s) < pc s)) : pmF R k m (s + 1) = s := if_pos h
theorem pmF_n {R : RT} {k m s : Nat} (h : ¬ (gdB R k m s = true ∧ (pmF R k m s = 1024 ∨ pc (pmF R k m s) < pc s))) : pmF R k m (s + 1) = pmF R k m s := if_neg h
theorem pmF_le (R : RT) (k m : Nat) : ∀ s, s ≤ 1024 → pmF R k m s ≤ 1024
  | 0, _ => Nat.le_refl _
  | s + 1, h => by
    have h1 := pmF_le R k m s (by omega)
    unfold pmF
    split <;> omega
def fdI (f : Nat) : Int32 := if f < 1024 then nI f else -9
theorem fdI_y {f : Nat} (h : f < 1024) : fdI f = nI f := if_pos h
theorem fdI_0 {f : Nat} (hf : f ≤ 1024) (h : fdI f < 0) : f = 1024 := by
  by_cases q : f < 1024
  · rw [fdI_y q] at h; exact absurd h (nI_pos (by omega))
  · omega
theorem fdI_1 {f : Nat} (h : ¬ fdI f < 0) : f < 1024 := by
  by_cases q : f < 1024
  · exact q
  · exact absurd (show fdI f < 0 by unfold fdI; rw [if_neg q]; decide) h
theorem pc_le (x : Nat) : pc x ≤ 10 := ct_le _ _
def cPM (R : RT) (x n w : Int) : Nat := if 0 ≤ x ∧ x < ((R 0 0 : Nat) : Int) then (if wbN n 30 ≠ 0 then wbN n 30 else if 0 ≤ w ∧ w ≤ 1 then 0 else 2) else 1
def vPM (R : RT) (k m : Nat) (w : Int) : Int32 := if pmF R k m (2 ^ R 0 0) = 1024 then -9 else if w = 1 then nI (pmF R k m (2 ^ R 0 0)) else nI (pc (pmF R k m (2 ^ R 0 0)))
theorem gd_t {R : RT} {k m s : Nat} (h1 : ¬ s.testBit k = true) (h2 : psB R s (R 0 0) = true) (h3 : itF (psR R s (R 0 0)) m 4 k = 0) : gdB R k m s = true := by simp [gdB, h1, h2, h3]
theorem gd_1 {R : RT} {k m s : Nat} (h : gdB R k m s = true) : ¬ s.testBit k = true ∧ psB R s (R 0 0) = true ∧ itF (psR R s (R 0 0)) m 4 k = 0 := by
  simp only [gdB, Bool.and_eq_true, decide_eq_true_eq, Bool.not_eq_true'] at h
  exact ⟨by rw [h.1]; decide, h.2.1, h.2.2⟩
def drF (R : RT) (S : Nat) : Nat → RT
  | 0 => R
  | k + 1 => miF (drF R S k) (if S.testBit k = true then 1 else 0)
theorem drF_00 (R : RT) (S : Nat) : ∀ k, drF R S k 0 0 = R 0 0
  | 0 => rfl
  | k + 1 => drF_00 R S k
theorem d01 (S k : Nat) : (if S.testBit k = true then 1 else 0) ≤ 1 := by split <;> omega
theorem OK_drF {R : RT} (hR : OK R) (S : Nat) : ∀ k, OK (drF R S k)
  | 0 => hR
  | k + 1 => OK_miF _ (OK_drF hR S k)
theorem AK_drF {R : RT} (hR : OK R) (hK : AK R) (S : Nat) : ∀ k, AK (drF R S k)
  | 0 => hK
  | k + 1 => AK_miF (d01 S k) (OK_drF hR S k) (AK_drF hR hK S k)
def drQ (t S : Nat) : Nat → Nat
  | 0 => 1
  | k + 1 => drQ t S k * (if S.testBit k = true then 1 else t - 1)
theorem drQ_le {t : Nat} (ht : t ≤ 20) (S : Nat) : ∀ k, drQ t S k ≤ 20 ^ k
  | 0 => Nat.le_refl _
  | k + 1 => by
    have h := drQ_le ht S k
    rw [Nat.pow_succ]
    exact Nat.mul_le_mul h (by split <;> omega)
def drA (R : RT) (a t m : Nat) : Nat → Nat
  | 0 => 0
  | S + 1 => drA R a t m S + (if drF R S m 4 a = 0 then drQ t S m else 0)
theorem p20 {m : Nat} (h : m ≤ 7) : 20 ^ m ≤ 1280000000 := Nat.le_trans (Nat.pow_le_pow_right (by decide) h) (by decide)
theorem drA_le (R : RT) (a : Nat) {t m : Nat} (ht : t ≤ 20) (hm : m ≤ 7) : ∀ S, drA R a t m S ≤ S * 1280000000
  | 0 => Nat.zero_le _
  | S + 1 => by
    have h := drA_le R a ht hm S
    have h2 := drQ_le ht S m
    have h3 := p20 hm
    have e : drA R a t m (S + 1) = drA R a t m S + (if drF R S m 4 a = 0 then drQ t S m else 0) := rfl
    rw [e]
    have h4 : (if drF R S m 4 a = 0 then drQ t S m else 0) ≤ 20 ^ m := by
      split
      · exact h2
      · exact Nat.zero_le _
    generalize (if drF R S m 4 a = 0 then drQ t S m else 0) = z at h4 ⊢
    generalize 20 ^ m = w at h3 h4
    omega
theorem pw_pos {b : Nat} (h : 0 < b) : ∀ n, 0 < b ^ n
  | 0 => by simp
  | n + 1 => by rw [Nat.pow_succ]; exact Nat.mul_pos (pw_pos h n) h
theorem tpow_le {t m : Nat} (ht : t ≤ 20) (hm : m ≤ 7) : t ^ m ≤ 1280000000 := Nat.le_trans (Nat.pow_le_pow_left ht m) (p20 hm)
def anL (j : Nat) (v : Int64) : Int64 := if j = 0 then v else (4000000000000000000 : Int64) - (nG j).toInt64
theorem anL_0 {c : Nat} (h : c = 0) (v : Int64) : anL c v = v := if_pos h
theorem anL_r {c j : Nat} (h : c = j) (hj : j ≠ 0) (v : Int64) : anL c v = (4000000000000000000 : Int64) - (nG j).toInt64 := by subst h; exact if_neg hj
def cDr (R : RT) (x n t w : Int) : Nat := if 0 ≤ x ∧ x < ((R 0 0 : Nat) : Int) then (if n < 0 ∨ t < 2 then 4 else if 7 < n ∨ 20 < t then 6 else if 0 ≤ w ∧ w ≤ 1 then 0 else 2) else 1
def vDr (R : RT) (a n t q : Nat) : Int64 := lN (if drA R a t n (2 ^ n) = 0 then q else (if q = 0 then drA R a t n (2 ^ n) else t ^ n) / Nat.gcd (drA R a t n (2 ^ n)) (t ^ n))
set_option maxRecDepth 100000 in
set_option maxHeartbeats 4000000 in
theorem kX2_whatWas (l : Launch) (G : GT) (h0 : Nat) (a1 : Nat) (a2 : Nat) (a3 : Nat) (a4 : Nat) (a5 : Nat) (a6 : Nat) (a7 : Nat) (a8 : Nat) (im : Nat) (lm : Nat) (rm : Nat) (pl : Nat) (sd : Int32) (R : RT) (Rm : RT) (rv : Nat → Nat) (rf : Nat → Nat) (x : Int32) (xz : Int) (ww : Int32) (wwz : Int) (h_x : x.toInt = xz) (h_ww : ww.toInt = wwz) (hR : OK R) (hK : AK R) (hrm : rm ≤ 16) (hrv : ∀ k, k < rm → rv k ≤ 99) : Ct l yX2_whatWas cX2_whatWas 9 (some .int) 5 110 [.ref h0, .int x, .int ww] G [(h0, .inr (2, [.ref a1, .ref a2, .ref a3, .ref a4, .int (nI im), .ref a5, .ref a6, .ref a7, .int (nI lm), .int (nI rm), .int (nI pl), .ref a8, .int sd])), (a1, aI G 54 (fl R)), (a2, aI G 54 (fl Rm)), (a6, aI G 16 (cN rv)), (a7, aI G 7 (cN rf))] (QI G [(h0, .inr (2, [.ref a1, .ref a2, .ref a3, .ref a4, .int (nI im), .ref a5, .ref a6, .ref a7, .int (nI lm), .int (nI rm), .int (nI pl), .ref a8, .int sd])), (a1, aI G 54 (fl R)), (a2, aI G 54 (fl Rm)), (a6, aI G 16 (cN rv)), (a7, aI G 7 (cN rf))] (fun (r : Int32) (u : RT) => r = anI (cWW R xz wwz rm) (nI (vWW R xz.toNat wwz rv))) (fun u => [(h0, .inr (2, [.ref a1, .ref a2, .ref a3, .ref a4, .int (nI im), .ref a5, .ref a6, .ref a7, .int (nI lm), .int (nI rm), .int (nI pl), .ref a8, .int sd])), (a1, aI G 54 (fl R)), (a2, aI G 54 (fl u)), (a6, aI G 16 (cN rv)), (a7, aI G 7 (cN (rfU rf (cWW R xz wwz rm))))])) := by
  refine en (by decide +kernel) (Nat.le_of_ble_eq_true rfl) ?_
  intro p e s m below meth c ls H locs C hl hw
  have xx := C.1
  have xb := C.2.1
  have hw : Wd G (fA [(h0, .inr (2, [.ref a1, .ref a2, .ref a3, .ref a4, .int (nI im), .ref a5, .ref a6, .ref a7, .int (nI lm), .int (nI rm), .int (nI pl), .ref a8, .int sd])), (a1, aI G 54 (fl R)), (a2, aI G 54 (fl Rm)), (a6, aI G 16 (cN rv)), (a7, aI G 7 (cN rf))]) s [(h0, .inr (2, [.ref a1, .ref a2, .ref a3, .ref a4, .int (nI im), .ref a5, .ref a6, .ref a7, .int (nI lm), .int (nI rm), .int (nI pl), .ref a8, .int sd])), (a1, aI G 54 (fl R)), (a2, aI G 54 (fl Rm)), (a6, aI G 16 (cN rv)), (a7, aI G 7 (cN rf))] H locs := hw
  have hl : lv_has ls 9 [(0, .ref h0), (1, .int x), (2, .int ww)] := hl
  obtain ⟨hn, hf0, hpr, hA⟩ := id hR
  refine lv_aload_n xx xb dX2_whatWas_0 rfl (lv_at hl 0 rfl) ?_
  refine lv_iload_n xx xb dX2_whatWas_1 rfl (lv_at hl 1 rfl) ?_
  have hM := kX2_isThing l G h0 a1 a2 a3 a4 a5 a6 a7 a8 im lm rm pl sd R x xz h_x (by first | assumption | omega)
  refine cv_i C hw hM yvX2_isThing ml_X2_105 0 rfl rfl rfl [0, 1] rfl rfl (fun _ => (rfl : ([h0, a1] : List Nat) = [h0, a1])) (by decide) ⟨Nat.zero_le _, Nat.zero_le _⟩ hl.1 rfl (Nat.le_of_ble_eq_true rfl) dX2_whatWas_2 (fun r _ H locs hr hw => ?_)
  have hw : Wd G (fA [(h0, .inr (2, [.ref a1, .ref a2, .ref a3, .ref a4, .int (nI im), .ref a5, .ref a6, .ref a7, .int (nI lm), .int (nI rm), .int (nI pl), .ref a8, .int sd])), (a1, aI G 54 (fl R)), (a2, aI G 54 (fl Rm)), (a6, aI G 16 (cN rv)), (a7, aI G 7 (cN rf))]) s [(h0, .inr (2, [.ref a1, .ref a2, .ref a3, .ref a4, .int (nI im), .ref a5, .ref a6, .ref a7, .int (nI lm), .int (nI rm), .int (nI pl), .ref a8, .int sd])), (a1, aI G 54 (fl R)), (a2, aI G 54 (fl Rm)), (a6, aI G 16 (cN rv)), (a7, aI G 7 (cN rf))] H locs := hw
  subst hr
  refine lv_if_ne (tgt := 12) xx xb dX2_whatWas_5 (by decide) (fun c_5 => ?_) (fun c_5 => ?_)
  · skip
    have c_5 := b1_c c_5
    refine lv_iload_n xx xb dX2_whatWas_12 rfl (lv_at hl 2 rfl) ?_
    refine lv_iconst (v := nI 0) xx xb dX2_whatWas_13 (by decide) ?_
    refine lv_iconst (v := nI 1) xx xb dX2_whatWas_14 (by decide) ?_
    have hM := kX2_isIn l G ww wwz (nI 0) 0 (nI 1) 1 h_ww (tN (by omega)) (tN (by omega))
    refine cs_i C hw hM ysX2_isIn ml_X2_40 rfl [] rfl rfl (fun _ => (rfl : ([] : List Nat) = [])) (by decide) ⟨Nat.zero_le _, Nat.zero_le _⟩ hl.1 rfl (Nat.le_of_ble_eq_true rfl) dX2_whatWas_15 (fun r _ H locs hr hw => ?_)
    have hw : Wd G (fA [(h0, .inr (2, [.ref a1, .ref a2, .ref a3, .ref a4, .int (nI im), .ref a5, .ref a6, .ref a7, .int (nI lm), .int (nI rm), .int (nI pl), .ref a8, .int sd])), (a1, aI G 54 (fl R)), (a2, aI G 54 (fl Rm)), (a6, aI G 16 (cN rv)), (a7, aI G 7 (cN rf))]) s [(h0, .inr (2, [.ref a1, .ref a2, .ref a3, .ref a4, .int (nI im), .ref a5, .ref a6, .ref a7, .int (nI lm), .int (nI rm), .int (nI pl), .ref a8, .int sd])), (a1, aI G 54 (fl R)), (a2, aI G 54 (fl Rm)), (a6, aI G 16 (cN rv)), (a7, aI G 7 (cN rf))] H locs := hw
    subst hr
    refine lv_if_ne (tgt := 26) xx xb dX2_whatWas_18 (by decide) (fun c_18 => ?_) (fun c_18 => ?_)
    · skip
      have c_18 := b1_c c_18
      refine lv_aload_n xx xb dX2_whatWas_26 rfl (lv_at hl 0 rfl) ?_
      refine m_get C hw 0 rfl fk_X2_181 rfl dX2_whatWas_27 ?_
      refine lv_aload_n xx xb dX2_whatWas_30 rfl (lv_at hl 0 rfl) ?_
      refine m_get C hw 0 rfl fk_X2_9 rfl dX2_whatWas_31 ?_
      refine lv_iconst (v := nI 0) xx xb dX2_whatWas_34 (by decide) ?_
      refine m_ald C hw 1 rfl 0 rfl (by omega) (by decide) dX2_whatWas_35 ?_
      refine re_i (nI (R 0 0)) (fl_h R (by decide)) ?_
      refine lv_icmp_eq (tgt := 44) xx xb dX2_whatWas_36 (by decide) (fun c_36 => ?_) (fun c_36 => ?_)
      · skip
        have c_36 := eq_c (tN (by omega)) (tN (by omega)) c_36
        refine lv_iconst (v := nI 0) xx xb dX2_whatWas_44 (by decide) ?_
        refine lv_istore_n (lv' := [(3, .int (nI 0)), (0, .ref h0), (1, .int x), (2, .int ww)]) xx xb dX2_whatWas_45 rfl hl (by decide) rfl (fun ls hl => ?_)
        refine lv_iload_n xx xb dX2_whatWas_46 rfl (lv_at hl 0 rfl) ?_
        refine lv_if_eq (tgt := 56) xx xb dX2_whatWas_47 (by decide) (fun c_47 => ?_) (fun c_47 => ?_)
        · skip
          refine lv_iconst (v := nI 0) xx xb dX2_whatWas_56 (by decide) ?_
          refine lv_istore (lv' := [(4, .int (nI 0)), (3, .int (nI 0)), (0, .ref h0), (1, .int x), (2, .int ww)]) xx xb dX2_whatWas_57 hl (by decide) rfl (fun ls hl => ?_)
          refine lv_iconst (v := nI 0) xx xb dX2_whatWas_59 (by decide) ?_
          refine lv_istore (lv' := [(5, .int (nI 0)), (4, .int (nI 0)), (3, .int (nI 0)), (0, .ref h0), (1, .int x), (2, .int ww)]) xx xb dX2_whatWas_60 hl (by decide) rfl (fun ls hl => ?_)
          have L_62 : ∀ (fu : Nat) (q : Nat) (Y : RT) (H : Heap) (locs : List Loc) (ls : Array Slot), 10 - q < fu → (q ≤ 10) → (wwz = 0 → q ≤ 6) → Wd G (fA [(h0, .inr (2, [.ref a1, .ref a2, .ref a3, .ref a4, .int (nI im), .ref a5, .ref a6, .ref a7, .int (nI lm), .int (nI rm), .int (nI pl), .ref a8, .int sd])), (a1, aI G 54 (fl R)), (a2, aI G 54 (fl Rm)), (a6, aI G 16 (cN rv)), (a7, aI G 7 (cN rf))]) s [(h0, .inr (2, [.ref a1, .ref a2, .ref a3, .ref a4, .int (nI im), .ref a5, .ref a6, .ref a7, .int (nI lm), .int (nI rm), .int (nI pl), .ref a8, .int sd])), (a1, aI G 54 (fl R)), (a2, aI G 54 (fl Y)), (a6, aI G 16 (cN rv)), (a7, aI G 7 (cN rf))] H locs → lv_has ls 9 [(0, .ref h0), (1, .int x), (2, .int ww), (4, .int (nI (bs (wwP R xz.toNat wwz rv) q))), (5, .int (nI q))] → W p l e ({ frames := 5, cells := 0, slots := 0, locals := 110 }) s m (([.ref h0, .int x, .int ww] : List Value).toArray) below meth c H locs 0 0 (MQ below (QI G [(h0, .inr (2, [.ref a1, .ref a2, .ref a3, .ref a4, .int (nI im), .ref a5, .ref a6, .ref a7, .int (nI lm), .int (nI rm), .int (nI pl), .ref a8, .int sd])), (a1, aI G 54 (fl R)), (a2, aI G 54 (fl Rm)), (a6, aI G 16 (cN rv)), (a7, aI G 7 (cN rf))] (fun (r : Int32) (u : RT) => r = anI (cWW R xz wwz rm) (nI (vWW R xz.toNat wwz rv))) (fun u => [(h0, .inr (2, [.ref a1, .ref a2, .ref a3, .ref a4, .int (nI im), .ref a5, .ref a6, .ref a7, .int (nI lm), .int (nI rm), .int (nI pl), .ref a8, .int sd])), (a1, aI G 54 (fl R)), (a2, aI G 54 (fl u)), (a6, aI G 16 (cN rv)), (a7, aI G 7 (cN (rfU rf (cWW R xz wwz rm))))])) (([.ref h0, .int x, .int ww] : List Value).toArray) s 0 0 (fA [(h0, .inr (2, [.ref a1, .ref a2, .ref a3, .ref a4, .int (nI im), .ref a5, .ref a6, .ref a7, .int (nI lm), .int (nI rm), .int (nI pl), .ref a8, .int sd])), (a1, aI G 54 (fl R)), (a2, aI G 54 (fl Rm)), (a6, aI G 16 (cN rv)), (a7, aI G 7 (cN rf))])) (F0 m 62 ls []) := by
            intro fu
            induction fu with
            | zero => intro q Y H locs ls hfu; exact absurd hfu (Nat.not_lt_zero _)
            | succ fu ih_62 =>
              intro q Y H locs ls hfu hq hq6 hw hl
              refine lv_iload xx xb dX2_whatWas_62 (lv_at hl 4 rfl) ?_
              refine lv_iload_n xx xb dX2_whatWas_64 rfl (lv_at hl 2 rfl) ?_
              refine lv_if_ne (tgt := 73) xx xb dX2_whatWas_65 (by decide) (fun c_65 => ?_) (fun c_65 => ?_)
              · skip
                have c_65 := ne_c h_ww Int32.toInt_zero c_65
                refine lv_bipush (v := nI 10) xx xb dX2_whatWas_73 (by decide) ?_
                refine lv_icmp_ge (tgt := 198) xx xb dX2_whatWas_75 (by decide) (fun c_75 => ?_) (fun c_75 => ?_)
                · skip
                  have c_75 := le_c (tN (by omega)) (tN (by omega)) c_75
                  refine lv_iload xx xb dX2_whatWas_198 (lv_at hl 3 rfl) ?_
                  refine re_i (nI (vWW R xz.toNat wwz rv)) (congrArg nI (by unfold vWW; first | (rw [if_pos (by omega), show q = 6 by omega]; done) | (rw [if_neg (by omega), show q = 10 by omega]; done))) ?_
                  have hc : cWW R xz wwz rm = 0 := by unfold cWW; (repeat' split) <;> omega
                  exact rt_i C hw Y (by exact (anI_0 hc _).symm) (by rw [rfU_0 hc]) dX2_whatWas_200
                · skip
                  have c_75 := nle_c (tN (by omega)) (tN (by omega)) c_75
                  have hSO : OK (wwS R xz.toNat wwz q) := OK_wwS hR _ (by omega)
                  refine lv_iconst (v := nI 1) xx xb dX2_whatWas_78 (by decide) ?_
                  refine lv_istore (lv' := [(6, .int (nI 1)), (0, .ref h0), (1, .int x), (2, .int ww), (4, .int (nI (bs (wwP R xz.toNat wwz rv) q))), (5, .int (nI q))]) xx xb dX2_whatWas_79 hl (by decide) rfl (fun ls hl => ?_)
                  refine lv_iconst (v := nI 0) xx xb dX2_whatWas_81 (by decide) ?_
                  refine lv_istore (lv' := [(7, .int (nI 0)), (6, .int (nI 1)), (0, .ref h0), (1, .int x), (2, .int ww), (4, .int (nI (bs (wwP R xz.toNat wwz rv) q))), (5, .int (nI q))]) xx xb dX2_whatWas_82 hl (by decide) rfl (fun ls hl => ?_)
                  have hl : lv_has ls 9 [(7, .int (nI 0)), (6, .int (if wwB (wwS R xz.toNat wwz q) rv 0 = true then 1 else 0)), (0, .ref h0), (1, .int x), (2, .int ww), (4, .int (nI (bs (wwP R xz.toNat wwz rv) q))), (5, .int (nI q))] := hl
                  have L_84 : ∀ (fu : Nat) (i : Nat) (Y : RT) (H : Heap) (locs : List Loc) (ls : Array Slot), 10 - i < fu → (i ≤ R 0 0) → Wd G (fA [(h0, .inr (2, [.ref a1, .ref a2, .ref a3, .ref a4, .int (nI im), .ref a5, .ref a6, .ref a7, .int (nI lm), .int (nI rm), .int (nI pl), .ref a8, .int sd])), (a1, aI G 54 (fl R)), (a2, aI G 54 (fl Rm)), (a6, aI G 16 (cN rv)), (a7, aI G 7 (cN rf))]) s [(h0, .inr (2, [.ref a1, .ref a2, .ref a3, .ref a4, .int (nI im), .ref a5, .ref a6, .ref a7, .int (nI lm), .int (nI rm), .int (nI pl), .ref a8, .int sd])), (a1, aI G 54 (fl R)), (a2, aI G 54 (fl Y)), (a6, aI G 16 (cN rv)), (a7, aI G 7 (cN rf))] H locs → lv_has ls 9 [(0, .ref h0), (1, .int x), (2, .int ww), (4, .int (nI (bs (wwP R xz.toNat wwz rv) q))), (5, .int (nI q)), (6, .int (if wwB (wwS R xz.toNat wwz q) rv i = true then 1 else 0)), (7, .int (nI i))] → W p l e ({ frames := 5, cells := 0, slots := 0, locals := 110 }) s m (([.ref h0, .int x, .int ww] : List Value).toArray) below meth c H locs 0 0 (MQ below (QI G [(h0, .inr (2, [.ref a1, .ref a2, .ref a3, .ref a4, .int (nI im), .ref a5, .ref a6, .ref a7, .int (nI lm), .int (nI rm), .int (nI pl), .ref a8, .int sd])), (a1, aI G 54 (fl R)), (a2, aI G 54 (fl Rm)), (a6, aI G 16 (cN rv)), (a7, aI G 7 (cN rf))] (fun (r : Int32) (u : RT) => r = anI (cWW R xz wwz rm) (nI (vWW R xz.toNat wwz rv))) (fun u => [(h0, .inr (2, [.ref a1, .ref a2, .ref a3, .ref a4, .int (nI im), .ref a5, .ref a6, .ref a7, .int (nI lm), .int (nI rm), .int (nI pl), .ref a8, .int sd])), (a1, aI G 54 (fl R)), (a2, aI G 54 (fl u)), (a6, aI G 16 (cN rv)), (a7, aI G 7 (cN (rfU rf (cWW R xz wwz rm))))])) (([.ref h0, .int x, .int ww] : List Value).toArray) s 0 0 (fA [(h0, .inr (2, [.ref a1, .ref a2, .ref a3, .ref a4, .int (nI im), .ref a5, .ref a6, .ref a7, .int (nI lm), .int (nI rm), .int (nI pl), .ref a8, .int sd])), (a1, aI G 54 (fl R)), (a2, aI G 54 (fl Rm)), (a6, aI G 16 (cN rv)), (a7, aI G 7 (cN rf))])) (F0 m 84 ls []) := by
                    intro fu
                    induction fu with
                    | zero => intro i Y H locs ls hfu; exact absurd hfu (Nat.not_lt_zero _)
                    | succ fu ih_84 =>
                      intro i Y H locs ls hfu hi hw hl
                      refine lv_iload xx xb dX2_whatWas_84 (lv_at hl 6 rfl) ?_
                      refine lv_aload_n xx xb dX2_whatWas_86 rfl (lv_at hl 0 rfl) ?_
                      refine m_get C hw 0 rfl fk_X2_9 rfl dX2_whatWas_87 ?_
                      refine lv_iconst (v := nI 0) xx xb dX2_whatWas_90 (by decide) ?_
                      refine m_ald C hw 1 rfl 0 rfl (by omega) (by decide) dX2_whatWas_91 ?_
                      refine re_i (nI (R 0 0)) (fl_h R (by decide)) ?_
                      refine lv_icmp_ge (tgt := 174) xx xb dX2_whatWas_92 (by decide) (fun c_92 => ?_) (fun c_92 => ?_)
                      · skip
                        have c_92 := le_c (tN (by omega)) (tN (by omega)) c_92
                        have hl : lv_has ls 9 [(0, .ref h0), (1, .int x), (2, .int ww), (4, .int (nI (bs (wwP R xz.toNat wwz rv) q))), (5, .int (nI q)), (6, .int (if wwP R xz.toNat wwz rv q = true then 1 else 0)), (7, .int (nI i))] := by first | (rw [show wwP R xz.toNat wwz rv q = wwB (wwS R xz.toNat wwz q) rv i from (by unfold wwP; rw [show R 0 0 = i by omega])]; exact hl) | (rw [show wwP R xz.toNat wwz rv q = wwB (wwS R xz.toNat wwz q) rv i from (by unfold wwP; rw [Bool.eq_false_iff.mpr c_97, show R 0 0 = i + (R 0 0 - i) by omega, wwB_f c_97])]; exact hl)
                        refine lv_iload xx xb dX2_whatWas_174 (lv_at hl 3 rfl) ?_
                        refine lv_iload xx xb dX2_whatWas_176 (lv_at hl 5 rfl) ?_
                        refine lv_if_eq (tgt := 188) xx xb dX2_whatWas_178 (by decide) (fun c_178 => ?_) (fun c_178 => ?_)
                        · skip
                          have c_178 := b0_c c_178
                          refine lv_iconst (v := nI 0) xx xb dX2_whatWas_188 (by decide) ?_
                          refine lv_ior xx xb dX2_whatWas_189 ?_
                          refine re_i (nI ((bs (wwP R xz.toNat wwz rv) q) ||| 0)) (or_N _ _) ?_
                          refine re_i (nI (bs (wwP R xz.toNat wwz rv) (q + 1))) (congrArg nI (by first | exact bs_orT c_178 | exact bs_orF (Bool.eq_false_iff.mpr c_178))) ?_
                          refine lv_istore (lv' := [(4, .int (nI (bs (wwP R xz.toNat wwz rv) (q + 1)))), (0, .ref h0), (1, .int x), (2, .int ww), (5, .int (nI q)), (6, .int (if wwP R xz.toNat wwz rv q = true then 1 else 0)), (7, .int (nI i))]) xx xb dX2_whatWas_190 hl (by decide) rfl (fun ls hl => ?_)
                          refine lv_iinc (v := nI (q + 1)) (lv' := [(5, .int (nI (q + 1))), (4, .int (nI (bs (wwP R xz.toNat wwz rv) (q + 1)))), (0, .ref h0), (1, .int x), (2, .int ww), (6, .int (if wwP R xz.toNat wwz rv q = true then 1 else 0)), (7, .int (nI i))]) xx xb dX2_whatWas_192 hl (k := 4) rfl (nI_add _ 1) (by decide) rfl (fun ls hl => ?_)
                          refine lv_goto (tgt := 62) xx xb dX2_whatWas_195 (by decide) ?_
                          exact ih_62 (q + 1) Y H _ ls (by omega) (by omega) (fun _ => by omega) hw (lv_sub hl [2, 3, 4, 1, 0] rfl)
                        · skip
                          have c_178 := b1_c c_178
                          refine lv_iconst (v := nI 1) xx xb dX2_whatWas_181 (by decide) ?_
                          refine lv_iload xx xb dX2_whatWas_182 (lv_at hl 4 rfl) ?_
                          refine lv_ishl xx xb dX2_whatWas_184 ?_
                          refine re_i (nI (2 ^ q)) (shl1 (by omega)) ?_
                          refine lv_goto (tgt := 189) xx xb dX2_whatWas_185 (by decide) ?_
                          refine lv_ior xx xb dX2_whatWas_189 ?_
                          refine re_i (nI ((bs (wwP R xz.toNat wwz rv) q) ||| (2 ^ q))) (or_N _ _) ?_
                          refine re_i (nI (bs (wwP R xz.toNat wwz rv) (q + 1))) (congrArg nI (by first | exact bs_orT c_178 | exact bs_orF (Bool.eq_false_iff.mpr c_178))) ?_
                          refine lv_istore (lv' := [(4, .int (nI (bs (wwP R xz.toNat wwz rv) (q + 1)))), (0, .ref h0), (1, .int x), (2, .int ww), (5, .int (nI q)), (6, .int (if wwP R xz.toNat wwz rv q = true then 1 else 0)), (7, .int (nI i))]) xx xb dX2_whatWas_190 hl (by decide) rfl (fun ls hl => ?_)
                          refine lv_iinc (v := nI (q + 1)) (lv' := [(5, .int (nI (q + 1))), (4, .int (nI (bs (wwP R xz.toNat wwz rv) (q + 1)))), (0, .ref h0), (1, .int x), (2, .int ww), (6, .int (if wwP R xz.toNat wwz rv q = true then 1 else 0)), (7, .int (nI i))]) xx xb dX2_whatWas_192 hl (k := 4) rfl (nI_add _ 1) (by decide) rfl (fun ls hl => ?_)
                          refine lv_goto (tgt := 62) xx xb dX2_whatWas_195 (by decide) ?_
                          exact ih_62 (q + 1) Y H _ ls (by omega) (by omega) (fun _ => by omega) hw (lv_sub hl [2, 3, 4, 1, 0] rfl)
                      · skip
                        have c_92 := nle_c (tN (by omega)) (tN (by omega)) c_92
                        refine lv_iload xx xb dX2_whatWas_95 (lv_at hl 5 rfl) ?_
                        refine lv_if_eq (tgt := 174) xx xb dX2_whatWas_97 (by decide) (fun c_97 => ?_) (fun c_97 => ?_)
                        · skip
                          have c_97 := b0_c c_97
                          have hl : lv_has ls 9 [(0, .ref h0), (1, .int x), (2, .int ww), (4, .int (nI (bs (wwP R xz.toNat wwz rv) q))), (5, .int (nI q)), (6, .int (if wwP R xz.toNat wwz rv q = true then 1 else 0)), (7, .int (nI i))] := by first | (rw [show wwP R xz.toNat wwz rv q = wwB (wwS R xz.toNat wwz q) rv i from (by unfold wwP; rw [show R 0 0 = i by omega])]; exact hl) | (rw [show wwP R xz.toNat wwz rv q = wwB (wwS R xz.toNat wwz q) rv i from (by unfold wwP; rw [Bool.eq_false_iff.mpr c_97, show R 0 0 = i + (R 0 0 - i) by omega, wwB_f c_97])]; exact hl)
                          refine lv_iload xx xb dX2_whatWas_174 (lv_at hl 3 rfl) ?_
                          refine lv_iload xx xb dX2_whatWas_176 (lv_at hl 5 rfl) ?_
                          refine lv_if_eq (tgt := 188) xx xb dX2_whatWas_178 (by decide) (fun c_178 => ?_) (fun c_178 => ?_)
                          · skip
                            have c_178 := b0_c c_178
                            refine lv_iconst (v := nI 0) xx xb dX2_whatWas_188 (by decide) ?_
                            refine lv_ior xx xb dX2_whatWas_189 ?_
                            refine re_i (nI ((bs (wwP R xz.toNat wwz rv) q) ||| 0)) (or_N _ _) ?_
                            refine re_i (nI (bs (wwP R xz.toNat wwz rv) (q + 1))) (congrArg nI (by first | exact bs_orT c_178 | exact bs_orF (Bool.eq_false_iff.mpr c_178))) ?_
                            refine lv_istore (lv' := [(4, .int (nI (bs (wwP R xz.toNat wwz rv) (q + 1)))), (0, .ref h0), (1, .int x), (2, .int ww), (5, .int (nI q)), (6, .int (if wwP R xz.toNat wwz rv q = true then 1 else 0)), (7, .int (nI i))]) xx xb dX2_whatWas_190 hl (by decide) rfl (fun ls hl => ?_)
                            refine lv_iinc (v := nI (q + 1)) (lv' := [(5, .int (nI (q + 1))), (4, .int (nI (bs (wwP R xz.toNat wwz rv) (q + 1)))), (0, .ref h0), (1, .int x), (2, .int ww), (6, .int (if wwP R xz.toNat wwz rv q = true then 1 else 0)), (7, .int (nI i))]) xx xb dX2_whatWas_192 hl (k := 4) rfl (nI_add _ 1) (by decide) rfl (fun ls hl => ?_)
                            refine lv_goto (tgt := 62) xx xb dX2_whatWas_195 (by decide) ?_
                            exact ih_62 (q + 1) Y H _ ls (by omega) (by omega) (fun _ => by omega) hw (lv_sub hl [2, 3, 4, 1, 0] rfl)
                          · skip
                            have c_178 := b1_c c_178
                            refine lv_iconst (v := nI 1) xx xb dX2_whatWas_181 (by decide) ?_
                            refine lv_iload xx xb dX2_whatWas_182 (lv_at hl 4 rfl) ?_
                            refine lv_ishl xx xb dX2_whatWas_184 ?_
                            refine re_i (nI (2 ^ q)) (shl1 (by omega)) ?_
                            refine lv_goto (tgt := 189) xx xb dX2_whatWas_185 (by decide) ?_
                            refine lv_ior xx xb dX2_whatWas_189 ?_
                            refine re_i (nI ((bs (wwP R xz.toNat wwz rv) q) ||| (2 ^ q))) (or_N _ _) ?_
                            refine re_i (nI (bs (wwP R xz.toNat wwz rv) (q + 1))) (congrArg nI (by first | exact bs_orT c_178 | exact bs_orF (Bool.eq_false_iff.mpr c_178))) ?_
                            refine lv_istore (lv' := [(4, .int (nI (bs (wwP R xz.toNat wwz rv) (q + 1)))), (0, .ref h0), (1, .int x), (2, .int ww), (5, .int (nI q)), (6, .int (if wwP R xz.toNat wwz rv q = true then 1 else 0)), (7, .int (nI i))]) xx xb dX2_whatWas_190 hl (by decide) rfl (fun ls hl => ?_)
                            refine lv_iinc (v := nI (q + 1)) (lv' := [(5, .int (nI (q + 1))), (4, .int (nI (bs (wwP R xz.toNat wwz rv) (q + 1)))), (0, .ref h0), (1, .int x), (2, .int ww), (6, .int (if wwP R xz.toNat wwz rv q = true then 1 else 0)), (7, .int (nI i))]) xx xb dX2_whatWas_192 hl (k := 4) rfl (nI_add _ 1) (by decide) rfl (fun ls hl => ?_)
                            refine lv_goto (tgt := 62) xx xb dX2_whatWas_195 (by decide) ?_
                            exact ih_62 (q + 1) Y H _ ls (by omega) (by omega) (fun _ => by omega) hw (lv_sub hl [2, 3, 4, 1, 0] rfl)
                        · skip
                          have c_97 := b1_c c_97
                          refine lv_aload_n xx xb dX2_whatWas_100 rfl (lv_at hl 0 rfl) ?_
                          refine m_get C hw 0 rfl fk_X2_9 rfl dX2_whatWas_101 ?_
                          refine lv_aload_n xx xb dX2_whatWas_104 rfl (lv_at hl 0 rfl) ?_
                          refine m_get C hw 0 rfl fk_X2_13 rfl dX2_whatWas_105 ?_
                          have hM := kX2_copies l G a1 a2 (fl R) (fl Y) 
                          refine cs_v C hw hM ysX2_copies ml_X2_121 rfl [1, 2] rfl rfl (fun _ => (rfl : ([a1, a2] : List Nat) = [a1, a2])) (by decide) ⟨Nat.zero_le _, Nat.zero_le _⟩ hl.1 rfl (Nat.le_of_ble_eq_true rfl) dX2_whatWas_108 (fun _ H locs hr hw => ?_)
                          have hw : Wd G (fA [(h0, .inr (2, [.ref a1, .ref a2, .ref a3, .ref a4, .int (nI im), .ref a5, .ref a6, .ref a7, .int (nI lm), .int (nI rm), .int (nI pl), .ref a8, .int sd])), (a1, aI G 54 (fl R)), (a2, aI G 54 (fl Rm)), (a6, aI G 16 (cN rv)), (a7, aI G 7 (cN rf))]) s [(h0, .inr (2, [.ref a1, .ref a2, .ref a3, .ref a4, .int (nI im), .ref a5, .ref a6, .ref a7, .int (nI lm), .int (nI rm), .int (nI pl), .ref a8, .int sd])), (a1, aI G 54 (fl R)), (a2, aI G 54 (fl R)), (a6, aI G 16 (cN rv)), (a7, aI G 7 (cN rf))] H locs := hw
                          refine lv_aload_n xx xb dX2_whatWas_111 rfl (lv_at hl 0 rfl) ?_
                          refine m_get C hw 0 rfl fk_X2_13 rfl dX2_whatWas_112 ?_
                          refine lv_iload_n xx xb dX2_whatWas_115 rfl (lv_at hl 1 rfl) ?_
                          refine re_i (nI xz.toNat) (ofT h_x (by omega) (by omega)) ?_
                          refine lv_iload_n xx xb dX2_whatWas_116 rfl (lv_at hl 2 rfl) ?_
                          refine lv_if_ne (tgt := 124) xx xb dX2_whatWas_117 (by decide) (fun c_117 => ?_) (fun c_117 => ?_)
                          · skip
                            have c_117 := ne_c h_ww Int32.toInt_zero c_117
                            refine lv_iconst (v := nI 1) xx xb dX2_whatWas_124 (by decide) ?_
                            have hM := kX2_of l G xz.toNat 1 
                            refine cs_i C hw hM ysX2_of ml_X2_44 rfl [] rfl rfl (fun _ => (rfl : ([] : List Nat) = [])) (by decide) ⟨Nat.zero_le _, Nat.zero_le _⟩ hl.1 rfl (Nat.le_of_ble_eq_true rfl) dX2_whatWas_125 (fun r _ H locs hr hw => ?_)
                            have hw : Wd G (fA [(h0, .inr (2, [.ref a1, .ref a2, .ref a3, .ref a4, .int (nI im), .ref a5, .ref a6, .ref a7, .int (nI lm), .int (nI rm), .int (nI pl), .ref a8, .int sd])), (a1, aI G 54 (fl R)), (a2, aI G 54 (fl Rm)), (a6, aI G 16 (cN rv)), (a7, aI G 7 (cN rf))]) s [(h0, .inr (2, [.ref a1, .ref a2, .ref a3, .ref a4, .int (nI im), .ref a5, .ref a6, .ref a7, .int (nI lm), .int (nI rm), .int (nI pl), .ref a8, .int sd])), (a1, aI G 54 (fl R)), (a2, aI G 54 (fl R)), (a6, aI G 16 (cN rv)), (a7, aI G 7 (cN rf))] H locs := hw
                            subst hr
                            refine lv_iload xx xb dX2_whatWas_128 (lv_at hl 4 rfl) ?_
                            refine m_ast C hw 2 rfl (4 + 5 * xz.toNat + 1) rfl (by omega) (by decide) (fl (upR R 2 xz.toNat q)) (fl_uk _ (by decide) (by decide)) dX2_whatWas_130 (fun H locs hw => ?_)
                            have hw : Wd G (fA [(h0, .inr (2, [.ref a1, .ref a2, .ref a3, .ref a4, .int (nI im), .ref a5, .ref a6, .ref a7, .int (nI lm), .int (nI rm), .int (nI pl), .ref a8, .int sd])), (a1, aI G 54 (fl R)), (a2, aI G 54 (fl Rm)), (a6, aI G 16 (cN rv)), (a7, aI G 7 (cN rf))]) s [(h0, .inr (2, [.ref a1, .ref a2, .ref a3, .ref a4, .int (nI im), .ref a5, .ref a6, .ref a7, .int (nI lm), .int (nI rm), .int (nI pl), .ref a8, .int sd])), (a1, aI G 54 (fl R)), (a2, aI G 54 (fl (upR R 2 xz.toNat q))), (a6, aI G 16 (cN rv)), (a7, aI G 7 (cN rf))] H locs := hw
                            have hw : Wd G (fA [(h0, .inr (2, [.ref a1, .ref a2, .ref a3, .ref a4, .int (nI im), .ref a5, .ref a6, .ref a7, .int (nI lm), .int (nI rm), .int (nI pl), .ref a8, .int sd])), (a1, aI G 54 (fl R)), (a2, aI G 54 (fl Rm)), (a6, aI G 16 (cN rv)), (a7, aI G 7 (cN rf))]) s [(h0, .inr (2, [.ref a1, .ref a2, .ref a3, .ref a4, .int (nI im), .ref a5, .ref a6, .ref a7, .int (nI lm), .int (nI rm), .int (nI pl), .ref a8, .int sd])), (a1, aI G 54 (fl R)), (a2, aI G 54 (fl (wwS R xz.toNat wwz q))), (a6, aI G 16 (cN rv)), (a7, aI G 7 (cN rf))] H locs := by first | (rw [show wwS R xz.toNat wwz q = upR R 1 xz.toNat q from (by unfold wwS wwI; rw [if_pos (by omega)])]; exact hw) | (rw [show wwS R xz.toNat wwz q = upR R 2 xz.toNat q from (by unfold wwS wwI; rw [if_neg (by omega)])]; exact hw)
                            refine lv_aload_n xx xb dX2_whatWas_131 rfl (lv_at hl 0 rfl) ?_
                            refine lv_iload xx xb dX2_whatWas_132 (lv_at hl 6 rfl) ?_
                            have hM := kX2_fallsIn l G h0 a1 a2 a3 a4 a5 a6 a7 a8 im lm rm pl sd (wwS R xz.toNat wwz q) i hSO (AK_wwS hK _ _ _) (by rw [wwS_00]; omega)
                            refine cv_i C hw hM yvX2_fallsIn ml_X2_141 0 rfl rfl rfl [0, 2] rfl rfl (fun _ => (rfl : ([h0, a2] : List Nat) = [h0, a2])) (by decide) ⟨Nat.zero_le _, Nat.zero_le _⟩ hl.1 rfl (Nat.le_of_ble_eq_true rfl) dX2_whatWas_134 (fun r _ H locs hr hw => ?_)
                            have hw : Wd G (fA [(h0, .inr (2, [.ref a1, .ref a2, .ref a3, .ref a4, .int (nI im), .ref a5, .ref a6, .ref a7, .int (nI lm), .int (nI rm), .int (nI pl), .ref a8, .int sd])), (a1, aI G 54 (fl R)), (a2, aI G 54 (fl Rm)), (a6, aI G 16 (cN rv)), (a7, aI G 7 (cN rf))]) s [(h0, .inr (2, [.ref a1, .ref a2, .ref a3, .ref a4, .int (nI im), .ref a5, .ref a6, .ref a7, .int (nI lm), .int (nI rm), .int (nI pl), .ref a8, .int sd])), (a1, aI G 54 (fl R)), (a2, aI G 54 (fl (itF (wwS R xz.toNat wwz q) (ftN (wwS R xz.toNat wwz q) i)))), (a6, aI G 16 (cN rv)), (a7, aI G 7 (cN rf))] H locs := hw
                            subst hr
                            refine lv_istore (lv' := [(8, .int (ftI (ftN (wwS R xz.toNat wwz q) i))), (0, .ref h0), (1, .int x), (2, .int ww), (4, .int (nI (bs (wwP R xz.toNat wwz rv) q))), (5, .int (nI q)), (6, .int (if wwB (wwS R xz.toNat wwz q) rv i = true then 1 else 0)), (7, .int (nI i))]) xx xb dX2_whatWas_137 hl (by decide) rfl (fun ls hl => ?_)
                            refine lv_iload xx xb dX2_whatWas_139 (lv_at hl 0 rfl) ?_
                            refine lv_if_ge (tgt := 149) xx xb dX2_whatWas_141 (by decide) (fun c_141 => ?_) (fun c_141 => ?_)
                            · skip
                              have c_141 := ftI_nn (ftN_le _ _) c_141
                              refine lv_iload xx xb dX2_whatWas_149 (lv_at hl 0 rfl) ?_
                              refine re_i (nI (tld (ftN (wwS R xz.toNat wwz q) i))) (by first | exact tld_y c_141 | exact tld_n c_141) ?_
                              refine lv_aload_n xx xb dX2_whatWas_151 rfl (lv_at hl 1 rfl) ?_
                              refine m_get C hw 0 rfl fk_X2_25 rfl dX2_whatWas_152 ?_
                              refine lv_iload xx xb dX2_whatWas_155 (lv_at hl 7 rfl) ?_
                              refine m_ald C hw 3 rfl i rfl (by omega) (by decide) dX2_whatWas_157 ?_
                              refine re_i (nI (rv i)) rfl ?_
                              have ht9 := tld_le (ftN (wwS R xz.toNat wwz q) i)
                              have hr9 := hrv i (by omega)
                              refine lv_icmp_ne (tgt := 165) xx xb dX2_whatWas_158 (by decide) (fun c_158 => ?_) (fun c_158 => ?_)
                              · skip
                                have c_158 := ne_c (tN (by omega)) (tN (by omega)) c_158
                                refine lv_iconst (v := nI 0) xx xb dX2_whatWas_165 (by decide) ?_
                                refine re_i (if wwB (wwS R xz.toNat wwz q) rv (i + 1) = true then 1 else 0) (by first | exact r1 (wwB_t c_97 (by omega)) | exact r0 (by rw [wwB_n (by omega)]; decide)) ?_
                                refine lv_istore (lv' := [(6, .int (if wwB (wwS R xz.toNat wwz q) rv (i + 1) = true then 1 else 0)), (8, .int (ftI (ftN (wwS R xz.toNat wwz q) i))), (0, .ref h0), (1, .int x), (2, .int ww), (4, .int (nI (bs (wwP R xz.toNat wwz rv) q))), (5, .int (nI q)), (7, .int (nI i))]) xx xb dX2_whatWas_166 hl (by decide) rfl (fun ls hl => ?_)
                                refine lv_iinc (v := nI (i + 1)) (lv' := [(7, .int (nI (i + 1))), (6, .int (if wwB (wwS R xz.toNat wwz q) rv (i + 1) = true then 1 else 0)), (8, .int (ftI (ftN (wwS R xz.toNat wwz q) i))), (0, .ref h0), (1, .int x), (2, .int ww), (4, .int (nI (bs (wwP R xz.toNat wwz rv) q))), (5, .int (nI q))]) xx xb dX2_whatWas_168 hl (k := 7) rfl (nI_add _ 1) (by decide) rfl (fun ls hl => ?_)
                                refine lv_goto (tgt := 84) xx xb dX2_whatWas_171 (by decide) ?_
                                exact ih_84 (i + 1) (itF (wwS R xz.toNat wwz q) (ftN (wwS R xz.toNat wwz q) i)) H _ ls (by omega) (by omega) hw (lv_sub hl [3, 4, 5, 6, 7, 1, 0] rfl)
                              · skip
                                have c_158 := eq_c (tN (by omega)) (tN (by omega)) c_158
                                refine lv_iconst (v := nI 1) xx xb dX2_whatWas_161 (by decide) ?_
                                refine lv_goto (tgt := 166) xx xb dX2_whatWas_162 (by decide) ?_
                                refine re_i (if wwB (wwS R xz.toNat wwz q) rv (i + 1) = true then 1 else 0) (by first | exact r1 (wwB_t c_97 (by omega)) | exact r0 (by rw [wwB_n (by omega)]; decide)) ?_
                                refine lv_istore (lv' := [(6, .int (if wwB (wwS R xz.toNat wwz q) rv (i + 1) = true then 1 else 0)), (8, .int (ftI (ftN (wwS R xz.toNat wwz q) i))), (0, .ref h0), (1, .int x), (2, .int ww), (4, .int (nI (bs (wwP R xz.toNat wwz rv) q))), (5, .int (nI q)), (7, .int (nI i))]) xx xb dX2_whatWas_166 hl (by decide) rfl (fun ls hl => ?_)
                                refine lv_iinc (v := nI (i + 1)) (lv' := [(7, .int (nI (i + 1))), (6, .int (if wwB (wwS R xz.toNat wwz q) rv (i + 1) = true then 1 else 0)), (8, .int (ftI (ftN (wwS R xz.toNat wwz q) i))), (0, .ref h0), (1, .int x), (2, .int ww), (4, .int (nI (bs (wwP R xz.toNat wwz rv) q))), (5, .int (nI q))]) xx xb dX2_whatWas_168 hl (k := 7) rfl (nI_add _ 1) (by decide) rfl (fun ls hl => ?_)
                                refine lv_goto (tgt := 84) xx xb dX2_whatWas_171 (by decide) ?_
                                exact ih_84 (i + 1) (itF (wwS R xz.toNat wwz q) (ftN (wwS R xz.toNat wwz q) i)) H _ ls (by omega) (by omega) hw (lv_sub hl [3, 4, 5, 6, 7, 1, 0] rfl)
                            · skip
                              have c_141 := ftI_ng (ftN_le _ _) c_141
                              refine lv_bipush (v := nI 99) xx xb dX2_whatWas_144 (by decide) ?_
                              refine lv_goto (tgt := 151) xx xb dX2_whatWas_146 (by decide) ?_
                              refine re_i (nI (tld (ftN (wwS R xz.toNat wwz q) i))) (by first | exact tld_y c_141 | exact tld_n c_141) ?_
                              refine lv_aload_n xx xb dX2_whatWas_151 rfl (lv_at hl 1 rfl) ?_
                              refine m_get C hw 0 rfl fk_X2_25 rfl dX2_whatWas_152 ?_
                              refine lv_iload xx xb dX2_whatWas_155 (lv_at hl 7 rfl) ?_
                              refine m_ald C hw 3 rfl i rfl (by omega) (by decide) dX2_whatWas_157 ?_
                              refine re_i (nI (rv i)) rfl ?_
                              have ht9 := tld_le (ftN (wwS R xz.toNat wwz q) i)
                              have hr9 := hrv i (by omega)
                              refine lv_icmp_ne (tgt := 165) xx xb dX2_whatWas_158 (by decide) (fun c_158 => ?_) (fun c_158 => ?_)
                              · skip
                                have c_158 := ne_c (tN (by omega)) (tN (by omega)) c_158
                                refine lv_iconst (v := nI 0) xx xb dX2_whatWas_165 (by decide) ?_
                                refine re_i (if wwB (wwS R xz.toNat wwz q) rv (i + 1) = true then 1 else 0) (by first | exact r1 (wwB_t c_97 (by omega)) | exact r0 (by rw [wwB_n (by omega)]; decide)) ?_
                                refine lv_istore (lv' := [(6, .int (if wwB (wwS R xz.toNat wwz q) rv (i + 1) = true then 1 else 0)), (8, .int (ftI (ftN (wwS R xz.toNat wwz q) i))), (0, .ref h0), (1, .int x), (2, .int ww), (4, .int (nI (bs (wwP R xz.toNat wwz rv) q))), (5, .int (nI q)), (7, .int (nI i))]) xx xb dX2_whatWas_166 hl (by decide) rfl (fun ls hl => ?_)
                                refine lv_iinc (v := nI (i + 1)) (lv' := [(7, .int (nI (i + 1))), (6, .int (if wwB (wwS R xz.toNat wwz q) rv (i + 1) = true then 1 else 0)), (8, .int (ftI (ftN (wwS R xz.toNat wwz q) i))), (0, .ref h0), (1, .int x), (2, .int ww), (4, .int (nI (bs (wwP R xz.toNat wwz rv) q))), (5, .int (nI q))]) xx xb dX2_whatWas_168 hl (k := 7) rfl (nI_add _ 1) (by decide) rfl (fun ls hl => ?_)
                                refine lv_goto (tgt := 84) xx xb dX2_whatWas_171 (by decide) ?_
                                exact ih_84 (i + 1) (itF (wwS R xz.toNat wwz q) (ftN (wwS R xz.toNat wwz q) i)) H _ ls (by omega) (by omega) hw (lv_sub hl [3, 4, 5, 6, 7, 1, 0] rfl)
                              · skip
                                have c_158 := eq_c (tN (by omega)) (tN (by omega)) c_158
                                refine lv_iconst (v := nI 1) xx xb dX2_whatWas_161 (by decide) ?_
                                refine lv_goto (tgt := 166) xx xb dX2_whatWas_162 (by decide) ?_
                                refine re_i (if wwB (wwS R xz.toNat wwz q) rv (i + 1) = true then 1 else 0) (by first | exact r1 (wwB_t c_97 (by omega)) | exact r0 (by rw [wwB_n (by omega)]; decide)) ?_
                                refine lv_istore (lv' := [(6, .int (if wwB (wwS R xz.toNat wwz q) rv (i + 1) = true then 1 else 0)), (8, .int (ftI (ftN (wwS R xz.toNat wwz q) i))), (0, .ref h0), (1, .int x), (2, .int ww), (4, .int (nI (bs (wwP R xz.toNat wwz rv) q))), (5, .int (nI q)), (7, .int (nI i))]) xx xb dX2_whatWas_166 hl (by decide) rfl (fun ls hl => ?_)
                                refine lv_iinc (v := nI (i + 1)) (lv' := [(7, .int (nI (i + 1))), (6, .int (if wwB (wwS R xz.toNat wwz q) rv (i + 1) = true then 1 else 0)), (8, .int (ftI (ftN (wwS R xz.toNat wwz q) i))), (0, .ref h0), (1, .int x), (2, .int ww), (4, .int (nI (bs (wwP R xz.toNat wwz rv) q))), (5, .int (nI q))]) xx xb dX2_whatWas_168 hl (k := 7) rfl (nI_add _ 1) (by decide) rfl (fun ls hl => ?_)
                                refine lv_goto (tgt := 84) xx xb dX2_whatWas_171 (by decide) ?_
                                exact ih_84 (i + 1) (itF (wwS R xz.toNat wwz q) (ftN (wwS R xz.toNat wwz q) i)) H _ ls (by omega) (by omega) hw (lv_sub hl [3, 4, 5, 6, 7, 1, 0] rfl)
                          · skip
                            have c_117 := eq_c h_ww Int32.toInt_zero c_117
                            refine lv_iconst (v := nI 0) xx xb dX2_whatWas_120 (by decide) ?_
                            refine lv_goto (tgt := 125) xx xb dX2_whatWas_121 (by decide) ?_
                            have hM := kX2_of l G xz.toNat 0 
                            refine cs_i C hw hM ysX2_of ml_X2_44 rfl [] rfl rfl (fun _ => (rfl : ([] : List Nat) = [])) (by decide) ⟨Nat.zero_le _, Nat.zero_le _⟩ hl.1 rfl (Nat.le_of_ble_eq_true rfl) dX2_whatWas_125 (fun r _ H locs hr hw => ?_)
                            have hw : Wd G (fA [(h0, .inr (2, [.ref a1, .ref a2, .ref a3, .ref a4, .int (nI im), .ref a5, .ref a6, .ref a7, .int (nI lm), .int (nI rm), .int (nI pl), .ref a8, .int sd])), (a1, aI G 54 (fl R)), (a2, aI G 54 (fl Rm)), (a6, aI G 16 (cN rv)), (a7, aI G 7 (cN rf))]) s [(h0, .inr (2, [.ref a1, .ref a2, .ref a3, .ref a4, .int (nI im), .ref a5, .ref a6, .ref a7, .int (nI lm), .int (nI rm), .int (nI pl), .ref a8, .int sd])), (a1, aI G 54 (fl R)), (a2, aI G 54 (fl R)), (a6, aI G 16 (cN rv)), (a7, aI G 7 (cN rf))] H locs := hw
                            subst hr
                            refine lv_iload xx xb dX2_whatWas_128 (lv_at hl 4 rfl) ?_
                            refine m_ast C hw 2 rfl (4 + 5 * xz.toNat + 0) rfl (by omega) (by decide) (fl (upR R 1 xz.toNat q)) (fl_uk _ (by decide) (by decide)) dX2_whatWas_130 (fun H locs hw => ?_)
                            have hw : Wd G (fA [(h0, .inr (2, [.ref a1, .ref a2, .ref a3, .ref a4, .int (nI im), .ref a5, .ref a6, .ref a7, .int (nI lm), .int (nI rm), .int (nI pl), .ref a8, .int sd])), (a1, aI G 54 (fl R)), (a2, aI G 54 (fl Rm)), (a6, aI G 16 (cN rv)), (a7, aI G 7 (cN rf))]) s [(h0, .inr (2, [.ref a1, .ref a2, .ref a3, .ref a4, .int (nI im), .ref a5, .ref a6, .ref a7, .int (nI lm), .int (nI rm), .int (nI pl), .ref a8, .int sd])), (a1, aI G 54 (fl R)), (a2, aI G 54 (fl (upR R 1 xz.toNat q))), (a6, aI G 16 (cN rv)), (a7, aI G 7 (cN rf))] H locs := hw
                            have hw : Wd G (fA [(h0, .inr (2, [.ref a1, .ref a2, .ref a3, .ref a4, .int (nI im), .ref a5, .ref a6, .ref a7, .int (nI lm), .int (nI rm), .int (nI pl), .ref a8, .int sd])), (a1, aI G 54 (fl R)), (a2, aI G 54 (fl Rm)), (a6, aI G 16 (cN rv)), (a7, aI G 7 (cN rf))]) s [(h0, .inr (2, [.ref a1, .ref a2, .ref a3, .ref a4, .int (nI im), .ref a5, .ref a6, .ref a7, .int (nI lm), .int (nI rm), .int (nI pl), .ref a8, .int sd])), (a1, aI G 54 (fl R)), (a2, aI G 54 (fl (wwS R xz.toNat wwz q))), (a6, aI G 16 (cN rv)), (a7, aI G 7 (cN rf))] H locs := by first | (rw [show wwS R xz.toNat wwz q = upR R 1 xz.toNat q from (by unfold wwS wwI; rw [if_pos (by omega)])]; exact hw) | (rw [show wwS R xz.toNat wwz q = upR R 2 xz.toNat q from (by unfold wwS wwI; rw [if_neg (by omega)])]; exact hw)
                            refine lv_aload_n xx xb dX2_whatWas_131 rfl (lv_at hl 0 rfl) ?_
                            refine lv_iload xx xb dX2_whatWas_132 (lv_at hl 6 rfl) ?_
                            have hM := kX2_fallsIn l G h0 a1 a2 a3 a4 a5 a6 a7 a8 im lm rm pl sd (wwS R xz.toNat wwz q) i hSO (AK_wwS hK _ _ _) (by rw [wwS_00]; omega)
                            refine cv_i C hw hM yvX2_fallsIn ml_X2_141 0 rfl rfl rfl [0, 2] rfl rfl (fun _ => (rfl : ([h0, a2] : List Nat) = [h0, a2])) (by decide) ⟨Nat.zero_le _, Nat.zero_le _⟩ hl.1 rfl (Nat.le_of_ble_eq_true rfl) dX2_whatWas_134 (fun r _ H locs hr hw => ?_)
                            have hw : Wd G (fA [(h0, .inr (2, [.ref a1, .ref a2, .ref a3, .ref a4, .int (nI im), .ref a5, .ref a6, .ref a7, .int (nI lm), .int (nI rm), .int (nI pl), .ref a8, .int sd])), (a1, aI G 54 (fl R)), (a2, aI G 54 (fl Rm)), (a6, aI G 16 (cN rv)), (a7, aI G 7 (cN rf))]) s [(h0, .inr (2, [.ref a1, .ref a2, .ref a3, .ref a4, .int (nI im), .ref a5, .ref a6, .ref a7, .int (nI lm), .int (nI rm), .int (nI pl), .ref a8, .int sd])), (a1, aI G 54 (fl R)), (a2, aI G 54 (fl (itF (wwS R xz.toNat wwz q) (ftN (wwS R xz.toNat wwz q) i)))), (a6, aI G 16 (cN rv)), (a7, aI G 7 (cN rf))] H locs := hw
                            subst hr
                            refine lv_istore (lv' := [(8, .int (ftI (ftN (wwS R xz.toNat wwz q) i))), (0, .ref h0), (1, .int x), (2, .int ww), (4, .int (nI (bs (wwP R xz.toNat wwz rv) q))), (5, .int (nI q)), (6, .int (if wwB (wwS R xz.toNat wwz q) rv i = true then 1 else 0)), (7, .int (nI i))]) xx xb dX2_whatWas_137 hl (by decide) rfl (fun ls hl => ?_)
                            refine lv_iload xx xb dX2_whatWas_139 (lv_at hl 0 rfl) ?_
                            refine lv_if_ge (tgt := 149) xx xb dX2_whatWas_141 (by decide) (fun c_141 => ?_) (fun c_141 => ?_)
                            · skip
                              have c_141 := ftI_nn (ftN_le _ _) c_141
                              refine lv_iload xx xb dX2_whatWas_149 (lv_at hl 0 rfl) ?_
                              refine re_i (nI (tld (ftN (wwS R xz.toNat wwz q) i))) (by first | exact tld_y c_141 | exact tld_n c_141) ?_
                              refine lv_aload_n xx xb dX2_whatWas_151 rfl (lv_at hl 1 rfl) ?_
                              refine m_get C hw 0 rfl fk_X2_25 rfl dX2_whatWas_152 ?_
                              refine lv_iload xx xb dX2_whatWas_155 (lv_at hl 7 rfl) ?_
                              refine m_ald C hw 3 rfl i rfl (by omega) (by decide) dX2_whatWas_157 ?_
                              refine re_i (nI (rv i)) rfl ?_
                              have ht9 := tld_le (ftN (wwS R xz.toNat wwz q) i)
                              have hr9 := hrv i (by omega)
                              refine lv_icmp_ne (tgt := 165) xx xb dX2_whatWas_158 (by decide) (fun c_158 => ?_) (fun c_158 => ?_)
                              · skip
                                have c_158 := ne_c (tN (by omega)) (tN (by omega)) c_158
                                refine lv_iconst (v := nI 0) xx xb dX2_whatWas_165 (by decide) ?_
                                refine re_i (if wwB (wwS R xz.toNat wwz q) rv (i + 1) = true then 1 else 0) (by first | exact r1 (wwB_t c_97 (by omega)) | exact r0 (by rw [wwB_n (by omega)]; decide)) ?_
                                refine lv_istore (lv' := [(6, .int (if wwB (wwS R xz.toNat wwz q) rv (i + 1) = true then 1 else 0)), (8, .int (ftI (ftN (wwS R xz.toNat wwz q) i))), (0, .ref h0), (1, .int x), (2, .int ww), (4, .int (nI (bs (wwP R xz.toNat wwz rv) q))), (5, .int (nI q)), (7, .int (nI i))]) xx xb dX2_whatWas_166 hl (by decide) rfl (fun ls hl => ?_)
                                refine lv_iinc (v := nI (i + 1)) (lv' := [(7, .int (nI (i + 1))), (6, .int (if wwB (wwS R xz.toNat wwz q) rv (i + 1) = true then 1 else 0)), (8, .int (ftI (ftN (wwS R xz.toNat wwz q) i))), (0, .ref h0), (1, .int x), (2, .int ww), (4, .int (nI (bs (wwP R xz.toNat wwz rv) q))), (5, .int (nI q))]) xx xb dX2_whatWas_168 hl (k := 7) rfl (nI_add _ 1) (by decide) rfl (fun ls hl => ?_)
                                refine lv_goto (tgt := 84) xx xb dX2_whatWas_171 (by decide) ?_
                                exact ih_84 (i + 1) (itF (wwS R xz.toNat wwz q) (ftN (wwS R xz.toNat wwz q) i)) H _ ls (by omega) (by omega) hw (lv_sub hl [3, 4, 5, 6, 7, 1, 0] rfl)
                              · skip
                                have c_158 := eq_c (tN (by omega)) (tN (by omega)) c_158
                                refine lv_iconst (v := nI 1) xx xb dX2_whatWas_161 (by decide) ?_
                                refine lv_goto (tgt := 166) xx xb dX2_whatWas_162 (by decide) ?_
                                refine re_i (if wwB (wwS R xz.toNat wwz q) rv (i + 1) = true then 1 else 0) (by first | exact r1 (wwB_t c_97 (by omega)) | exact r0 (by rw [wwB_n (by omega)]; decide)) ?_
                                refine lv_istore (lv' := [(6, .int (if wwB (wwS R xz.toNat wwz q) rv (i + 1) = true then 1 else 0)), (8, .int (ftI (ftN (wwS R xz.toNat wwz q) i))), (0, .ref h0), (1, .int x), (2, .int ww), (4, .int (nI (bs (wwP R xz.toNat wwz rv) q))), (5, .int (nI q)), (7, .int (nI i))]) xx xb dX2_whatWas_166 hl (by decide) rfl (fun ls hl => ?_)
                                refine lv_iinc (v := nI (i + 1)) (lv' := [(7, .int (nI (i + 1))), (6, .int (if wwB (wwS R xz.toNat wwz q) rv (i + 1) = true then 1 else 0)), (8, .int (ftI (ftN (wwS R xz.toNat wwz q) i))), (0, .ref h0), (1, .int x), (2, .int ww), (4, .int (nI (bs (wwP R xz.toNat wwz rv) q))), (5, .int (nI q))]) xx xb dX2_whatWas_168 hl (k := 7) rfl (nI_add _ 1) (by decide) rfl (fun ls hl => ?_)
                                refine lv_goto (tgt := 84) xx xb dX2_whatWas_171 (by decide) ?_
                                exact ih_84 (i + 1) (itF (wwS R xz.toNat wwz q) (ftN (wwS R xz.toNat wwz q) i)) H _ ls (by omega) (by omega) hw (lv_sub hl [3, 4, 5, 6, 7, 1, 0] rfl)
                            · skip
                              have c_141 := ftI_ng (ftN_le _ _) c_141
                              refine lv_bipush (v := nI 99) xx xb dX2_whatWas_144 (by decide) ?_
                              refine lv_goto (tgt := 151) xx xb dX2_whatWas_146 (by decide) ?_
                              refine re_i (nI (tld (ftN (wwS R xz.toNat wwz q) i))) (by first | exact tld_y c_141 | exact tld_n c_141) ?_
                              refine lv_aload_n xx xb dX2_whatWas_151 rfl (lv_at hl 1 rfl) ?_
                              refine m_get C hw 0 rfl fk_X2_25 rfl dX2_whatWas_152 ?_
                              refine lv_iload xx xb dX2_whatWas_155 (lv_at hl 7 rfl) ?_
                              refine m_ald C hw 3 rfl i rfl (by omega) (by decide) dX2_whatWas_157 ?_
                              refine re_i (nI (rv i)) rfl ?_
                              have ht9 := tld_le (ftN (wwS R xz.toNat wwz q) i)
                              have hr9 := hrv i (by omega)
                              refine lv_icmp_ne (tgt := 165) xx xb dX2_whatWas_158 (by decide) (fun c_158 => ?_) (fun c_158 => ?_)
                              · skip
                                have c_158 := ne_c (tN (by omega)) (tN (by omega)) c_158
                                refine lv_iconst (v := nI 0) xx xb dX2_whatWas_165 (by decide) ?_
                                refine re_i (if wwB (wwS R xz.toNat wwz q) rv (i + 1) = true then 1 else 0) (by first | exact r1 (wwB_t c_97 (by omega)) | exact r0 (by rw [wwB_n (by omega)]; decide)) ?_
                                refine lv_istore (lv' := [(6, .int (if wwB (wwS R xz.toNat wwz q) rv (i + 1) = true then 1 else 0)), (8, .int (ftI (ftN (wwS R xz.toNat wwz q) i))), (0, .ref h0), (1, .int x), (2, .int ww), (4, .int (nI (bs (wwP R xz.toNat wwz rv) q))), (5, .int (nI q)), (7, .int (nI i))]) xx xb dX2_whatWas_166 hl (by decide) rfl (fun ls hl => ?_)
                                refine lv_iinc (v := nI (i + 1)) (lv' := [(7, .int (nI (i + 1))), (6, .int (if wwB (wwS R xz.toNat wwz q) rv (i + 1) = true then 1 else 0)), (8, .int (ftI (ftN (wwS R xz.toNat wwz q) i))), (0, .ref h0), (1, .int x), (2, .int ww), (4, .int (nI (bs (wwP R xz.toNat wwz rv) q))), (5, .int (nI q))]) xx xb dX2_whatWas_168 hl (k := 7) rfl (nI_add _ 1) (by decide) rfl (fun ls hl => ?_)
                                refine lv_goto (tgt := 84) xx xb dX2_whatWas_171 (by decide) ?_
                                exact ih_84 (i + 1) (itF (wwS R xz.toNat wwz q) (ftN (wwS R xz.toNat wwz q) i)) H _ ls (by omega) (by omega) hw (lv_sub hl [3, 4, 5, 6, 7, 1, 0] rfl)
                              · skip
                                have c_158 := eq_c (tN (by omega)) (tN (by omega)) c_158
                                refine lv_iconst (v := nI 1) xx xb dX2_whatWas_161 (by decide) ?_
                                refine lv_goto (tgt := 166) xx xb dX2_whatWas_162 (by decide) ?_
                                refine re_i (if wwB (wwS R xz.toNat wwz q) rv (i + 1) = true then 1 else 0) (by first | exact r1 (wwB_t c_97 (by omega)) | exact r0 (by rw [wwB_n (by omega)]; decide)) ?_
                                refine lv_istore (lv' := [(6, .int (if wwB (wwS R xz.toNat wwz q) rv (i + 1) = true then 1 else 0)), (8, .int (ftI (ftN (wwS R xz.toNat wwz q) i))), (0, .ref h0), (1, .int x), (2, .int ww), (4, .int (nI (bs (wwP R xz.toNat wwz rv) q))), (5, .int (nI q)), (7, .int (nI i))]) xx xb dX2_whatWas_166 hl (by decide) rfl (fun ls hl => ?_)
                                refine lv_iinc (v := nI (i + 1)) (lv' := [(7, .int (nI (i + 1))), (6, .int (if wwB (wwS R xz.toNat wwz q) rv (i + 1) = true then 1 else 0)), (8, .int (ftI (ftN (wwS R xz.toNat wwz q) i))), (0, .ref h0), (1, .int x), (2, .int ww), (4, .int (nI (bs (wwP R xz.toNat wwz rv) q))), (5, .int (nI q))]) xx xb dX2_whatWas_168 hl (k := 7) rfl (nI_add _ 1) (by decide) rfl (fun ls hl => ?_)
                                refine lv_goto (tgt := 84) xx xb dX2_whatWas_171 (by decide) ?_
                                exact ih_84 (i + 1) (itF (wwS R xz.toNat wwz q) (ftN (wwS R xz.toNat wwz q) i)) H _ ls (by omega) (by omega) hw (lv_sub hl [3, 4, 5, 6, 7, 1, 0] rfl)
                  exact L_84 (_ + 1) 0 Y H _ ls (Nat.lt_succ_self _) (by omega) hw (lv_sub hl [2, 3, 4, 5, 6, 1, 0] rfl)
              · skip
                have c_65 := eq_c h_ww Int32.toInt_zero c_65
                refine lv_bipush (v := nI 6) xx xb dX2_whatWas_68 (by decide) ?_
                refine lv_goto (tgt := 75) xx xb dX2_whatWas_70 (by decide) ?_
                refine lv_icmp_ge (tgt := 198) xx xb dX2_whatWas_75 (by decide) (fun c_75 => ?_) (fun c_75 => ?_)
                · skip
                  have c_75 := le_c (tN (by omega)) (tN (by omega)) c_75
                  refine lv_iload xx xb dX2_whatWas_198 (lv_at hl 3 rfl) ?_
                  refine re_i (nI (vWW R xz.toNat wwz rv)) (congrArg nI (by unfold vWW; first | (rw [if_pos (by omega), show q = 6 by omega]; done) | (rw [if_neg (by omega), show q = 10 by omega]; done))) ?_
                  have hc : cWW R xz wwz rm = 0 := by unfold cWW; (repeat' split) <;> omega
                  exact rt_i C hw Y (by exact (anI_0 hc _).symm) (by rw [rfU_0 hc]) dX2_whatWas_200
                · skip
                  have c_75 := nle_c (tN (by omega)) (tN (by omega)) c_75
                  have hSO : OK (wwS R xz.toNat wwz q) := OK_wwS hR _ (by omega)
                  refine lv_iconst (v := nI 1) xx xb dX2_whatWas_78 (by decide) ?_
                  refine lv_istore (lv' := [(6, .int (nI 1)), (0, .ref h0), (1, .int x), (2, .int ww), (4, .int (nI (bs (wwP R xz.toNat wwz rv) q))), (5, .int (nI q))]) xx xb dX2_whatWas_79 hl (by decide) rfl (fun ls hl => ?_)
                  refine lv_iconst (v := nI 0) xx xb dX2_whatWas_81 (by decide) ?_
                  refine lv_istore (lv' := [(7, .int (nI 0)), (6, .int (nI 1)), (0, .ref h0), (1, .int x), (2, .int ww), (4, .int (nI (bs (wwP R xz.toNat wwz rv) q))), (5, .int (nI q))]) xx xb dX2_whatWas_82 hl (by decide) rfl (fun ls hl => ?_)
                  have hl : lv_has ls 9 [(7, .int (nI 0)), (6, .int (if wwB (wwS R xz.toNat wwz q) rv 0 = true then 1 else 0)), (0, .ref h0), (1, .int x), (2, .int ww), (4, .int (nI (bs (wwP R xz.toNat wwz rv) q))), (5, .int (nI q))] := hl
                  have L_84 : ∀ (fu : Nat) (i : Nat) (Y : RT) (H : Heap) (locs : List Loc) (ls : Array Slot), 10 - i < fu → (i ≤ R 0 0) → Wd G (fA [(h0, .inr (2, [.ref a1, .ref a2, .ref a3, .ref a4, .int (nI im), .ref a5, .ref a6, .ref a7, .int (nI lm), .int (nI rm), .int (nI pl), .ref a8, .int sd])), (a1, aI G 54 (fl R)), (a2, aI G 54 (fl Rm)), (a6, aI G 16 (cN rv)), (a7, aI G 7 (cN rf))]) s [(h0, .inr (2, [.ref a1, .ref a2, .ref a3, .ref a4, .int (nI im), .ref a5, .ref a6, .ref a7, .int (nI lm), .int (nI rm), .int (nI pl), .ref a8, .int sd])), (a1, aI G 54 (fl R)), (a2, aI G 54 (fl Y)), (a6, aI G 16 (cN rv)), (a7, aI G 7 (cN rf))] H locs → lv_has ls 9 [(0, .ref h0), (1, .int x), (2, .int ww), (4, .int (nI (bs (wwP R xz.toNat wwz rv) q))), (5, .int (nI q)), (6, .int (if wwB (wwS R xz.toNat wwz q) rv i = true then 1 else 0)), (7, .int (nI i))] → W p l e ({ frames := 5, cells := 0, slots := 0, locals := 110 }) s m (([.ref h0, .int x, .int ww] : List Value).toArray) below meth c H locs 0 0 (MQ below (QI G [(h0, .inr (2, [.ref a1, .ref a2, .ref a3, .ref a4, .int (nI im), .ref a5, .ref a6, .ref a7, .int (nI lm), .int (nI rm), .int (nI pl), .ref a8, .int sd])), (a1, aI G 54 (fl R)), (a2, aI G 54 (fl Rm)), (a6, aI G 16 (cN rv)), (a7, aI G 7 (cN rf))] (fun (r : Int32) (u : RT) => r = anI (cWW R xz wwz rm) (nI (vWW R xz.toNat wwz rv))) (fun u => [(h0, .inr (2, [.ref a1, .ref a2, .ref a3, .ref a4, .int (nI im), .ref a5, .ref a6, .ref a7, .int (nI lm), .int (nI rm), .int (nI pl), .ref a8, .int sd])), (a1, aI G 54 (fl R)), (a2, aI G 54 (fl u)), (a6, aI G 16 (cN rv)), (a7, aI G 7 (cN (rfU rf (cWW R xz wwz rm))))])) (([.ref h0, .int x, .int ww] : List Value).toArray) s 0 0 (fA [(h0, .inr (2, [.ref a1, .ref a2, .ref a3, .ref a4, .int (nI im), .ref a5, .ref a6, .ref a7, .int (nI lm), .int (nI rm), .int (nI pl), .ref a8, .int sd])), (a1, aI G 54 (fl R)), (a2, aI G 54 (fl Rm)), (a6, aI G 16 (cN rv)), (a7, aI G 7 (cN rf))])) (F0 m 84 ls []) := by
                    intro fu
                    induction fu with
                    | zero => intro i Y H locs ls hfu; exact absurd hfu (Nat.not_lt_zero _)
                    | succ fu ih_84 =>
                      intro i Y H locs ls hfu hi hw hl
                      refine lv_iload xx xb dX2_whatWas_84 (lv_at hl 6 rfl) ?_
                      refine lv_aload_n xx xb dX2_whatWas_86 rfl (lv_at hl 0 rfl) ?_
                      refine m_get C hw 0 rfl fk_X2_9 rfl dX2_whatWas_87 ?_
                      refine lv_iconst (v := nI 0) xx xb dX2_whatWas_90 (by decide) ?_
                      refine m_ald C hw 1 rfl 0 rfl (by omega) (by decide) dX2_whatWas_91 ?_
                      refine re_i (nI (R 0 0)) (fl_h R (by decide)) ?_
                      refine lv_icmp_ge (tgt := 174) xx xb dX2_whatWas_92 (by decide) (fun c_92 => ?_) (fun c_92 => ?_)
                      · skip
                        have c_92 := le_c (tN (by omega)) (tN (by omega)) c_92
                        have hl : lv_has ls 9 [(0, .ref h0), (1, .int x), (2, .int ww), (4, .int (nI (bs (wwP R xz.toNat wwz rv) q))), (5, .int (nI q)), (6, .int (if wwP R xz.toNat wwz rv q = true then 1 else 0)), (7, .int (nI i))] := by first | (rw [show wwP R xz.toNat wwz rv q = wwB (wwS R xz.toNat wwz q) rv i from (by unfold wwP; rw [show R 0 0 = i by omega])]; exact hl) | (rw [show wwP R xz.toNat wwz rv q = wwB (wwS R xz.toNat wwz q) rv i from (by unfold wwP; rw [Bool.eq_false_iff.mpr c_97, show R 0 0 = i + (R 0 0 - i) by omega, wwB_f c_97])]; exact hl)
                        refine lv_iload xx xb dX2_whatWas_174 (lv_at hl 3 rfl) ?_
                        refine lv_iload xx xb dX2_whatWas_176 (lv_at hl 5 rfl) ?_
                        refine lv_if_eq (tgt := 188) xx xb dX2_whatWas_178 (by decide) (fun c_178 => ?_) (fun c_178 => ?_)
                        · skip
                          have c_178 := b0_c c_178
                          refine lv_iconst (v := nI 0) xx xb dX2_whatWas_188 (by decide) ?_
                          refine lv_ior xx xb dX2_whatWas_189 ?_
                          refine re_i (nI ((bs (wwP R xz.toNat wwz rv) q) ||| 0)) (or_N _ _) ?_
                          refine re_i (nI (bs (wwP R xz.toNat wwz rv) (q + 1))) (congrArg nI (by first | exact bs_orT c_178 | exact bs_orF (Bool.eq_false_iff.mpr c_178))) ?_
                          refine lv_istore (lv' := [(4, .int (nI (bs (wwP R xz.toNat wwz rv) (q + 1)))), (0, .ref h0), (1, .int x), (2, .int ww), (5, .int (nI q)), (6, .int (if wwP R xz.toNat wwz rv q = true then 1 else 0)), (7, .int (nI i))]) xx xb dX2_whatWas_190 hl (by decide) rfl (fun ls hl => ?_)
                          refine lv_iinc (v := nI (q + 1)) (lv' := [(5, .int (nI (q + 1))), (4, .int (nI (bs (wwP R xz.toNat wwz rv) (q + 1)))), (0, .ref h0), (1, .int x), (2, .int ww), (6, .int (if wwP R xz.toNat wwz rv q = true then 1 else 0)), (7, .int (nI i))]) xx xb dX2_whatWas_192 hl (k := 4) rfl (nI_add _ 1) (by decide) rfl (fun ls hl => ?_)
                          refine lv_goto (tgt := 62) xx xb dX2_whatWas_195 (by decide) ?_
                          exact ih_62 (q + 1) Y H _ ls (by omega) (by omega) (fun _ => by omega) hw (lv_sub hl [2, 3, 4, 1, 0] rfl)
                        · skip
                          have c_178 := b1_c c_178
                          refine lv_iconst (v := nI 1) xx xb dX2_whatWas_181 (by decide) ?_
                          refine lv_iload xx xb dX2_whatWas_182 (lv_at hl 4 rfl) ?_
                          refine lv_ishl xx xb dX2_whatWas_184 ?_
                          refine re_i (nI (2 ^ q)) (shl1 (by omega)) ?_
                          refine lv_goto (tgt := 189) xx xb dX2_whatWas_185 (by decide) ?_
                          refine lv_ior xx xb dX2_whatWas_189 ?_
                          refine re_i (nI ((bs (wwP R xz.toNat wwz rv) q) ||| (2 ^ q))) (or_N _ _) ?_
                          refine re_i (nI (bs (wwP R xz.toNat wwz rv) (q + 1))) (congrArg nI (by first | exact bs_orT c_178 | exact bs_orF (Bool.eq_false_iff.mpr c_178))) ?_
                          refine lv_istore (lv' := [(4, .int (nI (bs (wwP R xz.toNat wwz rv) (q + 1)))), (0, .ref h0), (1, .int x), (2, .int ww), (5, .int (nI q)), (6, .int (if wwP R xz.toNat wwz rv q = true then 1 else 0)), (7, .int (nI i))]) xx xb dX2_whatWas_190 hl (by decide) rfl (fun ls hl => ?_)
                          refine lv_iinc (v := nI (q + 1)) (lv' := [(5, .int (nI (q + 1))), (4, .int (nI (bs (wwP R xz.toNat wwz rv) (q + 1)))), (0, .ref h0), (1, .int x), (2, .int ww), (6, .int (if wwP R xz.toNat wwz rv q = true then 1 else 0)), (7, .int (nI i))]) xx xb dX2_whatWas_192 hl (k := 4) rfl (nI_add _ 1) (by decide) rfl (fun ls hl => ?_)
                          refine lv_goto (tgt := 62) xx xb dX2_whatWas_195 (by decide) ?_
                          exact ih_62 (q + 1) Y H _ ls (by omega) (by omega) (fun _ => by omega) hw (lv_sub hl [2, 3, 4, 1, 0] rfl)
                      · skip
                        have c_92 := nle_c (tN (by omega)) (tN (by omega)) c_92
                        refine lv_iload xx xb dX2_whatWas_95 (lv_at hl 5 rfl) ?_
                        refine lv_if_eq (tgt := 174) xx xb dX2_whatWas_97 (by decide) (fun c_97 => ?_) (fun c_97 => ?_)
                        · skip
                          have c_97 := b0_c c_97
                          have hl : lv_has ls 9 [(0, .ref h0), (1, .int x), (2, .int ww), (4, .int (nI (bs (wwP R xz.toNat wwz rv) q))), (5, .int (nI q)), (6, .int (if wwP R xz.toNat wwz rv q = true then 1 else 0)), (7, .int (nI i))] := by first | (rw [show wwP R xz.toNat wwz rv q = wwB (wwS R xz.toNat wwz q) rv i from (by unfold wwP; rw [show R 0 0 = i by omega])]; exact hl) | (rw [show wwP R xz.toNat wwz rv q = wwB (wwS R xz.toNat wwz q) rv i from (by unfold wwP; rw [Bool.eq_false_iff.mpr c_97, show R 0 0 = i + (R 0 0 - i) by omega, wwB_f c_97])]; exact hl)
                          refine lv_iload xx xb dX2_whatWas_174 (lv_at hl 3 rfl) ?_
                          refine lv_iload xx xb dX2_whatWas_176 (lv_at hl 5 rfl) ?_
                          refine lv_if_eq (tgt := 188) xx xb dX2_whatWas_178 (by decide) (fun c_178 => ?_) (fun c_178 => ?_)
                          · skip
                            have c_178 := b0_c c_178
                            refine lv_iconst (v := nI 0) xx xb dX2_whatWas_188 (by decide) ?_
                            refine lv_ior xx xb dX2_whatWas_189 ?_
                            refine re_i (nI ((bs (wwP R xz.toNat wwz rv) q) ||| 0)) (or_N _ _) ?_
                            refine re_i (nI (bs (wwP R xz.toNat wwz rv) (q + 1))) (congrArg nI (by first | exact bs_orT c_178 | exact bs_orF (Bool.eq_false_iff.mpr c_178))) ?_
                            refine lv_istore (lv' := [(4, .int (nI (bs (wwP R xz.toNat wwz rv) (q + 1)))), (0, .ref h0), (1, .int x), (2, .int ww), (5, .int (nI q)), (6, .int (if wwP R xz.toNat wwz rv q = true then 1 else 0)), (7, .int (nI i))]) xx xb dX2_whatWas_190 hl (by decide) rfl (fun ls hl => ?_)
                            refine lv_iinc (v := nI (q + 1)) (lv' := [(5, .int (nI (q + 1))), (4, .int (nI (bs (wwP R xz.toNat wwz rv) (q + 1)))), (0, .ref h0), (1, .int x), (2, .int ww), (6, .int (if wwP R xz.toNat wwz rv q = true then 1 else 0)), (7, .int (nI i))]) xx xb dX2_whatWas_192 hl (k := 4) rfl (nI_add _ 1) (by decide) rfl (fun ls hl => ?_)
                            refine lv_goto (tgt := 62) xx xb dX2_whatWas_195 (by decide) ?_
                            exact ih_62 (q + 1) Y H _ ls (by omega) (by omega) (fun _ => by omega) hw (lv_sub hl [2, 3, 4, 1, 0] rfl)
                          · skip
                            have c_178 := b1_c c_178
                            refine lv_iconst (v := nI 1) xx xb dX2_whatWas_181 (by decide) ?_
                            refine lv_iload xx xb dX2_whatWas_182 (lv_at hl 4 rfl) ?_
                            refine lv_ishl xx xb dX2_whatWas_184 ?_
                            refine re_i (nI (2 ^ q)) (shl1 (by omega)) ?_
                            refine lv_goto (tgt := 189) xx xb dX2_whatWas_185 (by decide) ?_
                            refine lv_ior xx xb dX2_whatWas_189 ?_
                            refine re_i (nI ((bs (wwP R xz.toNat wwz rv) q) ||| (2 ^ q))) (or_N _ _) ?_
                            refine re_i (nI (bs (wwP R xz.toNat wwz rv) (q + 1))) (congrArg nI (by first | exact bs_orT c_178 | exact bs_orF (Bool.eq_false_iff.mpr c_178))) ?_
                            refine lv_istore (lv' := [(4, .int (nI (bs (wwP R xz.toNat wwz rv) (q + 1)))), (0, .ref h0), (1, .int x), (2, .int ww), (5, .int (nI q)), (6, .int (if wwP R xz.toNat wwz rv q = true then 1 else 0)), (7, .int (nI i))]) xx xb dX2_whatWas_190 hl (by decide) rfl (fun ls hl => ?_)
                            refine lv_iinc (v := nI (q + 1)) (lv' := [(5, .int (nI (q + 1))), (4, .int (nI (bs (wwP R xz.toNat wwz rv) (q + 1)))), (0, .ref h0), (1, .int x), (2, .int ww), (6, .int (if wwP R xz.toNat wwz rv q = true then 1 else 0)), (7, .int (nI i))]) xx xb dX2_whatWas_192 hl (k := 4) rfl (nI_add _ 1) (by decide) rfl (fun ls hl => ?_)
                            refine lv_goto (tgt := 62) xx xb dX2_whatWas_195 (by decide) ?_
                            exact ih_62 (q + 1) Y H _ ls (by omega) (by omega) (fun _ => by omega) hw (lv_sub hl [2, 3, 4, 1, 0] rfl)
                        · skip
                          have c_97 := b1_c c_97
                          refine lv_aload_n xx xb dX2_whatWas_100 rfl (lv_at hl 0 rfl) ?_
                          refine m_get C hw 0 rfl fk_X2_9 rfl dX2_whatWas_101 ?_
                          refine lv_aload_n xx xb dX2_whatWas_104 rfl (lv_at hl 0 rfl) ?_
                          refine m_get C hw 0 rfl fk_X2_13 rfl dX2_whatWas_105 ?_
                          have hM := kX2_copies l G a1 a2 (fl R) (fl Y) 
                          refine cs_v C hw hM ysX2_copies ml_X2_121 rfl [1, 2] rfl rfl (fun _ => (rfl : ([a1, a2] : List Nat) = [a1, a2])) (by decide) ⟨Nat.zero_le _, Nat.zero_le _⟩ hl.1 rfl (Nat.le_of_ble_eq_true rfl) dX2_whatWas_108 (fun _ H locs hr hw => ?_)
                          have hw : Wd G (fA [(h0, .inr (2, [.ref a1, .ref a2, .ref a3, .ref a4, .int (nI im), .ref a5, .ref a6, .ref a7, .int (nI lm), .int (nI rm), .int (nI pl), .ref a8, .int sd])), (a1, aI G 54 (fl R)), (a2, aI G 54 (fl Rm)), (a6, aI G 16 (cN rv)), (a7, aI G 7 (cN rf))]) s [(h0, .inr (2, [.ref a1, .ref a2, .ref a3, .ref a4, .int (nI im), .ref a5, .ref a6, .ref a7, .int (nI lm), .int (nI rm), .int (nI pl), .ref a8, .int sd])), (a1, aI G 54 (fl R)), (a2, aI G 54 (fl R)), (a6, aI G 16 (cN rv)), (a7, aI G 7 (cN rf))] H locs := hw
                          refine lv_aload_n xx xb dX2_whatWas_111 rfl (lv_at hl 0 rfl) ?_
                          refine m_get C hw 0 rfl fk_X2_13 rfl dX2_whatWas_112 ?_
                          refine lv_iload_n xx xb dX2_whatWas_115 rfl (lv_at hl 1 rfl) ?_
                          refine re_i (nI xz.toNat) (ofT h_x (by omega) (by omega)) ?_
                          refine lv_iload_n xx xb dX2_whatWas_116 rfl (lv_at hl 2 rfl) ?_
                          refine lv_if_ne (tgt := 124) xx xb dX2_whatWas_117 (by decide) (fun c_117 => ?_) (fun c_117 => ?_)
                          · skip
                            have c_117 := ne_c h_ww Int32.toInt_zero c_117
                            refine lv_iconst (v := nI 1) xx xb dX2_whatWas_124 (by decide) ?_
                            have hM := kX2_of l G xz.toNat 1 
                            refine cs_i C hw hM ysX2_of ml_X2_44 rfl [] rfl rfl (fun _ => (rfl : ([] : List Nat) = [])) (by decide) ⟨Nat.zero_le _, Nat.zero_le _⟩ hl.1 rfl (Nat.le_of_ble_eq_true rfl) dX2_whatWas_125 (fun r _ H locs hr hw => ?_)
                            have hw : Wd G (fA [(h0, .inr (2, [.ref a1, .ref a2, .ref a3, .ref a4, .int (nI im), .ref a5, .ref a6, .ref a7, .int (nI lm), .int (nI rm), .int (nI pl), .ref a8, .int sd])), (a1, aI G 54 (fl R)), (a2, aI G 54 (fl Rm)), (a6, aI G 16 (cN rv)), (a7, aI G 7 (cN rf))]) s [(h0, .inr (2, [.ref a1, .ref a2, .ref a3, .ref a4, .int (nI im), .ref a5, .ref a6, .ref a7, .int (nI lm), .int (nI rm), .int (nI pl), .ref a8, .int sd])), (a1, aI G 54 (fl R)), (a2, aI G 54 (fl R)), (a6, aI G 16 (cN rv)), (a7, aI G 7 (cN rf))] H locs := hw
                            subst hr
                            refine lv_iload xx xb dX2_whatWas_128 (lv_at hl 4 rfl) ?_
                            refine m_ast C hw 2 rfl (4 + 5 * xz.toNat + 1) rfl (by omega) (by decide) (fl (upR R 2 xz.toNat q)) (fl_uk _ (by decide) (by decide)) dX2_whatWas_130 (fun H locs hw => ?_)
                            have hw : Wd G (fA [(h0, .inr (2, [.ref a1, .ref a2, .ref a3, .ref a4, .int (nI im), .ref a5, .ref a6, .ref a7, .int (nI lm), .int (nI rm), .int (nI pl), .ref a8, .int sd])), (a1, aI G 54 (fl R)), (a2, aI G 54 (fl Rm)), (a6, aI G 16 (cN rv)), (a7, aI G 7 (cN rf))]) s [(h0, .inr (2, [.ref a1, .ref a2, .ref a3, .ref a4, .int (nI im), .ref a5, .ref a6, .ref a7, .int (nI lm), .int (nI rm), .int (nI pl), .ref a8, .int sd])), (a1, aI G 54 (fl R)), (a2, aI G 54 (fl (upR R 2 xz.toNat q))), (a6, aI G 16 (cN rv)), (a7, aI G 7 (cN rf))] H locs := hw
                            have hw : Wd G (fA [(h0, .inr (2, [.ref a1, .ref a2, .ref a3, .ref a4, .int (nI im), .ref a5, .ref a6, .ref a7, .int (nI lm), .int (nI rm), .int (nI pl), .ref a8, .int sd])), (a1, aI G 54 (fl R)), (a2, aI G 54 (fl Rm)), (a6, aI G 16 (cN rv)), (a7, aI G 7 (cN rf))]) s [(h0, .inr (2, [.ref a1, .ref a2, .ref a3, .ref a4, .int (nI im), .ref a5, .ref a6, .ref a7, .int (nI lm), .int (nI rm), .int (nI pl), .ref a8, .int sd])), (a1, aI G 54 (fl R)), (a2, aI G 54 (fl (wwS R xz.toNat wwz q))), (a6, aI G 16 (cN rv)), (a7, aI G 7 (cN rf))] H locs := by first | (rw [show wwS R xz.toNat wwz q = upR R 1 xz.toNat q from (by unfold wwS wwI; rw [if_pos (by omega)])]; exact hw) | (rw [show wwS R xz.toNat wwz q = upR R 2 xz.toNat q from (by unfold wwS wwI; rw [if_neg (by omega)])]; exact hw)
                            refine lv_aload_n xx xb dX2_whatWas_131 rfl (lv_at hl 0 rfl) ?_
                            refine lv_iload xx xb dX2_whatWas_132 (lv_at hl 6 rfl) ?_
                            have hM := kX2_fallsIn l G h0 a1 a2 a3 a4 a5 a6 a7 a8 im lm rm pl sd (wwS R xz.toNat wwz q) i hSO (AK_wwS hK _ _ _) (by rw [wwS_00]; omega)
                            refine cv_i C hw hM yvX2_fallsIn ml_X2_141 0 rfl rfl rfl [0, 2] rfl rfl (fun _ => (rfl : ([h0, a2] : List Nat) = [h0, a2])) (by decide) ⟨Nat.zero_le _, Nat.zero_le _⟩ hl.1 rfl (Nat.le_of_ble_eq_true rfl) dX2_whatWas_134 (fun r _ H locs hr hw => ?_)
                            have hw : Wd G (fA [(h0, .inr (2, [.ref a1, .ref a2, .ref a3, .ref a4, .int (nI im), .ref a5, .ref a6, .ref a7, .int (nI lm), .int (nI rm), .int (nI pl), .ref a8, .int sd])), (a1, aI G 54 (fl R)), (a2, aI G 54 (fl Rm)), (a6, aI G 16 (cN rv)), (a7, aI G 7 (cN rf))]) s [(h0, .inr (2, [.ref a1, .ref a2, .ref a3, .ref a4, .int (nI im), .ref a5, .ref a6, .ref a7, .int (nI lm), .int (nI rm), .int (nI pl), .ref a8, .int sd])), (a1, aI G 54 (fl R)), (a2, aI G 54 (fl (itF (wwS R xz.toNat wwz q) (ftN (wwS R xz.toNat wwz q) i)))), (a6, aI G 16 (cN rv)), (a7, aI G 7 (cN rf))] H locs := hw
                            subst hr
                            refine lv_istore (lv' := [(8, .int (ftI (ftN (wwS R xz.toNat wwz q) i))), (0, .ref h0), (1, .int x), (2, .int ww), (4, .int (nI (bs (wwP R xz.toNat wwz rv) q))), (5, .int (nI q)), (6, .int (if wwB (wwS R xz.toNat wwz q) rv i = true then 1 else 0)), (7, .int (nI i))]) xx xb dX2_whatWas_137 hl (by decide) rfl (fun ls hl => ?_)
                            refine lv_iload xx xb dX2_whatWas_139 (lv_at hl 0 rfl) ?_
                            refine lv_if_ge (tgt := 149) xx xb dX2_whatWas_141 (by decide) (fun c_141 => ?_) (fun c_141 => ?_)
                            · skip
                              have c_141 := ftI_nn (ftN_le _ _) c_141
                              refine lv_iload xx xb dX2_whatWas_149 (lv_at hl 0 rfl) ?_
                              refine re_i (nI (tld (ftN (wwS R xz.toNat wwz q) i))) (by first | exact tld_y c_141 | exact tld_n c_141) ?_
                              refine lv_aload_n xx xb dX2_whatWas_151 rfl (lv_at hl 1 rfl) ?_
                              refine m_get C hw 0 rfl fk_X2_25 rfl dX2_whatWas_152 ?_
                              refine lv_iload xx xb dX2_whatWas_155 (lv_at hl 7 rfl) ?_
                              refine m_ald C hw 3 rfl i rfl (by omega) (by decide) dX2_whatWas_157 ?_
                              refine re_i (nI (rv i)) rfl ?_
                              have ht9 := tld_le (ftN (wwS R xz.toNat wwz q) i)
                              have hr9 := hrv i (by omega)
                              refine lv_icmp_ne (tgt := 165) xx xb dX2_whatWas_158 (by decide) (fun c_158 => ?_) (fun c_158 => ?_)
                              · skip
                                have c_158 := ne_c (tN (by omega)) (tN (by omega)) c_158
                                refine lv_iconst (v := nI 0) xx xb dX2_whatWas_165 (by decide) ?_
                                refine re_i (if wwB (wwS R xz.toNat wwz q) rv (i + 1) = true then 1 else 0) (by first | exact r1 (wwB_t c_97 (by omega)) | exact r0 (by rw [wwB_n (by omega)]; decide)) ?_
                                refine lv_istore (lv' := [(6, .int (if wwB (wwS R xz.toNat wwz q) rv (i + 1) = true then 1 else 0)), (8, .int (ftI (ftN (wwS R xz.toNat wwz q) i))), (0, .ref h0), (1, .int x), (2, .int ww), (4, .int (nI (bs (wwP R xz.toNat wwz rv) q))), (5, .int (nI q)), (7, .int (nI i))]) xx xb dX2_whatWas_166 hl (by decide) rfl (fun ls hl => ?_)
                                refine lv_iinc (v := nI (i + 1)) (lv' := [(7, .int (nI (i + 1))), (6, .int (if wwB (wwS R xz.toNat wwz q) rv (i + 1) = true then 1 else 0)), (8, .int (ftI (ftN (wwS R xz.toNat wwz q) i))), (0, .ref h0), (1, .int x), (2, .int ww), (4, .int (nI (bs (wwP R xz.toNat wwz rv) q))), (5, .int (nI q))]) xx xb dX2_whatWas_168 hl (k := 7) rfl (nI_add _ 1) (by decide) rfl (fun ls hl => ?_)
                                refine lv_goto (tgt := 84) xx xb dX2_whatWas_171 (by decide) ?_
                                exact ih_84 (i + 1) (itF (wwS R xz.toNat wwz q) (ftN (wwS R xz.toNat wwz q) i)) H _ ls (by omega) (by omega) hw (lv_sub hl [3, 4, 5, 6, 7, 1, 0] rfl)
                              · skip
                                have c_158 := eq_c (tN (by omega)) (tN (by omega)) c_158
                                refine lv_iconst (v := nI 1) xx xb dX2_whatWas_161 (by decide) ?_
                                refine lv_goto (tgt := 166) xx xb dX2_whatWas_162 (by decide) ?_
                                refine re_i (if wwB (wwS R xz.toNat wwz q) rv (i + 1) = true then 1 else 0) (by first | exact r1 (wwB_t c_97 (by omega)) | exact r0 (by rw [wwB_n (by omega)]; decide)) ?_
                                refine lv_istore (lv' := [(6, .int (if wwB (wwS R xz.toNat wwz q) rv (i + 1) = true then 1 else 0)), (8, .int (ftI (ftN (wwS R xz.toNat wwz q) i))), (0, .ref h0), (1, .int x), (2, .int ww), (4, .int (nI (bs (wwP R xz.toNat wwz rv) q))), (5, .int (nI q)), (7, .int (nI i))]) xx xb dX2_whatWas_166 hl (by decide) rfl (fun ls hl => ?_)
                                refine lv_iinc (v := nI (i + 1)) (lv' := [(7, .int (nI (i + 1))), (6, .int (if wwB (wwS R xz.toNat wwz q) rv (i + 1) = true then 1 else 0)), (8, .int (ftI (ftN (wwS R xz.toNat wwz q) i))), (0, .ref h0), (1, .int x), (2, .int ww), (4, .int (nI (bs (wwP R xz.toNat wwz rv) q))), (5, .int (nI q))]) xx xb dX2_whatWas_168 hl (k := 7) rfl (nI_add _ 1) (by decide) rfl (fun ls hl => ?_)
                                refine lv_goto (tgt := 84) xx xb dX2_whatWas_171 (by decide) ?_
                                exact ih_84 (i + 1) (itF (wwS R xz.toNat wwz q) (ftN (wwS R xz.toNat wwz q) i)) H _ ls (by omega) (by omega) hw (lv_sub hl [3, 4, 5, 6, 7, 1, 0] rfl)
                            · skip
                              have c_141 := ftI_ng (ftN_le _ _) c_141
                              refine lv_bipush (v := nI 99) xx xb dX2_whatWas_144 (by decide) ?_
                              refine lv_goto (tgt := 151) xx xb dX2_whatWas_146 (by decide) ?_
                              refine re_i (nI (tld (ftN (wwS R xz.toNat wwz q) i))) (by first | exact tld_y c_141 | exact tld_n c_141) ?_
                              refine lv_aload_n xx xb dX2_whatWas_151 rfl (lv_at hl 1 rfl) ?_
                              refine m_get C hw 0 rfl fk_X2_25 rfl dX2_whatWas_152 ?_
                              refine lv_iload xx xb dX2_whatWas_155 (lv_at hl 7 rfl) ?_
                              refine m_ald C hw 3 rfl i rfl (by omega) (by decide) dX2_whatWas_157 ?_
                              refine re_i (nI (rv i)) rfl ?_
                              have ht9 := tld_le (ftN (wwS R xz.toNat wwz q) i)
                              have hr9 := hrv i (by omega)
                              refine lv_icmp_ne (tgt := 165) xx xb dX2_whatWas_158 (by decide) (fun c_158 => ?_) (fun c_158 => ?_)
                              · skip
                                have c_158 := ne_c (tN (by omega)) (tN (by omega)) c_158
                                refine lv_iconst (v := nI 0) xx xb dX2_whatWas_165 (by decide) ?_
                                refine re_i (if wwB (wwS R xz.toNat wwz q) rv (i + 1) = true then 1 else 0) (by first | exact r1 (wwB_t c_97 (by omega)) | exact r0 (by rw [wwB_n (by omega)]; decide)) ?_
                                refine lv_istore (lv' := [(6, .int (if wwB (wwS R xz.toNat wwz q) rv (i + 1) = true then 1 else 0)), (8, .int (ftI (ftN (wwS R xz.toNat wwz q) i))), (0, .ref h0), (1, .int x), (2, .int ww), (4, .int (nI (bs (wwP R xz.toNat wwz rv) q))), (5, .int (nI q)), (7, .int (nI i))]) xx xb dX2_whatWas_166 hl (by decide) rfl (fun ls hl => ?_)
                                refine lv_iinc (v := nI (i + 1)) (lv' := [(7, .int (nI (i + 1))), (6, .int (if wwB (wwS R xz.toNat wwz q) rv (i + 1) = true then 1 else 0)), (8, .int (ftI (ftN (wwS R xz.toNat wwz q) i))), (0, .ref h0), (1, .int x), (2, .int ww), (4, .int (nI (bs (wwP R xz.toNat wwz rv) q))), (5, .int (nI q))]) xx xb dX2_whatWas_168 hl (k := 7) rfl (nI_add _ 1) (by decide) rfl (fun ls hl => ?_)
                                refine lv_goto (tgt := 84) xx xb dX2_whatWas_171 (by decide) ?_
                                exact ih_84 (i + 1) (itF (wwS R xz.toNat wwz q) (ftN (wwS R xz.toNat wwz q) i)) H _ ls (by omega) (by omega) hw (lv_sub hl [3, 4, 5, 6, 7, 1, 0] rfl)
                              · skip
                                have c_158 := eq_c (tN (by omega)) (tN (by omega)) c_158
                                refine lv_iconst (v := nI 1) xx xb dX2_whatWas_161 (by decide) ?_
                                refine lv_goto (tgt := 166) xx xb dX2_whatWas_162 (by decide) ?_
                                refine re_i (if wwB (wwS R xz.toNat wwz q) rv (i + 1) = true then 1 else 0) (by first | exact r1 (wwB_t c_97 (by omega)) | exact r0 (by rw [wwB_n (by omega)]; decide)) ?_
                                refine lv_istore (lv' := [(6, .int (if wwB (wwS R xz.toNat wwz q) rv (i + 1) = true then 1 else 0)), (8, .int (ftI (ftN (wwS R xz.toNat wwz q) i))), (0, .ref h0), (1, .int x), (2, .int ww), (4, .int (nI (bs (wwP R xz.toNat wwz rv) q))), (5, .int (nI q)), (7, .int (nI i))]) xx xb dX2_whatWas_166 hl (by decide) rfl (fun ls hl => ?_)
                                refine lv_iinc (v := nI (i + 1)) (lv' := [(7, .int (nI (i + 1))), (6, .int (if wwB (wwS R xz.toNat wwz q) rv (i + 1) = true then 1 else 0)), (8, .int (ftI (ftN (wwS R xz.toNat wwz q) i))), (0, .ref h0), (1, .int x), (2, .int ww), (4, .int (nI (bs (wwP R xz.toNat wwz rv) q))), (5, .int (nI q))]) xx xb dX2_whatWas_168 hl (k := 7) rfl (nI_add _ 1) (by decide) rfl (fun ls hl => ?_)
                                refine lv_goto (tgt := 84) xx xb dX2_whatWas_171 (by decide) ?_
                                exact ih_84 (i + 1) (itF (wwS R xz.toNat wwz q) (ftN (wwS R xz.toNat wwz q) i)) H _ ls (by omega) (by omega) hw (lv_sub hl [3, 4, 5, 6, 7, 1, 0] rfl)
                          · skip
                            have c_117 := eq_c h_ww Int32.toInt_zero c_117
                            refine lv_iconst (v := nI 0) xx xb dX2_whatWas_120 (by decide) ?_
                            refine lv_goto (tgt := 125) xx xb dX2_whatWas_121 (by decide) ?_
                            have hM := kX2_of l G xz.toNat 0 
                            refine cs_i C hw hM ysX2_of ml_X2_44 rfl [] rfl rfl (fun _ => (rfl : ([] : List Nat) = [])) (by decide) ⟨Nat.zero_le _, Nat.zero_le _⟩ hl.1 rfl (Nat.le_of_ble_eq_true rfl) dX2_whatWas_125 (fun r _ H locs hr hw => ?_)
                            have hw : Wd G (fA [(h0, .inr (2, [.ref a1, .ref a2, .ref a3, .ref a4, .int (nI im), .ref a5, .ref a6, .ref a7, .int (nI lm), .int (nI rm), .int (nI pl), .ref a8, .int sd])), (a1, aI G 54 (fl R)), (a2, aI G 54 (fl Rm)), (a6, aI G 16 (cN rv)), (a7, aI G 7 (cN rf))]) s [(h0, .inr (2, [.ref a1, .ref a2, .ref a3, .ref a4, .int (nI im), .ref a5, .ref a6, .ref a7, .int (nI lm), .int (nI rm), .int (nI pl), .ref a8, .int sd])), (a1, aI G 54 (fl R)), (a2, aI G 54 (fl R)), (a6, aI G 16 (cN rv)), (a7, aI G 7 (cN rf))] H locs := hw
                            subst hr
                            refine lv_iload xx xb dX2_whatWas_128 (lv_at hl 4 rfl) ?_
                            refine m_ast C hw 2 rfl (4 + 5 * xz.toNat + 0) rfl (by omega) (by decide) (fl (upR R 1 xz.toNat q)) (fl_uk _ (by decide) (by decide)) dX2_whatWas_130 (fun H locs hw => ?_)
                            have hw : Wd G (fA [(h0, .inr (2, [.ref a1, .ref a2, .ref a3, .ref a4, .int (nI im), .ref a5, .ref a6, .ref a7, .int (nI lm), .int (nI rm), .int (nI pl), .ref a8, .int sd])), (a1, aI G 54 (fl R)), (a2, aI G 54 (fl Rm)), (a6, aI G 16 (cN rv)), (a7, aI G 7 (cN rf))]) s [(h0, .inr (2, [.ref a1, .ref a2, .ref a3, .ref a4, .int (nI im), .ref a5, .ref a6, .ref a7, .int (nI lm), .int (nI rm), .int (nI pl), .ref a8, .int sd])), (a1, aI G 54 (fl R)), (a2, aI G 54 (fl (upR R 1 xz.toNat q))), (a6, aI G 16 (cN rv)), (a7, aI G 7 (cN rf))] H locs := hw
                            have hw : Wd G (fA [(h0, .inr (2, [.ref a1, .ref a2, .ref a3, .ref a4, .int (nI im), .ref a5, .ref a6, .ref a7, .int (nI lm), .int (nI rm), .int (nI pl), .ref a8, .int sd])), (a1, aI G 54 (fl R)), (a2, aI G 54 (fl Rm)), (a6, aI G 16 (cN rv)), (a7, aI G 7 (cN rf))]) s [(h0, .inr (2, [.ref a1, .ref a2, .ref a3, .ref a4, .int (nI im), .ref a5, .ref a6, .ref a7, .int (nI lm), .int (nI rm), .int (nI pl), .ref a8, .int sd])), (a1, aI G 54 (fl R)), (a2, aI G 54 (fl (wwS R xz.toNat wwz q))), (a6, aI G 16 (cN rv)), (a7, aI G 7 (cN rf))] H locs := by first | (rw [show wwS R xz.toNat wwz q = upR R 1 xz.toNat q from (by unfold wwS wwI; rw [if_pos (by omega)])]; exact hw) | (rw [show wwS R xz.toNat wwz q = upR R 2 xz.toNat q from (by unfold wwS wwI; rw [if_neg (by omega)])]; exact hw)
                            refine lv_aload_n xx xb dX2_whatWas_131 rfl (lv_at hl 0 rfl) ?_
                            refine lv_iload xx xb dX2_whatWas_132 (lv_at hl 6 rfl) ?_
                            have hM := kX2_fallsIn l G h0 a1 a2 a3 a4 a5 a6 a7 a8 im lm rm pl sd (wwS R xz.toNat wwz q) i hSO (AK_wwS hK _ _ _) (by rw [wwS_00]; omega)
                            refine cv_i C hw hM yvX2_fallsIn ml_X2_141 0 rfl rfl rfl [0, 2] rfl rfl (fun _ => (rfl : ([h0, a2] : List Nat) = [h0, a2])) (by decide) ⟨Nat.zero_le _, Nat.zero_le _⟩ hl.1 rfl (Nat.le_of_ble_eq_true rfl) dX2_whatWas_134 (fun r _ H locs hr hw => ?_)
                            have hw : Wd G (fA [(h0, .inr (2, [.ref a1, .ref a2, .ref a3, .ref a4, .int (nI im), .ref a5, .ref a6, .ref a7, .int (nI lm), .int (nI rm), .int (nI pl), .ref a8, .int sd])), (a1, aI G 54 (fl R)), (a2, aI G 54 (fl Rm)), (a6, aI G 16 (cN rv)), (a7, aI G 7 (cN rf))]) s [(h0, .inr (2, [.ref a1, .ref a2, .ref a3, .ref a4, .int (nI im), .ref a5, .ref a6, .ref a7, .int (nI lm), .int (nI rm), .int (nI pl), .ref a8, .int sd])), (a1, aI G 54 (fl R)), (a2, aI G 54 (fl (itF (wwS R xz.toNat wwz q) (ftN (wwS R xz.toNat wwz q) i)))), (a6, aI G 16 (cN rv)), (a7, aI G 7 (cN rf))] H locs := hw
                            subst hr
                            refine lv_istore (lv' := [(8, .int (ftI (ftN (wwS R xz.toNat wwz q) i))), (0, .ref h0), (1, .int x), (2, .int ww), (4, .int (nI (bs (wwP R xz.toNat wwz rv) q))), (5, .int (nI q)), (6, .int (if wwB (wwS R xz.toNat wwz q) rv i = true then 1 else 0)), (7, .int (nI i))]) xx xb dX2_whatWas_137 hl (by decide) rfl (fun ls hl => ?_)
                            refine lv_iload xx xb dX2_whatWas_139 (lv_at hl 0 rfl) ?_
                            refine lv_if_ge (tgt := 149) xx xb dX2_whatWas_141 (by decide) (fun c_141 => ?_) (fun c_141 => ?_)
                            · skip
                              have c_141 := ftI_nn (ftN_le _ _) c_141
                              refine lv_iload xx xb dX2_whatWas_149 (lv_at hl 0 rfl) ?_
                              refine re_i (nI (tld (ftN (wwS R xz.toNat wwz q) i))) (by first | exact tld_y c_141 | exact tld_n c_141) ?_
                              refine lv_aload_n xx xb dX2_whatWas_151 rfl (lv_at hl 1 rfl) ?_
                              refine m_get C hw 0 rfl fk_X2_25 rfl dX2_whatWas_152 ?_
                              refine lv_iload xx xb dX2_whatWas_155 (lv_at hl 7 rfl) ?_
                              refine m_ald C hw 3 rfl i rfl (by omega) (by decide) dX2_whatWas_157 ?_
                              refine re_i (nI (rv i)) rfl ?_
                              have ht9 := tld_le (ftN (wwS R xz.toNat wwz q) i)
                              have hr9 := hrv i (by omega)
                              refine lv_icmp_ne (tgt := 165) xx xb dX2_whatWas_158 (by decide) (fun c_158 => ?_) (fun c_158 => ?_)
                              · skip
                                have c_158 := ne_c (tN (by omega)) (tN (by omega)) c_158
                                refine lv_iconst (v := nI 0) xx xb dX2_whatWas_165 (by decide) ?_
                                refine re_i (if wwB (wwS R xz.toNat wwz q) rv (i + 1) = true then 1 else 0) (by first | exact r1 (wwB_t c_97 (by omega)) | exact r0 (by rw [wwB_n (by omega)]; decide)) ?_
                                refine lv_istore (lv' := [(6, .int (if wwB (wwS R xz.toNat wwz q) rv (i + 1) = true then 1 else 0)), (8, .int (ftI (ftN (wwS R xz.toNat wwz q) i))), (0, .ref h0), (1, .int x), (2, .int ww), (4, .int (nI (bs (wwP R xz.toNat wwz rv) q))), (5, .int (nI q)), (7, .int (nI i))]) xx xb dX2_whatWas_166 hl (by decide) rfl (fun ls hl => ?_)
                                refine lv_iinc (v := nI (i + 1)) (lv' := [(7, .int (nI (i + 1))), (6, .int (if wwB (wwS R xz.toNat wwz q) rv (i + 1) = true then 1 else 0)), (8, .int (ftI (ftN (wwS R xz.toNat wwz q) i))), (0, .ref h0), (1, .int x), (2, .int ww), (4, .int (nI (bs (wwP R xz.toNat wwz rv) q))), (5, .int (nI q))]) xx xb dX2_whatWas_168 hl (k := 7) rfl (nI_add _ 1) (by decide) rfl (fun ls hl => ?_)
                                refine lv_goto (tgt := 84) xx xb dX2_whatWas_171 (by decide) ?_
                                exact ih_84 (i + 1) (itF (wwS R xz.toNat wwz q) (ftN (wwS R xz.toNat wwz q) i)) H _ ls (by omega) (by omega) hw (lv_sub hl [3, 4, 5, 6, 7, 1, 0] rfl)
                              · skip
                                have c_158 := eq_c (tN (by omega)) (tN (by omega)) c_158
                                refine lv_iconst (v := nI 1) xx xb dX2_whatWas_161 (by decide) ?_
                                refine lv_goto (tgt := 166) xx xb dX2_whatWas_162 (by decide) ?_
                                refine re_i (if wwB (wwS R xz.toNat wwz q) rv (i + 1) = true then 1 else 0) (by first | exact r1 (wwB_t c_97 (by omega)) | exact r0 (by rw [wwB_n (by omega)]; decide)) ?_
                                refine lv_istore (lv' := [(6, .int (if wwB (wwS R xz.toNat wwz q) rv (i + 1) = true then 1 else 0)), (8, .int (ftI (ftN (wwS R xz.toNat wwz q) i))), (0, .ref h0), (1, .int x), (2, .int ww), (4, .int (nI (bs (wwP R xz.toNat wwz rv) q))), (5, .int (nI q)), (7, .int (nI i))]) xx xb dX2_whatWas_166 hl (by decide) rfl (fun ls hl => ?_)
                                refine lv_iinc (v := nI (i + 1)) (lv' := [(7, .int (nI (i + 1))), (6, .int (if wwB (wwS R xz.toNat wwz q) rv (i + 1) = true then 1 else 0)), (8, .int (ftI (ftN (wwS R xz.toNat wwz q) i))), (0, .ref h0), (1, .int x), (2, .int ww), (4, .int (nI (bs (wwP R xz.toNat wwz rv) q))), (5, .int (nI q))]) xx xb dX2_whatWas_168 hl (k := 7) rfl (nI_add _ 1) (by decide) rfl (fun ls hl => ?_)
                                refine lv_goto (tgt := 84) xx xb dX2_whatWas_171 (by decide) ?_
                                exact ih_84 (i + 1) (itF (wwS R xz.toNat wwz q) (ftN (wwS R xz.toNat wwz q) i)) H _ ls (by omega) (by omega) hw (lv_sub hl [3, 4, 5, 6, 7, 1, 0] rfl)
                            · skip
                              have c_141 := ftI_ng (ftN_le _ _) c_141
                              refine lv_bipush (v := nI 99) xx xb dX2_whatWas_144 (by decide) ?_
                              refine lv_goto (tgt := 151) xx xb dX2_whatWas_146 (by decide) ?_
                              refine re_i (nI (tld (ftN (wwS R xz.toNat wwz q) i))) (by first | exact tld_y c_141 | exact tld_n c_141) ?_
                              refine lv_aload_n xx xb dX2_whatWas_151 rfl (lv_at hl 1 rfl) ?_
                              refine m_get C hw 0 rfl fk_X2_25 rfl dX2_whatWas_152 ?_
                              refine lv_iload xx xb dX2_whatWas_155 (lv_at hl 7 rfl) ?_
                              refine m_ald C hw 3 rfl i rfl (by omega) (by decide) dX2_whatWas_157 ?_
                              refine re_i (nI (rv i)) rfl ?_
                              have ht9 := tld_le (ftN (wwS R xz.toNat wwz q) i)
                              have hr9 := hrv i (by omega)
                              refine lv_icmp_ne (tgt := 165) xx xb dX2_whatWas_158 (by decide) (fun c_158 => ?_) (fun c_158 => ?_)
                              · skip
                                have c_158 := ne_c (tN (by omega)) (tN (by omega)) c_158
                                refine lv_iconst (v := nI 0) xx xb dX2_whatWas_165 (by decide) ?_
                                refine re_i (if wwB (wwS R xz.toNat wwz q) rv (i + 1) = true then 1 else 0) (by first | exact r1 (wwB_t c_97 (by omega)) | exact r0 (by rw [wwB_n (by omega)]; decide)) ?_
                                refine lv_istore (lv' := [(6, .int (if wwB (wwS R xz.toNat wwz q) rv (i + 1) = true then 1 else 0)), (8, .int (ftI (ftN (wwS R xz.toNat wwz q) i))), (0, .ref h0), (1, .int x), (2, .int ww), (4, .int (nI (bs (wwP R xz.toNat wwz rv) q))), (5, .int (nI q)), (7, .int (nI i))]) xx xb dX2_whatWas_166 hl (by decide) rfl (fun ls hl => ?_)
                                refine lv_iinc (v := nI (i + 1)) (lv' := [(7, .int (nI (i + 1))), (6, .int (if wwB (wwS R xz.toNat wwz q) rv (i + 1) = true then 1 else 0)), (8, .int (ftI (ftN (wwS R xz.toNat wwz q) i))), (0, .ref h0), (1, .int x), (2, .int ww), (4, .int (nI (bs (wwP R xz.toNat wwz rv) q))), (5, .int (nI q))]) xx xb dX2_whatWas_168 hl (k := 7) rfl (nI_add _ 1) (by decide) rfl (fun ls hl => ?_)
                                refine lv_goto (tgt := 84) xx xb dX2_whatWas_171 (by decide) ?_
                                exact ih_84 (i + 1) (itF (wwS R xz.toNat wwz q) (ftN (wwS R xz.toNat wwz q) i)) H _ ls (by omega) (by omega) hw (lv_sub hl [3, 4, 5, 6, 7, 1, 0] rfl)
                              · skip
                                have c_158 := eq_c (tN (by omega)) (tN (by omega)) c_158
                                refine lv_iconst (v := nI 1) xx xb dX2_whatWas_161 (by decide) ?_
                                refine lv_goto (tgt := 166) xx xb dX2_whatWas_162 (by decide) ?_
                                refine re_i (if wwB (wwS R xz.toNat wwz q) rv (i + 1) = true then 1 else 0) (by first | exact r1 (wwB_t c_97 (by omega)) | exact r0 (by rw [wwB_n (by omega)]; decide)) ?_
                                refine lv_istore (lv' := [(6, .int (if wwB (wwS R xz.toNat wwz q) rv (i + 1) = true then 1 else 0)), (8, .int (ftI (ftN (wwS R xz.toNat wwz q) i))), (0, .ref h0), (1, .int x), (2, .int ww), (4, .int (nI (bs (wwP R xz.toNat wwz rv) q))), (5, .int (nI q)), (7, .int (nI i))]) xx xb dX2_whatWas_166 hl (by decide) rfl (fun ls hl => ?_)
                                refine lv_iinc (v := nI (i + 1)) (lv' := [(7, .int (nI (i + 1))), (6, .int (if wwB (wwS R xz.toNat wwz q) rv (i + 1) = true then 1 else 0)), (8, .int (ftI (ftN (wwS R xz.toNat wwz q) i))), (0, .ref h0), (1, .int x), (2, .int ww), (4, .int (nI (bs (wwP R xz.toNat wwz rv) q))), (5, .int (nI q))]) xx xb dX2_whatWas_168 hl (k := 7) rfl (nI_add _ 1) (by decide) rfl (fun ls hl => ?_)
                                refine lv_goto (tgt := 84) xx xb dX2_whatWas_171 (by decide) ?_
                                exact ih_84 (i + 1) (itF (wwS R xz.toNat wwz q) (ftN (wwS R xz.toNat wwz q) i)) H _ ls (by omega) (by omega) hw (lv_sub hl [3, 4, 5, 6, 7, 1, 0] rfl)
                  exact L_84 (_ + 1) 0 Y H _ ls (Nat.lt_succ_self _) (by omega) hw (lv_sub hl [2, 3, 4, 5, 6, 1, 0] rfl)
          exact L_62 (_ + 1) 0 Rm H _ ls (Nat.lt_succ_self _) (by omega) (fun _ => by omega) hw (lv_sub hl [3, 4, 5, 1, 0] rfl)
        · skip
          exact absurd (by decide) c_47
      · skip
        have c_36 := ne_c (tN (by omega)) (tN (by omega)) c_36
        refine lv_bipush (v := (-3)) xx xb dX2_whatWas_39 (by decide) ?_
        refine lv_goto (tgt := 45) xx xb dX2_whatWas_41 (by decide) ?_
        refine lv_istore_n (lv' := [(3, .int (-3)), (0, .ref h0), (1, .int x), (2, .int ww)]) xx xb dX2_whatWas_45 rfl hl (by decide) rfl (fun ls hl => ?_)
        refine lv_iload_n xx xb dX2_whatWas_46 rfl (lv_at hl 0 rfl) ?_
        refine lv_if_eq (tgt := 56) xx xb dX2_whatWas_47 (by decide) (fun c_47 => ?_) (fun c_47 => ?_)
        · skip
          exact absurd c_47 (by decide)
        · skip
          refine lv_aload_n xx xb dX2_whatWas_50 rfl (lv_at hl 1 rfl) ?_
          refine lv_iload_n xx xb dX2_whatWas_51 rfl (lv_at hl 0 rfl) ?_
          have hM := kX2_no l G h0 a1 a2 a3 a4 a5 a6 a7 a8 im lm rm pl sd rf 3 (by first | assumption | omega)
          refine cv_i C hw hM yvX2_no ml_X2_36 0 rfl rfl rfl [0, 4] rfl rfl (fun _ => (rfl : ([h0, a7] : List Nat) = [h0, a7])) (by decide) ⟨Nat.zero_le _, Nat.zero_le _⟩ hl.1 rfl (Nat.le_of_ble_eq_true rfl) dX2_whatWas_52 (fun r _ H locs hr hw => ?_)
          have hw : Wd G (fA [(h0, .inr (2, [.ref a1, .ref a2, .ref a3, .ref a4, .int (nI im), .ref a5, .ref a6, .ref a7, .int (nI lm), .int (nI rm), .int (nI pl), .ref a8, .int sd])), (a1, aI G 54 (fl R)), (a2, aI G 54 (fl Rm)), (a6, aI G 16 (cN rv)), (a7, aI G 7 (cN rf))]) s [(h0, .inr (2, [.ref a1, .ref a2, .ref a3, .ref a4, .int (nI im), .ref a5, .ref a6, .ref a7, .int (nI lm), .int (nI rm), .int (nI pl), .ref a8, .int sd])), (a1, aI G 54 (fl R)), (a2, aI G 54 (fl Rm)), (a6, aI G 16 (cN rv)), (a7, aI G 7 (cN (upN rf 3 (rf 3 + 1))))] H locs := hw
          subst hr
          have hc : cWW R xz wwz rm = 3 := by unfold cWW; (repeat' split) <;> omega
          have hj : 3 ≠ 0 := by omega
          exact rt_i C hw Rm (by exact (anI_r hc hj _).symm) (by rw [rfU_r hc hj]) dX2_whatWas_55
    · skip
      have c_18 := b0_c c_18
      refine lv_bipush (v := (-2)) xx xb dX2_whatWas_21 (by decide) ?_
      refine lv_goto (tgt := 45) xx xb dX2_whatWas_23 (by decide) ?_
      refine lv_istore_n (lv' := [(3, .int (-2)), (0, .ref h0), (1, .int x), (2, .int ww)]) xx xb dX2_whatWas_45 rfl hl (by decide) rfl (fun ls hl => ?_)
      refine lv_iload_n xx xb dX2_whatWas_46 rfl (lv_at hl 0 rfl) ?_
      refine lv_if_eq (tgt := 56) xx xb dX2_whatWas_47 (by decide) (fun c_47 => ?_) (fun c_47 => ?_)
      · skip
        exact absurd c_47 (by decide)
      · skip
        refine lv_aload_n xx xb dX2_whatWas_50 rfl (lv_at hl 1 rfl) ?_
        refine lv_iload_n xx xb dX2_whatWas_51 rfl (lv_at hl 0 rfl) ?_
        have hM := kX2_no l G h0 a1 a2 a3 a4 a5 a6 a7 a8 im lm rm pl sd rf 2 (by first | assumption | omega)
        refine cv_i C hw hM yvX2_no ml_X2_36 0 rfl rfl rfl [0, 4] rfl rfl (fun _ => (rfl : ([h0, a7] : List Nat) = [h0, a7])) (by decide) ⟨Nat.zero_le _, Nat.zero_le _⟩ hl.1 rfl (Nat.le_of_ble_eq_true rfl) dX2_whatWas_52 (fun r _ H locs hr hw => ?_)
        have hw : Wd G (fA [(h0, .inr (2, [.ref a1, .ref a2, .ref a3, .ref a4, .int (nI im), .ref a5, .ref a6, .ref a7, .int (nI lm), .int (nI rm), .int (nI pl), .ref a8, .int sd])), (a1, aI G 54 (fl R)), (a2, aI G 54 (fl Rm)), (a6, aI G 16 (cN rv)), (a7, aI G 7 (cN rf))]) s [(h0, .inr (2, [.ref a1, .ref a2, .ref a3, .ref a4, .int (nI im), .ref a5, .ref a6, .ref a7, .int (nI lm), .int (nI rm), .int (nI pl), .ref a8, .int sd])), (a1, aI G 54 (fl R)), (a2, aI G 54 (fl Rm)), (a6, aI G 16 (cN rv)), (a7, aI G 7 (cN (upN rf 2 (rf 2 + 1))))] H locs := hw
        subst hr
        have hc : cWW R xz wwz rm = 2 := by unfold cWW; (repeat' split) <;> omega
        have hj : 2 ≠ 0 := by omega
        exact rt_i C hw Rm (by exact (anI_r hc hj _).symm) (by rw [rfU_r hc hj]) dX2_whatWas_55
  · skip
    have c_5 := b0_c c_5
    refine lv_iconst (v := (-1)) xx xb dX2_whatWas_8 (by decide) ?_
    refine lv_goto (tgt := 45) xx xb dX2_whatWas_9 (by decide) ?_
    refine lv_istore_n (lv' := [(3, .int (-1)), (0, .ref h0), (1, .int x), (2, .int ww)]) xx xb dX2_whatWas_45 rfl hl (by decide) rfl (fun ls hl => ?_)
    refine lv_iload_n xx xb dX2_whatWas_46 rfl (lv_at hl 0 rfl) ?_
    refine lv_if_eq (tgt := 56) xx xb dX2_whatWas_47 (by decide) (fun c_47 => ?_) (fun c_47 => ?_)
    · skip
      exact absurd c_47 (by decide)
    · skip
      refine lv_aload_n xx xb dX2_whatWas_50 rfl (lv_at hl 1 rfl) ?_
      refine lv_iload_n xx xb dX2_whatWas_51 rfl (lv_at hl 0 rfl) ?_
      have hM := kX2_no l G h0 a1 a2 a3 a4 a5 a6 a7 a8 im lm rm pl sd rf 1 (by first | assumption | omega)
      refine cv_i C hw hM yvX2_no ml_X2_36 0 rfl rfl rfl [0, 4] rfl rfl (fun _ => (rfl : ([h0, a7] : List Nat) = [h0, a7])) (by decide) ⟨Nat.zero_le _, Nat.zero_le _⟩ hl.1 rfl (Nat.le_of_ble_eq_true rfl) dX2_whatWas_52 (fun r _ H locs hr hw => ?_)
      have hw : Wd G (fA [(h0, .inr (2, [.ref a1, .ref a2, .ref a3, .ref a4, .int (nI im), .ref a5, .ref a6, .ref a7, .int (nI lm), .int (nI rm), .int (nI pl), .ref a8, .int sd])), (a1, aI G 54 (fl R)), (a2, aI G 54 (fl Rm)), (a6, aI G 16 (cN rv)), (a7, aI G 7 (cN rf))]) s [(h0, .inr (2, [.ref a1, .ref a2, .ref a3, .ref a4, .int (nI im), .ref a5, .ref a6, .ref a7, .int (nI lm), .int (nI rm), .int (nI pl), .ref a8, .int sd])), (a1, aI G 54 (fl R)), (a2, aI G 54 (fl Rm)), (a6, aI G 16 (cN rv)), (a7, aI G 7 (cN (upN rf 1 (rf 1 + 1))))] H locs := hw
      subst hr
      have hc : cWW R xz wwz rm = 1 := by unfold cWW; (repeat' split) <;> omega
      have hj : 1 ≠ 0 := by omega
      exact rt_i C hw Rm (by exact (anI_r hc hj _).symm) (by rw [rfU_r hc hj]) dX2_whatWas_55
set_option maxRecDepth 100000 in
set_option maxHeartbeats 4000000 in
theorem kX2_pullMost (l : Launch) (G : GT) (h0 : Nat) (a1 : Nat) (a2 : Nat) (a3 : Nat) (a4 : Nat) (a5 : Nat) (a6 : Nat) (a7 : Nat) (a8 : Nat) (im : Nat) (lm : Nat) (rm : Nat) (pl : Nat) (sd : Int32) (R : RT) (Rm : RT) (rf : Nat → Nat) (x : Int32) (xz : Int) (n : Int32) (nz : Int) (ww : Int32) (wwz : Int) (h_x : x.toInt = xz) (h_n : n.toInt = nz) (h_ww : ww.toInt = wwz) (hR : OK R) (hK : AK R) : Ct l yX2_pullMost cX2_pullMost 7 (some .int) 5 114 [.ref h0, .int x, .int n, .int ww] G [(h0, .inr (2, [.ref a1, .ref a2, .ref a3, .ref a4, .int (nI im), .ref a5, .ref a6, .ref a7, .int (nI lm), .int (nI rm), .int (nI pl), .ref a8, .int sd])), (a1, aI G 54 (fl R)), (a2, aI G 54 (fl Rm)), (a7, aI G 7 (cN rf))] (QI G [(h0, .inr (2, [.ref a1, .ref a2, .ref a3, .ref a4, .int (nI im), .ref a5, .ref a6, .ref a7, .int (nI lm), .int (nI rm), .int (nI pl), .ref a8, .int sd])), (a1, aI G 54 (fl R)), (a2, aI G 54 (fl Rm)), (a7, aI G 7 (cN rf))] (fun (r : Int32) (u : RT) => r = anI (cPM R xz nz wwz) (vPM R xz.toNat nz.toNat wwz)) (fun u => [(h0, .inr (2, [.ref a1, .ref a2, .ref a3, .ref a4, .int (nI im), .ref a5, .ref a6, .ref a7, .int (nI lm), .int (nI rm), .int (nI pl), .ref a8, .int sd])), (a1, aI G 54 (fl R)), (a2, aI G 54 (fl u)), (a7, aI G 7 (cN (rfU rf (cPM R xz nz wwz))))])) := by
  refine en (by decide +kernel) (Nat.le_of_ble_eq_true rfl) ?_
  intro p e s m below meth c ls H locs C hl hw
  have xx := C.1
  have xb := C.2.1
  have hw : Wd G (fA [(h0, .inr (2, [.ref a1, .ref a2, .ref a3, .ref a4, .int (nI im), .ref a5, .ref a6, .ref a7, .int (nI lm), .int (nI rm), .int (nI pl), .ref a8, .int sd])), (a1, aI G 54 (fl R)), (a2, aI G 54 (fl Rm)), (a7, aI G 7 (cN rf))]) s [(h0, .inr (2, [.ref a1, .ref a2, .ref a3, .ref a4, .int (nI im), .ref a5, .ref a6, .ref a7, .int (nI lm), .int (nI rm), .int (nI pl), .ref a8, .int sd])), (a1, aI G 54 (fl R)), (a2, aI G 54 (fl Rm)), (a7, aI G 7 (cN rf))] H locs := hw
  have hl : lv_has ls 7 [(0, .ref h0), (1, .int x), (2, .int n), (3, .int ww)] := hl
  obtain ⟨hn, hf0, hpr, hA⟩ := id hR
  have hb9 := wbN_le nz 30
  have h210 : 2 ^ R 0 0 ≤ 2 ^ 10 := Nat.pow_le_pow_right (by decide) hn
  refine lv_aload_n xx xb dX2_pullMost_0 rfl (lv_at hl 0 rfl) ?_
  refine lv_iload_n xx xb dX2_pullMost_1 rfl (lv_at hl 1 rfl) ?_
  have hM := kX2_isThing l G h0 a1 a2 a3 a4 a5 a6 a7 a8 im lm rm pl sd R x xz h_x (by first | assumption | omega)
  refine cv_i C hw hM yvX2_isThing ml_X2_105 0 rfl rfl rfl [0, 1] rfl rfl (fun _ => (rfl : ([h0, a1] : List Nat) = [h0, a1])) (by decide) ⟨Nat.zero_le _, Nat.zero_le _⟩ hl.1 rfl (Nat.le_of_ble_eq_true rfl) dX2_pullMost_2 (fun r _ H locs hr hw => ?_)
  have hw : Wd G (fA [(h0, .inr (2, [.ref a1, .ref a2, .ref a3, .ref a4, .int (nI im), .ref a5, .ref a6, .ref a7, .int (nI lm), .int (nI rm), .int (nI pl), .ref a8, .int sd])), (a1, aI G 54 (fl R)), (a2, aI G 54 (fl Rm)), (a7, aI G 7 (cN rf))]) s [(h0, .inr (2, [.ref a1, .ref a2, .ref a3, .ref a4, .int (nI im), .ref a5, .ref a6, .ref a7, .int (nI lm), .int (nI rm), .int (nI pl), .ref a8, .int sd])), (a1, aI G 54 (fl R)), (a2, aI G 54 (fl Rm)), (a7, aI G 7 (cN rf))] H locs := hw
  subst hr
  refine lv_if_eq (tgt := 17) xx xb dX2_pullMost_5 (by decide) (fun c_5 => ?_) (fun c_5 => ?_)
  · skip
    have c_5 := b0_c c_5
    refine lv_iconst (v := (-1)) xx xb dX2_pullMost_17 (by decide) ?_
    refine lv_istore (lv' := [(4, .int (-1)), (0, .ref h0), (1, .int x), (2, .int n), (3, .int ww)]) xx xb dX2_pullMost_18 hl (by decide) rfl (fun ls hl => ?_)
    refine lv_iload xx xb dX2_pullMost_20 (lv_at hl 0 rfl) ?_
    refine lv_if_ne (tgt := 38) xx xb dX2_pullMost_22 (by decide) (fun c_22 => ?_) (fun c_22 => ?_)
    · skip
      refine lv_iload xx xb dX2_pullMost_38 (lv_at hl 0 rfl) ?_
      refine lv_if_eq (tgt := 50) xx xb dX2_pullMost_40 (by decide) (fun c_40 => ?_) (fun c_40 => ?_)
      · skip
        exact absurd c_40 (by decide)
      · skip
        refine lv_aload_n xx xb dX2_pullMost_43 rfl (lv_at hl 1 rfl) ?_
        refine lv_iload xx xb dX2_pullMost_44 (lv_at hl 0 rfl) ?_
        have hM := kX2_no l G h0 a1 a2 a3 a4 a5 a6 a7 a8 im lm rm pl sd rf 1 (by omega)
        refine cv_i C hw hM yvX2_no ml_X2_36 0 rfl rfl rfl [0, 3] rfl rfl (fun _ => (rfl : ([h0, a7] : List Nat) = [h0, a7])) (by decide) ⟨Nat.zero_le _, Nat.zero_le _⟩ hl.1 rfl (Nat.le_of_ble_eq_true rfl) dX2_pullMost_46 (fun r _ H locs hr hw => ?_)
        have hw : Wd G (fA [(h0, .inr (2, [.ref a1, .ref a2, .ref a3, .ref a4, .int (nI im), .ref a5, .ref a6, .ref a7, .int (nI lm), .int (nI rm), .int (nI pl), .ref a8, .int sd])), (a1, aI G 54 (fl R)), (a2, aI G 54 (fl Rm)), (a7, aI G 7 (cN rf))]) s [(h0, .inr (2, [.ref a1, .ref a2, .ref a3, .ref a4, .int (nI im), .ref a5, .ref a6, .ref a7, .int (nI lm), .int (nI rm), .int (nI pl), .ref a8, .int sd])), (a1, aI G 54 (fl R)), (a2, aI G 54 (fl Rm)), (a7, aI G 7 (cN (upN rf 1 (rf 1 + 1))))] H locs := hw
        subst hr
        have hc : cPM R xz nz wwz = 1 := by unfold cPM; (repeat' split) <;> omega
        have hj : 1 ≠ 0 := by omega
        exact rt_i C hw Rm (by exact (anI_r hc hj _).symm) (by rw [rfU_r hc hj]) dX2_pullMost_49
    · skip
      exact absurd c_22 (by decide)
  · skip
    have c_5 := b1_c c_5
    refine lv_iload_n xx xb dX2_pullMost_8 rfl (lv_at hl 2 rfl) ?_
    refine lv_bipush (v := nI 30) xx xb dX2_pullMost_9 (by decide) ?_
    have hM := kX2_wrongBy l G n nz (nI 30) 30 h_n (tN (by omega))
    refine cs_i C hw hM ysX2_wrongBy ml_X2_128 rfl [] rfl rfl (fun _ => (rfl : ([] : List Nat) = [])) (by decide) ⟨Nat.zero_le _, Nat.zero_le _⟩ hl.1 rfl (Nat.le_of_ble_eq_true rfl) dX2_pullMost_11 (fun r _ H locs hr hw => ?_)
    have hw : Wd G (fA [(h0, .inr (2, [.ref a1, .ref a2, .ref a3, .ref a4, .int (nI im), .ref a5, .ref a6, .ref a7, .int (nI lm), .int (nI rm), .int (nI pl), .ref a8, .int sd])), (a1, aI G 54 (fl R)), (a2, aI G 54 (fl Rm)), (a7, aI G 7 (cN rf))]) s [(h0, .inr (2, [.ref a1, .ref a2, .ref a3, .ref a4, .int (nI im), .ref a5, .ref a6, .ref a7, .int (nI lm), .int (nI rm), .int (nI pl), .ref a8, .int sd])), (a1, aI G 54 (fl R)), (a2, aI G 54 (fl Rm)), (a7, aI G 7 (cN rf))] H locs := hw
    subst hr
    refine lv_goto (tgt := 18) xx xb dX2_pullMost_14 (by decide) ?_
    refine lv_istore (lv' := [(4, .int (nG (wbN nz 30))), (0, .ref h0), (1, .int x), (2, .int n), (3, .int ww)]) xx xb dX2_pullMost_18 hl (by decide) rfl (fun ls hl => ?_)
    refine lv_iload xx xb dX2_pullMost_20 (lv_at hl 0 rfl) ?_
    refine lv_if_ne (tgt := 38) xx xb dX2_pullMost_22 (by decide) (fun c_22 => ?_) (fun c_22 => ?_)
    · skip
      have c_22 := g0_n c_22
      refine lv_iload xx xb dX2_pullMost_38 (lv_at hl 0 rfl) ?_
      refine lv_if_eq (tgt := 50) xx xb dX2_pullMost_40 (by decide) (fun c_40 => ?_) (fun c_40 => ?_)
      · skip
        have c_40 := g0_c (by omega) c_40
        obtain ⟨g1, g2⟩ := wbN_0 (z := nz) (a := 30) (by omega)
        refine lv_bipush (v := (-9)) xx xb dX2_pullMost_50 (by decide) ?_
        refine lv_istore (lv' := [(5, .int (-9)), (4, .int (nG (wbN nz 30))), (0, .ref h0), (1, .int x), (2, .int n), (3, .int ww)]) xx xb dX2_pullMost_52 hl (by decide) rfl (fun ls hl => ?_)
        refine lv_iconst (v := nI 0) xx xb dX2_pullMost_54 (by decide) ?_
        refine lv_istore (lv' := [(6, .int (nI 0)), (5, .int (-9)), (4, .int (nG (wbN nz 30))), (0, .ref h0), (1, .int x), (2, .int n), (3, .int ww)]) xx xb dX2_pullMost_55 hl (by decide) rfl (fun ls hl => ?_)
        have hl : lv_has ls 7 [(6, .int (nI 0)), (5, .int (fdI (pmF R xz.toNat nz.toNat 0))), (4, .int (nG (wbN nz 30))), (0, .ref h0), (1, .int x), (2, .int n), (3, .int ww)] := hl
        have L_57 : ∀ (fu : Nat) (s1 : Nat) (Y : RT) (H : Heap) (locs : List Loc) (ls : Array Slot), 1024 - s1 < fu → (s1 ≤ 2 ^ R 0 0) → Wd G (fA [(h0, .inr (2, [.ref a1, .ref a2, .ref a3, .ref a4, .int (nI im), .ref a5, .ref a6, .ref a7, .int (nI lm), .int (nI rm), .int (nI pl), .ref a8, .int sd])), (a1, aI G 54 (fl R)), (a2, aI G 54 (fl Rm)), (a7, aI G 7 (cN rf))]) s [(h0, .inr (2, [.ref a1, .ref a2, .ref a3, .ref a4, .int (nI im), .ref a5, .ref a6, .ref a7, .int (nI lm), .int (nI rm), .int (nI pl), .ref a8, .int sd])), (a1, aI G 54 (fl R)), (a2, aI G 54 (fl Y)), (a7, aI G 7 (cN rf))] H locs → lv_has ls 7 [(0, .ref h0), (1, .int x), (2, .int n), (3, .int ww), (5, .int (fdI (pmF R xz.toNat nz.toNat s1))), (6, .int (nI s1))] → W p l e ({ frames := 5, cells := 0, slots := 0, locals := 114 }) s m (([.ref h0, .int x, .int n, .int ww] : List Value).toArray) below meth c H locs 0 0 (MQ below (QI G [(h0, .inr (2, [.ref a1, .ref a2, .ref a3, .ref a4, .int (nI im), .ref a5, .ref a6, .ref a7, .int (nI lm), .int (nI rm), .int (nI pl), .ref a8, .int sd])), (a1, aI G 54 (fl R)), (a2, aI G 54 (fl Rm)), (a7, aI G 7 (cN rf))] (fun (r : Int32) (u : RT) => r = anI (cPM R xz nz wwz) (vPM R xz.toNat nz.toNat wwz)) (fun u => [(h0, .inr (2, [.ref a1, .ref a2, .ref a3, .ref a4, .int (nI im), .ref a5, .ref a6, .ref a7, .int (nI lm), .int (nI rm), .int (nI pl), .ref a8, .int sd])), (a1, aI G 54 (fl R)), (a2, aI G 54 (fl u)), (a7, aI G 7 (cN (rfU rf (cPM R xz nz wwz))))])) (([.ref h0, .int x, .int n, .int ww] : List Value).toArray) s 0 0 (fA [(h0, .inr (2, [.ref a1, .ref a2, .ref a3, .ref a4, .int (nI im), .ref a5, .ref a6, .ref a7, .int (nI lm), .int (nI rm), .int (nI pl), .ref a8, .int sd])), (a1, aI G 54 (fl R)), (a2, aI G 54 (fl Rm)), (a7, aI G 7 (cN rf))])) (F0 m 57 ls []) := by
          intro fu
          induction fu with
          | zero => intro s1 Y H locs ls hfu; exact absurd hfu (Nat.not_lt_zero _)
          | succ fu ih_57 =>
            intro s1 Y H locs ls hfu hs1 hw hl
            refine lv_iload xx xb dX2_pullMost_57 (lv_at hl 5 rfl) ?_
            refine lv_iconst (v := nI 1) xx xb dX2_pullMost_59 (by decide) ?_
            refine lv_aload_n xx xb dX2_pullMost_60 rfl (lv_at hl 0 rfl) ?_
            refine m_get C hw 0 rfl fk_X2_9 rfl dX2_pullMost_61 ?_
            refine lv_iconst (v := nI 0) xx xb dX2_pullMost_64 (by decide) ?_
            refine m_ald C hw 1 rfl 0 rfl (by omega) (by decide) dX2_pullMost_65 ?_
            refine re_i (nI (R 0 0)) (fl_h R (by decide)) ?_
            refine lv_ishl xx xb dX2_pullMost_66 ?_
            refine re_i (nI (2 ^ (R 0 0))) (shl1 (by omega)) ?_
            refine lv_icmp_ge (tgt := 138) xx xb dX2_pullMost_67 (by decide) (fun c_67 => ?_) (fun c_67 => ?_)
            · skip
              have c_67 := le_c (tN (by omega)) (tN (by omega)) c_67
              have hse : 2 ^ R 0 0 = s1 := by omega
              have hfl := pmF_le R xz.toNat nz.toNat s1 (by omega)
              refine lv_iload xx xb dX2_pullMost_138 (lv_at hl 4 rfl) ?_
              refine lv_if_lt (tgt := 148) xx xb dX2_pullMost_140 (by decide) (fun c_140 => ?_) (fun c_140 => ?_)
              · skip
                have c_140 := c_140
                refine lv_iload xx xb dX2_pullMost_148 (lv_at hl 4 rfl) ?_
                refine lv_goto (tgt := 158) xx xb dX2_pullMost_150 (by decide) ?_
                refine re_i (vPM R xz.toNat nz.toNat wwz) (by unfold vPM; first | (rw [hse, if_pos (fdI_0 hfl c_140), fdI_0 hfl c_140]; rfl) | (rw [hse, if_neg (by omega), if_pos (by omega)]; exact fdI_y c_140) | (rw [hse, if_neg (by omega), if_neg (by omega)]; done)) ?_
                have hc : cPM R xz nz wwz = 0 := by unfold cPM; (repeat' split) <;> omega
                exact rt_i C hw Y (by exact (anI_0 hc _).symm) (by rw [rfU_0 hc]) dX2_pullMost_158
              · skip
                have c_140 := fdI_1 c_140
                refine lv_iload_n xx xb dX2_pullMost_143 rfl (lv_at hl 3 rfl) ?_
                refine lv_iconst (v := nI 1) xx xb dX2_pullMost_144 (by decide) ?_
                refine lv_icmp_ne (tgt := 153) xx xb dX2_pullMost_145 (by decide) (fun c_145 => ?_) (fun c_145 => ?_)
                · skip
                  have c_145 := ne_c h_ww (tN (by omega)) c_145
                  refine lv_iload xx xb dX2_pullMost_153 (lv_at hl 4 rfl) ?_
                  refine re_i (nI (pmF R xz.toNat nz.toNat (2 ^ R 0 0))) (by rw [hse]; exact fdI_y c_140) ?_
                  have hpm : pmF R xz.toNat nz.toNat (2 ^ R 0 0) < 1024 := by rw [hse]; exact c_140
                  have hM := kX2_bits l G (pmF R xz.toNat nz.toNat (2 ^ R 0 0)) (by first | assumption | omega)
                  refine cs_i C hw hM ysX2_bits ml_X2_67 rfl [] rfl rfl (fun _ => (rfl : ([] : List Nat) = [])) (by decide) ⟨Nat.zero_le _, Nat.zero_le _⟩ hl.1 rfl (Nat.le_of_ble_eq_true rfl) dX2_pullMost_155 (fun r _ H locs hr hw => ?_)
                  have hw : Wd G (fA [(h0, .inr (2, [.ref a1, .ref a2, .ref a3, .ref a4, .int (nI im), .ref a5, .ref a6, .ref a7, .int (nI lm), .int (nI rm), .int (nI pl), .ref a8, .int sd])), (a1, aI G 54 (fl R)), (a2, aI G 54 (fl Rm)), (a7, aI G 7 (cN rf))]) s [(h0, .inr (2, [.ref a1, .ref a2, .ref a3, .ref a4, .int (nI im), .ref a5, .ref a6, .ref a7, .int (nI lm), .int (nI rm), .int (nI pl), .ref a8, .int sd])), (a1, aI G 54 (fl R)), (a2, aI G 54 (fl Y)), (a7, aI G 7 (cN rf))] H locs := hw
                  subst hr
                  refine re_i (vPM R xz.toNat nz.toNat wwz) (by unfold vPM; first | (rw [hse, if_pos (fdI_0 hfl c_140), fdI_0 hfl c_140]; rfl) | (rw [hse, if_neg (by omega), if_pos (by omega)]; exact fdI_y c_140) | (rw [hse, if_neg (by omega), if_neg (by omega)]; done)) ?_
                  have hc : cPM R xz nz wwz = 0 := by unfold cPM; (repeat' split) <;> omega
                  exact rt_i C hw Y (by exact (anI_0 hc _).symm) (by rw [rfU_0 hc]) dX2_pullMost_158
                · skip
                  have c_145 := eq_c h_ww (tN (by omega)) c_145
                  refine lv_iload xx xb dX2_pullMost_148 (lv_at hl 4 rfl) ?_
                  refine lv_goto (tgt := 158) xx xb dX2_pullMost_150 (by decide) ?_
                  refine re_i (vPM R xz.toNat nz.toNat wwz) (by unfold vPM; first | (rw [hse, if_pos (fdI_0 hfl c_140), fdI_0 hfl c_140]; rfl) | (rw [hse, if_neg (by omega), if_pos (by omega)]; exact fdI_y c_140) | (rw [hse, if_neg (by omega), if_neg (by omega)]; done)) ?_
                  have hc : cPM R xz nz wwz = 0 := by unfold cPM; (repeat' split) <;> omega
                  exact rt_i C hw Y (by exact (anI_0 hc _).symm) (by rw [rfU_0 hc]) dX2_pullMost_158
            · skip
              have c_67 := nle_c (tN (by omega)) (tN (by omega)) c_67
              have hfl := pmF_le R xz.toNat nz.toNat s1 (by omega)
              refine lv_iload xx xb dX2_pullMost_70 (lv_at hl 5 rfl) ?_
              refine lv_iload_n xx xb dX2_pullMost_72 rfl (lv_at hl 1 rfl) ?_
              refine re_i (nI xz.toNat) (ofT h_x (by omega) (by omega)) ?_
              have hM := kX2_has l G s1 xz.toNat (by first | assumption | omega) (by first | assumption | omega)
              refine cs_i C hw hM ysX2_has ml_X2_51 rfl [] rfl rfl (fun _ => (rfl : ([] : List Nat) = [])) (by decide) ⟨Nat.zero_le _, Nat.zero_le _⟩ hl.1 rfl (Nat.le_of_ble_eq_true rfl) dX2_pullMost_73 (fun r _ H locs hr hw => ?_)
              have hw : Wd G (fA [(h0, .inr (2, [.ref a1, .ref a2, .ref a3, .ref a4, .int (nI im), .ref a5, .ref a6, .ref a7, .int (nI lm), .int (nI rm), .int (nI pl), .ref a8, .int sd])), (a1, aI G 54 (fl R)), (a2, aI G 54 (fl Rm)), (a7, aI G 7 (cN rf))]) s [(h0, .inr (2, [.ref a1, .ref a2, .ref a3, .ref a4, .int (nI im), .ref a5, .ref a6, .ref a7, .int (nI lm), .int (nI rm), .int (nI pl), .ref a8, .int sd])), (a1, aI G 54 (fl R)), (a2, aI G 54 (fl Y)), (a7, aI G 7 (cN rf))] H locs := hw
              subst hr
              refine lv_if_ne (tgt := 132) xx xb dX2_pullMost_76 (by decide) (fun c_76 => ?_) (fun c_76 => ?_)
              · skip
                have c_76 := b1_c c_76
                have hq : ¬ (gdB R xz.toNat nz.toNat s1 = true ∧ (pmF R xz.toNat nz.toNat s1 = 1024 ∨ pc (pmF R xz.toNat nz.toNat s1) < pc s1)) := fun z => by first | exact (gd_1 z.1).1 c_76 | exact c_103 (gd_1 z.1).2.1 | exact c_125 (gd_1 z.1).2.2 | (rcases z.2 with z2 | z2 <;> omega)
                have eF := pmF_n hq
                have hl : lv_has ls 7 [(0, .ref h0), (1, .int x), (2, .int n), (3, .int ww), (5, .int (fdI (pmF R xz.toNat nz.toNat (s1 + 1)))), (6, .int (nI s1))] := by rw [eF]; exact hl
                refine lv_iinc (v := nI (s1 + 1)) (lv' := [(6, .int (nI (s1 + 1))), (0, .ref h0), (1, .int x), (2, .int n), (3, .int ww), (5, .int (fdI (pmF R xz.toNat nz.toNat (s1 + 1))))]) xx xb dX2_pullMost_132 hl (k := 5) rfl (nI_add _ 1) (by decide) rfl (fun ls hl => ?_)
                refine lv_goto (tgt := 57) xx xb dX2_pullMost_135 (by decide) ?_
                exact ih_57 (s1 + 1) Y H _ ls (by omega) (by omega) hw (lv_sub hl [1, 2, 3, 4, 5, 0] rfl)
              · skip
                have c_76 := b0_c c_76
                refine lv_iload xx xb dX2_pullMost_79 (lv_at hl 4 rfl) ?_
                refine lv_if_lt (tgt := 97) xx xb dX2_pullMost_81 (by decide) (fun c_81 => ?_) (fun c_81 => ?_)
                · skip
                  have c_81 := c_81
                  refine lv_aload_n xx xb dX2_pullMost_97 rfl (lv_at hl 0 rfl) ?_
                  refine lv_iload xx xb dX2_pullMost_98 (lv_at hl 5 rfl) ?_
                  have hM := kX2_pullsSet l G h0 a1 a2 a3 a4 a5 a6 a7 a8 im lm rm pl sd R Y s1 (by first | assumption | omega) (by first | assumption | omega)
                  refine cv_i C hw hM yvX2_pullsSet ml_X2_151 0 rfl rfl rfl [0, 1, 2] rfl rfl (fun _ => (rfl : ([h0, a1, a2] : List Nat) = [h0, a1, a2])) (by decide) ⟨Nat.zero_le _, Nat.zero_le _⟩ hl.1 rfl (Nat.le_of_ble_eq_true rfl) dX2_pullMost_100 (fun r u H locs hr hw => ?_)
                  obtain ⟨u1, hu1⟩ : ∃ z, z = u := ⟨_, rfl⟩
                  subst hu1
                  have hw : Wd G (fA [(h0, .inr (2, [.ref a1, .ref a2, .ref a3, .ref a4, .int (nI im), .ref a5, .ref a6, .ref a7, .int (nI lm), .int (nI rm), .int (nI pl), .ref a8, .int sd])), (a1, aI G 54 (fl R)), (a2, aI G 54 (fl Rm)), (a7, aI G 7 (cN rf))]) s [(h0, .inr (2, [.ref a1, .ref a2, .ref a3, .ref a4, .int (nI im), .ref a5, .ref a6, .ref a7, .int (nI lm), .int (nI rm), .int (nI pl), .ref a8, .int sd])), (a1, aI G 54 (fl R)), (a2, aI G 54 (fl u1)), (a7, aI G 7 (cN rf))] H locs := hw
                  obtain ⟨hr, hq1⟩ := hr
                  subst hr
                  refine lv_if_ne (tgt := 109) xx xb dX2_pullMost_103 (by decide) (fun c_103 => ?_) (fun c_103 => ?_)
                  · skip
                    have c_103 := b1_c c_103
                    have hue := hq1 c_103
                    subst hue
                    have hw : Wd G (fA [(h0, .inr (2, [.ref a1, .ref a2, .ref a3, .ref a4, .int (nI im), .ref a5, .ref a6, .ref a7, .int (nI lm), .int (nI rm), .int (nI pl), .ref a8, .int sd])), (a1, aI G 54 (fl R)), (a2, aI G 54 (fl Rm)), (a7, aI G 7 (cN rf))]) s [(h0, .inr (2, [.ref a1, .ref a2, .ref a3, .ref a4, .int (nI im), .ref a5, .ref a6, .ref a7, .int (nI lm), .int (nI rm), .int (nI pl), .ref a8, .int sd])), (a1, aI G 54 (fl R)), (a2, aI G 54 (fl (psR R s1 (R 0 0)))), (a7, aI G 7 (cN rf))] H locs := hw
                    have hPO := OK_psR hR s1 (R 0 0) (Nat.le_refl _)
                    have hPK := AK_psR hK s1 (R 0 0)
                    have hIO := OK_itF hPO nz.toNat
                    refine lv_aload_n xx xb dX2_pullMost_109 rfl (lv_at hl 0 rfl) ?_
                    refine m_get C hw 0 rfl fk_X2_13 rfl dX2_pullMost_110 ?_
                    refine lv_iload_n xx xb dX2_pullMost_113 rfl (lv_at hl 2 rfl) ?_
                    refine re_i (nI nz.toNat) (ofT h_n (by omega) (by omega)) ?_
                    have hM := kX2_minutesOn l G a2 (psR R s1 (R 0 0)) nz.toNat hPO hPK (by first | assumption | omega)
                    refine cs_v C hw hM ysX2_minutesOn ml_X2_115 rfl [2] rfl rfl (fun _ => (rfl : ([a2] : List Nat) = [a2])) (by decide) ⟨Nat.zero_le _, Nat.zero_le _⟩ hl.1 rfl (Nat.le_of_ble_eq_true rfl) dX2_pullMost_114 (fun _ H locs hr hw => ?_)
                    have hw : Wd G (fA [(h0, .inr (2, [.ref a1, .ref a2, .ref a3, .ref a4, .int (nI im), .ref a5, .ref a6, .ref a7, .int (nI lm), .int (nI rm), .int (nI pl), .ref a8, .int sd])), (a1, aI G 54 (fl R)), (a2, aI G 54 (fl Rm)), (a7, aI G 7 (cN rf))]) s [(h0, .inr (2, [.ref a1, .ref a2, .ref a3, .ref a4, .int (nI im), .ref a5, .ref a6, .ref a7, .int (nI lm), .int (nI rm), .int (nI pl), .ref a8, .int sd])), (a1, aI G 54 (fl R)), (a2, aI G 54 (fl (itF (psR R s1 (R 0 0)) nz.toNat))), (a7, aI G 7 (cN rf))] H locs := hw
                    refine lv_aload_n xx xb dX2_pullMost_117 rfl (lv_at hl 0 rfl) ?_
                    refine m_get C hw 0 rfl fk_X2_13 rfl dX2_pullMost_118 ?_
                    refine lv_iload_n xx xb dX2_pullMost_121 rfl (lv_at hl 1 rfl) ?_
                    refine re_i (nI xz.toNat) (ofT h_x (by omega) (by omega)) ?_
                    have hM := kX2_stands l G a2 (itF (psR R s1 (R 0 0)) nz.toNat) xz.toNat hIO (by rw [itF_00, psR_00]; omega)
                    refine cs_i C hw hM ysX2_stands ml_X2_55 rfl [2] rfl rfl (fun _ => (rfl : ([a2] : List Nat) = [a2])) (by decide) ⟨Nat.zero_le _, Nat.zero_le _⟩ hl.1 rfl (Nat.le_of_ble_eq_true rfl) dX2_pullMost_122 (fun r _ H locs hr hw => ?_)
                    have hw : Wd G (fA [(h0, .inr (2, [.ref a1, .ref a2, .ref a3, .ref a4, .int (nI im), .ref a5, .ref a6, .ref a7, .int (nI lm), .int (nI rm), .int (nI pl), .ref a8, .int sd])), (a1, aI G 54 (fl R)), (a2, aI G 54 (fl Rm)), (a7, aI G 7 (cN rf))]) s [(h0, .inr (2, [.ref a1, .ref a2, .ref a3, .ref a4, .int (nI im), .ref a5, .ref a6, .ref a7, .int (nI lm), .int (nI rm), .int (nI pl), .ref a8, .int sd])), (a1, aI G 54 (fl R)), (a2, aI G 54 (fl (itF (psR R s1 (R 0 0)) nz.toNat))), (a7, aI G 7 (cN rf))] H locs := hw
                    subst hr
                    refine lv_if_eq (tgt := 132) xx xb dX2_pullMost_125 (by decide) (fun c_125 => ?_) (fun c_125 => ?_)
                    · skip
                      have c_125 := b0_c c_125
                      have hq : ¬ (gdB R xz.toNat nz.toNat s1 = true ∧ (pmF R xz.toNat nz.toNat s1 = 1024 ∨ pc (pmF R xz.toNat nz.toNat s1) < pc s1)) := fun z => by first | exact (gd_1 z.1).1 c_76 | exact c_103 (gd_1 z.1).2.1 | exact c_125 (gd_1 z.1).2.2 | (rcases z.2 with z2 | z2 <;> omega)
                      have eF := pmF_n hq
                      have hl : lv_has ls 7 [(0, .ref h0), (1, .int x), (2, .int n), (3, .int ww), (5, .int (fdI (pmF R xz.toNat nz.toNat (s1 + 1)))), (6, .int (nI s1))] := by rw [eF]; exact hl
                      refine lv_iinc (v := nI (s1 + 1)) (lv' := [(6, .int (nI (s1 + 1))), (0, .ref h0), (1, .int x), (2, .int n), (3, .int ww), (5, .int (fdI (pmF R xz.toNat nz.toNat (s1 + 1))))]) xx xb dX2_pullMost_132 hl (k := 5) rfl (nI_add _ 1) (by decide) rfl (fun ls hl => ?_)
                      refine lv_goto (tgt := 57) xx xb dX2_pullMost_135 (by decide) ?_
                      exact ih_57 (s1 + 1) (itF (psR R s1 (R 0 0)) nz.toNat) H _ ls (by omega) (by omega) hw (lv_sub hl [1, 2, 3, 4, 5, 0] rfl)
                    · skip
                      have c_125 := b1_c c_125
                      refine lv_iload xx xb dX2_pullMost_128 (lv_at hl 5 rfl) ?_
                      refine lv_istore (lv' := [(5, .int (nI s1)), (0, .ref h0), (1, .int x), (2, .int n), (3, .int ww), (6, .int (nI s1))]) xx xb dX2_pullMost_130 hl (by decide) rfl (fun ls hl => ?_)
                      have hq : gdB R xz.toNat nz.toNat s1 = true ∧ (pmF R xz.toNat nz.toNat s1 = 1024 ∨ pc (pmF R xz.toNat nz.toNat s1) < pc s1) := ⟨gd_t c_76 c_103 c_125, by first | exact Or.inl (fdI_0 hfl c_81) | exact Or.inr (by omega)⟩
                      have eF := pmF_y hq
                      have hl : lv_has ls 7 [(5, .int (fdI (pmF R xz.toNat nz.toNat (s1 + 1)))), (0, .ref h0), (1, .int x), (2, .int n), (3, .int ww), (6, .int (nI s1))] := by rw [eF, fdI_y (by omega)]; exact hl
                      refine lv_iinc (v := nI (s1 + 1)) (lv' := [(6, .int (nI (s1 + 1))), (5, .int (fdI (pmF R xz.toNat nz.toNat (s1 + 1)))), (0, .ref h0), (1, .int x), (2, .int n), (3, .int ww)]) xx xb dX2_pullMost_132 hl (k := 5) rfl (nI_add _ 1) (by decide) rfl (fun ls hl => ?_)
                      refine lv_goto (tgt := 57) xx xb dX2_pullMost_135 (by decide) ?_
                      exact ih_57 (s1 + 1) (itF (psR R s1 (R 0 0)) nz.toNat) H _ ls (by omega) (by omega) hw (lv_sub hl [2, 3, 4, 5, 1, 0] rfl)
                  · skip
                    have c_103 := b0_c c_103
                    refine lv_goto (tgt := 132) xx xb dX2_pullMost_106 (by decide) ?_
                    have hq : ¬ (gdB R xz.toNat nz.toNat s1 = true ∧ (pmF R xz.toNat nz.toNat s1 = 1024 ∨ pc (pmF R xz.toNat nz.toNat s1) < pc s1)) := fun z => by first | exact (gd_1 z.1).1 c_76 | exact c_103 (gd_1 z.1).2.1 | exact c_125 (gd_1 z.1).2.2 | (rcases z.2 with z2 | z2 <;> omega)
                    have eF := pmF_n hq
                    have hl : lv_has ls 7 [(0, .ref h0), (1, .int x), (2, .int n), (3, .int ww), (5, .int (fdI (pmF R xz.toNat nz.toNat (s1 + 1)))), (6, .int (nI s1))] := by rw [eF]; exact hl
                    refine lv_iinc (v := nI (s1 + 1)) (lv' := [(6, .int (nI (s1 + 1))), (0, .ref h0), (1, .int x), (2, .int n), (3, .int ww), (5, .int (fdI (pmF R xz.toNat nz.toNat (s1 + 1))))]) xx xb dX2_pullMost_132 hl (k := 5) rfl (nI_add _ 1) (by decide) rfl (fun ls hl => ?_)
                    refine lv_goto (tgt := 57) xx xb dX2_pullMost_135 (by decide) ?_
                    exact ih_57 (s1 + 1) u1 H _ ls (by omega) (by omega) hw (lv_sub hl [1, 2, 3, 4, 5, 0] rfl)
                · skip
                  have c_81 := fdI_1 c_81
                  refine lv_iload xx xb dX2_pullMost_84 (lv_at hl 5 rfl) ?_
                  have hM := kX2_bits l G s1 (by first | assumption | omega)
                  refine cs_i C hw hM ysX2_bits ml_X2_67 rfl [] rfl rfl (fun _ => (rfl : ([] : List Nat) = [])) (by decide) ⟨Nat.zero_le _, Nat.zero_le _⟩ hl.1 rfl (Nat.le_of_ble_eq_true rfl) dX2_pullMost_86 (fun r _ H locs hr hw => ?_)
                  have hw : Wd G (fA [(h0, .inr (2, [.ref a1, .ref a2, .ref a3, .ref a4, .int (nI im), .ref a5, .ref a6, .ref a7, .int (nI lm), .int (nI rm), .int (nI pl), .ref a8, .int sd])), (a1, aI G 54 (fl R)), (a2, aI G 54 (fl Rm)), (a7, aI G 7 (cN rf))]) s [(h0, .inr (2, [.ref a1, .ref a2, .ref a3, .ref a4, .int (nI im), .ref a5, .ref a6, .ref a7, .int (nI lm), .int (nI rm), .int (nI pl), .ref a8, .int sd])), (a1, aI G 54 (fl R)), (a2, aI G 54 (fl Y)), (a7, aI G 7 (cN rf))] H locs := hw
                  subst hr
                  refine lv_iload xx xb dX2_pullMost_89 (lv_at hl 4 rfl) ?_
                  refine re_i (nI (pmF R xz.toNat nz.toNat s1)) (fdI_y c_81) ?_
                  have hM := kX2_bits l G (pmF R xz.toNat nz.toNat s1) (by first | assumption | omega)
                  refine cs_i C hw hM ysX2_bits ml_X2_67 rfl [] rfl rfl (fun _ => (rfl : ([] : List Nat) = [])) (by decide) ⟨Nat.zero_le _, Nat.zero_le _⟩ hl.1 rfl (Nat.le_of_ble_eq_true rfl) dX2_pullMost_91 (fun r _ H locs hr hw => ?_)
                  have hw : Wd G (fA [(h0, .inr (2, [.ref a1, .ref a2, .ref a3, .ref a4, .int (nI im), .ref a5, .ref a6, .ref a7, .int (nI lm), .int (nI rm), .int (nI pl), .ref a8, .int sd])), (a1, aI G 54 (fl R)), (a2, aI G 54 (fl Rm)), (a7, aI G 7 (cN rf))]) s [(h0, .inr (2, [.ref a1, .ref a2, .ref a3, .ref a4, .int (nI im), .ref a5, .ref a6, .ref a7, .int (nI lm), .int (nI rm), .int (nI pl), .ref a8, .int sd])), (a1, aI G 54 (fl R)), (a2, aI G 54 (fl Y)), (a7, aI G 7 (cN rf))] H locs := hw
                  subst hr
                  have hpa := pc_le s1
                  have hpb := pc_le (pmF R xz.toNat nz.toNat s1)
                  refine lv_icmp_le (tgt := 132) xx xb dX2_pullMost_94 (by decide) (fun c_94 => ?_) (fun c_94 => ?_)
                  · skip
                    have c_94 := le_c (tN (by omega)) (tN (by omega)) c_94
                    have hq : ¬ (gdB R xz.toNat nz.toNat s1 = true ∧ (pmF R xz.toNat nz.toNat s1 = 1024 ∨ pc (pmF R xz.toNat nz.toNat s1) < pc s1)) := fun z => by first | exact (gd_1 z.1).1 c_76 | exact c_103 (gd_1 z.1).2.1 | exact c_125 (gd_1 z.1).2.2 | (rcases z.2 with z2 | z2 <;> omega)
                    have eF := pmF_n hq
                    have hl : lv_has ls 7 [(0, .ref h0), (1, .int x), (2, .int n), (3, .int ww), (5, .int (fdI (pmF R xz.toNat nz.toNat (s1 + 1)))), (6, .int (nI s1))] := by rw [eF]; exact hl
                    refine lv_iinc (v := nI (s1 + 1)) (lv' := [(6, .int (nI (s1 + 1))), (0, .ref h0), (1, .int x), (2, .int n), (3, .int ww), (5, .int (fdI (pmF R xz.toNat nz.toNat (s1 + 1))))]) xx xb dX2_pullMost_132 hl (k := 5) rfl (nI_add _ 1) (by decide) rfl (fun ls hl => ?_)
                    refine lv_goto (tgt := 57) xx xb dX2_pullMost_135 (by decide) ?_
                    exact ih_57 (s1 + 1) Y H _ ls (by omega) (by omega) hw (lv_sub hl [1, 2, 3, 4, 5, 0] rfl)
                  · skip
                    have c_94 := nle_c (tN (by omega)) (tN (by omega)) c_94
                    refine lv_aload_n xx xb dX2_pullMost_97 rfl (lv_at hl 0 rfl) ?_
                    refine lv_iload xx xb dX2_pullMost_98 (lv_at hl 5 rfl) ?_
                    have hM := kX2_pullsSet l G h0 a1 a2 a3 a4 a5 a6 a7 a8 im lm rm pl sd R Y s1 (by first | assumption | omega) (by first | assumption | omega)
                    refine cv_i C hw hM yvX2_pullsSet ml_X2_151 0 rfl rfl rfl [0, 1, 2] rfl rfl (fun _ => (rfl : ([h0, a1, a2] : List Nat) = [h0, a1, a2])) (by decide) ⟨Nat.zero_le _, Nat.zero_le _⟩ hl.1 rfl (Nat.le_of_ble_eq_true rfl) dX2_pullMost_100 (fun r u H locs hr hw => ?_)
                    obtain ⟨u2, hu2⟩ : ∃ z, z = u := ⟨_, rfl⟩
                    subst hu2
                    have hw : Wd G (fA [(h0, .inr (2, [.ref a1, .ref a2, .ref a3, .ref a4, .int (nI im), .ref a5, .ref a6, .ref a7, .int (nI lm), .int (nI rm), .int (nI pl), .ref a8, .int sd])), (a1, aI G 54 (fl R)), (a2, aI G 54 (fl Rm)), (a7, aI G 7 (cN rf))]) s [(h0, .inr (2, [.ref a1, .ref a2, .ref a3, .ref a4, .int (nI im), .ref a5, .ref a6, .ref a7, .int (nI lm), .int (nI rm), .int (nI pl), .ref a8, .int sd])), (a1, aI G 54 (fl R)), (a2, aI G 54 (fl u2)), (a7, aI G 7 (cN rf))] H locs := hw
                    obtain ⟨hr, hq2⟩ := hr
                    subst hr
                    refine lv_if_ne (tgt := 109) xx xb dX2_pullMost_103 (by decide) (fun c_103 => ?_) (fun c_103 => ?_)
                    · skip
                      have c_103 := b1_c c_103
                      have hue := hq2 c_103
                      subst hue
                      have hw : Wd G (fA [(h0, .inr (2, [.ref a1, .ref a2, .ref a3, .ref a4, .int (nI im), .ref a5, .ref a6, .ref a7, .int (nI lm), .int (nI rm), .int (nI pl), .ref a8, .int sd])), (a1, aI G 54 (fl R)), (a2, aI G 54 (fl Rm)), (a7, aI G 7 (cN rf))]) s [(h0, .inr (2, [.ref a1, .ref a2, .ref a3, .ref a4, .int (nI im), .ref a5, .ref a6, .ref a7, .int (nI lm), .int (nI rm), .int (nI pl), .ref a8, .int sd])), (a1, aI G 54 (fl R)), (a2, aI G 54 (fl (psR R s1 (R 0 0)))), (a7, aI G 7 (cN rf))] H locs := hw
                      have hPO := OK_psR hR s1 (R 0 0) (Nat.le_refl _)
                      have hPK := AK_psR hK s1 (R 0 0)
                      have hIO := OK_itF hPO nz.toNat
                      refine lv_aload_n xx xb dX2_pullMost_109 rfl (lv_at hl 0 rfl) ?_
                      refine m_get C hw 0 rfl fk_X2_13 rfl dX2_pullMost_110 ?_
                      refine lv_iload_n xx xb dX2_pullMost_113 rfl (lv_at hl 2 rfl) ?_
                      refine re_i (nI nz.toNat) (ofT h_n (by omega) (by omega)) ?_
                      have hM := kX2_minutesOn l G a2 (psR R s1 (R 0 0)) nz.toNat hPO hPK (by first | assumption | omega)
                      refine cs_v C hw hM ysX2_minutesOn ml_X2_115 rfl [2] rfl rfl (fun _ => (rfl : ([a2] : List Nat) = [a2])) (by decide) ⟨Nat.zero_le _, Nat.zero_le _⟩ hl.1 rfl (Nat.le_of_ble_eq_true rfl) dX2_pullMost_114 (fun _ H locs hr hw => ?_)
                      have hw : Wd G (fA [(h0, .inr (2, [.ref a1, .ref a2, .ref a3, .ref a4, .int (nI im), .ref a5, .ref a6, .ref a7, .int (nI lm), .int (nI rm), .int (nI pl), .ref a8, .int sd])), (a1, aI G 54 (fl R)), (a2, aI G 54 (fl Rm)), (a7, aI G 7 (cN rf))]) s [(h0, .inr (2, [.ref a1, .ref a2, .ref a3, .ref a4, .int (nI im), .ref a5, .ref a6, .ref a7, .int (nI lm), .int (nI rm), .int (nI pl), .ref a8, .int sd])), (a1, aI G 54 (fl R)), (a2, aI G 54 (fl (itF (psR R s1 (R 0 0)) nz.toNat))), (a7, aI G 7 (cN rf))] H locs := hw
                      refine lv_aload_n xx xb dX2_pullMost_117 rfl (lv_at hl 0 rfl) ?_
                      refine m_get C hw 0 rfl fk_X2_13 rfl dX2_pullMost_118 ?_
                      refine lv_iload_n xx xb dX2_pullMost_121 rfl (lv_at hl 1 rfl) ?_
                      refine re_i (nI xz.toNat) (ofT h_x (by omega) (by omega)) ?_
                      have hM := kX2_stands l G a2 (itF (psR R s1 (R 0 0)) nz.toNat) xz.toNat hIO (by rw [itF_00, psR_00]; omega)
                      refine cs_i C hw hM ysX2_stands ml_X2_55 rfl [2] rfl rfl (fun _ => (rfl : ([a2] : List Nat) = [a2])) (by decide) ⟨Nat.zero_le _, Nat.zero_le _⟩ hl.1 rfl (Nat.le_of_ble_eq_true rfl) dX2_pullMost_122 (fun r _ H locs hr hw => ?_)
                      have hw : Wd G (fA [(h0, .inr (2, [.ref a1, .ref a2, .ref a3, .ref a4, .int (nI im), .ref a5, .ref a6, .ref a7, .int (nI lm), .int (nI rm), .int (nI pl), .ref a8, .int sd])), (a1, aI G 54 (fl R)), (a2, aI G 54 (fl Rm)), (a7, aI G 7 (cN rf))]) s [(h0, .inr (2, [.ref a1, .ref a2, .ref a3, .ref a4, .int (nI im), .ref a5, .ref a6, .ref a7, .int (nI lm), .int (nI rm), .int (nI pl), .ref a8, .int sd])), (a1, aI G 54 (fl R)), (a2, aI G 54 (fl (itF (psR R s1 (R 0 0)) nz.toNat))), (a7, aI G 7 (cN rf))] H locs := hw
                      subst hr
                      refine lv_if_eq (tgt := 132) xx xb dX2_pullMost_125 (by decide) (fun c_125 => ?_) (fun c_125 => ?_)
                      · skip
                        have c_125 := b0_c c_125
                        have hq : ¬ (gdB R xz.toNat nz.toNat s1 = true ∧ (pmF R xz.toNat nz.toNat s1 = 1024 ∨ pc (pmF R xz.toNat nz.toNat s1) < pc s1)) := fun z => by first | exact (gd_1 z.1).1 c_76 | exact c_103 (gd_1 z.1).2.1 | exact c_125 (gd_1 z.1).2.2 | (rcases z.2 with z2 | z2 <;> omega)
                        have eF := pmF_n hq
                        have hl : lv_has ls 7 [(0, .ref h0), (1, .int x), (2, .int n), (3, .int ww), (5, .int (fdI (pmF R xz.toNat nz.toNat (s1 + 1)))), (6, .int (nI s1))] := by rw [eF]; exact hl
                        refine lv_iinc (v := nI (s1 + 1)) (lv' := [(6, .int (nI (s1 + 1))), (0, .ref h0), (1, .int x), (2, .int n), (3, .int ww), (5, .int (fdI (pmF R xz.toNat nz.toNat (s1 + 1))))]) xx xb dX2_pullMost_132 hl (k := 5) rfl (nI_add _ 1) (by decide) rfl (fun ls hl => ?_)
                        refine lv_goto (tgt := 57) xx xb dX2_pullMost_135 (by decide) ?_
                        exact ih_57 (s1 + 1) (itF (psR R s1 (R 0 0)) nz.toNat) H _ ls (by omega) (by omega) hw (lv_sub hl [1, 2, 3, 4, 5, 0] rfl)
                      · skip
                        have c_125 := b1_c c_125
                        refine lv_iload xx xb dX2_pullMost_128 (lv_at hl 5 rfl) ?_
                        refine lv_istore (lv' := [(5, .int (nI s1)), (0, .ref h0), (1, .int x), (2, .int n), (3, .int ww), (6, .int (nI s1))]) xx xb dX2_pullMost_130 hl (by decide) rfl (fun ls hl => ?_)
                        have hq : gdB R xz.toNat nz.toNat s1 = true ∧ (pmF R xz.toNat nz.toNat s1 = 1024 ∨ pc (pmF R xz.toNat nz.toNat s1) < pc s1) := ⟨gd_t c_76 c_103 c_125, by first | exact Or.inl (fdI_0 hfl c_81) | exact Or.inr (by omega)⟩
                        have eF := pmF_y hq
                        have hl : lv_has ls 7 [(5, .int (fdI (pmF R xz.toNat nz.toNat (s1 + 1)))), (0, .ref h0), (1, .int x), (2, .int n), (3, .int ww), (6, .int (nI s1))] := by rw [eF, fdI_y (by omega)]; exact hl
                        refine lv_iinc (v := nI (s1 + 1)) (lv' := [(6, .int (nI (s1 + 1))), (5, .int (fdI (pmF R xz.toNat nz.toNat (s1 + 1)))), (0, .ref h0), (1, .int x), (2, .int n), (3, .int ww)]) xx xb dX2_pullMost_132 hl (k := 5) rfl (nI_add _ 1) (by decide) rfl (fun ls hl => ?_)
                        refine lv_goto (tgt := 57) xx xb dX2_pullMost_135 (by decide) ?_
                        exact ih_57 (s1 + 1) (itF (psR R s1 (R 0 0)) nz.toNat) H _ ls (by omega) (by omega) hw (lv_sub hl [2, 3, 4, 5, 1, 0] rfl)
                    · skip
                      have c_103 := b0_c c_103
                      refine lv_goto (tgt := 132) xx xb dX2_pullMost_106 (by decide) ?_
                      have hq : ¬ (gdB R xz.toNat nz.toNat s1 = true ∧ (pmF R xz.toNat nz.toNat s1 = 1024 ∨ pc (pmF R xz.toNat nz.toNat s1) < pc s1)) := fun z => by first | exact (gd_1 z.1).1 c_76 | exact c_103 (gd_1 z.1).2.1 | exact c_125 (gd_1 z.1).2.2 | (rcases z.2 with z2 | z2 <;> omega)
                      have eF := pmF_n hq
                      have hl : lv_has ls 7 [(0, .ref h0), (1, .int x), (2, .int n), (3, .int ww), (5, .int (fdI (pmF R xz.toNat nz.toNat (s1 + 1)))), (6, .int (nI s1))] := by rw [eF]; exact hl
                      refine lv_iinc (v := nI (s1 + 1)) (lv' := [(6, .int (nI (s1 + 1))), (0, .ref h0), (1, .int x), (2, .int n), (3, .int ww), (5, .int (fdI (pmF R xz.toNat nz.toNat (s1 + 1))))]) xx xb dX2_pullMost_132 hl (k := 5) rfl (nI_add _ 1) (by decide) rfl (fun ls hl => ?_)
                      refine lv_goto (tgt := 57) xx xb dX2_pullMost_135 (by decide) ?_
                      exact ih_57 (s1 + 1) u2 H _ ls (by omega) (by omega) hw (lv_sub hl [1, 2, 3, 4, 5, 0] rfl)
        exact L_57 (_ + 1) 0 Rm H _ ls (Nat.lt_succ_self _) (Nat.zero_le _) hw (lv_sub hl [3, 4, 5, 6, 1, 0] rfl)
      · skip
        have c_40 := g0_n c_40
        refine lv_aload_n xx xb dX2_pullMost_43 rfl (lv_at hl 1 rfl) ?_
        refine lv_iload xx xb dX2_pullMost_44 (lv_at hl 0 rfl) ?_
        have hM := kX2_no l G h0 a1 a2 a3 a4 a5 a6 a7 a8 im lm rm pl sd rf (wbN nz 30) (by omega)
        refine cv_i C hw hM yvX2_no ml_X2_36 0 rfl rfl rfl [0, 3] rfl rfl (fun _ => (rfl : ([h0, a7] : List Nat) = [h0, a7])) (by decide) ⟨Nat.zero_le _, Nat.zero_le _⟩ hl.1 rfl (Nat.le_of_ble_eq_true rfl) dX2_pullMost_46 (fun r _ H locs hr hw => ?_)
        have hw : Wd G (fA [(h0, .inr (2, [.ref a1, .ref a2, .ref a3, .ref a4, .int (nI im), .ref a5, .ref a6, .ref a7, .int (nI lm), .int (nI rm), .int (nI pl), .ref a8, .int sd])), (a1, aI G 54 (fl R)), (a2, aI G 54 (fl Rm)), (a7, aI G 7 (cN rf))]) s [(h0, .inr (2, [.ref a1, .ref a2, .ref a3, .ref a4, .int (nI im), .ref a5, .ref a6, .ref a7, .int (nI lm), .int (nI rm), .int (nI pl), .ref a8, .int sd])), (a1, aI G 54 (fl R)), (a2, aI G 54 (fl Rm)), (a7, aI G 7 (cN (upN rf (wbN nz 30) (rf (wbN nz 30) + 1))))] H locs := hw
        subst hr
        have hc : cPM R xz nz wwz = (wbN nz 30) := by unfold cPM; (repeat' split) <;> omega
        have hj : (wbN nz 30) ≠ 0 := by omega
        exact rt_i C hw Rm (by exact (anI_r hc hj _).symm) (by rw [rfU_r hc hj]) dX2_pullMost_49
    · skip
      have c_22 := g0_c (by omega) c_22
      refine lv_iload_n xx xb dX2_pullMost_25 rfl (lv_at hl 4 rfl) ?_
      refine lv_iconst (v := nI 0) xx xb dX2_pullMost_26 (by decide) ?_
      refine lv_iconst (v := nI 1) xx xb dX2_pullMost_27 (by decide) ?_
      have hM := kX2_isIn l G ww wwz (nI 0) 0 (nI 1) 1 h_ww (tN (by omega)) (tN (by omega))
      refine cs_i C hw hM ysX2_isIn ml_X2_40 rfl [] rfl rfl (fun _ => (rfl : ([] : List Nat) = [])) (by decide) ⟨Nat.zero_le _, Nat.zero_le _⟩ hl.1 rfl (Nat.le_of_ble_eq_true rfl) dX2_pullMost_28 (fun r _ H locs hr hw => ?_)
      have hw : Wd G (fA [(h0, .inr (2, [.ref a1, .ref a2, .ref a3, .ref a4, .int (nI im), .ref a5, .ref a6, .ref a7, .int (nI lm), .int (nI rm), .int (nI pl), .ref a8, .int sd])), (a1, aI G 54 (fl R)), (a2, aI G 54 (fl Rm)), (a7, aI G 7 (cN rf))]) s [(h0, .inr (2, [.ref a1, .ref a2, .ref a3, .ref a4, .int (nI im), .ref a5, .ref a6, .ref a7, .int (nI lm), .int (nI rm), .int (nI pl), .ref a8, .int sd])), (a1, aI G 54 (fl R)), (a2, aI G 54 (fl Rm)), (a7, aI G 7 (cN rf))] H locs := hw
      subst hr
      refine lv_if_ne (tgt := 38) xx xb dX2_pullMost_31 (by decide) (fun c_31 => ?_) (fun c_31 => ?_)
      · skip
        have c_31 := b1_c c_31
        refine lv_iload xx xb dX2_pullMost_38 (lv_at hl 0 rfl) ?_
        refine lv_if_eq (tgt := 50) xx xb dX2_pullMost_40 (by decide) (fun c_40 => ?_) (fun c_40 => ?_)
        · skip
          have c_40 := g0_c (by omega) c_40
          obtain ⟨g1, g2⟩ := wbN_0 (z := nz) (a := 30) (by omega)
          refine lv_bipush (v := (-9)) xx xb dX2_pullMost_50 (by decide) ?_
          refine lv_istore (lv' := [(5, .int (-9)), (4, .int (nG (wbN nz 30))), (0, .ref h0), (1, .int x), (2, .int n), (3, .int ww)]) xx xb dX2_pullMost_52 hl (by decide) rfl (fun ls hl => ?_)
          refine lv_iconst (v := nI 0) xx xb dX2_pullMost_54 (by decide) ?_
          refine lv_istore (lv' := [(6, .int (nI 0)), (5, .int (-9)), (4, .int (nG (wbN nz 30))), (0, .ref h0), (1, .int x), (2, .int n), (3, .int ww)]) xx xb dX2_pullMost_55 hl (by decide) rfl (fun ls hl => ?_)
          have hl : lv_has ls 7 [(6, .int (nI 0)), (5, .int (fdI (pmF R xz.toNat nz.toNat 0))), (4, .int (nG (wbN nz 30))), (0, .ref h0), (1, .int x), (2, .int n), (3, .int ww)] := hl
          have L_57 : ∀ (fu : Nat) (s1 : Nat) (Y : RT) (H : Heap) (locs : List Loc) (ls : Array Slot), 1024 - s1 < fu → (s1 ≤ 2 ^ R 0 0) → Wd G (fA [(h0, .inr (2, [.ref a1, .ref a2, .ref a3, .ref a4, .int (nI im), .ref a5, .ref a6, .ref a7, .int (nI lm), .int (nI rm), .int (nI pl), .ref a8, .int sd])), (a1, aI G 54 (fl R)), (a2, aI G 54 (fl Rm)), (a7, aI G 7 (cN rf))]) s [(h0, .inr (2, [.ref a1, .ref a2, .ref a3, .ref a4, .int (nI im), .ref a5, .ref a6, .ref a7, .int (nI lm), .int (nI rm), .int (nI pl), .ref a8, .int sd])), (a1, aI G 54 (fl R)), (a2, aI G 54 (fl Y)), (a7, aI G 7 (cN rf))] H locs → lv_has ls 7 [(0, .ref h0), (1, .int x), (2, .int n), (3, .int ww), (5, .int (fdI (pmF R xz.toNat nz.toNat s1))), (6, .int (nI s1))] → W p l e ({ frames := 5, cells := 0, slots := 0, locals := 114 }) s m (([.ref h0, .int x, .int n, .int ww] : List Value).toArray) below meth c H locs 0 0 (MQ below (QI G [(h0, .inr (2, [.ref a1, .ref a2, .ref a3, .ref a4, .int (nI im), .ref a5, .ref a6, .ref a7, .int (nI lm), .int (nI rm), .int (nI pl), .ref a8, .int sd])), (a1, aI G 54 (fl R)), (a2, aI G 54 (fl Rm)), (a7, aI G 7 (cN rf))] (fun (r : Int32) (u : RT) => r = anI (cPM R xz nz wwz) (vPM R xz.toNat nz.toNat wwz)) (fun u => [(h0, .inr (2, [.ref a1, .ref a2, .ref a3, .ref a4, .int (nI im), .ref a5, .ref a6, .ref a7, .int (nI lm), .int (nI rm), .int (nI pl), .ref a8, .int sd])), (a1, aI G 54 (fl R)), (a2, aI G 54 (fl u)), (a7, aI G 7 (cN (rfU rf (cPM R xz nz wwz))))])) (([.ref h0, .int x, .int n, .int ww] : List Value).toArray) s 0 0 (fA [(h0, .inr (2, [.ref a1, .ref a2, .ref a3, .ref a4, .int (nI im), .ref a5, .ref a6, .ref a7, .int (nI lm), .int (nI rm), .int (nI pl), .ref a8, .int sd])), (a1, aI G 54 (fl R)), (a2, aI G 54 (fl Rm)), (a7, aI G 7 (cN rf))])) (F0 m 57 ls []) := by
            intro fu
            induction fu with
            | zero => intro s1 Y H locs ls hfu; exact absurd hfu (Nat.not_lt_zero _)
            | succ fu ih_57 =>
              intro s1 Y H locs ls hfu hs1 hw hl
              refine lv_iload xx xb dX2_pullMost_57 (lv_at hl 5 rfl) ?_
              refine lv_iconst (v := nI 1) xx xb dX2_pullMost_59 (by decide) ?_
              refine lv_aload_n xx xb dX2_pullMost_60 rfl (lv_at hl 0 rfl) ?_
              refine m_get C hw 0 rfl fk_X2_9 rfl dX2_pullMost_61 ?_
              refine lv_iconst (v := nI 0) xx xb dX2_pullMost_64 (by decide) ?_
              refine m_ald C hw 1 rfl 0 rfl (by omega) (by decide) dX2_pullMost_65 ?_
              refine re_i (nI (R 0 0)) (fl_h R (by decide)) ?_
              refine lv_ishl xx xb dX2_pullMost_66 ?_
              refine re_i (nI (2 ^ (R 0 0))) (shl1 (by omega)) ?_
              refine lv_icmp_ge (tgt := 138) xx xb dX2_pullMost_67 (by decide) (fun c_67 => ?_) (fun c_67 => ?_)
              · skip
                have c_67 := le_c (tN (by omega)) (tN (by omega)) c_67
                have hse : 2 ^ R 0 0 = s1 := by omega
                have hfl := pmF_le R xz.toNat nz.toNat s1 (by omega)
                refine lv_iload xx xb dX2_pullMost_138 (lv_at hl 4 rfl) ?_
                refine lv_if_lt (tgt := 148) xx xb dX2_pullMost_140 (by decide) (fun c_140 => ?_) (fun c_140 => ?_)
                · skip
                  have c_140 := c_140
                  refine lv_iload xx xb dX2_pullMost_148 (lv_at hl 4 rfl) ?_
                  refine lv_goto (tgt := 158) xx xb dX2_pullMost_150 (by decide) ?_
                  refine re_i (vPM R xz.toNat nz.toNat wwz) (by unfold vPM; first | (rw [hse, if_pos (fdI_0 hfl c_140), fdI_0 hfl c_140]; rfl) | (rw [hse, if_neg (by omega), if_pos (by omega)]; exact fdI_y c_140) | (rw [hse, if_neg (by omega), if_neg (by omega)]; done)) ?_
                  have hc : cPM R xz nz wwz = 0 := by unfold cPM; (repeat' split) <;> omega
                  exact rt_i C hw Y (by exact (anI_0 hc _).symm) (by rw [rfU_0 hc]) dX2_pullMost_158
                · skip
                  have c_140 := fdI_1 c_140
                  refine lv_iload_n xx xb dX2_pullMost_143 rfl (lv_at hl 3 rfl) ?_
                  refine lv_iconst (v := nI 1) xx xb dX2_pullMost_144 (by decide) ?_
                  refine lv_icmp_ne (tgt := 153) xx xb dX2_pullMost_145 (by decide) (fun c_145 => ?_) (fun c_145 => ?_)
                  · skip
                    have c_145 := ne_c h_ww (tN (by omega)) c_145
                    refine lv_iload xx xb dX2_pullMost_153 (lv_at hl 4 rfl) ?_
                    refine re_i (nI (pmF R xz.toNat nz.toNat (2 ^ R 0 0))) (by rw [hse]; exact fdI_y c_140) ?_
                    have hpm : pmF R xz.toNat nz.toNat (2 ^ R 0 0) < 1024 := by rw [hse]; exact c_140
                    have hM := kX2_bits l G (pmF R xz.toNat nz.toNat (2 ^ R 0 0)) (by first | assumption | omega)
                    refine cs_i C hw hM ysX2_bits ml_X2_67 rfl [] rfl rfl (fun _ => (rfl : ([] : List Nat) = [])) (by decide) ⟨Nat.zero_le _, Nat.zero_le _⟩ hl.1 rfl (Nat.le_of_ble_eq_true rfl) dX2_pullMost_155 (fun r _ H locs hr hw => ?_)
                    have hw : Wd G (fA [(h0, .inr (2, [.ref a1, .ref a2, .ref a3, .ref a4, .int (nI im), .ref a5, .ref a6, .ref a7, .int (nI lm), .int (nI rm), .int (nI pl), .ref a8, .int sd])), (a1, aI G 54 (fl R)), (a2, aI G 54 (fl Rm)), (a7, aI G 7 (cN rf))]) s [(h0, .inr (2, [.ref a1, .ref a2, .ref a3, .ref a4, .int (nI im), .ref a5, .ref a6, .ref a7, .int (nI lm), .int (nI rm), .int (nI pl), .ref a8, .int sd])), (a1, aI G 54 (fl R)), (a2, aI G 54 (fl Y)), (a7, aI G 7 (cN rf))] H locs := hw
                    subst hr
                    refine re_i (vPM R xz.toNat nz.toNat wwz) (by unfold vPM; first | (rw [hse, if_pos (fdI_0 hfl c_140), fdI_0 hfl c_140]; rfl) | (rw [hse, if_neg (by omega), if_pos (by omega)]; exact fdI_y c_140) | (rw [hse, if_neg (by omega), if_neg (by omega)]; done)) ?_
                    have hc : cPM R xz nz wwz = 0 := by unfold cPM; (repeat' split) <;> omega
                    exact rt_i C hw Y (by exact (anI_0 hc _).symm) (by rw [rfU_0 hc]) dX2_pullMost_158
                  · skip
                    have c_145 := eq_c h_ww (tN (by omega)) c_145
                    refine lv_iload xx xb dX2_pullMost_148 (lv_at hl 4 rfl) ?_
                    refine lv_goto (tgt := 158) xx xb dX2_pullMost_150 (by decide) ?_
                    refine re_i (vPM R xz.toNat nz.toNat wwz) (by unfold vPM; first | (rw [hse, if_pos (fdI_0 hfl c_140), fdI_0 hfl c_140]; rfl) | (rw [hse, if_neg (by omega), if_pos (by omega)]; exact fdI_y c_140) | (rw [hse, if_neg (by omega), if_neg (by omega)]; done)) ?_
                    have hc : cPM R xz nz wwz = 0 := by unfold cPM; (repeat' split) <;> omega
                    exact rt_i C hw Y (by exact (anI_0 hc _).symm) (by rw [rfU_0 hc]) dX2_pullMost_158
              · skip
                have c_67 := nle_c (tN (by omega)) (tN (by omega)) c_67
                have hfl := pmF_le R xz.toNat nz.toNat s1 (by omega)
                refine lv_iload xx xb dX2_pullMost_70 (lv_at hl 5 rfl) ?_
                refine lv_iload_n xx xb dX2_pullMost_72 rfl (lv_at hl 1 rfl) ?_
                refine re_i (nI xz.toNat) (ofT h_x (by omega) (by omega)) ?_
                have hM := kX2_has l G s1 xz.toNat (by first | assumption | omega) (by first | assumption | omega)
                refine cs_i C hw hM ysX2_has ml_X2_51 rfl [] rfl rfl (fun _ => (rfl : ([] : List Nat) = [])) (by decide) ⟨Nat.zero_le _, Nat.zero_le _⟩ hl.1 rfl (Nat.le_of_ble_eq_true rfl) dX2_pullMost_73 (fun r _ H locs hr hw => ?_)
                have hw : Wd G (fA [(h0, .inr (2, [.ref a1, .ref a2, .ref a3, .ref a4, .int (nI im), .ref a5, .ref a6, .ref a7, .int (nI lm), .int (nI rm), .int (nI pl), .ref a8, .int sd])), (a1, aI G 54 (fl R)), (a2, aI G 54 (fl Rm)), (a7, aI G 7 (cN rf))]) s [(h0, .inr (2, [.ref a1, .ref a2, .ref a3, .ref a4, .int (nI im), .ref a5, .ref a6, .ref a7, .int (nI lm), .int (nI rm), .int (nI pl), .ref a8, .int sd])), (a1, aI G 54 (fl R)), (a2, aI G 54 (fl Y)), (a7, aI G 7 (cN rf))] H locs := hw
                subst hr
                refine lv_if_ne (tgt := 132) xx xb dX2_pullMost_76 (by decide) (fun c_76 => ?_) (fun c_76 => ?_)
                · skip
                  have c_76 := b1_c c_76
                  have hq : ¬ (gdB R xz.toNat nz.toNat s1 = true ∧ (pmF R xz.toNat nz.toNat s1 = 1024 ∨ pc (pmF R xz.toNat nz.toNat s1) < pc s1)) := fun z => by first | exact (gd_1 z.1).1 c_76 | exact c_103 (gd_1 z.1).2.1 | exact c_125 (gd_1 z.1).2.2 | (rcases z.2 with z2 | z2 <;> omega)
                  have eF := pmF_n hq
                  have hl : lv_has ls 7 [(0, .ref h0), (1, .int x), (2, .int n), (3, .int ww), (5, .int (fdI (pmF R xz.toNat nz.toNat (s1 + 1)))), (6, .int (nI s1))] := by rw [eF]; exact hl
                  refine lv_iinc (v := nI (s1 + 1)) (lv' := [(6, .int (nI (s1 + 1))), (0, .ref h0), (1, .int x), (2, .int n), (3, .int ww), (5, .int (fdI (pmF R xz.toNat nz.toNat (s1 + 1))))]) xx xb dX2_pullMost_132 hl (k := 5) rfl (nI_add _ 1) (by decide) rfl (fun ls hl => ?_)
                  refine lv_goto (tgt := 57) xx xb dX2_pullMost_135 (by decide) ?_
                  exact ih_57 (s1 + 1) Y H _ ls (by omega) (by omega) hw (lv_sub hl [1, 2, 3, 4, 5, 0] rfl)
                · skip
                  have c_76 := b0_c c_76
                  refine lv_iload xx xb dX2_pullMost_79 (lv_at hl 4 rfl) ?_
                  refine lv_if_lt (tgt := 97) xx xb dX2_pullMost_81 (by decide) (fun c_81 => ?_) (fun c_81 => ?_)
                  · skip
                    have c_81 := c_81
                    refine lv_aload_n xx xb dX2_pullMost_97 rfl (lv_at hl 0 rfl) ?_
                    refine lv_iload xx xb dX2_pullMost_98 (lv_at hl 5 rfl) ?_
                    have hM := kX2_pullsSet l G h0 a1 a2 a3 a4 a5 a6 a7 a8 im lm rm pl sd R Y s1 (by first | assumption | omega) (by first | assumption | omega)
                    refine cv_i C hw hM yvX2_pullsSet ml_X2_151 0 rfl rfl rfl [0, 1, 2] rfl rfl (fun _ => (rfl : ([h0, a1, a2] : List Nat) = [h0, a1, a2])) (by decide) ⟨Nat.zero_le _, Nat.zero_le _⟩ hl.1 rfl (Nat.le_of_ble_eq_true rfl) dX2_pullMost_100 (fun r u H locs hr hw => ?_)
                    obtain ⟨u3, hu3⟩ : ∃ z, z = u := ⟨_, rfl⟩
                    subst hu3
                    have hw : Wd G (fA [(h0, .inr (2, [.ref a1, .ref a2, .ref a3, .ref a4, .int (nI im), .ref a5, .ref a6, .ref a7, .int (nI lm), .int (nI rm), .int (nI pl), .ref a8, .int sd])), (a1, aI G 54 (fl R)), (a2, aI G 54 (fl Rm)), (a7, aI G 7 (cN rf))]) s [(h0, .inr (2, [.ref a1, .ref a2, .ref a3, .ref a4, .int (nI im), .ref a5, .ref a6, .ref a7, .int (nI lm), .int (nI rm), .int (nI pl), .ref a8, .int sd])), (a1, aI G 54 (fl R)), (a2, aI G 54 (fl u3)), (a7, aI G 7 (cN rf))] H locs := hw
                    obtain ⟨hr, hq3⟩ := hr
                    subst hr
                    refine lv_if_ne (tgt := 109) xx xb dX2_pullMost_103 (by decide) (fun c_103 => ?_) (fun c_103 => ?_)
                    · skip
                      have c_103 := b1_c c_103
                      have hue := hq3 c_103
                      subst hue
                      have hw : Wd G (fA [(h0, .inr (2, [.ref a1, .ref a2, .ref a3, .ref a4, .int (nI im), .ref a5, .ref a6, .ref a7, .int (nI lm), .int (nI rm), .int (nI pl), .ref a8, .int sd])), (a1, aI G 54 (fl R)), (a2, aI G 54 (fl Rm)), (a7, aI G 7 (cN rf))]) s [(h0, .inr (2, [.ref a1, .ref a2, .ref a3, .ref a4, .int (nI im), .ref a5, .ref a6, .ref a7, .int (nI lm), .int (nI rm), .int (nI pl), .ref a8, .int sd])), (a1, aI G 54 (fl R)), (a2, aI G 54 (fl (psR R s1 (R 0 0)))), (a7, aI G 7 (cN rf))] H locs := hw
                      have hPO := OK_psR hR s1 (R 0 0) (Nat.le_refl _)
                      have hPK := AK_psR hK s1 (R 0 0)
                      have hIO := OK_itF hPO nz.toNat
                      refine lv_aload_n xx xb dX2_pullMost_109 rfl (lv_at hl 0 rfl) ?_
                      refine m_get C hw 0 rfl fk_X2_13 rfl dX2_pullMost_110 ?_
                      refine lv_iload_n xx xb dX2_pullMost_113 rfl (lv_at hl 2 rfl) ?_
                      refine re_i (nI nz.toNat) (ofT h_n (by omega) (by omega)) ?_
                      have hM := kX2_minutesOn l G a2 (psR R s1 (R 0 0)) nz.toNat hPO hPK (by first | assumption | omega)
                      refine cs_v C hw hM ysX2_minutesOn ml_X2_115 rfl [2] rfl rfl (fun _ => (rfl : ([a2] : List Nat) = [a2])) (by decide) ⟨Nat.zero_le _, Nat.zero_le _⟩ hl.1 rfl (Nat.le_of_ble_eq_true rfl) dX2_pullMost_114 (fun _ H locs hr hw => ?_)
                      have hw : Wd G (fA [(h0, .inr (2, [.ref a1, .ref a2, .ref a3, .ref a4, .int (nI im), .ref a5, .ref a6, .ref a7, .int (nI lm), .int (nI rm), .int (nI pl), .ref a8, .int sd])), (a1, aI G 54 (fl R)), (a2, aI G 54 (fl Rm)), (a7, aI G 7 (cN rf))]) s [(h0, .inr (2, [.ref a1, .ref a2, .ref a3, .ref a4, .int (nI im), .ref a5, .ref a6, .ref a7, .int (nI lm), .int (nI rm), .int (nI pl), .ref a8, .int sd])), (a1, aI G 54 (fl R)), (a2, aI G 54 (fl (itF (psR R s1 (R 0 0)) nz.toNat))), (a7, aI G 7 (cN rf))] H locs := hw
                      refine lv_aload_n xx xb dX2_pullMost_117 rfl (lv_at hl 0 rfl) ?_
                      refine m_get C hw 0 rfl fk_X2_13 rfl dX2_pullMost_118 ?_
                      refine lv_iload_n xx xb dX2_pullMost_121 rfl (lv_at hl 1 rfl) ?_
                      refine re_i (nI xz.toNat) (ofT h_x (by omega) (by omega)) ?_
                      have hM := kX2_stands l G a2 (itF (psR R s1 (R 0 0)) nz.toNat) xz.toNat hIO (by rw [itF_00, psR_00]; omega)
                      refine cs_i C hw hM ysX2_stands ml_X2_55 rfl [2] rfl rfl (fun _ => (rfl : ([a2] : List Nat) = [a2])) (by decide) ⟨Nat.zero_le _, Nat.zero_le _⟩ hl.1 rfl (Nat.le_of_ble_eq_true rfl) dX2_pullMost_122 (fun r _ H locs hr hw => ?_)
                      have hw : Wd G (fA [(h0, .inr (2, [.ref a1, .ref a2, .ref a3, .ref a4, .int (nI im), .ref a5, .ref a6, .ref a7, .int (nI lm), .int (nI rm), .int (nI pl), .ref a8, .int sd])), (a1, aI G 54 (fl R)), (a2, aI G 54 (fl Rm)), (a7, aI G 7 (cN rf))]) s [(h0, .inr (2, [.ref a1, .ref a2, .ref a3, .ref a4, .int (nI im), .ref a5, .ref a6, .ref a7, .int (nI lm), .int (nI rm), .int (nI pl), .ref a8, .int sd])), (a1, aI G 54 (fl R)), (a2, aI G 54 (fl (itF (psR R s1 (R 0 0)) nz.toNat))), (a7, aI G 7 (cN rf))] H locs := hw
                      subst hr
                      refine lv_if_eq (tgt := 132) xx xb dX2_pullMost_125 (by decide) (fun c_125 => ?_) (fun c_125 => ?_)
                      · skip
                        have c_125 := b0_c c_125
                        have hq : ¬ (gdB R xz.toNat nz.toNat s1 = true ∧ (pmF R xz.toNat nz.toNat s1 = 1024 ∨ pc (pmF R xz.toNat nz.toNat s1) < pc s1)) := fun z => by first | exact (gd_1 z.1).1 c_76 | exact c_103 (gd_1 z.1).2.1 | exact c_125 (gd_1 z.1).2.2 | (rcases z.2 with z2 | z2 <;> omega)
                        have eF := pmF_n hq
                        have hl : lv_has ls 7 [(0, .ref h0), (1, .int x), (2, .int n), (3, .int ww), (5, .int (fdI (pmF R xz.toNat nz.toNat (s1 + 1)))), (6, .int (nI s1))] := by rw [eF]; exact hl
                        refine lv_iinc (v := nI (s1 + 1)) (lv' := [(6, .int (nI (s1 + 1))), (0, .ref h0), (1, .int x), (2, .int n), (3, .int ww), (5, .int (fdI (pmF R xz.toNat nz.toNat (s1 + 1))))]) xx xb dX2_pullMost_132 hl (k := 5) rfl (nI_add _ 1) (by decide) rfl (fun ls hl => ?_)
                        refine lv_goto (tgt := 57) xx xb dX2_pullMost_135 (by decide) ?_
                        exact ih_57 (s1 + 1) (itF (psR R s1 (R 0 0)) nz.toNat) H _ ls (by omega) (by omega) hw (lv_sub hl [1, 2, 3, 4, 5, 0] rfl)
                      · skip
                        have c_125 := b1_c c_125
                        refine lv_iload xx xb dX2_pullMost_128 (lv_at hl 5 rfl) ?_
                        refine lv_istore (lv' := [(5, .int (nI s1)), (0, .ref h0), (1, .int x), (2, .int n), (3, .int ww), (6, .int (nI s1))]) xx xb dX2_pullMost_130 hl (by decide) rfl (fun ls hl => ?_)
                        have hq : gdB R xz.toNat nz.toNat s1 = true ∧ (pmF R xz.toNat nz.toNat s1 = 1024 ∨ pc (pmF R xz.toNat nz.toNat s1) < pc s1) := ⟨gd_t c_76 c_103 c_125, by first | exact Or.inl (fdI_0 hfl c_81) | exact Or.inr (by omega)⟩
                        have eF := pmF_y hq
                        have hl : lv_has ls 7 [(5, .int (fdI (pmF R xz.toNat nz.toNat (s1 + 1)))), (0, .ref h0), (1, .int x), (2, .int n), (3, .int ww), (6, .int (nI s1))] := by rw [eF, fdI_y (by omega)]; exact hl
                        refine lv_iinc (v := nI (s1 + 1)) (lv' := [(6, .int (nI (s1 + 1))), (5, .int (fdI (pmF R xz.toNat nz.toNat (s1 + 1)))), (0, .ref h0), (1, .int x), (2, .int n), (3, .int ww)]) xx xb dX2_pullMost_132 hl (k := 5) rfl (nI_add _ 1) (by decide) rfl (fun ls hl => ?_)
                        refine lv_goto (tgt := 57) xx xb dX2_pullMost_135 (by decide) ?_
                        exact ih_57 (s1 + 1) (itF (psR R s1 (R 0 0)) nz.toNat) H _ ls (by omega) (by omega) hw (lv_sub hl [2, 3, 4, 5, 1, 0] rfl)
                    · skip
                      have c_103 := b0_c c_103
                      refine lv_goto (tgt := 132) xx xb dX2_pullMost_106 (by decide) ?_
                      have hq : ¬ (gdB R xz.toNat nz.toNat s1 = true ∧ (pmF R xz.toNat nz.toNat s1 = 1024 ∨ pc (pmF R xz.toNat nz.toNat s1) < pc s1)) := fun z => by first | exact (gd_1 z.1).1 c_76 | exact c_103 (gd_1 z.1).2.1 | exact c_125 (gd_1 z.1).2.2 | (rcases z.2 with z2 | z2 <;> omega)
                      have eF := pmF_n hq
                      have hl : lv_has ls 7 [(0, .ref h0), (1, .int x), (2, .int n), (3, .int ww), (5, .int (fdI (pmF R xz.toNat nz.toNat (s1 + 1)))), (6, .int (nI s1))] := by rw [eF]; exact hl
                      refine lv_iinc (v := nI (s1 + 1)) (lv' := [(6, .int (nI (s1 + 1))), (0, .ref h0), (1, .int x), (2, .int n), (3, .int ww), (5, .int (fdI (pmF R xz.toNat nz.toNat (s1 + 1))))]) xx xb dX2_pullMost_132 hl (k := 5) rfl (nI_add _ 1) (by decide) rfl (fun ls hl => ?_)
                      refine lv_goto (tgt := 57) xx xb dX2_pullMost_135 (by decide) ?_
                      exact ih_57 (s1 + 1) u3 H _ ls (by omega) (by omega) hw (lv_sub hl [1, 2, 3, 4, 5, 0] rfl)
                  · skip
                    have c_81 := fdI_1 c_81
                    refine lv_iload xx xb dX2_pullMost_84 (lv_at hl 5 rfl) ?_
                    have hM := kX2_bits l G s1 (by first | assumption | omega)
                    refine cs_i C hw hM ysX2_bits ml_X2_67 rfl [] rfl rfl (fun _ => (rfl : ([] : List Nat) = [])) (by decide) ⟨Nat.zero_le _, Nat.zero_le _⟩ hl.1 rfl (Nat.le_of_ble_eq_true rfl) dX2_pullMost_86 (fun r _ H locs hr hw => ?_)
                    have hw : Wd G (fA [(h0, .inr (2, [.ref a1, .ref a2, .ref a3, .ref a4, .int (nI im), .ref a5, .ref a6, .ref a7, .int (nI lm), .int (nI rm), .int (nI pl), .ref a8, .int sd])), (a1, aI G 54 (fl R)), (a2, aI G 54 (fl Rm)), (a7, aI G 7 (cN rf))]) s [(h0, .inr (2, [.ref a1, .ref a2, .ref a3, .ref a4, .int (nI im), .ref a5, .ref a6, .ref a7, .int (nI lm), .int (nI rm), .int (nI pl), .ref a8, .int sd])), (a1, aI G 54 (fl R)), (a2, aI G 54 (fl Y)), (a7, aI G 7 (cN rf))] H locs := hw
                    subst hr
                    refine lv_iload xx xb dX2_pullMost_89 (lv_at hl 4 rfl) ?_
                    refine re_i (nI (pmF R xz.toNat nz.toNat s1)) (fdI_y c_81) ?_
                    have hM := kX2_bits l G (pmF R xz.toNat nz.toNat s1) (by first | assumption | omega)
                    refine cs_i C hw hM ysX2_bits ml_X2_67 rfl [] rfl rfl (fun _ => (rfl : ([] : List Nat) = [])) (by decide) ⟨Nat.zero_le _, Nat.zero_le _⟩ hl.1 rfl (Nat.le_of_ble_eq_true rfl) dX2_pullMost_91 (fun r _ H locs hr hw => ?_)
                    have hw : Wd G (fA [(h0, .inr (2, [.ref a1, .ref a2, .ref a3, .ref a4, .int (nI im), .ref a5, .ref a6, .ref a7, .int (nI lm), .int (nI rm), .int (nI pl), .ref a8, .int sd])), (a1, aI G 54 (fl R)), (a2, aI G 54 (fl Rm)), (a7, aI G 7 (cN rf))]) s [(h0, .inr (2, [.ref a1, .ref a2, .ref a3, .ref a4, .int (nI im), .ref a5, .ref a6, .ref a7, .int (nI lm), .int (nI rm), .int (nI pl), .ref a8, .int sd])), (a1, aI G 54 (fl R)), (a2, aI G 54 (fl Y)), (a7, aI G 7 (cN rf))] H locs := hw
                    subst hr
                    have hpa := pc_le s1
                    have hpb := pc_le (pmF R xz.toNat nz.toNat s1)
                    refine lv_icmp_le (tgt := 132) xx xb dX2_pullMost_94 (by decide) (fun c_94 => ?_) (fun c_94 => ?_)
                    · skip
                      have c_94 := le_c (tN (by omega)) (tN (by omega)) c_94
                      have hq : ¬ (gdB R xz.toNat nz.toNat s1 = true ∧ (pmF R xz.toNat nz.toNat s1 = 1024 ∨ pc (pmF R xz.toNat nz.toNat s1) < pc s1)) := fun z => by first | exact (gd_1 z.1).1 c_76 | exact c_103 (gd_1 z.1).2.1 | exact c_125 (gd_1 z.1).2.2 | (rcases z.2 with z2 | z2 <;> omega)
                      have eF := pmF_n hq
                      have hl : lv_has ls 7 [(0, .ref h0), (1, .int x), (2, .int n), (3, .int ww), (5, .int (fdI (pmF R xz.toNat nz.toNat (s1 + 1)))), (6, .int (nI s1))] := by rw [eF]; exact hl
                      refine lv_iinc (v := nI (s1 + 1)) (lv' := [(6, .int (nI (s1 + 1))), (0, .ref h0), (1, .int x), (2, .int n), (3, .int ww), (5, .int (fdI (pmF R xz.toNat nz.toNat (s1 + 1))))]) xx xb dX2_pullMost_132 hl (k := 5) rfl (nI_add _ 1) (by decide) rfl (fun ls hl => ?_)
                      refine lv_goto (tgt := 57) xx xb dX2_pullMost_135 (by decide) ?_
                      exact ih_57 (s1 + 1) Y H _ ls (by omega) (by omega) hw (lv_sub hl [1, 2, 3, 4, 5, 0] rfl)
                    · skip
                      have c_94 := nle_c (tN (by omega)) (tN (by omega)) c_94
                      refine lv_aload_n xx xb dX2_pullMost_97 rfl (lv_at hl 0 rfl) ?_
                      refine lv_iload xx xb dX2_pullMost_98 (lv_at hl 5 rfl) ?_
                      have hM := kX2_pullsSet l G h0 a1 a2 a3 a4 a5 a6 a7 a8 im lm rm pl sd R Y s1 (by first | assumption | omega) (by first | assumption | omega)
                      refine cv_i C hw hM yvX2_pullsSet ml_X2_151 0 rfl rfl rfl [0, 1, 2] rfl rfl (fun _ => (rfl : ([h0, a1, a2] : List Nat) = [h0, a1, a2])) (by decide) ⟨Nat.zero_le _, Nat.zero_le _⟩ hl.1 rfl (Nat.le_of_ble_eq_true rfl) dX2_pullMost_100 (fun r u H locs hr hw => ?_)
                      obtain ⟨u4, hu4⟩ : ∃ z, z = u := ⟨_, rfl⟩
                      subst hu4
                      have hw : Wd G (fA [(h0, .inr (2, [.ref a1, .ref a2, .ref a3, .ref a4, .int (nI im), .ref a5, .ref a6, .ref a7, .int (nI lm), .int (nI rm), .int (nI pl), .ref a8, .int sd])), (a1, aI G 54 (fl R)), (a2, aI G 54 (fl Rm)), (a7, aI G 7 (cN rf))]) s [(h0, .inr (2, [.ref a1, .ref a2, .ref a3, .ref a4, .int (nI im), .ref a5, .ref a6, .ref a7, .int (nI lm), .int (nI rm), .int (nI pl), .ref a8, .int sd])), (a1, aI G 54 (fl R)), (a2, aI G 54 (fl u4)), (a7, aI G 7 (cN rf))] H locs := hw
                      obtain ⟨hr, hq4⟩ := hr
                      subst hr
                      refine lv_if_ne (tgt := 109) xx xb dX2_pullMost_103 (by decide) (fun c_103 => ?_) (fun c_103 => ?_)
                      · skip
                        have c_103 := b1_c c_103
                        have hue := hq4 c_103
                        subst hue
                        have hw : Wd G (fA [(h0, .inr (2, [.ref a1, .ref a2, .ref a3, .ref a4, .int (nI im), .ref a5, .ref a6, .ref a7, .int (nI lm), .int (nI rm), .int (nI pl), .ref a8, .int sd])), (a1, aI G 54 (fl R)), (a2, aI G 54 (fl Rm)), (a7, aI G 7 (cN rf))]) s [(h0, .inr (2, [.ref a1, .ref a2, .ref a3, .ref a4, .int (nI im), .ref a5, .ref a6, .ref a7, .int (nI lm), .int (nI rm), .int (nI pl), .ref a8, .int sd])), (a1, aI G 54 (fl R)), (a2, aI G 54 (fl (psR R s1 (R 0 0)))), (a7, aI G 7 (cN rf))] H locs := hw
                        have hPO := OK_psR hR s1 (R 0 0) (Nat.le_refl _)
                        have hPK := AK_psR hK s1 (R 0 0)
                        have hIO := OK_itF hPO nz.toNat
                        refine lv_aload_n xx xb dX2_pullMost_109 rfl (lv_at hl 0 rfl) ?_
                        refine m_get C hw 0 rfl fk_X2_13 rfl dX2_pullMost_110 ?_
                        refine lv_iload_n xx xb dX2_pullMost_113 rfl (lv_at hl 2 rfl) ?_
                        refine re_i (nI nz.toNat) (ofT h_n (by omega) (by omega)) ?_
                        have hM := kX2_minutesOn l G a2 (psR R s1 (R 0 0)) nz.toNat hPO hPK (by first | assumption | omega)
                        refine cs_v C hw hM ysX2_minutesOn ml_X2_115 rfl [2] rfl rfl (fun _ => (rfl : ([a2] : List Nat) = [a2])) (by decide) ⟨Nat.zero_le _, Nat.zero_le _⟩ hl.1 rfl (Nat.le_of_ble_eq_true rfl) dX2_pullMost_114 (fun _ H locs hr hw => ?_)
                        have hw : Wd G (fA [(h0, .inr (2, [.ref a1, .ref a2, .ref a3, .ref a4, .int (nI im), .ref a5, .ref a6, .ref a7, .int (nI lm), .int (nI rm), .int (nI pl), .ref a8, .int sd])), (a1, aI G 54 (fl R)), (a2, aI G 54 (fl Rm)), (a7, aI G 7 (cN rf))]) s [(h0, .inr (2, [.ref a1, .ref a2, .ref a3, .ref a4, .int (nI im), .ref a5, .ref a6, .ref a7, .int (nI lm), .int (nI rm), .int (nI pl), .ref a8, .int sd])), (a1, aI G 54 (fl R)), (a2, aI G 54 (fl (itF (psR R s1 (R 0 0)) nz.toNat))), (a7, aI G 7 (cN rf))] H locs := hw
                        refine lv_aload_n xx xb dX2_pullMost_117 rfl (lv_at hl 0 rfl) ?_
                        refine m_get C hw 0 rfl fk_X2_13 rfl dX2_pullMost_118 ?_
                        refine lv_iload_n xx xb dX2_pullMost_121 rfl (lv_at hl 1 rfl) ?_
                        refine re_i (nI xz.toNat) (ofT h_x (by omega) (by omega)) ?_
                        have hM := kX2_stands l G a2 (itF (psR R s1 (R 0 0)) nz.toNat) xz.toNat hIO (by rw [itF_00, psR_00]; omega)
                        refine cs_i C hw hM ysX2_stands ml_X2_55 rfl [2] rfl rfl (fun _ => (rfl : ([a2] : List Nat) = [a2])) (by decide) ⟨Nat.zero_le _, Nat.zero_le _⟩ hl.1 rfl (Nat.le_of_ble_eq_true rfl) dX2_pullMost_122 (fun r _ H locs hr hw => ?_)
                        have hw : Wd G (fA [(h0, .inr (2, [.ref a1, .ref a2, .ref a3, .ref a4, .int (nI im), .ref a5, .ref a6, .ref a7, .int (nI lm), .int (nI rm), .int (nI pl), .ref a8, .int sd])), (a1, aI G 54 (fl R)), (a2, aI G 54 (fl Rm)), (a7, aI G 7 (cN rf))]) s [(h0, .inr (2, [.ref a1, .ref a2, .ref a3, .ref a4, .int (nI im), .ref a5, .ref a6, .ref a7, .int (nI lm), .int (nI rm), .int (nI pl), .ref a8, .int sd])), (a1, aI G 54 (fl R)), (a2, aI G 54 (fl (itF (psR R s1 (R 0 0)) nz.toNat))), (a7, aI G 7 (cN rf))] H locs := hw
                        subst hr
                        refine lv_if_eq (tgt := 132) xx xb dX2_pullMost_125 (by decide) (fun c_125 => ?_) (fun c_125 => ?_)
                        · skip
                          have c_125 := b0_c c_125
                          have hq : ¬ (gdB R xz.toNat nz.toNat s1 = true ∧ (pmF R xz.toNat nz.toNat s1 = 1024 ∨ pc (pmF R xz.toNat nz.toNat s1) < pc s1)) := fun z => by first | exact (gd_1 z.1).1 c_76 | exact c_103 (gd_1 z.1).2.1 | exact c_125 (gd_1 z.1).2.2 | (rcases z.2 with z2 | z2 <;> omega)
                          have eF := pmF_n hq
                          have hl : lv_has ls 7 [(0, .ref h0), (1, .int x), (2, .int n), (3, .int ww), (5, .int (fdI (pmF R xz.toNat nz.toNat (s1 + 1)))), (6, .int (nI s1))] := by rw [eF]; exact hl
                          refine lv_iinc (v := nI (s1 + 1)) (lv' := [(6, .int (nI (s1 + 1))), (0, .ref h0), (1, .int x), (2, .int n), (3, .int ww), (5, .int (fdI (pmF R xz.toNat nz.toNat (s1 + 1))))]) xx xb dX2_pullMost_132 hl (k := 5) rfl (nI_add _ 1) (by decide) rfl (fun ls hl => ?_)
                          refine lv_goto (tgt := 57) xx xb dX2_pullMost_135 (by decide) ?_
                          exact ih_57 (s1 + 1) (itF (psR R s1 (R 0 0)) nz.toNat) H _ ls (by omega) (by omega) hw (lv_sub hl [1, 2, 3, 4, 5, 0] rfl)
                        · skip
                          have c_125 := b1_c c_125
                          refine lv_iload xx xb dX2_pullMost_128 (lv_at hl 5 rfl) ?_
                          refine lv_istore (lv' := [(5, .int (nI s1)), (0, .ref h0), (1, .int x), (2, .int n), (3, .int ww), (6, .int (nI s1))]) xx xb dX2_pullMost_130 hl (by decide) rfl (fun ls hl => ?_)
                          have hq : gdB R xz.toNat nz.toNat s1 = true ∧ (pmF R xz.toNat nz.toNat s1 = 1024 ∨ pc (pmF R xz.toNat nz.toNat s1) < pc s1) := ⟨gd_t c_76 c_103 c_125, by first | exact Or.inl (fdI_0 hfl c_81) | exact Or.inr (by omega)⟩
                          have eF := pmF_y hq
                          have hl : lv_has ls 7 [(5, .int (fdI (pmF R xz.toNat nz.toNat (s1 + 1)))), (0, .ref h0), (1, .int x), (2, .int n), (3, .int ww), (6, .int (nI s1))] := by rw [eF, fdI_y (by omega)]; exact hl
                          refine lv_iinc (v := nI (s1 + 1)) (lv' := [(6, .int (nI (s1 + 1))), (5, .int (fdI (pmF R xz.toNat nz.toNat (s1 + 1)))), (0, .ref h0), (1, .int x), (2, .int n), (3, .int ww)]) xx xb dX2_pullMost_132 hl (k := 5) rfl (nI_add _ 1) (by decide) rfl (fun ls hl => ?_)
                          refine lv_goto (tgt := 57) xx xb dX2_pullMost_135 (by decide) ?_
                          exact ih_57 (s1 + 1) (itF (psR R s1 (R 0 0)) nz.toNat) H _ ls (by omega) (by omega) hw (lv_sub hl [2, 3, 4, 5, 1, 0] rfl)
                      · skip
                        have c_103 := b0_c c_103
                        refine lv_goto (tgt := 132) xx xb dX2_pullMost_106 (by decide) ?_
                        have hq : ¬ (gdB R xz.toNat nz.toNat s1 = true ∧ (pmF R xz.toNat nz.toNat s1 = 1024 ∨ pc (pmF R xz.toNat nz.toNat s1) < pc s1)) := fun z => by first | exact (gd_1 z.1).1 c_76 | exact c_103 (gd_1 z.1).2.1 | exact c_125 (gd_1 z.1).2.2 | (rcases z.2 with z2 | z2 <;> omega)
                        have eF := pmF_n hq
                        have hl : lv_has ls 7 [(0, .ref h0), (1, .int x), (2, .int n), (3, .int ww), (5, .int (fdI (pmF R xz.toNat nz.toNat (s1 + 1)))), (6, .int (nI s1))] := by rw [eF]; exact hl
                        refine lv_iinc (v := nI (s1 + 1)) (lv' := [(6, .int (nI (s1 + 1))), (0, .ref h0), (1, .int x), (2, .int n), (3, .int ww), (5, .int (fdI (pmF R xz.toNat nz.toNat (s1 + 1))))]) xx xb dX2_pullMost_132 hl (k := 5) rfl (nI_add _ 1) (by decide) rfl (fun ls hl => ?_)
                        refine lv_goto (tgt := 57) xx xb dX2_pullMost_135 (by decide) ?_
                        exact ih_57 (s1 + 1) u4 H _ ls (by omega) (by omega) hw (lv_sub hl [1, 2, 3, 4, 5, 0] rfl)
          exact L_57 (_ + 1) 0 Rm H _ ls (Nat.lt_succ_self _) (Nat.zero_le _) hw (lv_sub hl [3, 4, 5, 6, 1, 0] rfl)
        · skip
          have c_40 := g0_n c_40
          refine lv_aload_n xx xb dX2_pullMost_43 rfl (lv_at hl 1 rfl) ?_
          refine lv_iload xx xb dX2_pullMost_44 (lv_at hl 0 rfl) ?_
          have hM := kX2_no l G h0 a1 a2 a3 a4 a5 a6 a7 a8 im lm rm pl sd rf (wbN nz 30) (by omega)
          refine cv_i C hw hM yvX2_no ml_X2_36 0 rfl rfl rfl [0, 3] rfl rfl (fun _ => (rfl : ([h0, a7] : List Nat) = [h0, a7])) (by decide) ⟨Nat.zero_le _, Nat.zero_le _⟩ hl.1 rfl (Nat.le_of_ble_eq_true rfl) dX2_pullMost_46 (fun r _ H locs hr hw => ?_)
          have hw : Wd G (fA [(h0, .inr (2, [.ref a1, .ref a2, .ref a3, .ref a4, .int (nI im), .ref a5, .ref a6, .ref a7, .int (nI lm), .int (nI rm), .int (nI pl), .ref a8, .int sd])), (a1, aI G 54 (fl R)), (a2, aI G 54 (fl Rm)), (a7, aI G 7 (cN rf))]) s [(h0, .inr (2, [.ref a1, .ref a2, .ref a3, .ref a4, .int (nI im), .ref a5, .ref a6, .ref a7, .int (nI lm), .int (nI rm), .int (nI pl), .ref a8, .int sd])), (a1, aI G 54 (fl R)), (a2, aI G 54 (fl Rm)), (a7, aI G 7 (cN (upN rf (wbN nz 30) (rf (wbN nz 30) + 1))))] H locs := hw
          subst hr
          have hc : cPM R xz nz wwz = (wbN nz 30) := by unfold cPM; (repeat' split) <;> omega
          have hj : (wbN nz 30) ≠ 0 := by omega
          exact rt_i C hw Rm (by exact (anI_r hc hj _).symm) (by rw [rfU_r hc hj]) dX2_pullMost_49
      · skip
        have c_31 := b0_c c_31
        refine lv_bipush (v := (-2)) xx xb dX2_pullMost_34 (by decide) ?_
        refine lv_istore (lv' := [(4, .int (-2)), (0, .ref h0), (1, .int x), (2, .int n), (3, .int ww)]) xx xb dX2_pullMost_36 hl (by decide) rfl (fun ls hl => ?_)
        refine lv_iload xx xb dX2_pullMost_38 (lv_at hl 0 rfl) ?_
        refine lv_if_eq (tgt := 50) xx xb dX2_pullMost_40 (by decide) (fun c_40 => ?_) (fun c_40 => ?_)
        · skip
          exact absurd c_40 (by decide)
        · skip
          refine lv_aload_n xx xb dX2_pullMost_43 rfl (lv_at hl 1 rfl) ?_
          refine lv_iload xx xb dX2_pullMost_44 (lv_at hl 0 rfl) ?_
          have hM := kX2_no l G h0 a1 a2 a3 a4 a5 a6 a7 a8 im lm rm pl sd rf 2 (by omega)
          refine cv_i C hw hM yvX2_no ml_X2_36 0 rfl rfl rfl [0, 3] rfl rfl (fun _ => (rfl : ([h0, a7] : List Nat) = [h0, a7])) (by decide) ⟨Nat.zero_le _, Nat.zero_le _⟩ hl.1 rfl (Nat.le_of_ble_eq_true rfl) dX2_pullMost_46 (fun r _ H locs hr hw => ?_)
          have hw : Wd G (fA [(h0, .inr (2, [.ref a1, .ref a2, .ref a3, .ref a4, .int (nI im), .ref a5, .ref a6, .ref a7, .int (nI lm), .int (nI rm), .int (nI pl), .ref a8, .int sd])), (a1, aI G 54 (fl R)), (a2, aI G 54 (fl Rm)), (a7, aI G 7 (cN rf))]) s [(h0, .inr (2, [.ref a1, .ref a2, .ref a3, .ref a4, .int (nI im), .ref a5, .ref a6, .ref a7, .int (nI lm), .int (nI rm), .int (nI pl), .ref a8, .int sd])), (a1, aI G 54 (fl R)), (a2, aI G 54 (fl Rm)), (a7, aI G 7 (cN (upN rf 2 (rf 2 + 1))))] H locs := hw
          subst hr
          have hc : cPM R xz nz wwz = 2 := by unfold cPM; (repeat' split) <;> omega
          have hj : 2 ≠ 0 := by omega
          exact rt_i C hw Rm (by exact (anI_r hc hj _).symm) (by rw [rfU_r hc hj]) dX2_pullMost_49
set_option maxRecDepth 100000 in
set_option maxHeartbeats 4000000 in
theorem kX2_draught (l : Launch) (G : GT) (h0 : Nat) (a1 : Nat) (a2 : Nat) (a3 : Nat) (a4 : Nat) (a5 : Nat) (a6 : Nat) (a7 : Nat) (a8 : Nat) (im : Nat) (lm : Nat) (rm : Nat) (pl : Nat) (sd : Int32) (R : RT) (Rm : RT) (rf : Nat → Nat) (x : Int32) (xz : Int) (n : Int32) (nz : Int) (t : Int32) (tz : Int) (ww : Int32) (wwz : Int) (h_x : x.toInt = xz) (h_n : n.toInt = nz) (h_t : t.toInt = tz) (h_ww : ww.toInt = wwz) (hR : OK R) (hK : AK R) : Ct l yX2_draught cX2_draught 13 (some .long) 4 88 [.ref h0, .int x, .int n, .int t, .int ww] G [(h0, .inr (2, [.ref a1, .ref a2, .ref a3, .ref a4, .int (nI im), .ref a5, .ref a6, .ref a7, .int (nI lm), .int (nI rm), .int (nI pl), .ref a8, .int sd])), (a1, aI G 54 (fl R)), (a2, aI G 54 (fl Rm)), (a7, aI G 7 (cN rf))] (QL G [(h0, .inr (2, [.ref a1, .ref a2, .ref a3, .ref a4, .int (nI im), .ref a5, .ref a6, .ref a7, .int (nI lm), .int (nI rm), .int (nI pl), .ref a8, .int sd])), (a1, aI G 54 (fl R)), (a2, aI G 54 (fl Rm)), (a7, aI G 7 (cN rf))] (fun (r : Int64) (u : RT) => r = anL (cDr R xz nz tz wwz) (vDr R xz.toNat nz.toNat tz.toNat wwz.toNat)) (fun u => [(h0, .inr (2, [.ref a1, .ref a2, .ref a3, .ref a4, .int (nI im), .ref a5, .ref a6, .ref a7, .int (nI lm), .int (nI rm), .int (nI pl), .ref a8, .int sd])), (a1, aI G 54 (fl R)), (a2, aI G 54 (fl u)), (a7, aI G 7 (cN (rfU rf (cDr R xz nz tz wwz))))])) := by
  refine en (by decide +kernel) (Nat.le_of_ble_eq_true rfl) ?_
  intro p e s m below meth c ls H locs C hl hw
  have xx := C.1
  have xb := C.2.1
  have hw : Wd G (fA [(h0, .inr (2, [.ref a1, .ref a2, .ref a3, .ref a4, .int (nI im), .ref a5, .ref a6, .ref a7, .int (nI lm), .int (nI rm), .int (nI pl), .ref a8, .int sd])), (a1, aI G 54 (fl R)), (a2, aI G 54 (fl Rm)), (a7, aI G 7 (cN rf))]) s [(h0, .inr (2, [.ref a1, .ref a2, .ref a3, .ref a4, .int (nI im), .ref a5, .ref a6, .ref a7, .int (nI lm), .int (nI rm), .int (nI pl), .ref a8, .int sd])), (a1, aI G 54 (fl R)), (a2, aI G 54 (fl Rm)), (a7, aI G 7 (cN rf))] H locs := hw
  have hl : lv_has ls 13 [(0, .ref h0), (1, .int x), (2, .int n), (3, .int t), (4, .int ww)] := hl
  obtain ⟨hn, hf0, hpr, hA⟩ := id hR
  refine lv_aload_n xx xb dX2_draught_0 rfl (lv_at hl 0 rfl) ?_
  refine lv_iload_n xx xb dX2_draught_1 rfl (lv_at hl 1 rfl) ?_
  have hM := kX2_isThing l G h0 a1 a2 a3 a4 a5 a6 a7 a8 im lm rm pl sd R x xz h_x (by first | assumption | omega)
  refine cv_i C hw hM yvX2_isThing ml_X2_105 0 rfl rfl rfl [0, 1] rfl rfl (fun _ => (rfl : ([h0, a1] : List Nat) = [h0, a1])) (by decide) ⟨Nat.zero_le _, Nat.zero_le _⟩ hl.1 rfl (Nat.le_of_ble_eq_true rfl) dX2_draught_2 (fun r _ H locs hr hw => ?_)
  have hw : Wd G (fA [(h0, .inr (2, [.ref a1, .ref a2, .ref a3, .ref a4, .int (nI im), .ref a5, .ref a6, .ref a7, .int (nI lm), .int (nI rm), .int (nI pl), .ref a8, .int sd])), (a1, aI G 54 (fl R)), (a2, aI G 54 (fl Rm)), (a7, aI G 7 (cN rf))]) s [(h0, .inr (2, [.ref a1, .ref a2, .ref a3, .ref a4, .int (nI im), .ref a5, .ref a6, .ref a7, .int (nI lm), .int (nI rm), .int (nI pl), .ref a8, .int sd])), (a1, aI G 54 (fl R)), (a2, aI G 54 (fl Rm)), (a7, aI G 7 (cN rf))] H locs := hw
  subst hr
  refine lv_if_ne (tgt := 14) xx xb dX2_draught_5 (by decide) (fun c_5 => ?_) (fun c_5 => ?_)
  · skip
    have c_5 := b1_c c_5
    refine lv_iload_n xx xb dX2_draught_14 rfl (lv_at hl 2 rfl) ?_
    refine lv_if_lt (tgt := 23) xx xb dX2_draught_15 (by decide) (fun c_15 => ?_) (fun c_15 => ?_)
    · skip
      have c_15 := lt_c h_n Int32.toInt_zero c_15
      refine lv_aload_n xx xb dX2_draught_23 rfl (lv_at hl 0 rfl) ?_
      refine lv_bipush (v := (-4)) xx xb dX2_draught_24 (by decide) ?_
      have hM := kX2_noWide l G h0 a1 a2 a3 a4 a5 a6 a7 a8 im lm rm pl sd rf 4 (by first | assumption | omega)
      refine cv_l C hw hM yvX2_noWide ml_X2_169 0 rfl rfl rfl [0, 3] rfl rfl (fun _ => (rfl : ([h0, a7] : List Nat) = [h0, a7])) (by decide) ⟨Nat.zero_le _, Nat.zero_le _⟩ hl.1 rfl (Nat.le_of_ble_eq_true rfl) dX2_draught_26 (fun r _ H locs hr hw => ?_)
      have hw : Wd G (fA [(h0, .inr (2, [.ref a1, .ref a2, .ref a3, .ref a4, .int (nI im), .ref a5, .ref a6, .ref a7, .int (nI lm), .int (nI rm), .int (nI pl), .ref a8, .int sd])), (a1, aI G 54 (fl R)), (a2, aI G 54 (fl Rm)), (a7, aI G 7 (cN rf))]) s [(h0, .inr (2, [.ref a1, .ref a2, .ref a3, .ref a4, .int (nI im), .ref a5, .ref a6, .ref a7, .int (nI lm), .int (nI rm), .int (nI pl), .ref a8, .int sd])), (a1, aI G 54 (fl R)), (a2, aI G 54 (fl Rm)), (a7, aI G 7 (cN (upN rf 4 (rf 4 + 1))))] H locs := hw
      subst hr
      exact rt_l C hw Rm ((anL_r (c := cDr R xz nz tz wwz) (by unfold cDr; (repeat' split) <;> omega) (show 4 ≠ 0 by omega) _).symm) (by rw [rfU_r (c := cDr R xz nz tz wwz) (by unfold cDr; (repeat' split) <;> omega) (show 4 ≠ 0 by omega)]) dX2_draught_29
    · skip
      have c_15 := nlt_c h_n Int32.toInt_zero c_15
      refine lv_iload_n xx xb dX2_draught_18 rfl (lv_at hl 3 rfl) ?_
      refine lv_iconst (v := nI 2) xx xb dX2_draught_19 (by decide) ?_
      refine lv_icmp_ge (tgt := 30) xx xb dX2_draught_20 (by decide) (fun c_20 => ?_) (fun c_20 => ?_)
      · skip
        have c_20 := le_c (tN (by omega)) h_t c_20
        refine lv_iload_n xx xb dX2_draught_30 rfl (lv_at hl 2 rfl) ?_
        refine lv_bipush (v := nI 7) xx xb dX2_draught_31 (by decide) ?_
        refine lv_icmp_gt (tgt := 42) xx xb dX2_draught_33 (by decide) (fun c_33 => ?_) (fun c_33 => ?_)
        · skip
          have c_33 := lt_c (tN (by omega)) h_n c_33
          refine lv_aload_n xx xb dX2_draught_42 rfl (lv_at hl 0 rfl) ?_
          refine lv_bipush (v := (-6)) xx xb dX2_draught_43 (by decide) ?_
          have hM := kX2_noWide l G h0 a1 a2 a3 a4 a5 a6 a7 a8 im lm rm pl sd rf 6 (by first | assumption | omega)
          refine cv_l C hw hM yvX2_noWide ml_X2_169 0 rfl rfl rfl [0, 3] rfl rfl (fun _ => (rfl : ([h0, a7] : List Nat) = [h0, a7])) (by decide) ⟨Nat.zero_le _, Nat.zero_le _⟩ hl.1 rfl (Nat.le_of_ble_eq_true rfl) dX2_draught_45 (fun r _ H locs hr hw => ?_)
          have hw : Wd G (fA [(h0, .inr (2, [.ref a1, .ref a2, .ref a3, .ref a4, .int (nI im), .ref a5, .ref a6, .ref a7, .int (nI lm), .int (nI rm), .int (nI pl), .ref a8, .int sd])), (a1, aI G 54 (fl R)), (a2, aI G 54 (fl Rm)), (a7, aI G 7 (cN rf))]) s [(h0, .inr (2, [.ref a1, .ref a2, .ref a3, .ref a4, .int (nI im), .ref a5, .ref a6, .ref a7, .int (nI lm), .int (nI rm), .int (nI pl), .ref a8, .int sd])), (a1, aI G 54 (fl R)), (a2, aI G 54 (fl Rm)), (a7, aI G 7 (cN (upN rf 6 (rf 6 + 1))))] H locs := hw
          subst hr
          exact rt_l C hw Rm ((anL_r (c := cDr R xz nz tz wwz) (by unfold cDr; (repeat' split) <;> omega) (show 6 ≠ 0 by omega) _).symm) (by rw [rfU_r (c := cDr R xz nz tz wwz) (by unfold cDr; (repeat' split) <;> omega) (show 6 ≠ 0 by omega)]) dX2_draught_48
        · skip
          have c_33 := nlt_c (tN (by omega)) h_n c_33
          refine lv_iload_n xx xb dX2_draught_36 rfl (lv_at hl 3 rfl) ?_
          refine lv_bipush (v := nI 20) xx xb dX2_draught_37 (by decide) ?_
          refine lv_icmp_le (tgt := 49) xx xb dX2_draught_39 (by decide) (fun c_39 => ?_) (fun c_39 => ?_)
          · skip
            have c_39 := le_c h_t (tN (by omega)) c_39
            refine lv_iload xx xb dX2_draught_49 (lv_at hl 4 rfl) ?_
            refine lv_iconst (v := nI 0) xx xb dX2_draught_51 (by decide) ?_
            refine lv_iconst (v := nI 1) xx xb dX2_draught_52 (by decide) ?_
            have hM := kX2_isIn l G ww wwz (nI 0) 0 (nI 1) 1 h_ww (tN (by omega)) (tN (by omega))
            refine cs_i C hw hM ysX2_isIn ml_X2_40 rfl [] rfl rfl (fun _ => (rfl : ([] : List Nat) = [])) (by decide) ⟨Nat.zero_le _, Nat.zero_le _⟩ hl.1 rfl (Nat.le_of_ble_eq_true rfl) dX2_draught_53 (fun r _ H locs hr hw => ?_)
            have hw : Wd G (fA [(h0, .inr (2, [.ref a1, .ref a2, .ref a3, .ref a4, .int (nI im), .ref a5, .ref a6, .ref a7, .int (nI lm), .int (nI rm), .int (nI pl), .ref a8, .int sd])), (a1, aI G 54 (fl R)), (a2, aI G 54 (fl Rm)), (a7, aI G 7 (cN rf))]) s [(h0, .inr (2, [.ref a1, .ref a2, .ref a3, .ref a4, .int (nI im), .ref a5, .ref a6, .ref a7, .int (nI lm), .int (nI rm), .int (nI pl), .ref a8, .int sd])), (a1, aI G 54 (fl R)), (a2, aI G 54 (fl Rm)), (a7, aI G 7 (cN rf))] H locs := hw
            subst hr
            refine lv_if_ne (tgt := 66) xx xb dX2_draught_56 (by decide) (fun c_56 => ?_) (fun c_56 => ?_)
            · skip
              have c_56 := b1_c c_56
              have hn7 : nz.toNat ≤ 7 := by omega
              have ht20 : tz.toNat ≤ 20 := by omega
              have htp := tpow_le ht20 hn7
              have h2n : 2 ^ nz.toNat ≤ 2 ^ 7 := Nat.pow_le_pow_right (by decide) hn7
              refine lv_lconst (v := lN 0) xx xb dX2_draught_66 rfl ?_
              refine lv_lstore (lv' := [(5, .long (lN 0)), (0, .ref h0), (1, .int x), (2, .int n), (3, .int t), (4, .int ww)]) xx xb dX2_draught_67 hl (by decide) rfl (fun ls hl => ?_)
              refine lv_lconst (v := lN 1) xx xb dX2_draught_69 rfl ?_
              refine lv_lstore (lv' := [(7, .long (lN 1)), (5, .long (lN 0)), (0, .ref h0), (1, .int x), (2, .int n), (3, .int t), (4, .int ww)]) xx xb dX2_draught_70 hl (by decide) rfl (fun ls hl => ?_)
              refine lv_iconst (v := nI 0) xx xb dX2_draught_72 (by decide) ?_
              refine lv_istore (lv' := [(9, .int (nI 0)), (7, .long (lN 1)), (5, .long (lN 0)), (0, .ref h0), (1, .int x), (2, .int n), (3, .int t), (4, .int ww)]) xx xb dX2_draught_73 hl (by decide) rfl (fun ls hl => ?_)
              have hl : lv_has ls 13 [(9, .int (nI 0)), (7, .long (lN (tz.toNat ^ 0))), (5, .long (lN 0)), (0, .ref h0), (1, .int x), (2, .int n), (3, .int t), (4, .int ww)] := hl
              have L_75 : ∀ (fu : Nat) (i : Nat) (H : Heap) (locs : List Loc) (ls : Array Slot), nz.toNat - i < fu → ((i : Int) ≤ nz) → Wd G (fA [(h0, .inr (2, [.ref a1, .ref a2, .ref a3, .ref a4, .int (nI im), .ref a5, .ref a6, .ref a7, .int (nI lm), .int (nI rm), .int (nI pl), .ref a8, .int sd])), (a1, aI G 54 (fl R)), (a2, aI G 54 (fl Rm)), (a7, aI G 7 (cN rf))]) s [(h0, .inr (2, [.ref a1, .ref a2, .ref a3, .ref a4, .int (nI im), .ref a5, .ref a6, .ref a7, .int (nI lm), .int (nI rm), .int (nI pl), .ref a8, .int sd])), (a1, aI G 54 (fl R)), (a2, aI G 54 (fl Rm)), (a7, aI G 7 (cN rf))] H locs → lv_has ls 13 [(0, .ref h0), (1, .int x), (2, .int n), (3, .int t), (4, .int ww), (5, .long (lN 0)), (7, .long (lN (tz.toNat ^ i))), (9, .int (nI i))] → W p l e ({ frames := 4, cells := 0, slots := 0, locals := 88 }) s m (([.ref h0, .int x, .int n, .int t, .int ww] : List Value).toArray) below meth c H locs 0 0 (MQ below (QL G [(h0, .inr (2, [.ref a1, .ref a2, .ref a3, .ref a4, .int (nI im), .ref a5, .ref a6, .ref a7, .int (nI lm), .int (nI rm), .int (nI pl), .ref a8, .int sd])), (a1, aI G 54 (fl R)), (a2, aI G 54 (fl Rm)), (a7, aI G 7 (cN rf))] (fun (r : Int64) (u : RT) => r = anL (cDr R xz nz tz wwz) (vDr R xz.toNat nz.toNat tz.toNat wwz.toNat)) (fun u => [(h0, .inr (2, [.ref a1, .ref a2, .ref a3, .ref a4, .int (nI im), .ref a5, .ref a6, .ref a7, .int (nI lm), .int (nI rm), .int (nI pl), .ref a8, .int sd])), (a1, aI G 54 (fl R)), (a2, aI G 54 (fl u)), (a7, aI G 7 (cN (rfU rf (cDr R xz nz tz wwz))))])) (([.ref h0, .int x, .int n, .int t, .int ww] : List Value).toArray) s 0 0 (fA [(h0, .inr (2, [.ref a1, .ref a2, .ref a3, .ref a4, .int (nI im), .ref a5, .ref a6, .ref a7, .int (nI lm), .int (nI rm), .int (nI pl), .ref a8, .int sd])), (a1, aI G 54 (fl R)), (a2, aI G 54 (fl Rm)), (a7, aI G 7 (cN rf))])) (F0 m 75 ls []) := by
                intro fu
                induction fu with
                | zero => intro i H locs ls hfu; exact absurd hfu (Nat.not_lt_zero _)
                | succ fu ih_75 =>
                  intro i H locs ls hfu hi hw hl
                  have hip := tpow_le ht20 (show i ≤ 7 by omega)
                  refine lv_iload xx xb dX2_draught_75 (lv_at hl 7 rfl) ?_
                  refine lv_iload_n xx xb dX2_draught_77 rfl (lv_at hl 2 rfl) ?_
                  refine lv_icmp_ge (tgt := 94) xx xb dX2_draught_78 (by decide) (fun c_78 => ?_) (fun c_78 => ?_)
                  · skip
                    have c_78 := le_c h_n (tN (by omega)) c_78
                    have eP : tz.toNat ^ nz.toNat = tz.toNat ^ i := by rw [show nz.toNat = i by omega]
                    have hl : lv_has ls 13 [(0, .ref h0), (1, .int x), (2, .int n), (3, .int t), (4, .int ww), (5, .long (lN 0)), (7, .long (lN (tz.toNat ^ nz.toNat))), (9, .int (nI i))] := by rw [eP]; exact hl
                    refine lv_iconst (v := nI 0) xx xb dX2_draught_94 (by decide) ?_
                    refine lv_istore (lv' := [(9, .int (nI 0)), (0, .ref h0), (1, .int x), (2, .int n), (3, .int t), (4, .int ww), (5, .long (lN 0)), (7, .long (lN (tz.toNat ^ nz.toNat)))]) xx xb dX2_draught_95 hl (by decide) rfl (fun ls hl => ?_)
                    have hl : lv_has ls 13 [(9, .int (nI 0)), (0, .ref h0), (1, .int x), (2, .int n), (3, .int t), (4, .int ww), (5, .long (lN (drA R xz.toNat tz.toNat nz.toNat 0))), (7, .long (lN (tz.toNat ^ nz.toNat)))] := hl
                    have L_97 : ∀ (fu : Nat) (q : Nat) (Y : RT) (H : Heap) (locs : List Loc) (ls : Array Slot), 128 - q < fu → (q ≤ 2 ^ nz.toNat) → Wd G (fA [(h0, .inr (2, [.ref a1, .ref a2, .ref a3, .ref a4, .int (nI im), .ref a5, .ref a6, .ref a7, .int (nI lm), .int (nI rm), .int (nI pl), .ref a8, .int sd])), (a1, aI G 54 (fl R)), (a2, aI G 54 (fl Rm)), (a7, aI G 7 (cN rf))]) s [(h0, .inr (2, [.ref a1, .ref a2, .ref a3, .ref a4, .int (nI im), .ref a5, .ref a6, .ref a7, .int (nI lm), .int (nI rm), .int (nI pl), .ref a8, .int sd])), (a1, aI G 54 (fl R)), (a2, aI G 54 (fl Y)), (a7, aI G 7 (cN rf))] H locs → lv_has ls 13 [(0, .ref h0), (1, .int x), (2, .int n), (3, .int t), (4, .int ww), (5, .long (lN (drA R xz.toNat tz.toNat nz.toNat q))), (7, .long (lN (tz.toNat ^ nz.toNat))), (9, .int (nI q))] → W p l e ({ frames := 4, cells := 0, slots := 0, locals := 88 }) s m (([.ref h0, .int x, .int n, .int t, .int ww] : List Value).toArray) below meth c H locs 0 0 (MQ below (QL G [(h0, .inr (2, [.ref a1, .ref a2, .ref a3, .ref a4, .int (nI im), .ref a5, .ref a6, .ref a7, .int (nI lm), .int (nI rm), .int (nI pl), .ref a8, .int sd])), (a1, aI G 54 (fl R)), (a2, aI G 54 (fl Rm)), (a7, aI G 7 (cN rf))] (fun (r : Int64) (u : RT) => r = anL (cDr R xz nz tz wwz) (vDr R xz.toNat nz.toNat tz.toNat wwz.toNat)) (fun u => [(h0, .inr (2, [.ref a1, .ref a2, .ref a3, .ref a4, .int (nI im), .ref a5, .ref a6, .ref a7, .int (nI lm), .int (nI rm), .int (nI pl), .ref a8, .int sd])), (a1, aI G 54 (fl R)), (a2, aI G 54 (fl u)), (a7, aI G 7 (cN (rfU rf (cDr R xz nz tz wwz))))])) (([.ref h0, .int x, .int n, .int t, .int ww] : List Value).toArray) s 0 0 (fA [(h0, .inr (2, [.ref a1, .ref a2, .ref a3, .ref a4, .int (nI im), .ref a5, .ref a6, .ref a7, .int (nI lm), .int (nI rm), .int (nI pl), .ref a8, .int sd])), (a1, aI G 54 (fl R)), (a2, aI G 54 (fl Rm)), (a7, aI G 7 (cN rf))])) (F0 m 97 ls []) := by
                      intro fu
                      induction fu with
                      | zero => intro q Y H locs ls hfu; exact absurd hfu (Nat.not_lt_zero _)
                      | succ fu ih_97 =>
                        intro q Y H locs ls hfu hq hw hl
                        have hqa := drA_le R xz.toNat ht20 hn7 q
                        refine lv_iload xx xb dX2_draught_97 (lv_at hl 7 rfl) ?_
                        refine lv_iconst (v := nI 1) xx xb dX2_draught_99 (by decide) ?_
                        refine lv_iload_n xx xb dX2_draught_100 rfl (lv_at hl 2 rfl) ?_
                        refine re_i (nI nz.toNat) (ofT h_n (by omega) (by omega)) ?_
                        refine lv_ishl xx xb dX2_draught_101 ?_
                        refine re_i (nI (2 ^ nz.toNat)) (shl1 (by omega)) ?_
                        refine lv_icmp_ge (tgt := 199) xx xb dX2_draught_102 (by decide) (fun c_102 => ?_) (fun c_102 => ?_)
                        · skip
                          have c_102 := le_c (tN (by omega)) (tN (by omega)) c_102
                          have eA : drA R xz.toNat tz.toNat nz.toNat (2 ^ nz.toNat) = drA R xz.toNat tz.toNat nz.toNat q := by rw [show 2 ^ nz.toNat = q by omega]
                          have hl : lv_has ls 13 [(0, .ref h0), (1, .int x), (2, .int n), (3, .int t), (4, .int ww), (5, .long (lN (drA R xz.toNat tz.toNat nz.toNat (2 ^ nz.toNat)))), (7, .long (lN (tz.toNat ^ nz.toNat))), (9, .int (nI q))] := by rw [eA]; exact hl
                          have hal := drA_le R xz.toNat ht20 hn7 (2 ^ nz.toNat)
                          have htp0 : 0 < tz.toNat ^ nz.toNat := pw_pos (by omega) _
                          refine lv_lload xx xb dX2_draught_199 (lv_at hl 5 rfl) ?_
                          refine lv_lload xx xb dX2_draught_201 (lv_at hl 6 rfl) ?_
                          refine lv_iload xx xb dX2_draught_203 (lv_at hl 4 rfl) ?_
                          refine re_i (nI wwz.toNat) (ofT h_ww (by omega) (by omega)) ?_
                          have hM := kX2_partOf l G (drA R xz.toNat tz.toNat nz.toNat (2 ^ nz.toNat)) (tz.toNat ^ nz.toNat) wwz.toNat (by first | assumption | omega) (by first | assumption | omega) (by first | assumption | omega) (by first | assumption | omega)
                          refine cs_l C hw hM ysX2_partOf ml_X2_173 rfl [] rfl rfl (fun _ => (rfl : ([] : List Nat) = [])) (by decide) ⟨Nat.zero_le _, Nat.zero_le _⟩ hl.1 rfl (Nat.le_of_ble_eq_true rfl) dX2_draught_205 (fun r _ H locs hr hw => ?_)
                          have hw : Wd G (fA [(h0, .inr (2, [.ref a1, .ref a2, .ref a3, .ref a4, .int (nI im), .ref a5, .ref a6, .ref a7, .int (nI lm), .int (nI rm), .int (nI pl), .ref a8, .int sd])), (a1, aI G 54 (fl R)), (a2, aI G 54 (fl Rm)), (a7, aI G 7 (cN rf))]) s [(h0, .inr (2, [.ref a1, .ref a2, .ref a3, .ref a4, .int (nI im), .ref a5, .ref a6, .ref a7, .int (nI lm), .int (nI rm), .int (nI pl), .ref a8, .int sd])), (a1, aI G 54 (fl R)), (a2, aI G 54 (fl Y)), (a7, aI G 7 (cN rf))] H locs := hw
                          subst hr
                          exact rt_l C hw Y ((anL_0 (c := cDr R xz nz tz wwz) (by unfold cDr; (repeat' split) <;> omega) _).symm) (by rw [rfU_0 (c := cDr R xz nz tz wwz) (by unfold cDr; (repeat' split) <;> omega)]) dX2_draught_208
                        · skip
                          have c_102 := nle_c (tN (by omega)) (tN (by omega)) c_102
                          refine lv_lconst (v := lN 1) xx xb dX2_draught_105 rfl ?_
                          refine lv_lstore (lv' := [(10, .long (lN 1)), (0, .ref h0), (1, .int x), (2, .int n), (3, .int t), (4, .int ww), (5, .long (lN (drA R xz.toNat tz.toNat nz.toNat q))), (7, .long (lN (tz.toNat ^ nz.toNat))), (9, .int (nI q))]) xx xb dX2_draught_106 hl (by decide) rfl (fun ls hl => ?_)
                          refine lv_aload_n xx xb dX2_draught_108 rfl (lv_at hl 1 rfl) ?_
                          refine m_get C hw 0 rfl fk_X2_9 rfl dX2_draught_109 ?_
                          refine lv_aload_n xx xb dX2_draught_112 rfl (lv_at hl 1 rfl) ?_
                          refine m_get C hw 0 rfl fk_X2_13 rfl dX2_draught_113 ?_
                          have hM := kX2_copies l G a1 a2 (fl R) (fl Y) 
                          refine cs_v C hw hM ysX2_copies ml_X2_121 rfl [1, 2] rfl rfl (fun _ => (rfl : ([a1, a2] : List Nat) = [a1, a2])) (by decide) ⟨Nat.zero_le _, Nat.zero_le _⟩ hl.1 rfl (Nat.le_of_ble_eq_true rfl) dX2_draught_116 (fun _ H locs hr hw => ?_)
                          have hw : Wd G (fA [(h0, .inr (2, [.ref a1, .ref a2, .ref a3, .ref a4, .int (nI im), .ref a5, .ref a6, .ref a7, .int (nI lm), .int (nI rm), .int (nI pl), .ref a8, .int sd])), (a1, aI G 54 (fl R)), (a2, aI G 54 (fl Rm)), (a7, aI G 7 (cN rf))]) s [(h0, .inr (2, [.ref a1, .ref a2, .ref a3, .ref a4, .int (nI im), .ref a5, .ref a6, .ref a7, .int (nI lm), .int (nI rm), .int (nI pl), .ref a8, .int sd])), (a1, aI G 54 (fl R)), (a2, aI G 54 (fl R)), (a7, aI G 7 (cN rf))] H locs := hw
                          refine lv_iconst (v := nI 0) xx xb dX2_draught_119 (by decide) ?_
                          refine lv_istore (lv' := [(12, .int (nI 0)), (10, .long (lN 1)), (0, .ref h0), (1, .int x), (2, .int n), (3, .int t), (4, .int ww), (5, .long (lN (drA R xz.toNat tz.toNat nz.toNat q))), (7, .long (lN (tz.toNat ^ nz.toNat))), (9, .int (nI q))]) xx xb dX2_draught_120 hl (by decide) rfl (fun ls hl => ?_)
                          have hl : lv_has ls 13 [(12, .int (nI 0)), (10, .long (lN (drQ tz.toNat q 0))), (0, .ref h0), (1, .int x), (2, .int n), (3, .int t), (4, .int ww), (5, .long (lN (drA R xz.toNat tz.toNat nz.toNat q))), (7, .long (lN (tz.toNat ^ nz.toNat))), (9, .int (nI q))] := hl
                          have hw : Wd G (fA [(h0, .inr (2, [.ref a1, .ref a2, .ref a3, .ref a4, .int (nI im), .ref a5, .ref a6, .ref a7, .int (nI lm), .int (nI rm), .int (nI pl), .ref a8, .int sd])), (a1, aI G 54 (fl R)), (a2, aI G 54 (fl Rm)), (a7, aI G 7 (cN rf))]) s [(h0, .inr (2, [.ref a1, .ref a2, .ref a3, .ref a4, .int (nI im), .ref a5, .ref a6, .ref a7, .int (nI lm), .int (nI rm), .int (nI pl), .ref a8, .int sd])), (a1, aI G 54 (fl R)), (a2, aI G 54 (fl (drF R q 0))), (a7, aI G 7 (cN rf))] H locs := hw
                          have L_122 : ∀ (fu : Nat) (i : Nat) (H : Heap) (locs : List Loc) (ls : Array Slot), nz.toNat - i < fu → ((i : Int) ≤ nz) → Wd G (fA [(h0, .inr (2, [.ref a1, .ref a2, .ref a3, .ref a4, .int (nI im), .ref a5, .ref a6, .ref a7, .int (nI lm), .int (nI rm), .int (nI pl), .ref a8, .int sd])), (a1, aI G 54 (fl R)), (a2, aI G 54 (fl Rm)), (a7, aI G 7 (cN rf))]) s [(h0, .inr (2, [.ref a1, .ref a2, .ref a3, .ref a4, .int (nI im), .ref a5, .ref a6, .ref a7, .int (nI lm), .int (nI rm), .int (nI pl), .ref a8, .int sd])), (a1, aI G 54 (fl R)), (a2, aI G 54 (fl (drF R q i))), (a7, aI G 7 (cN rf))] H locs → lv_has ls 13 [(0, .ref h0), (1, .int x), (2, .int n), (3, .int t), (4, .int ww), (5, .long (lN (drA R xz.toNat tz.toNat nz.toNat q))), (7, .long (lN (tz.toNat ^ nz.toNat))), (9, .int (nI q)), (10, .long (lN (drQ tz.toNat q i))), (12, .int (nI i))] → W p l e ({ frames := 4, cells := 0, slots := 0, locals := 88 }) s m (([.ref h0, .int x, .int n, .int t, .int ww] : List Value).toArray) below meth c H locs 0 0 (MQ below (QL G [(h0, .inr (2, [.ref a1, .ref a2, .ref a3, .ref a4, .int (nI im), .ref a5, .ref a6, .ref a7, .int (nI lm), .int (nI rm), .int (nI pl), .ref a8, .int sd])), (a1, aI G 54 (fl R)), (a2, aI G 54 (fl Rm)), (a7, aI G 7 (cN rf))] (fun (r : Int64) (u : RT) => r = anL (cDr R xz nz tz wwz) (vDr R xz.toNat nz.toNat tz.toNat wwz.toNat)) (fun u => [(h0, .inr (2, [.ref a1, .ref a2, .ref a3, .ref a4, .int (nI im), .ref a5, .ref a6, .ref a7, .int (nI lm), .int (nI rm), .int (nI pl), .ref a8, .int sd])), (a1, aI G 54 (fl R)), (a2, aI G 54 (fl u)), (a7, aI G 7 (cN (rfU rf (cDr R xz nz tz wwz))))])) (([.ref h0, .int x, .int n, .int t, .int ww] : List Value).toArray) s 0 0 (fA [(h0, .inr (2, [.ref a1, .ref a2, .ref a3, .ref a4, .int (nI im), .ref a5, .ref a6, .ref a7, .int (nI lm), .int (nI rm), .int (nI pl), .ref a8, .int sd])), (a1, aI G 54 (fl R)), (a2, aI G 54 (fl Rm)), (a7, aI G 7 (cN rf))])) (F0 m 122 ls []) := by
                            intro fu
                            induction fu with
                            | zero => intro i H locs ls hfu; exact absurd hfu (Nat.not_lt_zero _)
                            | succ fu ih_122 =>
                              intro i H locs ls hfu hi hw hl
                              refine lv_iload xx xb dX2_draught_122 (lv_at hl 9 rfl) ?_
                              refine lv_iload_n xx xb dX2_draught_124 rfl (lv_at hl 2 rfl) ?_
                              refine lv_icmp_ge (tgt := 171) xx xb dX2_draught_125 (by decide) (fun c_125 => ?_) (fun c_125 => ?_)
                              · skip
                                have c_125 := le_c h_n (tN (by omega)) c_125
                                have hw : Wd G (fA [(h0, .inr (2, [.ref a1, .ref a2, .ref a3, .ref a4, .int (nI im), .ref a5, .ref a6, .ref a7, .int (nI lm), .int (nI rm), .int (nI pl), .ref a8, .int sd])), (a1, aI G 54 (fl R)), (a2, aI G 54 (fl Rm)), (a7, aI G 7 (cN rf))]) s [(h0, .inr (2, [.ref a1, .ref a2, .ref a3, .ref a4, .int (nI im), .ref a5, .ref a6, .ref a7, .int (nI lm), .int (nI rm), .int (nI pl), .ref a8, .int sd])), (a1, aI G 54 (fl R)), (a2, aI G 54 (fl (drF R q nz.toNat))), (a7, aI G 7 (cN rf))] H locs := by rw [show nz.toNat = i by omega]; exact hw
                                have eQ : drQ tz.toNat q nz.toNat = drQ tz.toNat q i := by rw [show nz.toNat = i by omega]
                                have hl : lv_has ls 13 [(0, .ref h0), (1, .int x), (2, .int n), (3, .int t), (4, .int ww), (5, .long (lN (drA R xz.toNat tz.toNat nz.toNat q))), (7, .long (lN (tz.toNat ^ nz.toNat))), (9, .int (nI q)), (10, .long (lN (drQ tz.toNat q nz.toNat))), (12, .int (nI i))] := by rw [eQ]; exact hl
                                have hDO := OK_drF hR q nz.toNat
                                refine lv_lload xx xb dX2_draught_171 (lv_at hl 5 rfl) ?_
                                refine lv_aload_n xx xb dX2_draught_173 rfl (lv_at hl 0 rfl) ?_
                                refine m_get C hw 0 rfl fk_X2_13 rfl dX2_draught_174 ?_
                                refine lv_iload_n xx xb dX2_draught_177 rfl (lv_at hl 1 rfl) ?_
                                refine re_i (nI xz.toNat) (ofT h_x (by omega) (by omega)) ?_
                                have hM := kX2_stands l G a2 (drF R q nz.toNat) xz.toNat hDO (by rw [drF_00]; omega)
                                refine cs_i C hw hM ysX2_stands ml_X2_55 rfl [2] rfl rfl (fun _ => (rfl : ([a2] : List Nat) = [a2])) (by decide) ⟨Nat.zero_le _, Nat.zero_le _⟩ hl.1 rfl (Nat.le_of_ble_eq_true rfl) dX2_draught_178 (fun r _ H locs hr hw => ?_)
                                have hw : Wd G (fA [(h0, .inr (2, [.ref a1, .ref a2, .ref a3, .ref a4, .int (nI im), .ref a5, .ref a6, .ref a7, .int (nI lm), .int (nI rm), .int (nI pl), .ref a8, .int sd])), (a1, aI G 54 (fl R)), (a2, aI G 54 (fl Rm)), (a7, aI G 7 (cN rf))]) s [(h0, .inr (2, [.ref a1, .ref a2, .ref a3, .ref a4, .int (nI im), .ref a5, .ref a6, .ref a7, .int (nI lm), .int (nI rm), .int (nI pl), .ref a8, .int sd])), (a1, aI G 54 (fl R)), (a2, aI G 54 (fl (drF R q nz.toNat))), (a7, aI G 7 (cN rf))] H locs := hw
                                subst hr
                                refine lv_if_eq (tgt := 189) xx xb dX2_draught_181 (by decide) (fun c_181 => ?_) (fun c_181 => ?_)
                                · skip
                                  have c_181 := b0_c c_181
                                  refine lv_lconst (v := lN 0) xx xb dX2_draught_189 rfl ?_
                                  refine lv_ladd xx xb dX2_draught_190 ?_
                                  refine re_l (lN ((drA R xz.toNat tz.toNat nz.toNat q) + 0)) (lN_add _ _) ?_
                                  refine re_l (lN (drA R xz.toNat tz.toNat nz.toNat (q + 1))) (congrArg lN (by show _ = drA R xz.toNat tz.toNat nz.toNat q + _; first | (rw [if_pos c_181]; done) | (rw [if_neg c_181]; done))) ?_
                                  refine lv_lstore (lv' := [(5, .long (lN (drA R xz.toNat tz.toNat nz.toNat (q + 1)))), (0, .ref h0), (1, .int x), (2, .int n), (3, .int t), (4, .int ww), (7, .long (lN (tz.toNat ^ nz.toNat))), (9, .int (nI q)), (10, .long (lN (drQ tz.toNat q nz.toNat))), (12, .int (nI i))]) xx xb dX2_draught_191 hl (by decide) rfl (fun ls hl => ?_)
                                  refine lv_iinc (v := nI (q + 1)) (lv' := [(9, .int (nI (q + 1))), (5, .long (lN (drA R xz.toNat tz.toNat nz.toNat (q + 1)))), (0, .ref h0), (1, .int x), (2, .int n), (3, .int t), (4, .int ww), (7, .long (lN (tz.toNat ^ nz.toNat))), (10, .long (lN (drQ tz.toNat q nz.toNat))), (12, .int (nI i))]) xx xb dX2_draught_193 hl (k := 7) rfl (nI_add _ 1) (by decide) rfl (fun ls hl => ?_)
                                  refine lv_goto (tgt := 97) xx xb dX2_draught_196 (by decide) ?_
                                  exact ih_97 (q + 1) (drF R q nz.toNat) H _ ls (by omega) (by omega) hw (lv_sub hl [2, 3, 4, 5, 6, 1, 7, 0] rfl)
                                · skip
                                  have c_181 := b1_c c_181
                                  refine lv_lload xx xb dX2_draught_184 (lv_at hl 8 rfl) ?_
                                  refine lv_goto (tgt := 190) xx xb dX2_draught_186 (by decide) ?_
                                  refine lv_ladd xx xb dX2_draught_190 ?_
                                  refine re_l (lN ((drA R xz.toNat tz.toNat nz.toNat q) + (drQ tz.toNat q nz.toNat))) (lN_add _ _) ?_
                                  refine re_l (lN (drA R xz.toNat tz.toNat nz.toNat (q + 1))) (congrArg lN (by show _ = drA R xz.toNat tz.toNat nz.toNat q + _; first | (rw [if_pos c_181]; done) | (rw [if_neg c_181]; done))) ?_
                                  refine lv_lstore (lv' := [(5, .long (lN (drA R xz.toNat tz.toNat nz.toNat (q + 1)))), (0, .ref h0), (1, .int x), (2, .int n), (3, .int t), (4, .int ww), (7, .long (lN (tz.toNat ^ nz.toNat))), (9, .int (nI q)), (10, .long (lN (drQ tz.toNat q nz.toNat))), (12, .int (nI i))]) xx xb dX2_draught_191 hl (by decide) rfl (fun ls hl => ?_)
                                  refine lv_iinc (v := nI (q + 1)) (lv' := [(9, .int (nI (q + 1))), (5, .long (lN (drA R xz.toNat tz.toNat nz.toNat (q + 1)))), (0, .ref h0), (1, .int x), (2, .int n), (3, .int t), (4, .int ww), (7, .long (lN (tz.toNat ^ nz.toNat))), (10, .long (lN (drQ tz.toNat q nz.toNat))), (12, .int (nI i))]) xx xb dX2_draught_193 hl (k := 7) rfl (nI_add _ 1) (by decide) rfl (fun ls hl => ?_)
                                  refine lv_goto (tgt := 97) xx xb dX2_draught_196 (by decide) ?_
                                  exact ih_97 (q + 1) (drF R q nz.toNat) H _ ls (by omega) (by omega) hw (lv_sub hl [2, 3, 4, 5, 6, 1, 7, 0] rfl)
                              · skip
                                have c_125 := nle_c h_n (tN (by omega)) c_125
                                refine lv_lload xx xb dX2_draught_128 (lv_at hl 8 rfl) ?_
                                refine lv_iload xx xb dX2_draught_130 (lv_at hl 7 rfl) ?_
                                refine lv_iload xx xb dX2_draught_132 (lv_at hl 9 rfl) ?_
                                have hM := kX2_has l G q i (by first | assumption | omega) (by first | assumption | omega)
                                refine cs_i C hw hM ysX2_has ml_X2_51 rfl [] rfl rfl (fun _ => (rfl : ([] : List Nat) = [])) (by decide) ⟨Nat.zero_le _, Nat.zero_le _⟩ hl.1 rfl (Nat.le_of_ble_eq_true rfl) dX2_draught_134 (fun r _ H locs hr hw => ?_)
                                have hw : Wd G (fA [(h0, .inr (2, [.ref a1, .ref a2, .ref a3, .ref a4, .int (nI im), .ref a5, .ref a6, .ref a7, .int (nI lm), .int (nI rm), .int (nI pl), .ref a8, .int sd])), (a1, aI G 54 (fl R)), (a2, aI G 54 (fl Rm)), (a7, aI G 7 (cN rf))]) s [(h0, .inr (2, [.ref a1, .ref a2, .ref a3, .ref a4, .int (nI im), .ref a5, .ref a6, .ref a7, .int (nI lm), .int (nI rm), .int (nI pl), .ref a8, .int sd])), (a1, aI G 54 (fl R)), (a2, aI G 54 (fl (drF R q i))), (a7, aI G 7 (cN rf))] H locs := hw
                                subst hr
                                refine lv_if_eq (tgt := 144) xx xb dX2_draught_137 (by decide) (fun c_137 => ?_) (fun c_137 => ?_)
                                · skip
                                  have c_137 := b0_c c_137
                                  refine lv_iload_n xx xb dX2_draught_144 rfl (lv_at hl 3 rfl) ?_
                                  refine re_i (nI tz.toNat) (ofT h_t (by omega) (by omega)) ?_
                                  refine lv_iconst (v := nI 1) xx xb dX2_draught_145 (by decide) ?_
                                  refine lv_isub xx xb dX2_draught_146 ?_
                                  refine re_i (nI (tz.toNat - 1)) (pk_sub (by omega)) ?_
                                  refine lv_i2l (v := lN (tz.toNat - 1)) xx xb dX2_draught_147 (nI_l (by omega)) ?_
                                  refine lv_lmul xx xb dX2_draught_148 ?_
                                  refine re_l (lN ((drQ tz.toNat q i) * (tz.toNat - 1))) (lN_mul _ _) ?_
                                  refine re_l (lN (drQ tz.toNat q (i + 1))) (congrArg lN (by show _ = drQ tz.toNat q i * _; first | (rw [if_pos c_137]; done) | (rw [if_neg c_137]; done))) ?_
                                  refine lv_lstore (lv' := [(10, .long (lN (drQ tz.toNat q (i + 1)))), (0, .ref h0), (1, .int x), (2, .int n), (3, .int t), (4, .int ww), (5, .long (lN (drA R xz.toNat tz.toNat nz.toNat q))), (7, .long (lN (tz.toNat ^ nz.toNat))), (9, .int (nI q)), (12, .int (nI i))]) xx xb dX2_draught_149 hl (by decide) rfl (fun ls hl => ?_)
                                  refine lv_aload_n xx xb dX2_draught_151 rfl (lv_at hl 1 rfl) ?_
                                  refine m_get C hw 0 rfl fk_X2_13 rfl dX2_draught_152 ?_
                                  refine lv_iload xx xb dX2_draught_155 (lv_at hl 8 rfl) ?_
                                  refine lv_iload xx xb dX2_draught_157 (lv_at hl 9 rfl) ?_
                                  refine lv_ishr xx xb dX2_draught_159 ?_
                                  refine lv_iconst (v := nI 1) xx xb dX2_draught_160 (by decide) ?_
                                  refine lv_iand xx xb dX2_draught_161 ?_
                                  refine re_i (nI (if q.testBit i = true then 1 else 0)) (bit_N (by omega) (by omega)) ?_
                                  have hM := kX2_minute l G a2 (drF R q i) (if q.testBit i = true then 1 else 0) (OK_drF hR q i) (AK_drF hR hK q i) (d01 q i)
                                  refine cs_v C hw hM ysX2_minute ml_X2_80 rfl [2] rfl rfl (fun _ => (rfl : ([a2] : List Nat) = [a2])) (by decide) ⟨Nat.zero_le _, Nat.zero_le _⟩ hl.1 rfl (Nat.le_of_ble_eq_true rfl) dX2_draught_162 (fun _ H locs hr hw => ?_)
                                  have hw : Wd G (fA [(h0, .inr (2, [.ref a1, .ref a2, .ref a3, .ref a4, .int (nI im), .ref a5, .ref a6, .ref a7, .int (nI lm), .int (nI rm), .int (nI pl), .ref a8, .int sd])), (a1, aI G 54 (fl R)), (a2, aI G 54 (fl Rm)), (a7, aI G 7 (cN rf))]) s [(h0, .inr (2, [.ref a1, .ref a2, .ref a3, .ref a4, .int (nI im), .ref a5, .ref a6, .ref a7, .int (nI lm), .int (nI rm), .int (nI pl), .ref a8, .int sd])), (a1, aI G 54 (fl R)), (a2, aI G 54 (fl (miF (drF R q i) (if q.testBit i = true then 1 else 0)))), (a7, aI G 7 (cN rf))] H locs := hw
                                  have hw : Wd G (fA [(h0, .inr (2, [.ref a1, .ref a2, .ref a3, .ref a4, .int (nI im), .ref a5, .ref a6, .ref a7, .int (nI lm), .int (nI rm), .int (nI pl), .ref a8, .int sd])), (a1, aI G 54 (fl R)), (a2, aI G 54 (fl Rm)), (a7, aI G 7 (cN rf))]) s [(h0, .inr (2, [.ref a1, .ref a2, .ref a3, .ref a4, .int (nI im), .ref a5, .ref a6, .ref a7, .int (nI lm), .int (nI rm), .int (nI pl), .ref a8, .int sd])), (a1, aI G 54 (fl R)), (a2, aI G 54 (fl (drF R q (i + 1)))), (a7, aI G 7 (cN rf))] H locs := hw
                                  refine lv_iinc (v := nI (i + 1)) (lv' := [(12, .int (nI (i + 1))), (10, .long (lN (drQ tz.toNat q (i + 1)))), (0, .ref h0), (1, .int x), (2, .int n), (3, .int t), (4, .int ww), (5, .long (lN (drA R xz.toNat tz.toNat nz.toNat q))), (7, .long (lN (tz.toNat ^ nz.toNat))), (9, .int (nI q))]) xx xb dX2_draught_165 hl (k := 9) rfl (nI_add _ 1) (by decide) rfl (fun ls hl => ?_)
                                  refine lv_goto (tgt := 122) xx xb dX2_draught_168 (by decide) ?_
                                  exact ih_122 (i + 1) H _ ls (by omega) (by omega) hw (lv_sub hl [2, 3, 4, 5, 6, 7, 8, 9, 1, 0] rfl)
                                · skip
                                  have c_137 := b1_c c_137
                                  refine lv_lconst (v := lN 1) xx xb dX2_draught_140 rfl ?_
                                  refine lv_goto (tgt := 148) xx xb dX2_draught_141 (by decide) ?_
                                  refine lv_lmul xx xb dX2_draught_148 ?_
                                  refine re_l (lN ((drQ tz.toNat q i) * 1)) (lN_mul _ _) ?_
                                  refine re_l (lN (drQ tz.toNat q (i + 1))) (congrArg lN (by show _ = drQ tz.toNat q i * _; first | (rw [if_pos c_137]; done) | (rw [if_neg c_137]; done))) ?_
                                  refine lv_lstore (lv' := [(10, .long (lN (drQ tz.toNat q (i + 1)))), (0, .ref h0), (1, .int x), (2, .int n), (3, .int t), (4, .int ww), (5, .long (lN (drA R xz.toNat tz.toNat nz.toNat q))), (7, .long (lN (tz.toNat ^ nz.toNat))), (9, .int (nI q)), (12, .int (nI i))]) xx xb dX2_draught_149 hl (by decide) rfl (fun ls hl => ?_)
                                  refine lv_aload_n xx xb dX2_draught_151 rfl (lv_at hl 1 rfl) ?_
                                  refine m_get C hw 0 rfl fk_X2_13 rfl dX2_draught_152 ?_
                                  refine lv_iload xx xb dX2_draught_155 (lv_at hl 8 rfl) ?_
                                  refine lv_iload xx xb dX2_draught_157 (lv_at hl 9 rfl) ?_
                                  refine lv_ishr xx xb dX2_draught_159 ?_
                                  refine lv_iconst (v := nI 1) xx xb dX2_draught_160 (by decide) ?_
                                  refine lv_iand xx xb dX2_draught_161 ?_
                                  refine re_i (nI (if q.testBit i = true then 1 else 0)) (bit_N (by omega) (by omega)) ?_
                                  have hM := kX2_minute l G a2 (drF R q i) (if q.testBit i = true then 1 else 0) (OK_drF hR q i) (AK_drF hR hK q i) (d01 q i)
                                  refine cs_v C hw hM ysX2_minute ml_X2_80 rfl [2] rfl rfl (fun _ => (rfl : ([a2] : List Nat) = [a2])) (by decide) ⟨Nat.zero_le _, Nat.zero_le _⟩ hl.1 rfl (Nat.le_of_ble_eq_true rfl) dX2_draught_162 (fun _ H locs hr hw => ?_)
                                  have hw : Wd G (fA [(h0, .inr (2, [.ref a1, .ref a2, .ref a3, .ref a4, .int (nI im), .ref a5, .ref a6, .ref a7, .int (nI lm), .int (nI rm), .int (nI pl), .ref a8, .int sd])), (a1, aI G 54 (fl R)), (a2, aI G 54 (fl Rm)), (a7, aI G 7 (cN rf))]) s [(h0, .inr (2, [.ref a1, .ref a2, .ref a3, .ref a4, .int (nI im), .ref a5, .ref a6, .ref a7, .int (nI lm), .int (nI rm), .int (nI pl), .ref a8, .int sd])), (a1, aI G 54 (fl R)), (a2, aI G 54 (fl (miF (drF R q i) (if q.testBit i = true then 1 else 0)))), (a7, aI G 7 (cN rf))] H locs := hw
                                  have hw : Wd G (fA [(h0, .inr (2, [.ref a1, .ref a2, .ref a3, .ref a4, .int (nI im), .ref a5, .ref a6, .ref a7, .int (nI lm), .int (nI rm), .int (nI pl), .ref a8, .int sd])), (a1, aI G 54 (fl R)), (a2, aI G 54 (fl Rm)), (a7, aI G 7 (cN rf))]) s [(h0, .inr (2, [.ref a1, .ref a2, .ref a3, .ref a4, .int (nI im), .ref a5, .ref a6, .ref a7, .int (nI lm), .int (nI rm), .int (nI pl), .ref a8, .int sd])), (a1, aI G 54 (fl R)), (a2, aI G 54 (fl (drF R q (i + 1)))), (a7, aI G 7 (cN rf))] H locs := hw
                                  refine lv_iinc (v := nI (i + 1)) (lv' := [(12, .int (nI (i + 1))), (10, .long (lN (drQ tz.toNat q (i + 1)))), (0, .ref h0), (1, .int x), (2, .int n), (3, .int t), (4, .int ww), (5, .long (lN (drA R xz.toNat tz.toNat nz.toNat q))), (7, .long (lN (tz.toNat ^ nz.toNat))), (9, .int (nI q))]) xx xb dX2_draught_165 hl (k := 9) rfl (nI_add _ 1) (by decide) rfl (fun ls hl => ?_)
                                  refine lv_goto (tgt := 122) xx xb dX2_draught_168 (by decide) ?_
                                  exact ih_122 (i + 1) H _ ls (by omega) (by omega) hw (lv_sub hl [2, 3, 4, 5, 6, 7, 8, 9, 1, 0] rfl)
                          exact L_122 (_ + 1) 0 H _ ls (Nat.lt_succ_self _) (by omega) hw (lv_sub hl [2, 3, 4, 5, 6, 7, 8, 9, 1, 0] rfl)
                    exact L_97 (_ + 1) 0 Rm H _ ls (Nat.lt_succ_self _) (Nat.zero_le _) hw (lv_sub hl [1, 2, 3, 4, 5, 6, 7, 0] rfl)
                  · skip
                    have c_78 := nle_c h_n (tN (by omega)) c_78
                    refine lv_lload xx xb dX2_draught_81 (lv_at hl 6 rfl) ?_
                    refine lv_iload_n xx xb dX2_draught_83 rfl (lv_at hl 3 rfl) ?_
                    refine re_i (nI tz.toNat) (ofT h_t (by omega) (by omega)) ?_
                    refine lv_i2l (v := lN tz.toNat) xx xb dX2_draught_84 (nI_l (by omega)) ?_
                    refine lv_lmul xx xb dX2_draught_85 ?_
                    refine re_l (lN ((tz.toNat ^ i) * tz.toNat)) (lN_mul _ _) ?_
                    refine re_l (lN (tz.toNat ^ (i + 1))) (congrArg lN (Nat.pow_succ _ _).symm) ?_
                    refine lv_lstore (lv' := [(7, .long (lN (tz.toNat ^ (i + 1)))), (0, .ref h0), (1, .int x), (2, .int n), (3, .int t), (4, .int ww), (5, .long (lN 0)), (9, .int (nI i))]) xx xb dX2_draught_86 hl (by decide) rfl (fun ls hl => ?_)
                    refine lv_iinc (v := nI (i + 1)) (lv' := [(9, .int (nI (i + 1))), (7, .long (lN (tz.toNat ^ (i + 1)))), (0, .ref h0), (1, .int x), (2, .int n), (3, .int t), (4, .int ww), (5, .long (lN 0))]) xx xb dX2_draught_88 hl (k := 7) rfl (nI_add _ 1) (by decide) rfl (fun ls hl => ?_)
                    refine lv_goto (tgt := 75) xx xb dX2_draught_91 (by decide) ?_
                    exact ih_75 (i + 1) H _ ls (by omega) (by omega) hw (lv_sub hl [2, 3, 4, 5, 6, 7, 1, 0] rfl)
              exact L_75 (_ + 1) 0 H _ ls (Nat.lt_succ_self _) (by omega) hw (lv_sub hl [3, 4, 5, 6, 7, 2, 1, 0] rfl)
            · skip
              have c_56 := b0_c c_56
              refine lv_aload_n xx xb dX2_draught_59 rfl (lv_at hl 0 rfl) ?_
              refine lv_bipush (v := (-2)) xx xb dX2_draught_60 (by decide) ?_
              have hM := kX2_noWide l G h0 a1 a2 a3 a4 a5 a6 a7 a8 im lm rm pl sd rf 2 (by first | assumption | omega)
              refine cv_l C hw hM yvX2_noWide ml_X2_169 0 rfl rfl rfl [0, 3] rfl rfl (fun _ => (rfl : ([h0, a7] : List Nat) = [h0, a7])) (by decide) ⟨Nat.zero_le _, Nat.zero_le _⟩ hl.1 rfl (Nat.le_of_ble_eq_true rfl) dX2_draught_62 (fun r _ H locs hr hw => ?_)
              have hw : Wd G (fA [(h0, .inr (2, [.ref a1, .ref a2, .ref a3, .ref a4, .int (nI im), .ref a5, .ref a6, .ref a7, .int (nI lm), .int (nI rm), .int (nI pl), .ref a8, .int sd])), (a1, aI G 54 (fl R)), (a2, aI G 54 (fl Rm)), (a7, aI G 7 (cN rf))]) s [(h0, .inr (2, [.ref a1, .ref a2, .ref a3, .ref a4, .int (nI im), .ref a5, .ref a6, .ref a7, .int (nI lm), .int (nI rm), .int (nI pl), .ref a8, .int sd])), (a1, aI G 54 (fl R)), (a2, aI G 54 (fl Rm)), (a7, aI G 7 (cN (upN rf 2 (rf 2 + 1))))] H locs := hw
              subst hr
              exact rt_l C hw Rm ((anL_r (c := cDr R xz nz tz wwz) (by unfold cDr; (repeat' split) <;> omega) (show 2 ≠ 0 by omega) _).symm) (by rw [rfU_r (c := cDr R xz nz tz wwz) (by unfold cDr; (repeat' split) <;> omega) (show 2 ≠ 0 by omega)]) dX2_draught_65
          · skip
            have c_39 := nle_c h_t (tN (by omega)) c_39
            refine lv_aload_n xx xb dX2_draught_42 rfl (lv_at hl 0 rfl) ?_
            refine lv_bipush (v := (-6)) xx xb dX2_draught_43 (by decide) ?_
            have hM := kX2_noWide l G h0 a1 a2 a3 a4 a5 a6 a7 a8 im lm rm pl sd rf 6 (by first | assumption | omega)
            refine cv_l C hw hM yvX2_noWide ml_X2_169 0 rfl rfl rfl [0, 3] rfl rfl (fun _ => (rfl : ([h0, a7] : List Nat) = [h0, a7])) (by decide) ⟨Nat.zero_le _, Nat.zero_le _⟩ hl.1 rfl (Nat.le_of_ble_eq_true rfl) dX2_draught_45 (fun r _ H locs hr hw => ?_)
            have hw : Wd G (fA [(h0, .inr (2, [.ref a1, .ref a2, .ref a3, .ref a4, .int (nI im), .ref a5, .ref a6, .ref a7, .int (nI lm), .int (nI rm), .int (nI pl), .ref a8, .int sd])), (a1, aI G 54 (fl R)), (a2, aI G 54 (fl Rm)), (a7, aI G 7 (cN rf))]) s [(h0, .inr (2, [.ref a1, .ref a2, .ref a3, .ref a4, .int (nI im), .ref a5, .ref a6, .ref a7, .int (nI lm), .int (nI rm), .int (nI pl), .ref a8, .int sd])), (a1, aI G 54 (fl R)), (a2, aI G 54 (fl Rm)), (a7, aI G 7 (cN (upN rf 6 (rf 6 + 1))))] H locs := hw
            subst hr
            exact rt_l C hw Rm ((anL_r (c := cDr R xz nz tz wwz) (by unfold cDr; (repeat' split) <;> omega) (show 6 ≠ 0 by omega) _).symm) (by rw [rfU_r (c := cDr R xz nz tz wwz) (by unfold cDr; (repeat' split) <;> omega) (show 6 ≠ 0 by omega)]) dX2_draught_48
      · skip
        have c_20 := nle_c (tN (by omega)) h_t c_20
        refine lv_aload_n xx xb dX2_draught_23 rfl (lv_at hl 0 rfl) ?_
        refine lv_bipush (v := (-4)) xx xb dX2_draught_24 (by decide) ?_
        have hM := kX2_noWide l G h0 a1 a2 a3 a4 a5 a6 a7 a8 im lm rm pl sd rf 4 (by first | assumption | omega)
        refine cv_l C hw hM yvX2_noWide ml_X2_169 0 rfl rfl rfl [0, 3] rfl rfl (fun _ => (rfl : ([h0, a7] : List Nat) = [h0, a7])) (by decide) ⟨Nat.zero_le _, Nat.zero_le _⟩ hl.1 rfl (Nat.le_of_ble_eq_true rfl) dX2_draught_26 (fun r _ H locs hr hw => ?_)
        have hw : Wd G (fA [(h0, .inr (2, [.ref a1, .ref a2, .ref a3, .ref a4, .int (nI im), .ref a5, .ref a6, .ref a7, .int (nI lm), .int (nI rm), .int (nI pl), .ref a8, .int sd])), (a1, aI G 54 (fl R)), (a2, aI G 54 (fl Rm)), (a7, aI G 7 (cN rf))]) s [(h0, .inr (2, [.ref a1, .ref a2, .ref a3, .ref a4, .int (nI im), .ref a5, .ref a6, .ref a7, .int (nI lm), .int (nI rm), .int (nI pl), .ref a8, .int sd])), (a1, aI G 54 (fl R)), (a2, aI G 54 (fl Rm)), (a7, aI G 7 (cN (upN rf 4 (rf 4 + 1))))] H locs := hw
        subst hr
        exact rt_l C hw Rm ((anL_r (c := cDr R xz nz tz wwz) (by unfold cDr; (repeat' split) <;> omega) (show 4 ≠ 0 by omega) _).symm) (by rw [rfU_r (c := cDr R xz nz tz wwz) (by unfold cDr; (repeat' split) <;> omega) (show 4 ≠ 0 by omega)]) dX2_draught_29
  · skip
    have c_5 := b0_c c_5
    refine lv_aload_n xx xb dX2_draught_8 rfl (lv_at hl 0 rfl) ?_
    refine lv_iconst (v := (-1)) xx xb dX2_draught_9 (by decide) ?_
    have hM := kX2_noWide l G h0 a1 a2 a3 a4 a5 a6 a7 a8 im lm rm pl sd rf 1 (by first | assumption | omega)
    refine cv_l C hw hM yvX2_noWide ml_X2_169 0 rfl rfl rfl [0, 3] rfl rfl (fun _ => (rfl : ([h0, a7] : List Nat) = [h0, a7])) (by decide) ⟨Nat.zero_le _, Nat.zero_le _⟩ hl.1 rfl (Nat.le_of_ble_eq_true rfl) dX2_draught_10 (fun r _ H locs hr hw => ?_)
    have hw : Wd G (fA [(h0, .inr (2, [.ref a1, .ref a2, .ref a3, .ref a4, .int (nI im), .ref a5, .ref a6, .ref a7, .int (nI lm), .int (nI rm), .int (nI pl), .ref a8, .int sd])), (a1, aI G 54 (fl R)), (a2, aI G 54 (fl Rm)), (a7, aI G 7 (cN rf))]) s [(h0, .inr (2, [.ref a1, .ref a2, .ref a3, .ref a4, .int (nI im), .ref a5, .ref a6, .ref a7, .int (nI lm), .int (nI rm), .int (nI pl), .ref a8, .int sd])), (a1, aI G 54 (fl R)), (a2, aI G 54 (fl Rm)), (a7, aI G 7 (cN (upN rf 1 (rf 1 + 1))))] H locs := hw
    subst hr
    exact rt_l C hw Rm ((anL_r (c := cDr R xz nz tz wwz) (by unfold cDr; (repeat' split) <;> omega) (show 1 ≠ 0 by omega) _).symm) (by rw [rfU_r (c := cDr R xz nz tz wwz) (by unfold cDr; (repeat' split) <;> omega) (show 1 ≠ 0 by omega)]) dX2_draught_13
