def laB (v n : Int) : Nat := if v < 0 ∨ n < 0 then 4 else 0
def laA (v n : Int) : Nat := if 9 < v ∨ 99 < n then 6 else 0
theorem laB_le (v n : Int) : laB v n ≤ 6 := by unfold laB; split <;> omega
theorem laA_le (v n : Int) : laA v n ≤ 6 := by unfold laA; split <;> omega
theorem cLater_le (R : RT) (x v n : Int) : cLater R x v n ≤ 6 := by unfold cLater; (repeat' split) <;> omega
theorem cLater_0 {R : RT} {x v n : Int} (h : cLater R x v n = 0) : (0 ≤ x ∧ x < ((R 0 0 : Nat) : Int)) ∧ (0 ≤ v ∧ v ≤ 9) ∧ (0 ≤ n ∧ n ≤ 99) ∧ R 4 x.toNat = 0 := by
  unfold cLater at h
  by_cases h1 : 0 ≤ x ∧ x < ((R 0 0 : Nat) : Int)
  · rw [if_pos h1] at h
    by_cases h2 : v < 0 ∨ n < 0
    · rw [if_pos h2] at h; omega
    · rw [if_neg h2] at h
      by_cases h3 : 9 < v ∨ 99 < n
      · rw [if_pos h3] at h; omega
      · rw [if_neg h3] at h
        by_cases h4 : R 4 x.toNat = 0
        · exact ⟨h1, by omega, by omega, h4⟩
        · rw [if_neg h4] at h; omega
  · rw [if_neg h1] at h; omega
theorem la_eq {R : RT} {x v n : Int} : rtT R x (foN (foN (laB v n) (laA v n)) (if (0 ≤ x ∧ x < ((R 0 0 : Nat) : Int)) ∧ R 4 x.toNat = 0 then 0 else 3)) = cLater R x v n := by
  unfold rtT cLater
  by_cases h : 0 ≤ x ∧ x < ((R 0 0 : Nat) : Int)
  · rw [if_pos h, if_pos h]
    have e : (if (0 ≤ x ∧ x < ((R 0 0 : Nat) : Int)) ∧ R 4 x.toNat = 0 then 0 else 3) = if R 4 x.toNat = 0 then 0 else 3 := by
      by_cases h2 : R 4 x.toNat = 0
      · rw [if_pos (And.intro h h2), if_pos h2]
      · rw [if_neg h2, if_neg (fun q => h2 q.2)]
    rw [e]
    by_cases h2 : v < 0 ∨ n < 0 <;> by_cases h3 : 9 < v ∨ 99 < n <;> simp [foN, laB, laA, h2, h3]
  · rw [if_neg h, if_neg h]
theorem pul03 {R : RT} (hp : R 0 3 = 0) (f v : Nat) : pulF R f v 0 3 = 0 := by
  unfold pulF
  rw [if_neg (by omega), if_neg (by omega)]
  exact hp
theorem psR_03 {R : RT} (hp : R 0 3 = 0) (S : Nat) : ∀ a, psR R S a 0 3 = 0
  | 0 => hp
  | a + 1 => by
    unfold psR
    split
    · exact pul03 (psR_03 hp S a) _ _
    · exact psR_03 hp S a
theorem tbb_0 {s k : Nat} (hs : s < 1024) (q : nI (s &&& 2 ^ k) = 0) : ¬ s.testBit k = true := by
  have hl2 := and_lt (b := 2 ^ k) hs
  have z : s &&& 2 ^ k = 0 := by
    have := eq_c (tN (by omega)) Int32.toInt_zero q
    omega
  rw [and_pow] at z
  rw [z]; decide
theorem tbb_1 {s k : Nat} (q : ¬ nI (s &&& 2 ^ k) = 0) : s.testBit k = true := by
  apply Classical.byContradiction
  intro e
  apply q
  rw [and_pow.mpr (Bool.eq_false_iff.mpr e)]; rfl
theorem it4_fix {R : RT} {q n a : Nat} (h : nz (itF R (q + 1)) = nz (itF R q)) (hq : q < n) : itF R (q + 1) 4 a = itF R n 4 a := by
  have e1 := nz_it h 1
  have e2 := nz_it h (n - q)
  rw [show q + (n - q) = n by omega] at e2
  have e3 := congrFun (congrFun (e1.trans e2.symm) 4) a
  unfold nz at e3
  rw [upR_n (by omega), upR_n (by omega)] at e3
  exact e3
theorem it4_fall {R : RT} {q n a : Nat} (ha : a < R 0 0) (h : ¬ itF R q 4 a = 0) (hq : q ≤ n) : itF R q 4 a = itF R n 4 a := by
  have := how_keep R a ha q h (n - q)
  rw [show q + (n - q) = n by omega] at this
  exact this.symm
/-- what STANDS when some have been PULLED, STOOD ahead of it -/
theorem psR_4 {R : RT} (S : Nat) : ∀ (a b : Nat), b < R 0 0 → psR R S a 4 b = 0 → R 4 b = 0
  | 0, _, _, h => h
  | a + 1, b, hb, h => by
    unfold psR at h
    by_cases q : S.testBit a = true
    · rw [if_pos q] at h
      unfold pulF at h
      rw [if_pos ⟨rfl, by rw [psR_00]; exact hb⟩] at h
      by_cases z : shkF (psR R S a) a 9 b = true
      · rw [if_pos z] at h; omega
      · rw [if_neg z] at h
        by_cases y : b = a
        · rw [if_pos y] at h; omega
        · rw [if_neg y] at h
          exact psR_4 S a b hb h
    · rw [if_neg q] at h
      exact psR_4 S a b hb h
theorem psB_4 {R : RT} {S : Nat} : ∀ (n : Nat), psB R S n = true → ∀ a, a < n → a < R 0 0 → S.testBit a = true → R 4 a = 0
  | 0, _, a, h, _, _ => absurd h (Nat.not_lt_zero _)
  | n + 1, h, a, ha, hr, hs => by
    have h : (psB R S n && (!S.testBit n || decide (psR R S n 4 n = 0))) = true := h
    rw [Bool.and_eq_true] at h
    by_cases q : a = n
    · subst q
      have h2 := h.2
      rw [hs] at h2
      exact psR_4 S a a hr (by simpa using h2)
    · exact psB_4 n h.1 a (by omega) hr hs
/-- the others: those that STAND, but not k -/
def otS (R : RT) (k : Nat) : Nat := anN (setF R 0) (2 ^ k)
theorem otS_bit {R : RT} {k j : Nat} : (otS R k).testBit j = ((decide (j < R 0 0) && decide (R 4 j = 0)) && !decide (k = j)) := by
  unfold otS
  rw [anN_bit, setF_bit, Nat.testBit_two_pow]
theorem otS_lt (R : RT) (k : Nat) : otS R k < 2 ^ R 0 0 := Nat.lt_of_le_of_lt (anN_le _ _) (bs_lt _ _)
theorem gd_ot {R : RT} {k m s : Nat} (hs : s < 2 ^ R 0 0) (h : gdB R k m s = true) : anN s (otS R k) = 0 := by
  obtain ⟨h1, h2, h3⟩ := gd_1 h
  refine an_sub.mpr (fun j hj => ?_)
  have hj2 : j < R 0 0 := by
    apply Classical.byContradiction
    intro q
    have : s < 2 ^ j := Nat.lt_of_lt_of_le hs (Nat.pow_le_pow_right (by decide) (by omega))
    rw [Nat.testBit_lt_two_pow this] at hj
    cases hj
  have h4 := psB_4 _ h2 j hj2 hj2 hj
  have hk : ¬ k = j := fun q => h1 (q ▸ hj)
  rw [otS_bit]
  simp [hj2, h4, hk]
theorem gd_of {R : RT} {k m s : Nat} (h0 : anN s (otS R k) = 0) (h2 : psB R s (R 0 0) = true) (h3 : itF (psR R s (R 0 0)) m 4 k = 0) : gdB R k m s = true := by
  refine gd_t (fun q => ?_) h2 h3
  have := an_sub.mp h0 k q
  rw [otS_bit] at this
  simp at this
theorem pm_end {R : RT} {k m : Nat} : ∀ (d s : Nat), otS R k < s → s + d ≤ 2 ^ R 0 0 → pmF R k m (s + d) = pmF R k m s
  | 0, _, _, _ => rfl
  | d + 1, s, h, h2 => by
    have ih := pm_end (m := m) d s h (by omega)
    show pmF R k m (s + d + 1) = _
    rw [pmF_n, ih]
    rintro ⟨hg, -⟩
    have := sub_le (an_sub.mp (gd_ot (by omega) hg))
    omega
def msI (f : Nat) : Int32 := if f < 1024 then nI (pc f) else -9
theorem ms_le {f p : Nat} (hp : p ≤ 10) (h : nI p ≤ msI f) : f < 1024 ∧ p ≤ pc f := by
  unfold msI at h
  by_cases q : f < 1024
  · rw [if_pos q] at h
    have h2 := pc_le f
    have := le_c (tN (by omega)) (tN (by omega)) h
    exact ⟨q, by omega⟩
  · rw [if_neg q] at h
    have := le_c (tN (by omega)) tM9 h
    omega
theorem ms_gt {f p : Nat} (hf : f ≤ 1024) (h : ¬ nI p ≤ msI f) (hp : p ≤ 10) : f = 1024 ∨ pc f < p := by
  unfold msI at h
  by_cases q : f < 1024
  · rw [if_pos q] at h
    have h2 := pc_le f
    have := nle_c (tN (by omega)) (tN (by omega)) h
    exact Or.inr (by omega)
  · exact Or.inl (by omega)
theorem vPM_0 {R : RT} {k m f : Nat} {w : Int} (h : pmF R k m (2 ^ R 0 0) = f) (hf : f ≤ 1024) (hw : w ≠ 1) : msI f = vPM R k m w := by
  unfold vPM msI
  rw [h]
  by_cases hz : f = 1024
  · rw [if_pos hz, if_neg (by omega)]
  · rw [if_neg hz, if_neg hw, if_pos (by omega)]
theorem vPM_1 {R : RT} {k m f : Nat} {w : Int} (h : pmF R k m (2 ^ R 0 0) = f) (hf : f ≤ 1024) (hw : w = 1) : fdI f = vPM R k m w := by
  unfold vPM fdI
  rw [h]
  by_cases hz : f = 1024
  · rw [if_pos hz, if_neg (by omega)]
  · rw [if_neg hz, if_pos hw, if_pos (by omega)]
theorem cPM_le (R : RT) (x n w : Int) : cPM R x n w ≤ 6 := by
  unfold cPM
  have := wbN_le n 30
  (repeat' split) <;> omega
theorem cPM_0 {R : RT} {x n w : Int} (h : cPM R x n w = 0) : (0 ≤ x ∧ x < ((R 0 0 : Nat) : Int)) ∧ (0 ≤ n ∧ n ≤ 30) ∧ (0 ≤ w ∧ w ≤ 1) := by
  unfold cPM at h
  by_cases h1 : 0 ≤ x ∧ x < ((R 0 0 : Nat) : Int)
  · rw [if_pos h1] at h
    by_cases h2 : wbN n 30 ≠ 0
    · rw [if_pos h2] at h; omega
    · rw [if_neg h2] at h
      by_cases h3 : 0 ≤ w ∧ w ≤ 1
      · exact ⟨h1, wbN_0 (by omega), h3⟩
      · rw [if_neg h3] at h; omega
  · rw [if_neg h1] at h; omega
set_option maxRecDepth 100000 in
set_option maxHeartbeats 4000000 in
theorem kX1_later (l : Launch) (G : GT) (h0 : Nat) (so : Nat) (to : Nat) (uo : Nat) (x5 : Nat) (x6 : Nat) (x7 : Nat) (x8 : Nat) (im : Nat) (lm : Nat) (rm : Nat) (sd : Int32) (rf : Nat → Nat) (ak : Nat) (af : Nat) (ab : Nat) (aa : Nat) (R : RT) (tk : Nat) (tf : Nat) (tb : Nat) (ta : Nat) (m0 : Nat) (S : RT) (x : Int32) (xz : Int) (v : Int32) (vz : Int) (n : Int32) (nz : Int) (h_x : x.toInt = xz) (h_v : v.toInt = vz) (h_n : n.toInt = nz) (hR : OK R) (hK : AK R) (hp : R 0 3 = 0) : Ct l yX1_later cX1_later 9 (some .int) 4 100 [.ref h0, .int x, .int v, .int n] G [(h0, .inr (1, [.ref so, .ref to, .ref uo, .int (nI im), .ref x5, .int (nI lm), .ref x6, .int (nI rm), .ref x7, .ref x8, .int sd])), (so, .inr (0, [.int (nI (sN R)), .int (nI (R 0 1)), .int (nI (sF R)), .int (nI (sS R)), .int (nI (sL R)), .ref ak, .ref af, .ref ab, .ref aa])), (ak, aI G 10 (sK R)), (af, aI G 10 (sG R)), (ab, aI G 10 (sO R)), (aa, aI G 10 (sA R)), (to, .inr (0, [.int (nI (sN S)), .int (nI m0), .int (nI (sF S)), .int (nI (sS S)), .int (nI (sL S)), .ref tk, .ref tf, .ref tb, .ref ta])), (tk, aI G 10 (sK S)), (tf, aI G 10 (sG S)), (tb, aI G 10 (sO S)), (ta, aI G 10 (sA S)), (x7, aI G 7 (cN rf))] (QI G [(h0, .inr (1, [.ref so, .ref to, .ref uo, .int (nI im), .ref x5, .int (nI lm), .ref x6, .int (nI rm), .ref x7, .ref x8, .int sd])), (so, .inr (0, [.int (nI (sN R)), .int (nI (R 0 1)), .int (nI (sF R)), .int (nI (sS R)), .int (nI (sL R)), .ref ak, .ref af, .ref ab, .ref aa])), (ak, aI G 10 (sK R)), (af, aI G 10 (sG R)), (ab, aI G 10 (sO R)), (aa, aI G 10 (sA R)), (to, .inr (0, [.int (nI (sN S)), .int (nI m0), .int (nI (sF S)), .int (nI (sS S)), .int (nI (sL S)), .ref tk, .ref tf, .ref tb, .ref ta])), (tk, aI G 10 (sK S)), (tf, aI G 10 (sG S)), (tb, aI G 10 (sO S)), (ta, aI G 10 (sA S)), (x7, aI G 7 (cN rf))] (fun (r : Int32) (u : Nat × RT) => r = anI (cLater R xz vz nz) (nI (vLater R xz.toNat vz.toNat nz.toNat))) (fun u => [(h0, .inr (1, [.ref so, .ref to, .ref uo, .int (nI im), .ref x5, .int (nI lm), .ref x6, .int (nI rm), .ref x7, .ref x8, .int sd])), (so, .inr (0, [.int (nI (sN R)), .int (nI (R 0 1)), .int (nI (sF R)), .int (nI (sS R)), .int (nI (sL R)), .ref ak, .ref af, .ref ab, .ref aa])), (ak, aI G 10 (sK R)), (af, aI G 10 (sG R)), (ab, aI G 10 (sO R)), (aa, aI G 10 (sA R)), (to, .inr (0, [.int (nI (sN u.2)), .int (nI u.1), .int (nI (sF u.2)), .int (nI (sS u.2)), .int (nI (sL u.2)), .ref tk, .ref tf, .ref tb, .ref ta])), (tk, aI G 10 (sK u.2)), (tf, aI G 10 (sG u.2)), (tb, aI G 10 (sO u.2)), (ta, aI G 10 (sA u.2)), (x7, aI G 7 (cN (rfU rf (cLater R xz vz nz))))])) := by
  refine en (by decide +kernel) (Nat.le_of_ble_eq_true rfl) ?_
  intro p e s m below meth c ls H locs C hl hw
  have xx := C.1
  have xb := C.2.1
  have hw : Wd G (fA [(h0, .inr (1, [.ref so, .ref to, .ref uo, .int (nI im), .ref x5, .int (nI lm), .ref x6, .int (nI rm), .ref x7, .ref x8, .int sd])), (so, .inr (0, [.int (nI (sN R)), .int (nI (R 0 1)), .int (nI (sF R)), .int (nI (sS R)), .int (nI (sL R)), .ref ak, .ref af, .ref ab, .ref aa])), (ak, aI G 10 (sK R)), (af, aI G 10 (sG R)), (ab, aI G 10 (sO R)), (aa, aI G 10 (sA R)), (to, .inr (0, [.int (nI (sN S)), .int (nI m0), .int (nI (sF S)), .int (nI (sS S)), .int (nI (sL S)), .ref tk, .ref tf, .ref tb, .ref ta])), (tk, aI G 10 (sK S)), (tf, aI G 10 (sG S)), (tb, aI G 10 (sO S)), (ta, aI G 10 (sA S)), (x7, aI G 7 (cN rf))]) s [(h0, .inr (1, [.ref so, .ref to, .ref uo, .int (nI im), .ref x5, .int (nI lm), .ref x6, .int (nI rm), .ref x7, .ref x8, .int sd])), (so, .inr (0, [.int (nI (sN R)), .int (nI (R 0 1)), .int (nI (sF R)), .int (nI (sS R)), .int (nI (sL R)), .ref ak, .ref af, .ref ab, .ref aa])), (ak, aI G 10 (sK R)), (af, aI G 10 (sG R)), (ab, aI G 10 (sO R)), (aa, aI G 10 (sA R)), (to, .inr (0, [.int (nI (sN S)), .int (nI m0), .int (nI (sF S)), .int (nI (sS S)), .int (nI (sL S)), .ref tk, .ref tf, .ref tb, .ref ta])), (tk, aI G 10 (sK S)), (tf, aI G 10 (sG S)), (tb, aI G 10 (sO S)), (ta, aI G 10 (sA S)), (x7, aI G 7 (cN rf))] H locs := hw
  have hl : lv_has ls 9 [(0, .ref h0), (1, .int x), (2, .int v), (3, .int n)] := hl
  obtain ⟨hn, hf0, hpr, hA⟩ := id hR
  have hc6 := cLater_le R xz vz nz
  have hlb := laB_le vz nz
  have hla := laA_le vz nz
  have J_36 : ∀  (H : Heap) (locs : List Loc) (ls : Array Slot), Wd G (fA [(h0, .inr (1, [.ref so, .ref to, .ref uo, .int (nI im), .ref x5, .int (nI lm), .ref x6, .int (nI rm), .ref x7, .ref x8, .int sd])), (so, .inr (0, [.int (nI (sN R)), .int (nI (R 0 1)), .int (nI (sF R)), .int (nI (sS R)), .int (nI (sL R)), .ref ak, .ref af, .ref ab, .ref aa])), (ak, aI G 10 (sK R)), (af, aI G 10 (sG R)), (ab, aI G 10 (sO R)), (aa, aI G 10 (sA R)), (to, .inr (0, [.int (nI (sN S)), .int (nI m0), .int (nI (sF S)), .int (nI (sS S)), .int (nI (sL S)), .ref tk, .ref tf, .ref tb, .ref ta])), (tk, aI G 10 (sK S)), (tf, aI G 10 (sG S)), (tb, aI G 10 (sO S)), (ta, aI G 10 (sA S)), (x7, aI G 7 (cN rf))]) s [(h0, .inr (1, [.ref so, .ref to, .ref uo, .int (nI im), .ref x5, .int (nI lm), .ref x6, .int (nI rm), .ref x7, .ref x8, .int sd])), (so, .inr (0, [.int (nI (sN R)), .int (nI (R 0 1)), .int (nI (sF R)), .int (nI (sS R)), .int (nI (sL R)), .ref ak, .ref af, .ref ab, .ref aa])), (ak, aI G 10 (sK R)), (af, aI G 10 (sG R)), (ab, aI G 10 (sO R)), (aa, aI G 10 (sA R)), (to, .inr (0, [.int (nI (sN S)), .int (nI m0), .int (nI (sF S)), .int (nI (sS S)), .int (nI (sL S)), .ref tk, .ref tf, .ref tb, .ref ta])), (tk, aI G 10 (sK S)), (tf, aI G 10 (sG S)), (tb, aI G 10 (sO S)), (ta, aI G 10 (sA S)), (x7, aI G 7 (cN rf))] H locs → lv_has ls 9 [(0, .ref h0), (1, .int x), (2, .int v), (3, .int n), (4, .int (nG (laB vz nz))), (5, .int (nG (laA vz nz)))] → W p l e ({ frames := 4, cells := 0, slots := 0, locals := 100 }) s m (([.ref h0, .int x, .int v, .int n] : List Value).toArray) below meth c H locs 0 0 (MQ below (QI G [(h0, .inr (1, [.ref so, .ref to, .ref uo, .int (nI im), .ref x5, .int (nI lm), .ref x6, .int (nI rm), .ref x7, .ref x8, .int sd])), (so, .inr (0, [.int (nI (sN R)), .int (nI (R 0 1)), .int (nI (sF R)), .int (nI (sS R)), .int (nI (sL R)), .ref ak, .ref af, .ref ab, .ref aa])), (ak, aI G 10 (sK R)), (af, aI G 10 (sG R)), (ab, aI G 10 (sO R)), (aa, aI G 10 (sA R)), (to, .inr (0, [.int (nI (sN S)), .int (nI m0), .int (nI (sF S)), .int (nI (sS S)), .int (nI (sL S)), .ref tk, .ref tf, .ref tb, .ref ta])), (tk, aI G 10 (sK S)), (tf, aI G 10 (sG S)), (tb, aI G 10 (sO S)), (ta, aI G 10 (sA S)), (x7, aI G 7 (cN rf))] (fun (r : Int32) (u : Nat × RT) => r = anI (cLater R xz vz nz) (nI (vLater R xz.toNat vz.toNat nz.toNat))) (fun u => [(h0, .inr (1, [.ref so, .ref to, .ref uo, .int (nI im), .ref x5, .int (nI lm), .ref x6, .int (nI rm), .ref x7, .ref x8, .int sd])), (so, .inr (0, [.int (nI (sN R)), .int (nI (R 0 1)), .int (nI (sF R)), .int (nI (sS R)), .int (nI (sL R)), .ref ak, .ref af, .ref ab, .ref aa])), (ak, aI G 10 (sK R)), (af, aI G 10 (sG R)), (ab, aI G 10 (sO R)), (aa, aI G 10 (sA R)), (to, .inr (0, [.int (nI (sN u.2)), .int (nI u.1), .int (nI (sF u.2)), .int (nI (sS u.2)), .int (nI (sL u.2)), .ref tk, .ref tf, .ref tb, .ref ta])), (tk, aI G 10 (sK u.2)), (tf, aI G 10 (sG u.2)), (tb, aI G 10 (sO u.2)), (ta, aI G 10 (sA u.2)), (x7, aI G 7 (cN (rfU rf (cLater R xz vz nz))))])) (([.ref h0, .int x, .int v, .int n] : List Value).toArray) s 0 0 (fA [(h0, .inr (1, [.ref so, .ref to, .ref uo, .int (nI im), .ref x5, .int (nI lm), .ref x6, .int (nI rm), .ref x7, .ref x8, .int sd])), (so, .inr (0, [.int (nI (sN R)), .int (nI (R 0 1)), .int (nI (sF R)), .int (nI (sS R)), .int (nI (sL R)), .ref ak, .ref af, .ref ab, .ref aa])), (ak, aI G 10 (sK R)), (af, aI G 10 (sG R)), (ab, aI G 10 (sO R)), (aa, aI G 10 (sA R)), (to, .inr (0, [.int (nI (sN S)), .int (nI m0), .int (nI (sF S)), .int (nI (sS S)), .int (nI (sL S)), .ref tk, .ref tf, .ref tb, .ref ta])), (tk, aI G 10 (sK S)), (tf, aI G 10 (sG S)), (tb, aI G 10 (sO S)), (ta, aI G 10 (sA S)), (x7, aI G 7 (cN rf))])) (F0 m 36 ls []) := by
    intro  H locs ls  hw hl
    refine lv_aload_n xx xb dX1_later_36 rfl (lv_at hl 0 rfl) ?_
    refine lv_iload_n xx xb dX1_later_37 rfl (lv_at hl 1 rfl) ?_
    refine lv_iload xx xb dX1_later_38 (lv_at hl 4 rfl) ?_
    refine lv_iload xx xb dX1_later_40 (lv_at hl 5 rfl) ?_
    have hM := kX1_firstOf l G (laB vz nz) (laA vz nz) (by first | assumption | omega)
    refine cs_i C hw hM ysX1_firstOf ml_X1_115 rfl [] rfl rfl (fun _ => (rfl : ([] : List Nat) = [])) (by decide) ⟨Nat.zero_le _, Nat.zero_le _⟩ hl.1 rfl (Nat.le_of_ble_eq_true rfl) dX1_later_42 (fun r _ H locs hr hw => ?_)
    have hw : Wd G (fA [(h0, .inr (1, [.ref so, .ref to, .ref uo, .int (nI im), .ref x5, .int (nI lm), .ref x6, .int (nI rm), .ref x7, .ref x8, .int sd])), (so, .inr (0, [.int (nI (sN R)), .int (nI (R 0 1)), .int (nI (sF R)), .int (nI (sS R)), .int (nI (sL R)), .ref ak, .ref af, .ref ab, .ref aa])), (ak, aI G 10 (sK R)), (af, aI G 10 (sG R)), (ab, aI G 10 (sO R)), (aa, aI G 10 (sA R)), (to, .inr (0, [.int (nI (sN S)), .int (nI m0), .int (nI (sF S)), .int (nI (sS S)), .int (nI (sL S)), .ref tk, .ref tf, .ref tb, .ref ta])), (tk, aI G 10 (sK S)), (tf, aI G 10 (sG S)), (tb, aI G 10 (sO S)), (ta, aI G 10 (sA S)), (x7, aI G 7 (cN rf))]) s [(h0, .inr (1, [.ref so, .ref to, .ref uo, .int (nI im), .ref x5, .int (nI lm), .ref x6, .int (nI rm), .ref x7, .ref x8, .int sd])), (so, .inr (0, [.int (nI (sN R)), .int (nI (R 0 1)), .int (nI (sF R)), .int (nI (sS R)), .int (nI (sL R)), .ref ak, .ref af, .ref ab, .ref aa])), (ak, aI G 10 (sK R)), (af, aI G 10 (sG R)), (ab, aI G 10 (sO R)), (aa, aI G 10 (sA R)), (to, .inr (0, [.int (nI (sN S)), .int (nI m0), .int (nI (sF S)), .int (nI (sS S)), .int (nI (sL S)), .ref tk, .ref tf, .ref tb, .ref ta])), (tk, aI G 10 (sK S)), (tf, aI G 10 (sG S)), (tb, aI G 10 (sO S)), (ta, aI G 10 (sA S)), (x7, aI G 7 (cN rf))] H locs := hw
    subst hr
    have hM := kX1_refusalOfPull l G h0 so to uo x5 x6 x7 x8 im lm rm sd ak af ab aa (R 0 1) R (foN (laB vz nz) (laA vz nz)) x xz h_x (by first | assumption | omega) (foN_le hlb hla)
    refine cv_i C hw hM yvX1_refusalOfPull ml_X1_87 0 rfl rfl rfl [0, 1, 2, 3, 4, 5] rfl rfl (fun _ => (rfl : ([h0, so, ak, af, ab, aa] : List Nat) = [h0, so, ak, af, ab, aa])) (by decide) ⟨Nat.zero_le _, Nat.zero_le _⟩ hl.1 rfl (Nat.le_of_ble_eq_true rfl) dX1_later_45 (fun r _ H locs hr hw => ?_)
    have hw : Wd G (fA [(h0, .inr (1, [.ref so, .ref to, .ref uo, .int (nI im), .ref x5, .int (nI lm), .ref x6, .int (nI rm), .ref x7, .ref x8, .int sd])), (so, .inr (0, [.int (nI (sN R)), .int (nI (R 0 1)), .int (nI (sF R)), .int (nI (sS R)), .int (nI (sL R)), .ref ak, .ref af, .ref ab, .ref aa])), (ak, aI G 10 (sK R)), (af, aI G 10 (sG R)), (ab, aI G 10 (sO R)), (aa, aI G 10 (sA R)), (to, .inr (0, [.int (nI (sN S)), .int (nI m0), .int (nI (sF S)), .int (nI (sS S)), .int (nI (sL S)), .ref tk, .ref tf, .ref tb, .ref ta])), (tk, aI G 10 (sK S)), (tf, aI G 10 (sG S)), (tb, aI G 10 (sO S)), (ta, aI G 10 (sA S)), (x7, aI G 7 (cN rf))]) s [(h0, .inr (1, [.ref so, .ref to, .ref uo, .int (nI im), .ref x5, .int (nI lm), .ref x6, .int (nI rm), .ref x7, .ref x8, .int sd])), (so, .inr (0, [.int (nI (sN R)), .int (nI (R 0 1)), .int (nI (sF R)), .int (nI (sS R)), .int (nI (sL R)), .ref ak, .ref af, .ref ab, .ref aa])), (ak, aI G 10 (sK R)), (af, aI G 10 (sG R)), (ab, aI G 10 (sO R)), (aa, aI G 10 (sA R)), (to, .inr (0, [.int (nI (sN S)), .int (nI m0), .int (nI (sF S)), .int (nI (sS S)), .int (nI (sL S)), .ref tk, .ref tf, .ref tb, .ref ta])), (tk, aI G 10 (sK S)), (tf, aI G 10 (sG S)), (tb, aI G 10 (sO S)), (ta, aI G 10 (sA S)), (x7, aI G 7 (cN rf))] H locs := hw
    subst hr
    refine re_i (nG (cLater R xz vz nz)) (congrArg nG la_eq) ?_
    refine lv_istore (lv' := [(6, .int (nG (cLater R xz vz nz))), (0, .ref h0), (1, .int x), (2, .int v), (3, .int n), (4, .int (nG (laB vz nz))), (5, .int (nG (laA vz nz)))]) xx xb dX1_later_48 hl (by decide) rfl (fun ls hl => ?_)
    refine lv_iload xx xb dX1_later_50 (lv_at hl 0 rfl) ?_
    refine lv_if_eq (tgt := 62) xx xb dX1_later_52 (by decide) (fun c_52 => ?_) (fun c_52 => ?_)
    · skip
      have c_52 := g0_c (by omega) c_52
      obtain ⟨g1, g2, g3, g4⟩ := cLater_0 c_52
      have hPO := OK_pulF xz.toNat vz.toNat hR (Or.inr (by omega))
      refine lv_aload_n xx xb dX1_later_62 rfl (lv_at hl 1 rfl) ?_
      refine m_get C hw 0 rfl fk_X1_16 rfl dX1_later_63 ?_
      refine lv_aload_n xx xb dX1_later_66 rfl (lv_at hl 1 rfl) ?_
      refine m_get C hw 0 rfl fk_X1_10 rfl dX1_later_67 ?_
      have hM := kX0_copyFrom l G to tk tf tb ta m0 S so ak af ab aa (R 0 1) R (by first | assumption | omega)
      refine cv_v C hw hM yvX0_copyFrom ml_X1_131 6 rfl rfl rfl [6, 7, 8, 9, 10, 1, 2, 3, 4, 5] rfl rfl (fun _ => (rfl : ([to, tk, tf, tb, ta, so, ak, af, ab, aa] : List Nat) = [to, tk, tf, tb, ta, so, ak, af, ab, aa])) (by decide) ⟨Nat.zero_le _, Nat.zero_le _⟩ hl.1 rfl (Nat.le_of_ble_eq_true rfl) dX1_later_70 (fun _ H locs hr hw => ?_)
      have hw : Wd G (fA [(h0, .inr (1, [.ref so, .ref to, .ref uo, .int (nI im), .ref x5, .int (nI lm), .ref x6, .int (nI rm), .ref x7, .ref x8, .int sd])), (so, .inr (0, [.int (nI (sN R)), .int (nI (R 0 1)), .int (nI (sF R)), .int (nI (sS R)), .int (nI (sL R)), .ref ak, .ref af, .ref ab, .ref aa])), (ak, aI G 10 (sK R)), (af, aI G 10 (sG R)), (ab, aI G 10 (sO R)), (aa, aI G 10 (sA R)), (to, .inr (0, [.int (nI (sN S)), .int (nI m0), .int (nI (sF S)), .int (nI (sS S)), .int (nI (sL S)), .ref tk, .ref tf, .ref tb, .ref ta])), (tk, aI G 10 (sK S)), (tf, aI G 10 (sG S)), (tb, aI G 10 (sO S)), (ta, aI G 10 (sA S)), (x7, aI G 7 (cN rf))]) s [(h0, .inr (1, [.ref so, .ref to, .ref uo, .int (nI im), .ref x5, .int (nI lm), .ref x6, .int (nI rm), .ref x7, .ref x8, .int sd])), (so, .inr (0, [.int (nI (sN R)), .int (nI (R 0 1)), .int (nI (sF R)), .int (nI (sS R)), .int (nI (sL R)), .ref ak, .ref af, .ref ab, .ref aa])), (ak, aI G 10 (sK R)), (af, aI G 10 (sG R)), (ab, aI G 10 (sO R)), (aa, aI G 10 (sA R)), (to, .inr (0, [.int (nI (sN R)), .int (nI (R 0 1)), .int (nI (sF R)), .int (nI (sS R)), .int (nI (sL R)), .ref tk, .ref tf, .ref tb, .ref ta])), (tk, aI G 10 (sK R)), (tf, aI G 10 (sG R)), (tb, aI G 10 (sO R)), (ta, aI G 10 (sA R)), (x7, aI G 7 (cN rf))] H locs := hw
      refine lv_aload_n xx xb dX1_later_73 rfl (lv_at hl 1 rfl) ?_
      refine m_get C hw 0 rfl fk_X1_16 rfl dX1_later_74 ?_
      refine lv_iload_n xx xb dX1_later_77 rfl (lv_at hl 4 rfl) ?_
      refine re_i (nI nz.toNat) (ofT h_n (by omega) (by omega)) ?_
      have hM := kX0_passMinutes l G to tk tf tb ta (R 0 1) R nz.toNat (by first | assumption | omega) (by first | assumption | omega) (by first | assumption | omega) (by omega)
      refine cv_v C hw hM yvX0_passMinutes ml_X1_125 6 rfl rfl rfl [6, 7, 8, 9, 10] rfl rfl (fun _ => (rfl : ([to, tk, tf, tb, ta] : List Nat) = [to, tk, tf, tb, ta])) (by decide) ⟨Nat.zero_le _, Nat.zero_le _⟩ hl.1 rfl (Nat.le_of_ble_eq_true rfl) dX1_later_78 (fun _ H locs hr hw => ?_)
      have hw : Wd G (fA [(h0, .inr (1, [.ref so, .ref to, .ref uo, .int (nI im), .ref x5, .int (nI lm), .ref x6, .int (nI rm), .ref x7, .ref x8, .int sd])), (so, .inr (0, [.int (nI (sN R)), .int (nI (R 0 1)), .int (nI (sF R)), .int (nI (sS R)), .int (nI (sL R)), .ref ak, .ref af, .ref ab, .ref aa])), (ak, aI G 10 (sK R)), (af, aI G 10 (sG R)), (ab, aI G 10 (sO R)), (aa, aI G 10 (sA R)), (to, .inr (0, [.int (nI (sN S)), .int (nI m0), .int (nI (sF S)), .int (nI (sS S)), .int (nI (sL S)), .ref tk, .ref tf, .ref tb, .ref ta])), (tk, aI G 10 (sK S)), (tf, aI G 10 (sG S)), (tb, aI G 10 (sO S)), (ta, aI G 10 (sA S)), (x7, aI G 7 (cN rf))]) s [(h0, .inr (1, [.ref so, .ref to, .ref uo, .int (nI im), .ref x5, .int (nI lm), .ref x6, .int (nI rm), .ref x7, .ref x8, .int sd])), (so, .inr (0, [.int (nI (sN R)), .int (nI (R 0 1)), .int (nI (sF R)), .int (nI (sS R)), .int (nI (sL R)), .ref ak, .ref af, .ref ab, .ref aa])), (ak, aI G 10 (sK R)), (af, aI G 10 (sG R)), (ab, aI G 10 (sO R)), (aa, aI G 10 (sA R)), (to, .inr (0, [.int (nI (sN (itF R nz.toNat))), .int (nI ((R 0 1) + nz.toNat)), .int (nI (sF (itF R nz.toNat))), .int (nI (sS (itF R nz.toNat))), .int (nI (sL (itF R nz.toNat))), .ref tk, .ref tf, .ref tb, .ref ta])), (tk, aI G 10 (sK (itF R nz.toNat))), (tf, aI G 10 (sG (itF R nz.toNat))), (tb, aI G 10 (sO (itF R nz.toNat))), (ta, aI G 10 (sA (itF R nz.toNat))), (x7, aI G 7 (cN rf))] H locs := hw
      refine lv_aload_n xx xb dX1_later_81 rfl (lv_at hl 1 rfl) ?_
      refine m_get C hw 0 rfl fk_X1_16 rfl dX1_later_82 ?_
      refine m_get C hw 6 rfl fk_X1_153 rfl dX1_later_85 ?_
      refine re_i (nI (setF (itF R nz.toNat) 1)) rfl ?_
      refine lv_istore (lv' := [(7, .int (nI (setF (itF R nz.toNat) 1))), (6, .int (nG (cLater R xz vz nz))), (0, .ref h0), (1, .int x), (2, .int v), (3, .int n), (4, .int (nG (laB vz nz))), (5, .int (nG (laA vz nz)))]) xx xb dX1_later_88 hl (by decide) rfl (fun ls hl => ?_)
      refine lv_aload_n xx xb dX1_later_90 rfl (lv_at hl 2 rfl) ?_
      refine m_get C hw 0 rfl fk_X1_16 rfl dX1_later_91 ?_
      refine lv_aload_n xx xb dX1_later_94 rfl (lv_at hl 2 rfl) ?_
      refine m_get C hw 0 rfl fk_X1_10 rfl dX1_later_95 ?_
      have hM := kX0_copyFrom l G to tk tf tb ta ((R 0 1) + nz.toNat) (itF R nz.toNat) so ak af ab aa (R 0 1) R (by first | assumption | omega)
      refine cv_v C hw hM yvX0_copyFrom ml_X1_131 6 rfl rfl rfl [6, 7, 8, 9, 10, 1, 2, 3, 4, 5] rfl rfl (fun _ => (rfl : ([to, tk, tf, tb, ta, so, ak, af, ab, aa] : List Nat) = [to, tk, tf, tb, ta, so, ak, af, ab, aa])) (by decide) ⟨Nat.zero_le _, Nat.zero_le _⟩ hl.1 rfl (Nat.le_of_ble_eq_true rfl) dX1_later_98 (fun _ H locs hr hw => ?_)
      have hw : Wd G (fA [(h0, .inr (1, [.ref so, .ref to, .ref uo, .int (nI im), .ref x5, .int (nI lm), .ref x6, .int (nI rm), .ref x7, .ref x8, .int sd])), (so, .inr (0, [.int (nI (sN R)), .int (nI (R 0 1)), .int (nI (sF R)), .int (nI (sS R)), .int (nI (sL R)), .ref ak, .ref af, .ref ab, .ref aa])), (ak, aI G 10 (sK R)), (af, aI G 10 (sG R)), (ab, aI G 10 (sO R)), (aa, aI G 10 (sA R)), (to, .inr (0, [.int (nI (sN S)), .int (nI m0), .int (nI (sF S)), .int (nI (sS S)), .int (nI (sL S)), .ref tk, .ref tf, .ref tb, .ref ta])), (tk, aI G 10 (sK S)), (tf, aI G 10 (sG S)), (tb, aI G 10 (sO S)), (ta, aI G 10 (sA S)), (x7, aI G 7 (cN rf))]) s [(h0, .inr (1, [.ref so, .ref to, .ref uo, .int (nI im), .ref x5, .int (nI lm), .ref x6, .int (nI rm), .ref x7, .ref x8, .int sd])), (so, .inr (0, [.int (nI (sN R)), .int (nI (R 0 1)), .int (nI (sF R)), .int (nI (sS R)), .int (nI (sL R)), .ref ak, .ref af, .ref ab, .ref aa])), (ak, aI G 10 (sK R)), (af, aI G 10 (sG R)), (ab, aI G 10 (sO R)), (aa, aI G 10 (sA R)), (to, .inr (0, [.int (nI (sN R)), .int (nI (R 0 1)), .int (nI (sF R)), .int (nI (sS R)), .int (nI (sL R)), .ref tk, .ref tf, .ref tb, .ref ta])), (tk, aI G 10 (sK R)), (tf, aI G 10 (sG R)), (tb, aI G 10 (sO R)), (ta, aI G 10 (sA R)), (x7, aI G 7 (cN rf))] H locs := hw
      refine lv_aload_n xx xb dX1_later_101 rfl (lv_at hl 2 rfl) ?_
      refine m_get C hw 0 rfl fk_X1_16 rfl dX1_later_102 ?_
      refine lv_iload_n xx xb dX1_later_105 rfl (lv_at hl 3 rfl) ?_
      refine re_i (nI xz.toNat) (ofT h_x (by omega) (by omega)) ?_
      refine lv_iload_n xx xb dX1_later_106 rfl (lv_at hl 4 rfl) ?_
      refine re_i (nI vz.toNat) (ofT h_v (by omega) (by omega)) ?_
      have hM := kX0_pullThing l G to tk tf tb ta (R 0 1) R xz.toNat vz.toNat (by first | assumption | omega) (by first | assumption | omega) (by first | assumption | omega) (by first | assumption | omega)
      refine cv_i C hw hM yvX0_pullThing ml_X1_90 6 rfl rfl rfl [6, 7, 8, 9, 10] rfl rfl (fun _ => (rfl : ([to, tk, tf, tb, ta] : List Nat) = [to, tk, tf, tb, ta])) (by decide) ⟨Nat.zero_le _, Nat.zero_le _⟩ hl.1 rfl (Nat.le_of_ble_eq_true rfl) dX1_later_107 (fun r _ H locs hr hw => ?_)
      have hw : Wd G (fA [(h0, .inr (1, [.ref so, .ref to, .ref uo, .int (nI im), .ref x5, .int (nI lm), .ref x6, .int (nI rm), .ref x7, .ref x8, .int sd])), (so, .inr (0, [.int (nI (sN R)), .int (nI (R 0 1)), .int (nI (sF R)), .int (nI (sS R)), .int (nI (sL R)), .ref ak, .ref af, .ref ab, .ref aa])), (ak, aI G 10 (sK R)), (af, aI G 10 (sG R)), (ab, aI G 10 (sO R)), (aa, aI G 10 (sA R)), (to, .inr (0, [.int (nI (sN S)), .int (nI m0), .int (nI (sF S)), .int (nI (sS S)), .int (nI (sL S)), .ref tk, .ref tf, .ref tb, .ref ta])), (tk, aI G 10 (sK S)), (tf, aI G 10 (sG S)), (tb, aI G 10 (sO S)), (ta, aI G 10 (sA S)), (x7, aI G 7 (cN rf))]) s [(h0, .inr (1, [.ref so, .ref to, .ref uo, .int (nI im), .ref x5, .int (nI lm), .ref x6, .int (nI rm), .ref x7, .ref x8, .int sd])), (so, .inr (0, [.int (nI (sN R)), .int (nI (R 0 1)), .int (nI (sF R)), .int (nI (sS R)), .int (nI (sL R)), .ref ak, .ref af, .ref ab, .ref aa])), (ak, aI G 10 (sK R)), (af, aI G 10 (sG R)), (ab, aI G 10 (sO R)), (aa, aI G 10 (sA R)), (to, .inr (0, [.int (nI (sN (pulF R xz.toNat vz.toNat))), .int (nI (R 0 1)), .int (nI (sF (pulF R xz.toNat vz.toNat))), .int (nI (sS (pulF R xz.toNat vz.toNat))), .int (nI (sL (pulF R xz.toNat vz.toNat))), .ref tk, .ref tf, .ref tb, .ref ta])), (tk, aI G 10 (sK (pulF R xz.toNat vz.toNat))), (tf, aI G 10 (sG (pulF R xz.toNat vz.toNat))), (tb, aI G 10 (sO (pulF R xz.toNat vz.toNat))), (ta, aI G 10 (sA (pulF R xz.toNat vz.toNat))), (x7, aI G 7 (cN rf))] H locs := hw
      subst hr
      refine lv_istore (lv' := [(8, .int (nI (bs (shkF R xz.toNat vz.toNat) (R 0 0)))), (7, .int (nI (setF (itF R nz.toNat) 1))), (6, .int (nG (cLater R xz vz nz))), (0, .ref h0), (1, .int x), (2, .int v), (3, .int n), (4, .int (nG (laB vz nz))), (5, .int (nG (laA vz nz)))]) xx xb dX1_later_110 hl (by decide) rfl (fun ls hl => ?_)
      refine lv_aload_n xx xb dX1_later_112 rfl (lv_at hl 3 rfl) ?_
      refine m_get C hw 0 rfl fk_X1_16 rfl dX1_later_113 ?_
      refine lv_iload_n xx xb dX1_later_116 rfl (lv_at hl 6 rfl) ?_
      refine re_i (nI nz.toNat) (ofT h_n (by omega) (by omega)) ?_
      have hM := kX0_passMinutes l G to tk tf tb ta (R 0 1) (pulF R xz.toNat vz.toNat) nz.toNat hPO (AK_pulF _ _ hK) (pul03 hp _ _) (by omega)
      refine cv_v C hw hM yvX0_passMinutes ml_X1_125 6 rfl rfl rfl [6, 7, 8, 9, 10] rfl rfl (fun _ => (rfl : ([to, tk, tf, tb, ta] : List Nat) = [to, tk, tf, tb, ta])) (by decide) ⟨Nat.zero_le _, Nat.zero_le _⟩ hl.1 rfl (Nat.le_of_ble_eq_true rfl) dX1_later_117 (fun _ H locs hr hw => ?_)
      have hw : Wd G (fA [(h0, .inr (1, [.ref so, .ref to, .ref uo, .int (nI im), .ref x5, .int (nI lm), .ref x6, .int (nI rm), .ref x7, .ref x8, .int sd])), (so, .inr (0, [.int (nI (sN R)), .int (nI (R 0 1)), .int (nI (sF R)), .int (nI (sS R)), .int (nI (sL R)), .ref ak, .ref af, .ref ab, .ref aa])), (ak, aI G 10 (sK R)), (af, aI G 10 (sG R)), (ab, aI G 10 (sO R)), (aa, aI G 10 (sA R)), (to, .inr (0, [.int (nI (sN S)), .int (nI m0), .int (nI (sF S)), .int (nI (sS S)), .int (nI (sL S)), .ref tk, .ref tf, .ref tb, .ref ta])), (tk, aI G 10 (sK S)), (tf, aI G 10 (sG S)), (tb, aI G 10 (sO S)), (ta, aI G 10 (sA S)), (x7, aI G 7 (cN rf))]) s [(h0, .inr (1, [.ref so, .ref to, .ref uo, .int (nI im), .ref x5, .int (nI lm), .ref x6, .int (nI rm), .ref x7, .ref x8, .int sd])), (so, .inr (0, [.int (nI (sN R)), .int (nI (R 0 1)), .int (nI (sF R)), .int (nI (sS R)), .int (nI (sL R)), .ref ak, .ref af, .ref ab, .ref aa])), (ak, aI G 10 (sK R)), (af, aI G 10 (sG R)), (ab, aI G 10 (sO R)), (aa, aI G 10 (sA R)), (to, .inr (0, [.int (nI (sN (itF (pulF R xz.toNat vz.toNat) nz.toNat))), .int (nI ((R 0 1) + nz.toNat)), .int (nI (sF (itF (pulF R xz.toNat vz.toNat) nz.toNat))), .int (nI (sS (itF (pulF R xz.toNat vz.toNat) nz.toNat))), .int (nI (sL (itF (pulF R xz.toNat vz.toNat) nz.toNat))), .ref tk, .ref tf, .ref tb, .ref ta])), (tk, aI G 10 (sK (itF (pulF R xz.toNat vz.toNat) nz.toNat))), (tf, aI G 10 (sG (itF (pulF R xz.toNat vz.toNat) nz.toNat))), (tb, aI G 10 (sO (itF (pulF R xz.toNat vz.toNat) nz.toNat))), (ta, aI G 10 (sA (itF (pulF R xz.toNat vz.toNat) nz.toNat))), (x7, aI G 7 (cN rf))] H locs := hw
      refine lv_aload_n xx xb dX1_later_120 rfl (lv_at hl 3 rfl) ?_
      refine m_get C hw 0 rfl fk_X1_16 rfl dX1_later_121 ?_
      refine m_get C hw 6 rfl fk_X1_153 rfl dX1_later_124 ?_
      refine re_i (nI (setF (itF (pulF R xz.toNat vz.toNat) nz.toNat) 1)) rfl ?_
      refine lv_iload xx xb dX1_later_127 (lv_at hl 0 rfl) ?_
      refine lv_iconst (v := (-1)) xx xb dX1_later_129 (by decide) ?_
      refine lv_ixor xx xb dX1_later_130 ?_
      refine lv_iand xx xb dX1_later_131 ?_
      refine re_i (nI (anN (setF (itF (pulF R xz.toNat vz.toNat) nz.toNat) 1) (bs (shkF R xz.toNat vz.toNat) (R 0 0)))) (an_N _ _) ?_
      refine lv_iload xx xb dX1_later_132 (lv_at hl 1 rfl) ?_
      refine lv_iconst (v := (-1)) xx xb dX1_later_134 (by decide) ?_
      refine lv_ixor xx xb dX1_later_135 ?_
      refine lv_iand xx xb dX1_later_136 ?_
      refine re_i (nI (vLater R xz.toNat vz.toNat nz.toNat)) (an_N _ _) ?_
      have hc : cLater R xz vz nz = 0 := by first | assumption | rfl
      exact rt_i C hw (((R 0 1) + nz.toNat), itF (pulF R xz.toNat vz.toNat) nz.toNat) (by exact (anI_0 hc _).symm) (by rw [rfU_0 hc]) dX1_later_137
    · skip
      have c_52 := g0_n c_52
      refine lv_aload_n xx xb dX1_later_55 rfl (lv_at hl 1 rfl) ?_
      refine lv_iload xx xb dX1_later_56 (lv_at hl 0 rfl) ?_
      have hM := kX1_refuse l G h0 so to uo x5 x6 x7 x8 im lm rm sd rf (cLater R xz vz nz) (by first | assumption | omega)
      refine cv_i C hw hM yvX1_refuse ml_X1_43 0 rfl rfl rfl [0, 11] rfl rfl (fun _ => (rfl : ([h0, x7] : List Nat) = [h0, x7])) (by decide) ⟨Nat.zero_le _, Nat.zero_le _⟩ hl.1 rfl (Nat.le_of_ble_eq_true rfl) dX1_later_58 (fun r _ H locs hr hw => ?_)
      have hw : Wd G (fA [(h0, .inr (1, [.ref so, .ref to, .ref uo, .int (nI im), .ref x5, .int (nI lm), .ref x6, .int (nI rm), .ref x7, .ref x8, .int sd])), (so, .inr (0, [.int (nI (sN R)), .int (nI (R 0 1)), .int (nI (sF R)), .int (nI (sS R)), .int (nI (sL R)), .ref ak, .ref af, .ref ab, .ref aa])), (ak, aI G 10 (sK R)), (af, aI G 10 (sG R)), (ab, aI G 10 (sO R)), (aa, aI G 10 (sA R)), (to, .inr (0, [.int (nI (sN S)), .int (nI m0), .int (nI (sF S)), .int (nI (sS S)), .int (nI (sL S)), .ref tk, .ref tf, .ref tb, .ref ta])), (tk, aI G 10 (sK S)), (tf, aI G 10 (sG S)), (tb, aI G 10 (sO S)), (ta, aI G 10 (sA S)), (x7, aI G 7 (cN rf))]) s [(h0, .inr (1, [.ref so, .ref to, .ref uo, .int (nI im), .ref x5, .int (nI lm), .ref x6, .int (nI rm), .ref x7, .ref x8, .int sd])), (so, .inr (0, [.int (nI (sN R)), .int (nI (R 0 1)), .int (nI (sF R)), .int (nI (sS R)), .int (nI (sL R)), .ref ak, .ref af, .ref ab, .ref aa])), (ak, aI G 10 (sK R)), (af, aI G 10 (sG R)), (ab, aI G 10 (sO R)), (aa, aI G 10 (sA R)), (to, .inr (0, [.int (nI (sN S)), .int (nI m0), .int (nI (sF S)), .int (nI (sS S)), .int (nI (sL S)), .ref tk, .ref tf, .ref tb, .ref ta])), (tk, aI G 10 (sK S)), (tf, aI G 10 (sG S)), (tb, aI G 10 (sO S)), (ta, aI G 10 (sA S)), (x7, aI G 7 (cN (upN rf (cLater R xz vz nz) (rf (cLater R xz vz nz) + 1))))] H locs := hw
      subst hr
      have hc : cLater R xz vz nz = (cLater R xz vz nz) := by first | assumption | rfl
      have hj : (cLater R xz vz nz) ≠ 0 := by omega
      exact rt_i C hw (m0, S) (by exact (anI_r hc hj _).symm) (by rw [rfU_r hc hj]) dX1_later_61
  have J_16 : ∀  (H : Heap) (locs : List Loc) (ls : Array Slot), Wd G (fA [(h0, .inr (1, [.ref so, .ref to, .ref uo, .int (nI im), .ref x5, .int (nI lm), .ref x6, .int (nI rm), .ref x7, .ref x8, .int sd])), (so, .inr (0, [.int (nI (sN R)), .int (nI (R 0 1)), .int (nI (sF R)), .int (nI (sS R)), .int (nI (sL R)), .ref ak, .ref af, .ref ab, .ref aa])), (ak, aI G 10 (sK R)), (af, aI G 10 (sG R)), (ab, aI G 10 (sO R)), (aa, aI G 10 (sA R)), (to, .inr (0, [.int (nI (sN S)), .int (nI m0), .int (nI (sF S)), .int (nI (sS S)), .int (nI (sL S)), .ref tk, .ref tf, .ref tb, .ref ta])), (tk, aI G 10 (sK S)), (tf, aI G 10 (sG S)), (tb, aI G 10 (sO S)), (ta, aI G 10 (sA S)), (x7, aI G 7 (cN rf))]) s [(h0, .inr (1, [.ref so, .ref to, .ref uo, .int (nI im), .ref x5, .int (nI lm), .ref x6, .int (nI rm), .ref x7, .ref x8, .int sd])), (so, .inr (0, [.int (nI (sN R)), .int (nI (R 0 1)), .int (nI (sF R)), .int (nI (sS R)), .int (nI (sL R)), .ref ak, .ref af, .ref ab, .ref aa])), (ak, aI G 10 (sK R)), (af, aI G 10 (sG R)), (ab, aI G 10 (sO R)), (aa, aI G 10 (sA R)), (to, .inr (0, [.int (nI (sN S)), .int (nI m0), .int (nI (sF S)), .int (nI (sS S)), .int (nI (sL S)), .ref tk, .ref tf, .ref tb, .ref ta])), (tk, aI G 10 (sK S)), (tf, aI G 10 (sG S)), (tb, aI G 10 (sO S)), (ta, aI G 10 (sA S)), (x7, aI G 7 (cN rf))] H locs → lv_has ls 9 [(0, .ref h0), (1, .int x), (2, .int v), (3, .int n), (4, .int (nG (laB vz nz)))] → W p l e ({ frames := 4, cells := 0, slots := 0, locals := 100 }) s m (([.ref h0, .int x, .int v, .int n] : List Value).toArray) below meth c H locs 0 0 (MQ below (QI G [(h0, .inr (1, [.ref so, .ref to, .ref uo, .int (nI im), .ref x5, .int (nI lm), .ref x6, .int (nI rm), .ref x7, .ref x8, .int sd])), (so, .inr (0, [.int (nI (sN R)), .int (nI (R 0 1)), .int (nI (sF R)), .int (nI (sS R)), .int (nI (sL R)), .ref ak, .ref af, .ref ab, .ref aa])), (ak, aI G 10 (sK R)), (af, aI G 10 (sG R)), (ab, aI G 10 (sO R)), (aa, aI G 10 (sA R)), (to, .inr (0, [.int (nI (sN S)), .int (nI m0), .int (nI (sF S)), .int (nI (sS S)), .int (nI (sL S)), .ref tk, .ref tf, .ref tb, .ref ta])), (tk, aI G 10 (sK S)), (tf, aI G 10 (sG S)), (tb, aI G 10 (sO S)), (ta, aI G 10 (sA S)), (x7, aI G 7 (cN rf))] (fun (r : Int32) (u : Nat × RT) => r = anI (cLater R xz vz nz) (nI (vLater R xz.toNat vz.toNat nz.toNat))) (fun u => [(h0, .inr (1, [.ref so, .ref to, .ref uo, .int (nI im), .ref x5, .int (nI lm), .ref x6, .int (nI rm), .ref x7, .ref x8, .int sd])), (so, .inr (0, [.int (nI (sN R)), .int (nI (R 0 1)), .int (nI (sF R)), .int (nI (sS R)), .int (nI (sL R)), .ref ak, .ref af, .ref ab, .ref aa])), (ak, aI G 10 (sK R)), (af, aI G 10 (sG R)), (ab, aI G 10 (sO R)), (aa, aI G 10 (sA R)), (to, .inr (0, [.int (nI (sN u.2)), .int (nI u.1), .int (nI (sF u.2)), .int (nI (sS u.2)), .int (nI (sL u.2)), .ref tk, .ref tf, .ref tb, .ref ta])), (tk, aI G 10 (sK u.2)), (tf, aI G 10 (sG u.2)), (tb, aI G 10 (sO u.2)), (ta, aI G 10 (sA u.2)), (x7, aI G 7 (cN (rfU rf (cLater R xz vz nz))))])) (([.ref h0, .int x, .int v, .int n] : List Value).toArray) s 0 0 (fA [(h0, .inr (1, [.ref so, .ref to, .ref uo, .int (nI im), .ref x5, .int (nI lm), .ref x6, .int (nI rm), .ref x7, .ref x8, .int sd])), (so, .inr (0, [.int (nI (sN R)), .int (nI (R 0 1)), .int (nI (sF R)), .int (nI (sS R)), .int (nI (sL R)), .ref ak, .ref af, .ref ab, .ref aa])), (ak, aI G 10 (sK R)), (af, aI G 10 (sG R)), (ab, aI G 10 (sO R)), (aa, aI G 10 (sA R)), (to, .inr (0, [.int (nI (sN S)), .int (nI m0), .int (nI (sF S)), .int (nI (sS S)), .int (nI (sL S)), .ref tk, .ref tf, .ref tb, .ref ta])), (tk, aI G 10 (sK S)), (tf, aI G 10 (sG S)), (tb, aI G 10 (sO S)), (ta, aI G 10 (sA S)), (x7, aI G 7 (cN rf))])) (F0 m 16 ls []) := by
    intro  H locs ls  hw hl
    refine lv_iload_n xx xb dX1_later_16 rfl (lv_at hl 2 rfl) ?_
    refine lv_bipush (v := nI 9) xx xb dX1_later_17 (by decide) ?_
    refine lv_icmp_gt (tgt := 28) xx xb dX1_later_19 (by decide) (fun c_19 => ?_) (fun c_19 => ?_)
    · skip
      have c_19 := lt_c (tN (by omega)) h_v c_19
      refine lv_bipush (v := (-6)) xx xb dX1_later_28 (by decide) ?_
      refine lv_goto (tgt := 34) xx xb dX1_later_30 (by decide) ?_
      refine re_i (nG (laA vz nz)) (by (try unfold laA); first | (rw [if_pos (by omega)]; decide +kernel) | (rw [if_neg (by omega)]; decide +kernel)) ?_
      refine lv_istore (lv' := [(5, .int (nG (laA vz nz))), (0, .ref h0), (1, .int x), (2, .int v), (3, .int n), (4, .int (nG (laB vz nz)))]) xx xb dX1_later_34 hl (by decide) rfl (fun ls hl => ?_)
      exact J_36  H _ ls  hw (lv_sub hl [1, 2, 3, 4, 5, 0] rfl)
    · skip
      have c_19 := nlt_c (tN (by omega)) h_v c_19
      refine lv_iload_n xx xb dX1_later_22 rfl (lv_at hl 3 rfl) ?_
      refine lv_bipush (v := nI 99) xx xb dX1_later_23 (by decide) ?_
      refine lv_icmp_le (tgt := 33) xx xb dX1_later_25 (by decide) (fun c_25 => ?_) (fun c_25 => ?_)
      · skip
        have c_25 := le_c h_n (tN (by omega)) c_25
        refine lv_iconst (v := nI 0) xx xb dX1_later_33 (by decide) ?_
        refine re_i (nG (laA vz nz)) (by (try unfold laA); first | (rw [if_pos (by omega)]; decide +kernel) | (rw [if_neg (by omega)]; decide +kernel)) ?_
        refine lv_istore (lv' := [(5, .int (nG (laA vz nz))), (0, .ref h0), (1, .int x), (2, .int v), (3, .int n), (4, .int (nG (laB vz nz)))]) xx xb dX1_later_34 hl (by decide) rfl (fun ls hl => ?_)
        exact J_36  H _ ls  hw (lv_sub hl [1, 2, 3, 4, 5, 0] rfl)
      · skip
        have c_25 := nle_c h_n (tN (by omega)) c_25
        refine lv_bipush (v := (-6)) xx xb dX1_later_28 (by decide) ?_
        refine lv_goto (tgt := 34) xx xb dX1_later_30 (by decide) ?_
        refine re_i (nG (laA vz nz)) (by (try unfold laA); first | (rw [if_pos (by omega)]; decide +kernel) | (rw [if_neg (by omega)]; decide +kernel)) ?_
        refine lv_istore (lv' := [(5, .int (nG (laA vz nz))), (0, .ref h0), (1, .int x), (2, .int v), (3, .int n), (4, .int (nG (laB vz nz)))]) xx xb dX1_later_34 hl (by decide) rfl (fun ls hl => ?_)
        exact J_36  H _ ls  hw (lv_sub hl [1, 2, 3, 4, 5, 0] rfl)
  refine lv_iload_n xx xb dX1_later_0 rfl (lv_at hl 2 rfl) ?_
  refine lv_if_lt (tgt := 8) xx xb dX1_later_1 (by decide) (fun c_1 => ?_) (fun c_1 => ?_)
  · skip
    have c_1 := lt_c h_v Int32.toInt_zero c_1
    refine lv_bipush (v := (-4)) xx xb dX1_later_8 (by decide) ?_
    refine lv_goto (tgt := 14) xx xb dX1_later_10 (by decide) ?_
    refine re_i (nG (laB vz nz)) (by (try unfold laB); first | (rw [if_pos (by omega)]; decide +kernel) | (rw [if_neg (by omega)]; decide +kernel)) ?_
    refine lv_istore (lv' := [(4, .int (nG (laB vz nz))), (0, .ref h0), (1, .int x), (2, .int v), (3, .int n)]) xx xb dX1_later_14 hl (by decide) rfl (fun ls hl => ?_)
    exact J_16  H _ ls  hw (lv_sub hl [1, 2, 3, 4, 0] rfl)
  · skip
    have c_1 := nlt_c h_v Int32.toInt_zero c_1
    refine lv_iload_n xx xb dX1_later_4 rfl (lv_at hl 3 rfl) ?_
    refine lv_if_ge (tgt := 13) xx xb dX1_later_5 (by decide) (fun c_5 => ?_) (fun c_5 => ?_)
    · skip
      have c_5 := le_c Int32.toInt_zero h_n c_5
      refine lv_iconst (v := nI 0) xx xb dX1_later_13 (by decide) ?_
      refine re_i (nG (laB vz nz)) (by (try unfold laB); first | (rw [if_pos (by omega)]; decide +kernel) | (rw [if_neg (by omega)]; decide +kernel)) ?_
      refine lv_istore (lv' := [(4, .int (nG (laB vz nz))), (0, .ref h0), (1, .int x), (2, .int v), (3, .int n)]) xx xb dX1_later_14 hl (by decide) rfl (fun ls hl => ?_)
      exact J_16  H _ ls  hw (lv_sub hl [1, 2, 3, 4, 0] rfl)
    · skip
      have c_5 := nle_c Int32.toInt_zero h_n c_5
      refine lv_bipush (v := (-4)) xx xb dX1_later_8 (by decide) ?_
      refine lv_goto (tgt := 14) xx xb dX1_later_10 (by decide) ?_
      refine re_i (nG (laB vz nz)) (by (try unfold laB); first | (rw [if_pos (by omega)]; decide +kernel) | (rw [if_neg (by omega)]; decide +kernel)) ?_
      refine lv_istore (lv' := [(4, .int (nG (laB vz nz))), (0, .ref h0), (1, .int x), (2, .int v), (3, .int n)]) xx xb dX1_later_14 hl (by decide) rfl (fun ls hl => ?_)
      exact J_16  H _ ls  hw (lv_sub hl [1, 2, 3, 4, 0] rfl)
set_option maxRecDepth 100000 in
set_option maxHeartbeats 4000000 in
theorem kX1_standsThough (l : Launch) (G : GT) (h0 : Nat) (so : Nat) (to : Nat) (uo : Nat) (x5 : Nat) (x6 : Nat) (x7 : Nat) (x8 : Nat) (im : Nat) (lm : Nat) (rm : Nat) (sd : Int32) (ak : Nat) (af : Nat) (ab : Nat) (aa : Nat) (R : RT) (tk : Nat) (tf : Nat) (tb : Nat) (ta : Nat) (m0 : Nat) (S : RT) (a : Nat) (s1 : Nat) (n : Nat) (hR : OK R) (hK : AK R) (hp : R 0 3 = 0) (ha : a < R 0 0) (hs1 : s1 < 1024) (hn9 : n ≤ 99) : Ct l yX1_standsThough cX1_standsThough 5 (some .boolean) 3 78 [.ref h0, .int (nI a), .int (nI s1), .int (nI n)] G [(h0, .inr (1, [.ref so, .ref to, .ref uo, .int (nI im), .ref x5, .int (nI lm), .ref x6, .int (nI rm), .ref x7, .ref x8, .int sd])), (so, .inr (0, [.int (nI (sN R)), .int (nI (R 0 1)), .int (nI (sF R)), .int (nI (sS R)), .int (nI (sL R)), .ref ak, .ref af, .ref ab, .ref aa])), (ak, aI G 10 (sK R)), (af, aI G 10 (sG R)), (ab, aI G 10 (sO R)), (aa, aI G 10 (sA R)), (to, .inr (0, [.int (nI (sN S)), .int (nI m0), .int (nI (sF S)), .int (nI (sS S)), .int (nI (sL S)), .ref tk, .ref tf, .ref tb, .ref ta])), (tk, aI G 10 (sK S)), (tf, aI G 10 (sG S)), (tb, aI G 10 (sO S)), (ta, aI G 10 (sA S))] (QI G [(h0, .inr (1, [.ref so, .ref to, .ref uo, .int (nI im), .ref x5, .int (nI lm), .ref x6, .int (nI rm), .ref x7, .ref x8, .int sd])), (so, .inr (0, [.int (nI (sN R)), .int (nI (R 0 1)), .int (nI (sF R)), .int (nI (sS R)), .int (nI (sL R)), .ref ak, .ref af, .ref ab, .ref aa])), (ak, aI G 10 (sK R)), (af, aI G 10 (sG R)), (ab, aI G 10 (sO R)), (aa, aI G 10 (sA R)), (to, .inr (0, [.int (nI (sN S)), .int (nI m0), .int (nI (sF S)), .int (nI (sS S)), .int (nI (sL S)), .ref tk, .ref tf, .ref tb, .ref ta])), (tk, aI G 10 (sK S)), (tf, aI G 10 (sG S)), (tb, aI G 10 (sO S)), (ta, aI G 10 (sA S))] (fun (r : Int32) (u : RT) => r = (if psB R s1 (R 0 0) = true ∧ itF (psR R s1 (R 0 0)) n 4 a = 0 then 1 else 0) ∧ True) (fun u => [(h0, .inr (1, [.ref so, .ref to, .ref uo, .int (nI im), .ref x5, .int (nI lm), .ref x6, .int (nI rm), .ref x7, .ref x8, .int sd])), (so, .inr (0, [.int (nI (sN R)), .int (nI (R 0 1)), .int (nI (sF R)), .int (nI (sS R)), .int (nI (sL R)), .ref ak, .ref af, .ref ab, .ref aa])), (ak, aI G 10 (sK R)), (af, aI G 10 (sG R)), (ab, aI G 10 (sO R)), (aa, aI G 10 (sA R)), (to, .inr (0, [.int (nI (sN u)), .int (nI (R 0 1)), .int (nI (sF u)), .int (nI (sS u)), .int (nI (sL u)), .ref tk, .ref tf, .ref tb, .ref ta])), (tk, aI G 10 (sK u)), (tf, aI G 10 (sG u)), (tb, aI G 10 (sO u)), (ta, aI G 10 (sA u))])) := by
  refine en (by decide +kernel) (Nat.le_of_ble_eq_true rfl) ?_
  intro p e s m below meth c ls H locs C hl hw
  have xx := C.1
  have xb := C.2.1
  have hw : Wd G (fA [(h0, .inr (1, [.ref so, .ref to, .ref uo, .int (nI im), .ref x5, .int (nI lm), .ref x6, .int (nI rm), .ref x7, .ref x8, .int sd])), (so, .inr (0, [.int (nI (sN R)), .int (nI (R 0 1)), .int (nI (sF R)), .int (nI (sS R)), .int (nI (sL R)), .ref ak, .ref af, .ref ab, .ref aa])), (ak, aI G 10 (sK R)), (af, aI G 10 (sG R)), (ab, aI G 10 (sO R)), (aa, aI G 10 (sA R)), (to, .inr (0, [.int (nI (sN S)), .int (nI m0), .int (nI (sF S)), .int (nI (sS S)), .int (nI (sL S)), .ref tk, .ref tf, .ref tb, .ref ta])), (tk, aI G 10 (sK S)), (tf, aI G 10 (sG S)), (tb, aI G 10 (sO S)), (ta, aI G 10 (sA S))]) s [(h0, .inr (1, [.ref so, .ref to, .ref uo, .int (nI im), .ref x5, .int (nI lm), .ref x6, .int (nI rm), .ref x7, .ref x8, .int sd])), (so, .inr (0, [.int (nI (sN R)), .int (nI (R 0 1)), .int (nI (sF R)), .int (nI (sS R)), .int (nI (sL R)), .ref ak, .ref af, .ref ab, .ref aa])), (ak, aI G 10 (sK R)), (af, aI G 10 (sG R)), (ab, aI G 10 (sO R)), (aa, aI G 10 (sA R)), (to, .inr (0, [.int (nI (sN S)), .int (nI m0), .int (nI (sF S)), .int (nI (sS S)), .int (nI (sL S)), .ref tk, .ref tf, .ref tb, .ref ta])), (tk, aI G 10 (sK S)), (tf, aI G 10 (sG S)), (tb, aI G 10 (sO S)), (ta, aI G 10 (sA S))] H locs := hw
  have hl : lv_has ls 5 [(0, .ref h0), (1, .int (nI a)), (2, .int (nI s1)), (3, .int (nI n))] := hl
  obtain ⟨hn, hf0, hpr, hA⟩ := id hR
  refine lv_aload_n xx xb dX1_standsThough_0 rfl (lv_at hl 0 rfl) ?_
  refine m_get C hw 0 rfl fk_X1_16 rfl dX1_standsThough_1 ?_
  refine lv_aload_n xx xb dX1_standsThough_4 rfl (lv_at hl 0 rfl) ?_
  refine m_get C hw 0 rfl fk_X1_10 rfl dX1_standsThough_5 ?_
  have hM := kX0_copyFrom l G to tk tf tb ta m0 S so ak af ab aa (R 0 1) R (by first | assumption | omega)
  refine cv_v C hw hM yvX0_copyFrom ml_X1_131 6 rfl rfl rfl [6, 7, 8, 9, 10, 1, 2, 3, 4, 5] rfl rfl (fun _ => (rfl : ([to, tk, tf, tb, ta, so, ak, af, ab, aa] : List Nat) = [to, tk, tf, tb, ta, so, ak, af, ab, aa])) (by decide) ⟨Nat.zero_le _, Nat.zero_le _⟩ hl.1 rfl (Nat.le_of_ble_eq_true rfl) dX1_standsThough_8 (fun _ H locs hr hw => ?_)
  have hw : Wd G (fA [(h0, .inr (1, [.ref so, .ref to, .ref uo, .int (nI im), .ref x5, .int (nI lm), .ref x6, .int (nI rm), .ref x7, .ref x8, .int sd])), (so, .inr (0, [.int (nI (sN R)), .int (nI (R 0 1)), .int (nI (sF R)), .int (nI (sS R)), .int (nI (sL R)), .ref ak, .ref af, .ref ab, .ref aa])), (ak, aI G 10 (sK R)), (af, aI G 10 (sG R)), (ab, aI G 10 (sO R)), (aa, aI G 10 (sA R)), (to, .inr (0, [.int (nI (sN S)), .int (nI m0), .int (nI (sF S)), .int (nI (sS S)), .int (nI (sL S)), .ref tk, .ref tf, .ref tb, .ref ta])), (tk, aI G 10 (sK S)), (tf, aI G 10 (sG S)), (tb, aI G 10 (sO S)), (ta, aI G 10 (sA S))]) s [(h0, .inr (1, [.ref so, .ref to, .ref uo, .int (nI im), .ref x5, .int (nI lm), .ref x6, .int (nI rm), .ref x7, .ref x8, .int sd])), (so, .inr (0, [.int (nI (sN R)), .int (nI (R 0 1)), .int (nI (sF R)), .int (nI (sS R)), .int (nI (sL R)), .ref ak, .ref af, .ref ab, .ref aa])), (ak, aI G 10 (sK R)), (af, aI G 10 (sG R)), (ab, aI G 10 (sO R)), (aa, aI G 10 (sA R)), (to, .inr (0, [.int (nI (sN R)), .int (nI (R 0 1)), .int (nI (sF R)), .int (nI (sS R)), .int (nI (sL R)), .ref tk, .ref tf, .ref tb, .ref ta])), (tk, aI G 10 (sK R)), (tf, aI G 10 (sG R)), (tb, aI G 10 (sO R)), (ta, aI G 10 (sA R))] H locs := hw
  refine lv_iconst (v := nI 0) xx xb dX1_standsThough_11 (by decide) ?_
  refine lv_istore (lv' := [(4, .int (nI 0)), (0, .ref h0), (1, .int (nI a)), (2, .int (nI s1)), (3, .int (nI n))]) xx xb dX1_standsThough_12 hl (by decide) rfl (fun ls hl => ?_)
  have hw : Wd G (fA [(h0, .inr (1, [.ref so, .ref to, .ref uo, .int (nI im), .ref x5, .int (nI lm), .ref x6, .int (nI rm), .ref x7, .ref x8, .int sd])), (so, .inr (0, [.int (nI (sN R)), .int (nI (R 0 1)), .int (nI (sF R)), .int (nI (sS R)), .int (nI (sL R)), .ref ak, .ref af, .ref ab, .ref aa])), (ak, aI G 10 (sK R)), (af, aI G 10 (sG R)), (ab, aI G 10 (sO R)), (aa, aI G 10 (sA R)), (to, .inr (0, [.int (nI (sN S)), .int (nI m0), .int (nI (sF S)), .int (nI (sS S)), .int (nI (sL S)), .ref tk, .ref tf, .ref tb, .ref ta])), (tk, aI G 10 (sK S)), (tf, aI G 10 (sG S)), (tb, aI G 10 (sO S)), (ta, aI G 10 (sA S))]) s [(h0, .inr (1, [.ref so, .ref to, .ref uo, .int (nI im), .ref x5, .int (nI lm), .ref x6, .int (nI rm), .ref x7, .ref x8, .int sd])), (so, .inr (0, [.int (nI (sN R)), .int (nI (R 0 1)), .int (nI (sF R)), .int (nI (sS R)), .int (nI (sL R)), .ref ak, .ref af, .ref ab, .ref aa])), (ak, aI G 10 (sK R)), (af, aI G 10 (sG R)), (ab, aI G 10 (sO R)), (aa, aI G 10 (sA R)), (to, .inr (0, [.int (nI (sN (psR R s1 0))), .int (nI (R 0 1)), .int (nI (sF (psR R s1 0))), .int (nI (sS (psR R s1 0))), .int (nI (sL (psR R s1 0))), .ref tk, .ref tf, .ref tb, .ref ta])), (tk, aI G 10 (sK (psR R s1 0))), (tf, aI G 10 (sG (psR R s1 0))), (tb, aI G 10 (sO (psR R s1 0))), (ta, aI G 10 (sA (psR R s1 0)))] H locs := hw
  have L_14 : ∀ (fu : Nat) (i : Nat) (H : Heap) (locs : List Loc) (ls : Array Slot), 10 - i < fu → (i ≤ R 0 0) → (psB R s1 i = true) → Wd G (fA [(h0, .inr (1, [.ref so, .ref to, .ref uo, .int (nI im), .ref x5, .int (nI lm), .ref x6, .int (nI rm), .ref x7, .ref x8, .int sd])), (so, .inr (0, [.int (nI (sN R)), .int (nI (R 0 1)), .int (nI (sF R)), .int (nI (sS R)), .int (nI (sL R)), .ref ak, .ref af, .ref ab, .ref aa])), (ak, aI G 10 (sK R)), (af, aI G 10 (sG R)), (ab, aI G 10 (sO R)), (aa, aI G 10 (sA R)), (to, .inr (0, [.int (nI (sN S)), .int (nI m0), .int (nI (sF S)), .int (nI (sS S)), .int (nI (sL S)), .ref tk, .ref tf, .ref tb, .ref ta])), (tk, aI G 10 (sK S)), (tf, aI G 10 (sG S)), (tb, aI G 10 (sO S)), (ta, aI G 10 (sA S))]) s [(h0, .inr (1, [.ref so, .ref to, .ref uo, .int (nI im), .ref x5, .int (nI lm), .ref x6, .int (nI rm), .ref x7, .ref x8, .int sd])), (so, .inr (0, [.int (nI (sN R)), .int (nI (R 0 1)), .int (nI (sF R)), .int (nI (sS R)), .int (nI (sL R)), .ref ak, .ref af, .ref ab, .ref aa])), (ak, aI G 10 (sK R)), (af, aI G 10 (sG R)), (ab, aI G 10 (sO R)), (aa, aI G 10 (sA R)), (to, .inr (0, [.int (nI (sN (psR R s1 i))), .int (nI (R 0 1)), .int (nI (sF (psR R s1 i))), .int (nI (sS (psR R s1 i))), .int (nI (sL (psR R s1 i))), .ref tk, .ref tf, .ref tb, .ref ta])), (tk, aI G 10 (sK (psR R s1 i))), (tf, aI G 10 (sG (psR R s1 i))), (tb, aI G 10 (sO (psR R s1 i))), (ta, aI G 10 (sA (psR R s1 i)))] H locs → lv_has ls 5 [(0, .ref h0), (1, .int (nI a)), (2, .int (nI s1)), (3, .int (nI n)), (4, .int (nI i))] → W p l e ({ frames := 3, cells := 0, slots := 0, locals := 78 }) s m (([.ref h0, .int (nI a), .int (nI s1), .int (nI n)] : List Value).toArray) below meth c H locs 0 0 (MQ below (QI G [(h0, .inr (1, [.ref so, .ref to, .ref uo, .int (nI im), .ref x5, .int (nI lm), .ref x6, .int (nI rm), .ref x7, .ref x8, .int sd])), (so, .inr (0, [.int (nI (sN R)), .int (nI (R 0 1)), .int (nI (sF R)), .int (nI (sS R)), .int (nI (sL R)), .ref ak, .ref af, .ref ab, .ref aa])), (ak, aI G 10 (sK R)), (af, aI G 10 (sG R)), (ab, aI G 10 (sO R)), (aa, aI G 10 (sA R)), (to, .inr (0, [.int (nI (sN S)), .int (nI m0), .int (nI (sF S)), .int (nI (sS S)), .int (nI (sL S)), .ref tk, .ref tf, .ref tb, .ref ta])), (tk, aI G 10 (sK S)), (tf, aI G 10 (sG S)), (tb, aI G 10 (sO S)), (ta, aI G 10 (sA S))] (fun (r : Int32) (u : RT) => r = (if psB R s1 (R 0 0) = true ∧ itF (psR R s1 (R 0 0)) n 4 a = 0 then 1 else 0) ∧ True) (fun u => [(h0, .inr (1, [.ref so, .ref to, .ref uo, .int (nI im), .ref x5, .int (nI lm), .ref x6, .int (nI rm), .ref x7, .ref x8, .int sd])), (so, .inr (0, [.int (nI (sN R)), .int (nI (R 0 1)), .int (nI (sF R)), .int (nI (sS R)), .int (nI (sL R)), .ref ak, .ref af, .ref ab, .ref aa])), (ak, aI G 10 (sK R)), (af, aI G 10 (sG R)), (ab, aI G 10 (sO R)), (aa, aI G 10 (sA R)), (to, .inr (0, [.int (nI (sN u)), .int (nI (R 0 1)), .int (nI (sF u)), .int (nI (sS u)), .int (nI (sL u)), .ref tk, .ref tf, .ref tb, .ref ta])), (tk, aI G 10 (sK u)), (tf, aI G 10 (sG u)), (tb, aI G 10 (sO u)), (ta, aI G 10 (sA u))])) (([.ref h0, .int (nI a), .int (nI s1), .int (nI n)] : List Value).toArray) s 0 0 (fA [(h0, .inr (1, [.ref so, .ref to, .ref uo, .int (nI im), .ref x5, .int (nI lm), .ref x6, .int (nI rm), .ref x7, .ref x8, .int sd])), (so, .inr (0, [.int (nI (sN R)), .int (nI (R 0 1)), .int (nI (sF R)), .int (nI (sS R)), .int (nI (sL R)), .ref ak, .ref af, .ref ab, .ref aa])), (ak, aI G 10 (sK R)), (af, aI G 10 (sG R)), (ab, aI G 10 (sO R)), (aa, aI G 10 (sA R)), (to, .inr (0, [.int (nI (sN S)), .int (nI m0), .int (nI (sF S)), .int (nI (sS S)), .int (nI (sL S)), .ref tk, .ref tf, .ref tb, .ref ta])), (tk, aI G 10 (sK S)), (tf, aI G 10 (sG S)), (tb, aI G 10 (sO S)), (ta, aI G 10 (sA S))])) (F0 m 14 ls []) := by
    intro fu
    induction fu with
    | zero => intro i H locs ls hfu; exact absurd hfu (Nat.not_lt_zero _)
    | succ fu ih_14 =>
      intro i H locs ls hfu hi hB hw hl
      refine lv_iload xx xb dX1_standsThough_14 (lv_at hl 4 rfl) ?_
      refine lv_aload_n xx xb dX1_standsThough_16 rfl (lv_at hl 0 rfl) ?_
      refine m_get C hw 0 rfl fk_X1_10 rfl dX1_standsThough_17 ?_
      refine m_get C hw 1 rfl fk_X1_163 rfl dX1_standsThough_20 ?_
      refine re_i (nI (R 0 0)) rfl ?_
      refine lv_icmp_ge (tgt := 67) xx xb dX1_standsThough_23 (by decide) (fun c_23 => ?_) (fun c_23 => ?_)
      · skip
        have c_23 := le_c (tN (by omega)) (tN (by omega)) c_23
        have hin : R 0 0 = i := by omega
        have hBn : psB R s1 (R 0 0) = true := by rw [hin]; exact hB
        have hTO := OK_psR hR s1 (R 0 0) (Nat.le_refl _)
        have hTK := AK_psR hK s1 (R 0 0)
        have hTp := psR_03 hp s1 (R 0 0)
        have hw : Wd G (fA [(h0, .inr (1, [.ref so, .ref to, .ref uo, .int (nI im), .ref x5, .int (nI lm), .ref x6, .int (nI rm), .ref x7, .ref x8, .int sd])), (so, .inr (0, [.int (nI (sN R)), .int (nI (R 0 1)), .int (nI (sF R)), .int (nI (sS R)), .int (nI (sL R)), .ref ak, .ref af, .ref ab, .ref aa])), (ak, aI G 10 (sK R)), (af, aI G 10 (sG R)), (ab, aI G 10 (sO R)), (aa, aI G 10 (sA R)), (to, .inr (0, [.int (nI (sN S)), .int (nI m0), .int (nI (sF S)), .int (nI (sS S)), .int (nI (sL S)), .ref tk, .ref tf, .ref tb, .ref ta])), (tk, aI G 10 (sK S)), (tf, aI G 10 (sG S)), (tb, aI G 10 (sO S)), (ta, aI G 10 (sA S))]) s [(h0, .inr (1, [.ref so, .ref to, .ref uo, .int (nI im), .ref x5, .int (nI lm), .ref x6, .int (nI rm), .ref x7, .ref x8, .int sd])), (so, .inr (0, [.int (nI (sN R)), .int (nI (R 0 1)), .int (nI (sF R)), .int (nI (sS R)), .int (nI (sL R)), .ref ak, .ref af, .ref ab, .ref aa])), (ak, aI G 10 (sK R)), (af, aI G 10 (sG R)), (ab, aI G 10 (sO R)), (aa, aI G 10 (sA R)), (to, .inr (0, [.int (nI (sN (psR R s1 (R 0 0)))), .int (nI (R 0 1)), .int (nI (sF (psR R s1 (R 0 0)))), .int (nI (sS (psR R s1 (R 0 0)))), .int (nI (sL (psR R s1 (R 0 0)))), .ref tk, .ref tf, .ref tb, .ref ta])), (tk, aI G 10 (sK (psR R s1 (R 0 0)))), (tf, aI G 10 (sG (psR R s1 (R 0 0)))), (tb, aI G 10 (sO (psR R s1 (R 0 0)))), (ta, aI G 10 (sA (psR R s1 (R 0 0))))] H locs := by rw [hin]; exact hw
        refine lv_iconst (v := nI 0) xx xb dX1_standsThough_67 (by decide) ?_
        refine lv_istore (lv' := [(4, .int (nI 0)), (0, .ref h0), (1, .int (nI a)), (2, .int (nI s1)), (3, .int (nI n))]) xx xb dX1_standsThough_68 hl (by decide) rfl (fun ls hl => ?_)
        have hw : Wd G (fA [(h0, .inr (1, [.ref so, .ref to, .ref uo, .int (nI im), .ref x5, .int (nI lm), .ref x6, .int (nI rm), .ref x7, .ref x8, .int sd])), (so, .inr (0, [.int (nI (sN R)), .int (nI (R 0 1)), .int (nI (sF R)), .int (nI (sS R)), .int (nI (sL R)), .ref ak, .ref af, .ref ab, .ref aa])), (ak, aI G 10 (sK R)), (af, aI G 10 (sG R)), (ab, aI G 10 (sO R)), (aa, aI G 10 (sA R)), (to, .inr (0, [.int (nI (sN S)), .int (nI m0), .int (nI (sF S)), .int (nI (sS S)), .int (nI (sL S)), .ref tk, .ref tf, .ref tb, .ref ta])), (tk, aI G 10 (sK S)), (tf, aI G 10 (sG S)), (tb, aI G 10 (sO S)), (ta, aI G 10 (sA S))]) s [(h0, .inr (1, [.ref so, .ref to, .ref uo, .int (nI im), .ref x5, .int (nI lm), .ref x6, .int (nI rm), .ref x7, .ref x8, .int sd])), (so, .inr (0, [.int (nI (sN R)), .int (nI (R 0 1)), .int (nI (sF R)), .int (nI (sS R)), .int (nI (sL R)), .ref ak, .ref af, .ref ab, .ref aa])), (ak, aI G 10 (sK R)), (af, aI G 10 (sG R)), (ab, aI G 10 (sO R)), (aa, aI G 10 (sA R)), (to, .inr (0, [.int (nI (sN (itF (psR R s1 (R 0 0)) 0))), .int (nI (R 0 1)), .int (nI (sF (itF (psR R s1 (R 0 0)) 0))), .int (nI (sS (itF (psR R s1 (R 0 0)) 0))), .int (nI (sL (itF (psR R s1 (R 0 0)) 0))), .ref tk, .ref tf, .ref tb, .ref ta])), (tk, aI G 10 (sK (itF (psR R s1 (R 0 0)) 0))), (tf, aI G 10 (sG (itF (psR R s1 (R 0 0)) 0))), (tb, aI G 10 (sO (itF (psR R s1 (R 0 0)) 0))), (ta, aI G 10 (sA (itF (psR R s1 (R 0 0)) 0)))] H locs := hw
        have L_70 : ∀ (fu : Nat) (q : Nat) (H : Heap) (locs : List Loc) (ls : Array Slot), n - q < fu → (q ≤ n) → Wd G (fA [(h0, .inr (1, [.ref so, .ref to, .ref uo, .int (nI im), .ref x5, .int (nI lm), .ref x6, .int (nI rm), .ref x7, .ref x8, .int sd])), (so, .inr (0, [.int (nI (sN R)), .int (nI (R 0 1)), .int (nI (sF R)), .int (nI (sS R)), .int (nI (sL R)), .ref ak, .ref af, .ref ab, .ref aa])), (ak, aI G 10 (sK R)), (af, aI G 10 (sG R)), (ab, aI G 10 (sO R)), (aa, aI G 10 (sA R)), (to, .inr (0, [.int (nI (sN S)), .int (nI m0), .int (nI (sF S)), .int (nI (sS S)), .int (nI (sL S)), .ref tk, .ref tf, .ref tb, .ref ta])), (tk, aI G 10 (sK S)), (tf, aI G 10 (sG S)), (tb, aI G 10 (sO S)), (ta, aI G 10 (sA S))]) s [(h0, .inr (1, [.ref so, .ref to, .ref uo, .int (nI im), .ref x5, .int (nI lm), .ref x6, .int (nI rm), .ref x7, .ref x8, .int sd])), (so, .inr (0, [.int (nI (sN R)), .int (nI (R 0 1)), .int (nI (sF R)), .int (nI (sS R)), .int (nI (sL R)), .ref ak, .ref af, .ref ab, .ref aa])), (ak, aI G 10 (sK R)), (af, aI G 10 (sG R)), (ab, aI G 10 (sO R)), (aa, aI G 10 (sA R)), (to, .inr (0, [.int (nI (sN (itF (psR R s1 (R 0 0)) q))), .int (nI (R 0 1)), .int (nI (sF (itF (psR R s1 (R 0 0)) q))), .int (nI (sS (itF (psR R s1 (R 0 0)) q))), .int (nI (sL (itF (psR R s1 (R 0 0)) q))), .ref tk, .ref tf, .ref tb, .ref ta])), (tk, aI G 10 (sK (itF (psR R s1 (R 0 0)) q))), (tf, aI G 10 (sG (itF (psR R s1 (R 0 0)) q))), (tb, aI G 10 (sO (itF (psR R s1 (R 0 0)) q))), (ta, aI G 10 (sA (itF (psR R s1 (R 0 0)) q)))] H locs → lv_has ls 5 [(0, .ref h0), (1, .int (nI a)), (2, .int (nI s1)), (3, .int (nI n)), (4, .int (nI q))] → W p l e ({ frames := 3, cells := 0, slots := 0, locals := 78 }) s m (([.ref h0, .int (nI a), .int (nI s1), .int (nI n)] : List Value).toArray) below meth c H locs 0 0 (MQ below (QI G [(h0, .inr (1, [.ref so, .ref to, .ref uo, .int (nI im), .ref x5, .int (nI lm), .ref x6, .int (nI rm), .ref x7, .ref x8, .int sd])), (so, .inr (0, [.int (nI (sN R)), .int (nI (R 0 1)), .int (nI (sF R)), .int (nI (sS R)), .int (nI (sL R)), .ref ak, .ref af, .ref ab, .ref aa])), (ak, aI G 10 (sK R)), (af, aI G 10 (sG R)), (ab, aI G 10 (sO R)), (aa, aI G 10 (sA R)), (to, .inr (0, [.int (nI (sN S)), .int (nI m0), .int (nI (sF S)), .int (nI (sS S)), .int (nI (sL S)), .ref tk, .ref tf, .ref tb, .ref ta])), (tk, aI G 10 (sK S)), (tf, aI G 10 (sG S)), (tb, aI G 10 (sO S)), (ta, aI G 10 (sA S))] (fun (r : Int32) (u : RT) => r = (if psB R s1 (R 0 0) = true ∧ itF (psR R s1 (R 0 0)) n 4 a = 0 then 1 else 0) ∧ True) (fun u => [(h0, .inr (1, [.ref so, .ref to, .ref uo, .int (nI im), .ref x5, .int (nI lm), .ref x6, .int (nI rm), .ref x7, .ref x8, .int sd])), (so, .inr (0, [.int (nI (sN R)), .int (nI (R 0 1)), .int (nI (sF R)), .int (nI (sS R)), .int (nI (sL R)), .ref ak, .ref af, .ref ab, .ref aa])), (ak, aI G 10 (sK R)), (af, aI G 10 (sG R)), (ab, aI G 10 (sO R)), (aa, aI G 10 (sA R)), (to, .inr (0, [.int (nI (sN u)), .int (nI (R 0 1)), .int (nI (sF u)), .int (nI (sS u)), .int (nI (sL u)), .ref tk, .ref tf, .ref tb, .ref ta])), (tk, aI G 10 (sK u)), (tf, aI G 10 (sG u)), (tb, aI G 10 (sO u)), (ta, aI G 10 (sA u))])) (([.ref h0, .int (nI a), .int (nI s1), .int (nI n)] : List Value).toArray) s 0 0 (fA [(h0, .inr (1, [.ref so, .ref to, .ref uo, .int (nI im), .ref x5, .int (nI lm), .ref x6, .int (nI rm), .ref x7, .ref x8, .int sd])), (so, .inr (0, [.int (nI (sN R)), .int (nI (R 0 1)), .int (nI (sF R)), .int (nI (sS R)), .int (nI (sL R)), .ref ak, .ref af, .ref ab, .ref aa])), (ak, aI G 10 (sK R)), (af, aI G 10 (sG R)), (ab, aI G 10 (sO R)), (aa, aI G 10 (sA R)), (to, .inr (0, [.int (nI (sN S)), .int (nI m0), .int (nI (sF S)), .int (nI (sS S)), .int (nI (sL S)), .ref tk, .ref tf, .ref tb, .ref ta])), (tk, aI G 10 (sK S)), (tf, aI G 10 (sG S)), (tb, aI G 10 (sO S)), (ta, aI G 10 (sA S))])) (F0 m 70 ls []) := by
          intro fu
          induction fu with
          | zero => intro q H locs ls hfu; exact absurd hfu (Nat.not_lt_zero _)
          | succ fu ih_70 =>
            intro q H locs ls hfu hq hw hl
            refine lv_iload xx xb dX1_standsThough_70 (lv_at hl 4 rfl) ?_
            refine lv_iload_n xx xb dX1_standsThough_72 rfl (lv_at hl 3 rfl) ?_
            refine lv_icmp_ge (tgt := 113) xx xb dX1_standsThough_73 (by decide) (fun c_73 => ?_) (fun c_73 => ?_)
            · skip
              have c_73 := le_c (tN (by omega)) (tN (by omega)) c_73
              have heq : itF (psR R s1 (R 0 0)) q 4 a = itF (psR R s1 (R 0 0)) n 4 a := by first | exact it4_fall (by rw [psR_00]; omega) c_84 (by omega) | rw [show q = n by omega]
              refine lv_aload_n xx xb dX1_standsThough_113 rfl (lv_at hl 0 rfl) ?_
              refine m_get C hw 0 rfl fk_X1_16 rfl dX1_standsThough_114 ?_
              refine lv_iload_n xx xb dX1_standsThough_117 rfl (lv_at hl 1 rfl) ?_
              have hM := kX0_stands l G to tk tf tb ta (R 0 1) (itF (psR R s1 (R 0 0)) q) (nI a) ((a : Nat) : Int) (tN (by omega)) (OK_itF hTO q)
              refine cv_i C hw hM yvX0_stands ml_X1_166 6 rfl rfl rfl [6, 7, 8, 9, 10] rfl rfl (fun _ => (rfl : ([to, tk, tf, tb, ta] : List Nat) = [to, tk, tf, tb, ta])) (by decide) ⟨Nat.zero_le _, Nat.zero_le _⟩ hl.1 rfl (Nat.le_of_ble_eq_true rfl) dX1_standsThough_118 (fun r _ H locs hr hw => ?_)
              have hw : Wd G (fA [(h0, .inr (1, [.ref so, .ref to, .ref uo, .int (nI im), .ref x5, .int (nI lm), .ref x6, .int (nI rm), .ref x7, .ref x8, .int sd])), (so, .inr (0, [.int (nI (sN R)), .int (nI (R 0 1)), .int (nI (sF R)), .int (nI (sS R)), .int (nI (sL R)), .ref ak, .ref af, .ref ab, .ref aa])), (ak, aI G 10 (sK R)), (af, aI G 10 (sG R)), (ab, aI G 10 (sO R)), (aa, aI G 10 (sA R)), (to, .inr (0, [.int (nI (sN S)), .int (nI m0), .int (nI (sF S)), .int (nI (sS S)), .int (nI (sL S)), .ref tk, .ref tf, .ref tb, .ref ta])), (tk, aI G 10 (sK S)), (tf, aI G 10 (sG S)), (tb, aI G 10 (sO S)), (ta, aI G 10 (sA S))]) s [(h0, .inr (1, [.ref so, .ref to, .ref uo, .int (nI im), .ref x5, .int (nI lm), .ref x6, .int (nI rm), .ref x7, .ref x8, .int sd])), (so, .inr (0, [.int (nI (sN R)), .int (nI (R 0 1)), .int (nI (sF R)), .int (nI (sS R)), .int (nI (sL R)), .ref ak, .ref af, .ref ab, .ref aa])), (ak, aI G 10 (sK R)), (af, aI G 10 (sG R)), (ab, aI G 10 (sO R)), (aa, aI G 10 (sA R)), (to, .inr (0, [.int (nI (sN (itF (psR R s1 (R 0 0)) q))), .int (nI (R 0 1)), .int (nI (sF (itF (psR R s1 (R 0 0)) q))), .int (nI (sS (itF (psR R s1 (R 0 0)) q))), .int (nI (sL (itF (psR R s1 (R 0 0)) q))), .ref tk, .ref tf, .ref tb, .ref ta])), (tk, aI G 10 (sK (itF (psR R s1 (R 0 0)) q))), (tf, aI G 10 (sG (itF (psR R s1 (R 0 0)) q))), (tb, aI G 10 (sO (itF (psR R s1 (R 0 0)) q))), (ta, aI G 10 (sA (itF (psR R s1 (R 0 0)) q)))] H locs := hw
              subst hr
              refine re_i (if itF (psR R s1 (R 0 0)) q 4 a = 0 then 1 else 0) (st_i (R := itF (psR R s1 (R 0 0)) q) (by rw [itF_00, psR_00]; omega)) ?_
              exact rt_z C hw (itF (psR R s1 (R 0 0)) q) (b01 _) (⟨ifc (by have e := heq; constructor <;> intro h <;> first | exact ⟨hBn, e ▸ h⟩ | exact e ▸ h.2), trivial⟩) rfl dX1_standsThough_121
            · skip
              have c_73 := nle_c (tN (by omega)) (tN (by omega)) c_73
              refine lv_aload_n xx xb dX1_standsThough_76 rfl (lv_at hl 0 rfl) ?_
              refine m_get C hw 0 rfl fk_X1_16 rfl dX1_standsThough_77 ?_
              refine lv_iload_n xx xb dX1_standsThough_80 rfl (lv_at hl 1 rfl) ?_
              have hM := kX0_stands l G to tk tf tb ta (R 0 1) (itF (psR R s1 (R 0 0)) q) (nI a) ((a : Nat) : Int) (tN (by omega)) (OK_itF hTO q)
              refine cv_i C hw hM yvX0_stands ml_X1_166 6 rfl rfl rfl [6, 7, 8, 9, 10] rfl rfl (fun _ => (rfl : ([to, tk, tf, tb, ta] : List Nat) = [to, tk, tf, tb, ta])) (by decide) ⟨Nat.zero_le _, Nat.zero_le _⟩ hl.1 rfl (Nat.le_of_ble_eq_true rfl) dX1_standsThough_81 (fun r _ H locs hr hw => ?_)
              have hw : Wd G (fA [(h0, .inr (1, [.ref so, .ref to, .ref uo, .int (nI im), .ref x5, .int (nI lm), .ref x6, .int (nI rm), .ref x7, .ref x8, .int sd])), (so, .inr (0, [.int (nI (sN R)), .int (nI (R 0 1)), .int (nI (sF R)), .int (nI (sS R)), .int (nI (sL R)), .ref ak, .ref af, .ref ab, .ref aa])), (ak, aI G 10 (sK R)), (af, aI G 10 (sG R)), (ab, aI G 10 (sO R)), (aa, aI G 10 (sA R)), (to, .inr (0, [.int (nI (sN S)), .int (nI m0), .int (nI (sF S)), .int (nI (sS S)), .int (nI (sL S)), .ref tk, .ref tf, .ref tb, .ref ta])), (tk, aI G 10 (sK S)), (tf, aI G 10 (sG S)), (tb, aI G 10 (sO S)), (ta, aI G 10 (sA S))]) s [(h0, .inr (1, [.ref so, .ref to, .ref uo, .int (nI im), .ref x5, .int (nI lm), .ref x6, .int (nI rm), .ref x7, .ref x8, .int sd])), (so, .inr (0, [.int (nI (sN R)), .int (nI (R 0 1)), .int (nI (sF R)), .int (nI (sS R)), .int (nI (sL R)), .ref ak, .ref af, .ref ab, .ref aa])), (ak, aI G 10 (sK R)), (af, aI G 10 (sG R)), (ab, aI G 10 (sO R)), (aa, aI G 10 (sA R)), (to, .inr (0, [.int (nI (sN (itF (psR R s1 (R 0 0)) q))), .int (nI (R 0 1)), .int (nI (sF (itF (psR R s1 (R 0 0)) q))), .int (nI (sS (itF (psR R s1 (R 0 0)) q))), .int (nI (sL (itF (psR R s1 (R 0 0)) q))), .ref tk, .ref tf, .ref tb, .ref ta])), (tk, aI G 10 (sK (itF (psR R s1 (R 0 0)) q))), (tf, aI G 10 (sG (itF (psR R s1 (R 0 0)) q))), (tb, aI G 10 (sO (itF (psR R s1 (R 0 0)) q))), (ta, aI G 10 (sA (itF (psR R s1 (R 0 0)) q)))] H locs := hw
              subst hr
              refine re_i (if itF (psR R s1 (R 0 0)) q 4 a = 0 then 1 else 0) (st_i (R := itF (psR R s1 (R 0 0)) q) (by rw [itF_00, psR_00]; omega)) ?_
              refine lv_if_eq (tgt := 113) xx xb dX1_standsThough_84 (by decide) (fun c_84 => ?_) (fun c_84 => ?_)
              · skip
                have c_84 := b0_c c_84
                have heq : itF (psR R s1 (R 0 0)) q 4 a = itF (psR R s1 (R 0 0)) n 4 a := by first | exact it4_fall (by rw [psR_00]; omega) c_84 (by omega) | rw [show q = n by omega]
                refine lv_aload_n xx xb dX1_standsThough_113 rfl (lv_at hl 0 rfl) ?_
                refine m_get C hw 0 rfl fk_X1_16 rfl dX1_standsThough_114 ?_
                refine lv_iload_n xx xb dX1_standsThough_117 rfl (lv_at hl 1 rfl) ?_
                have hM := kX0_stands l G to tk tf tb ta (R 0 1) (itF (psR R s1 (R 0 0)) q) (nI a) ((a : Nat) : Int) (tN (by omega)) (OK_itF hTO q)
                refine cv_i C hw hM yvX0_stands ml_X1_166 6 rfl rfl rfl [6, 7, 8, 9, 10] rfl rfl (fun _ => (rfl : ([to, tk, tf, tb, ta] : List Nat) = [to, tk, tf, tb, ta])) (by decide) ⟨Nat.zero_le _, Nat.zero_le _⟩ hl.1 rfl (Nat.le_of_ble_eq_true rfl) dX1_standsThough_118 (fun r _ H locs hr hw => ?_)
                have hw : Wd G (fA [(h0, .inr (1, [.ref so, .ref to, .ref uo, .int (nI im), .ref x5, .int (nI lm), .ref x6, .int (nI rm), .ref x7, .ref x8, .int sd])), (so, .inr (0, [.int (nI (sN R)), .int (nI (R 0 1)), .int (nI (sF R)), .int (nI (sS R)), .int (nI (sL R)), .ref ak, .ref af, .ref ab, .ref aa])), (ak, aI G 10 (sK R)), (af, aI G 10 (sG R)), (ab, aI G 10 (sO R)), (aa, aI G 10 (sA R)), (to, .inr (0, [.int (nI (sN S)), .int (nI m0), .int (nI (sF S)), .int (nI (sS S)), .int (nI (sL S)), .ref tk, .ref tf, .ref tb, .ref ta])), (tk, aI G 10 (sK S)), (tf, aI G 10 (sG S)), (tb, aI G 10 (sO S)), (ta, aI G 10 (sA S))]) s [(h0, .inr (1, [.ref so, .ref to, .ref uo, .int (nI im), .ref x5, .int (nI lm), .ref x6, .int (nI rm), .ref x7, .ref x8, .int sd])), (so, .inr (0, [.int (nI (sN R)), .int (nI (R 0 1)), .int (nI (sF R)), .int (nI (sS R)), .int (nI (sL R)), .ref ak, .ref af, .ref ab, .ref aa])), (ak, aI G 10 (sK R)), (af, aI G 10 (sG R)), (ab, aI G 10 (sO R)), (aa, aI G 10 (sA R)), (to, .inr (0, [.int (nI (sN (itF (psR R s1 (R 0 0)) q))), .int (nI (R 0 1)), .int (nI (sF (itF (psR R s1 (R 0 0)) q))), .int (nI (sS (itF (psR R s1 (R 0 0)) q))), .int (nI (sL (itF (psR R s1 (R 0 0)) q))), .ref tk, .ref tf, .ref tb, .ref ta])), (tk, aI G 10 (sK (itF (psR R s1 (R 0 0)) q))), (tf, aI G 10 (sG (itF (psR R s1 (R 0 0)) q))), (tb, aI G 10 (sO (itF (psR R s1 (R 0 0)) q))), (ta, aI G 10 (sA (itF (psR R s1 (R 0 0)) q)))] H locs := hw
                subst hr
                refine re_i (if itF (psR R s1 (R 0 0)) q 4 a = 0 then 1 else 0) (st_i (R := itF (psR R s1 (R 0 0)) q) (by rw [itF_00, psR_00]; omega)) ?_
                exact rt_z C hw (itF (psR R s1 (R 0 0)) q) (b01 _) (⟨ifc (by have e := heq; constructor <;> intro h <;> first | exact ⟨hBn, e ▸ h⟩ | exact e ▸ h.2), trivial⟩) rfl dX1_standsThough_121
              · skip
                have c_84 := b1_c c_84
                refine lv_aload_n xx xb dX1_standsThough_87 rfl (lv_at hl 0 rfl) ?_
                refine m_get C hw 0 rfl fk_X1_16 rfl dX1_standsThough_88 ?_
                refine lv_iconst (v := nI 0) xx xb dX1_standsThough_91 (by decide) ?_
                have hM := kX0_passMinute l G to tk tf tb ta (R 0 1) (itF (psR R s1 (R 0 0)) q) 0 (OK_itF hTO q) (AK_itF hTO hTK q) (it03 hTp q) (by first | assumption | omega)
                refine cv_i C hw hM yvX0_passMinute ml_X1_296 6 rfl rfl rfl [6, 7, 8, 9, 10] rfl rfl (fun _ => (rfl : ([to, tk, tf, tb, ta] : List Nat) = [to, tk, tf, tb, ta])) (by decide) ⟨Nat.zero_le _, Nat.zero_le _⟩ hl.1 rfl (Nat.le_of_ble_eq_true rfl) dX1_standsThough_92 (fun r _ H locs hr hw => ?_)
                have hw : Wd G (fA [(h0, .inr (1, [.ref so, .ref to, .ref uo, .int (nI im), .ref x5, .int (nI lm), .ref x6, .int (nI rm), .ref x7, .ref x8, .int sd])), (so, .inr (0, [.int (nI (sN R)), .int (nI (R 0 1)), .int (nI (sF R)), .int (nI (sS R)), .int (nI (sL R)), .ref ak, .ref af, .ref ab, .ref aa])), (ak, aI G 10 (sK R)), (af, aI G 10 (sG R)), (ab, aI G 10 (sO R)), (aa, aI G 10 (sA R)), (to, .inr (0, [.int (nI (sN S)), .int (nI m0), .int (nI (sF S)), .int (nI (sS S)), .int (nI (sL S)), .ref tk, .ref tf, .ref tb, .ref ta])), (tk, aI G 10 (sK S)), (tf, aI G 10 (sG S)), (tb, aI G 10 (sO S)), (ta, aI G 10 (sA S))]) s [(h0, .inr (1, [.ref so, .ref to, .ref uo, .int (nI im), .ref x5, .int (nI lm), .ref x6, .int (nI rm), .ref x7, .ref x8, .int sd])), (so, .inr (0, [.int (nI (sN R)), .int (nI (R 0 1)), .int (nI (sF R)), .int (nI (sS R)), .int (nI (sL R)), .ref ak, .ref af, .ref ab, .ref aa])), (ak, aI G 10 (sK R)), (af, aI G 10 (sG R)), (ab, aI G 10 (sO R)), (aa, aI G 10 (sA R)), (to, .inr (0, [.int (nI (sN (miF (itF (psR R s1 (R 0 0)) q) 0))), .int (nI (R 0 1)), .int (nI (sF (miF (itF (psR R s1 (R 0 0)) q) 0))), .int (nI (sS (miF (itF (psR R s1 (R 0 0)) q) 0))), .int (nI (sL (miF (itF (psR R s1 (R 0 0)) q) 0))), .ref tk, .ref tf, .ref tb, .ref ta])), (tk, aI G 10 (sK (miF (itF (psR R s1 (R 0 0)) q) 0))), (tf, aI G 10 (sG (miF (itF (psR R s1 (R 0 0)) q) 0))), (tb, aI G 10 (sO (miF (itF (psR R s1 (R 0 0)) q) 0))), (ta, aI G 10 (sA (miF (itF (psR R s1 (R 0 0)) q) 0)))] H locs := hw
                subst hr
                have hw : Wd G (fA [(h0, .inr (1, [.ref so, .ref to, .ref uo, .int (nI im), .ref x5, .int (nI lm), .ref x6, .int (nI rm), .ref x7, .ref x8, .int sd])), (so, .inr (0, [.int (nI (sN R)), .int (nI (R 0 1)), .int (nI (sF R)), .int (nI (sS R)), .int (nI (sL R)), .ref ak, .ref af, .ref ab, .ref aa])), (ak, aI G 10 (sK R)), (af, aI G 10 (sG R)), (ab, aI G 10 (sO R)), (aa, aI G 10 (sA R)), (to, .inr (0, [.int (nI (sN S)), .int (nI m0), .int (nI (sF S)), .int (nI (sS S)), .int (nI (sL S)), .ref tk, .ref tf, .ref tb, .ref ta])), (tk, aI G 10 (sK S)), (tf, aI G 10 (sG S)), (tb, aI G 10 (sO S)), (ta, aI G 10 (sA S))]) s [(h0, .inr (1, [.ref so, .ref to, .ref uo, .int (nI im), .ref x5, .int (nI lm), .ref x6, .int (nI rm), .ref x7, .ref x8, .int sd])), (so, .inr (0, [.int (nI (sN R)), .int (nI (R 0 1)), .int (nI (sF R)), .int (nI (sS R)), .int (nI (sL R)), .ref ak, .ref af, .ref ab, .ref aa])), (ak, aI G 10 (sK R)), (af, aI G 10 (sG R)), (ab, aI G 10 (sO R)), (aa, aI G 10 (sA R)), (to, .inr (0, [.int (nI (sN (itF (psR R s1 (R 0 0)) (q + 1)))), .int (nI (R 0 1)), .int (nI (sF (itF (psR R s1 (R 0 0)) (q + 1)))), .int (nI (sS (itF (psR R s1 (R 0 0)) (q + 1)))), .int (nI (sL (itF (psR R s1 (R 0 0)) (q + 1)))), .ref tk, .ref tf, .ref tb, .ref ta])), (tk, aI G 10 (sK (itF (psR R s1 (R 0 0)) (q + 1)))), (tf, aI G 10 (sG (itF (psR R s1 (R 0 0)) (q + 1)))), (tb, aI G 10 (sO (itF (psR R s1 (R 0 0)) (q + 1)))), (ta, aI G 10 (sA (itF (psR R s1 (R 0 0)) (q + 1))))] H locs := hw
                refine lv_if_ne (tgt := 107) xx xb dX1_standsThough_95 (by decide) (fun c_95 => ?_) (fun c_95 => ?_)
                · skip
                  have c_95 := b1_c c_95
                  refine lv_iinc (v := nI (q + 1)) (lv' := [(4, .int (nI (q + 1))), (0, .ref h0), (1, .int (nI a)), (2, .int (nI s1)), (3, .int (nI n))]) xx xb dX1_standsThough_107 hl (k := 4) rfl (nI_add _ 1) (by decide) rfl (fun ls hl => ?_)
                  refine lv_goto (tgt := 70) xx xb dX1_standsThough_110 (by decide) ?_
                  exact ih_70 (q + 1) H _ ls (by omega) (by omega) hw (lv_sub hl [1, 2, 3, 4, 0] rfl)
                · skip
                  have c_95 := b0_c c_95
                  have heq : itF (psR R s1 (R 0 0)) (q + 1) 4 a = itF (psR R s1 (R 0 0)) n 4 a := it4_fix (mv_fix (OK_itF hTO q) (Bool.eq_false_iff.mpr c_95)) (by omega)
                  refine lv_aload_n xx xb dX1_standsThough_98 rfl (lv_at hl 0 rfl) ?_
                  refine m_get C hw 0 rfl fk_X1_16 rfl dX1_standsThough_99 ?_
                  refine lv_iload_n xx xb dX1_standsThough_102 rfl (lv_at hl 1 rfl) ?_
                  have hM := kX0_stands l G to tk tf tb ta (R 0 1) (itF (psR R s1 (R 0 0)) (q + 1)) (nI a) ((a : Nat) : Int) (tN (by omega)) (OK_itF hTO (q + 1))
                  refine cv_i C hw hM yvX0_stands ml_X1_166 6 rfl rfl rfl [6, 7, 8, 9, 10] rfl rfl (fun _ => (rfl : ([to, tk, tf, tb, ta] : List Nat) = [to, tk, tf, tb, ta])) (by decide) ⟨Nat.zero_le _, Nat.zero_le _⟩ hl.1 rfl (Nat.le_of_ble_eq_true rfl) dX1_standsThough_103 (fun r _ H locs hr hw => ?_)
                  have hw : Wd G (fA [(h0, .inr (1, [.ref so, .ref to, .ref uo, .int (nI im), .ref x5, .int (nI lm), .ref x6, .int (nI rm), .ref x7, .ref x8, .int sd])), (so, .inr (0, [.int (nI (sN R)), .int (nI (R 0 1)), .int (nI (sF R)), .int (nI (sS R)), .int (nI (sL R)), .ref ak, .ref af, .ref ab, .ref aa])), (ak, aI G 10 (sK R)), (af, aI G 10 (sG R)), (ab, aI G 10 (sO R)), (aa, aI G 10 (sA R)), (to, .inr (0, [.int (nI (sN S)), .int (nI m0), .int (nI (sF S)), .int (nI (sS S)), .int (nI (sL S)), .ref tk, .ref tf, .ref tb, .ref ta])), (tk, aI G 10 (sK S)), (tf, aI G 10 (sG S)), (tb, aI G 10 (sO S)), (ta, aI G 10 (sA S))]) s [(h0, .inr (1, [.ref so, .ref to, .ref uo, .int (nI im), .ref x5, .int (nI lm), .ref x6, .int (nI rm), .ref x7, .ref x8, .int sd])), (so, .inr (0, [.int (nI (sN R)), .int (nI (R 0 1)), .int (nI (sF R)), .int (nI (sS R)), .int (nI (sL R)), .ref ak, .ref af, .ref ab, .ref aa])), (ak, aI G 10 (sK R)), (af, aI G 10 (sG R)), (ab, aI G 10 (sO R)), (aa, aI G 10 (sA R)), (to, .inr (0, [.int (nI (sN (itF (psR R s1 (R 0 0)) (q + 1)))), .int (nI (R 0 1)), .int (nI (sF (itF (psR R s1 (R 0 0)) (q + 1)))), .int (nI (sS (itF (psR R s1 (R 0 0)) (q + 1)))), .int (nI (sL (itF (psR R s1 (R 0 0)) (q + 1)))), .ref tk, .ref tf, .ref tb, .ref ta])), (tk, aI G 10 (sK (itF (psR R s1 (R 0 0)) (q + 1)))), (tf, aI G 10 (sG (itF (psR R s1 (R 0 0)) (q + 1)))), (tb, aI G 10 (sO (itF (psR R s1 (R 0 0)) (q + 1)))), (ta, aI G 10 (sA (itF (psR R s1 (R 0 0)) (q + 1))))] H locs := hw
                  subst hr
                  refine re_i (if itF (psR R s1 (R 0 0)) (q + 1) 4 a = 0 then 1 else 0) (st_i (R := itF (psR R s1 (R 0 0)) (q + 1)) (by rw [itF_00, psR_00]; omega)) ?_
                  exact rt_z C hw (itF (psR R s1 (R 0 0)) (q + 1)) (b01 _) (⟨ifc (by have e := heq; constructor <;> intro h <;> first | exact ⟨hBn, e ▸ h⟩ | exact e ▸ h.2), trivial⟩) rfl dX1_standsThough_106
        exact L_70 (_ + 1) 0 H _ ls (Nat.lt_succ_self _) (by omega) hw (lv_sub hl [1, 2, 3, 4, 0] rfl)
      · skip
        have c_23 := nle_c (tN (by omega)) (tN (by omega)) c_23
        refine lv_iload_n xx xb dX1_standsThough_26 rfl (lv_at hl 2 rfl) ?_
        refine lv_iconst (v := nI 1) xx xb dX1_standsThough_27 (by decide) ?_
        refine lv_iload xx xb dX1_standsThough_28 (lv_at hl 4 rfl) ?_
        refine lv_ishl xx xb dX1_standsThough_30 ?_
        refine re_i (nI (2 ^ i)) (shl1 (by omega)) ?_
        refine lv_iand xx xb dX1_standsThough_31 ?_
        refine re_i (nI (s1 &&& (2 ^ i))) (and_N _ _) ?_
        refine lv_if_eq (tgt := 61) xx xb dX1_standsThough_32 (by decide) (fun c_32 => ?_) (fun c_32 => ?_)
        · skip
          have c_32 := tbb_0 hs1 c_32
          have hw : Wd G (fA [(h0, .inr (1, [.ref so, .ref to, .ref uo, .int (nI im), .ref x5, .int (nI lm), .ref x6, .int (nI rm), .ref x7, .ref x8, .int sd])), (so, .inr (0, [.int (nI (sN R)), .int (nI (R 0 1)), .int (nI (sF R)), .int (nI (sS R)), .int (nI (sL R)), .ref ak, .ref af, .ref ab, .ref aa])), (ak, aI G 10 (sK R)), (af, aI G 10 (sG R)), (ab, aI G 10 (sO R)), (aa, aI G 10 (sA R)), (to, .inr (0, [.int (nI (sN S)), .int (nI m0), .int (nI (sF S)), .int (nI (sS S)), .int (nI (sL S)), .ref tk, .ref tf, .ref tb, .ref ta])), (tk, aI G 10 (sK S)), (tf, aI G 10 (sG S)), (tb, aI G 10 (sO S)), (ta, aI G 10 (sA S))]) s [(h0, .inr (1, [.ref so, .ref to, .ref uo, .int (nI im), .ref x5, .int (nI lm), .ref x6, .int (nI rm), .ref x7, .ref x8, .int sd])), (so, .inr (0, [.int (nI (sN R)), .int (nI (R 0 1)), .int (nI (sF R)), .int (nI (sS R)), .int (nI (sL R)), .ref ak, .ref af, .ref ab, .ref aa])), (ak, aI G 10 (sK R)), (af, aI G 10 (sG R)), (ab, aI G 10 (sO R)), (aa, aI G 10 (sA R)), (to, .inr (0, [.int (nI (sN (psR R s1 (i + 1)))), .int (nI (R 0 1)), .int (nI (sF (psR R s1 (i + 1)))), .int (nI (sS (psR R s1 (i + 1)))), .int (nI (sL (psR R s1 (i + 1)))), .ref tk, .ref tf, .ref tb, .ref ta])), (tk, aI G 10 (sK (psR R s1 (i + 1)))), (tf, aI G 10 (sG (psR R s1 (i + 1)))), (tb, aI G 10 (sO (psR R s1 (i + 1)))), (ta, aI G 10 (sA (psR R s1 (i + 1))))] H locs := by first | (rw [psR_t c_32]; exact hw) | (rw [psR_f c_32]; exact hw)
          have hB2 : psB R s1 (i + 1) = true := by first | exact psB_s hB (Or.inl c_32) | exact psB_s hB (Or.inr c_44)
          refine lv_iinc (v := nI (i + 1)) (lv' := [(4, .int (nI (i + 1))), (0, .ref h0), (1, .int (nI a)), (2, .int (nI s1)), (3, .int (nI n))]) xx xb dX1_standsThough_61 hl (k := 4) rfl (nI_add _ 1) (by decide) rfl (fun ls hl => ?_)
          refine lv_goto (tgt := 14) xx xb dX1_standsThough_64 (by decide) ?_
          exact ih_14 (i + 1) H _ ls (by omega) (by omega) hB2 hw (lv_sub hl [1, 2, 3, 4, 0] rfl)
        · skip
          have c_32 := tbb_1 c_32
          refine lv_aload_n xx xb dX1_standsThough_35 rfl (lv_at hl 0 rfl) ?_
          refine m_get C hw 0 rfl fk_X1_16 rfl dX1_standsThough_36 ?_
          refine lv_iload xx xb dX1_standsThough_39 (lv_at hl 4 rfl) ?_
          have hM := kX0_stands l G to tk tf tb ta (R 0 1) (psR R s1 i) (nI i) ((i : Nat) : Int) (tN (by omega)) (OK_psR hR s1 i (by omega))
          refine cv_i C hw hM yvX0_stands ml_X1_166 6 rfl rfl rfl [6, 7, 8, 9, 10] rfl rfl (fun _ => (rfl : ([to, tk, tf, tb, ta] : List Nat) = [to, tk, tf, tb, ta])) (by decide) ⟨Nat.zero_le _, Nat.zero_le _⟩ hl.1 rfl (Nat.le_of_ble_eq_true rfl) dX1_standsThough_41 (fun r _ H locs hr hw => ?_)
          have hw : Wd G (fA [(h0, .inr (1, [.ref so, .ref to, .ref uo, .int (nI im), .ref x5, .int (nI lm), .ref x6, .int (nI rm), .ref x7, .ref x8, .int sd])), (so, .inr (0, [.int (nI (sN R)), .int (nI (R 0 1)), .int (nI (sF R)), .int (nI (sS R)), .int (nI (sL R)), .ref ak, .ref af, .ref ab, .ref aa])), (ak, aI G 10 (sK R)), (af, aI G 10 (sG R)), (ab, aI G 10 (sO R)), (aa, aI G 10 (sA R)), (to, .inr (0, [.int (nI (sN S)), .int (nI m0), .int (nI (sF S)), .int (nI (sS S)), .int (nI (sL S)), .ref tk, .ref tf, .ref tb, .ref ta])), (tk, aI G 10 (sK S)), (tf, aI G 10 (sG S)), (tb, aI G 10 (sO S)), (ta, aI G 10 (sA S))]) s [(h0, .inr (1, [.ref so, .ref to, .ref uo, .int (nI im), .ref x5, .int (nI lm), .ref x6, .int (nI rm), .ref x7, .ref x8, .int sd])), (so, .inr (0, [.int (nI (sN R)), .int (nI (R 0 1)), .int (nI (sF R)), .int (nI (sS R)), .int (nI (sL R)), .ref ak, .ref af, .ref ab, .ref aa])), (ak, aI G 10 (sK R)), (af, aI G 10 (sG R)), (ab, aI G 10 (sO R)), (aa, aI G 10 (sA R)), (to, .inr (0, [.int (nI (sN (psR R s1 i))), .int (nI (R 0 1)), .int (nI (sF (psR R s1 i))), .int (nI (sS (psR R s1 i))), .int (nI (sL (psR R s1 i))), .ref tk, .ref tf, .ref tb, .ref ta])), (tk, aI G 10 (sK (psR R s1 i))), (tf, aI G 10 (sG (psR R s1 i))), (tb, aI G 10 (sO (psR R s1 i))), (ta, aI G 10 (sA (psR R s1 i)))] H locs := hw
          subst hr
          refine re_i (if psR R s1 i 4 i = 0 then 1 else 0) (st_i (R := psR R s1 i) (by rw [psR_00]; omega)) ?_
          refine lv_if_ne (tgt := 49) xx xb dX1_standsThough_44 (by decide) (fun c_44 => ?_) (fun c_44 => ?_)
          · skip
            have c_44 := b1_c c_44
            refine lv_aload_n xx xb dX1_standsThough_49 rfl (lv_at hl 0 rfl) ?_
            refine m_get C hw 0 rfl fk_X1_16 rfl dX1_standsThough_50 ?_
            refine lv_iload xx xb dX1_standsThough_53 (lv_at hl 4 rfl) ?_
            refine lv_bipush (v := nI 9) xx xb dX1_standsThough_55 (by decide) ?_
            have hM := kX0_pullThing l G to tk tf tb ta (R 0 1) (psR R s1 i) i 9 (OK_psR hR s1 i (by omega)) (by rw [psR_00]; omega) c_44 (by omega)
            refine cv_i C hw hM yvX0_pullThing ml_X1_90 6 rfl rfl rfl [6, 7, 8, 9, 10] rfl rfl (fun _ => (rfl : ([to, tk, tf, tb, ta] : List Nat) = [to, tk, tf, tb, ta])) (by decide) ⟨Nat.zero_le _, Nat.zero_le _⟩ hl.1 rfl (Nat.le_of_ble_eq_true rfl) dX1_standsThough_57 (fun r _ H locs hr hw => ?_)
            have hw : Wd G (fA [(h0, .inr (1, [.ref so, .ref to, .ref uo, .int (nI im), .ref x5, .int (nI lm), .ref x6, .int (nI rm), .ref x7, .ref x8, .int sd])), (so, .inr (0, [.int (nI (sN R)), .int (nI (R 0 1)), .int (nI (sF R)), .int (nI (sS R)), .int (nI (sL R)), .ref ak, .ref af, .ref ab, .ref aa])), (ak, aI G 10 (sK R)), (af, aI G 10 (sG R)), (ab, aI G 10 (sO R)), (aa, aI G 10 (sA R)), (to, .inr (0, [.int (nI (sN S)), .int (nI m0), .int (nI (sF S)), .int (nI (sS S)), .int (nI (sL S)), .ref tk, .ref tf, .ref tb, .ref ta])), (tk, aI G 10 (sK S)), (tf, aI G 10 (sG S)), (tb, aI G 10 (sO S)), (ta, aI G 10 (sA S))]) s [(h0, .inr (1, [.ref so, .ref to, .ref uo, .int (nI im), .ref x5, .int (nI lm), .ref x6, .int (nI rm), .ref x7, .ref x8, .int sd])), (so, .inr (0, [.int (nI (sN R)), .int (nI (R 0 1)), .int (nI (sF R)), .int (nI (sS R)), .int (nI (sL R)), .ref ak, .ref af, .ref ab, .ref aa])), (ak, aI G 10 (sK R)), (af, aI G 10 (sG R)), (ab, aI G 10 (sO R)), (aa, aI G 10 (sA R)), (to, .inr (0, [.int (nI (sN (pulF (psR R s1 i) i 9))), .int (nI (R 0 1)), .int (nI (sF (pulF (psR R s1 i) i 9))), .int (nI (sS (pulF (psR R s1 i) i 9))), .int (nI (sL (pulF (psR R s1 i) i 9))), .ref tk, .ref tf, .ref tb, .ref ta])), (tk, aI G 10 (sK (pulF (psR R s1 i) i 9))), (tf, aI G 10 (sG (pulF (psR R s1 i) i 9))), (tb, aI G 10 (sO (pulF (psR R s1 i) i 9))), (ta, aI G 10 (sA (pulF (psR R s1 i) i 9)))] H locs := hw
            subst hr
            refine lv_pop xx xb dX1_standsThough_60 rfl ?_
            have hw : Wd G (fA [(h0, .inr (1, [.ref so, .ref to, .ref uo, .int (nI im), .ref x5, .int (nI lm), .ref x6, .int (nI rm), .ref x7, .ref x8, .int sd])), (so, .inr (0, [.int (nI (sN R)), .int (nI (R 0 1)), .int (nI (sF R)), .int (nI (sS R)), .int (nI (sL R)), .ref ak, .ref af, .ref ab, .ref aa])), (ak, aI G 10 (sK R)), (af, aI G 10 (sG R)), (ab, aI G 10 (sO R)), (aa, aI G 10 (sA R)), (to, .inr (0, [.int (nI (sN S)), .int (nI m0), .int (nI (sF S)), .int (nI (sS S)), .int (nI (sL S)), .ref tk, .ref tf, .ref tb, .ref ta])), (tk, aI G 10 (sK S)), (tf, aI G 10 (sG S)), (tb, aI G 10 (sO S)), (ta, aI G 10 (sA S))]) s [(h0, .inr (1, [.ref so, .ref to, .ref uo, .int (nI im), .ref x5, .int (nI lm), .ref x6, .int (nI rm), .ref x7, .ref x8, .int sd])), (so, .inr (0, [.int (nI (sN R)), .int (nI (R 0 1)), .int (nI (sF R)), .int (nI (sS R)), .int (nI (sL R)), .ref ak, .ref af, .ref ab, .ref aa])), (ak, aI G 10 (sK R)), (af, aI G 10 (sG R)), (ab, aI G 10 (sO R)), (aa, aI G 10 (sA R)), (to, .inr (0, [.int (nI (sN (psR R s1 (i + 1)))), .int (nI (R 0 1)), .int (nI (sF (psR R s1 (i + 1)))), .int (nI (sS (psR R s1 (i + 1)))), .int (nI (sL (psR R s1 (i + 1)))), .ref tk, .ref tf, .ref tb, .ref ta])), (tk, aI G 10 (sK (psR R s1 (i + 1)))), (tf, aI G 10 (sG (psR R s1 (i + 1)))), (tb, aI G 10 (sO (psR R s1 (i + 1)))), (ta, aI G 10 (sA (psR R s1 (i + 1))))] H locs := by first | (rw [psR_t c_32]; exact hw) | (rw [psR_f c_32]; exact hw)
            have hB2 : psB R s1 (i + 1) = true := by first | exact psB_s hB (Or.inl c_32) | exact psB_s hB (Or.inr c_44)
            refine lv_iinc (v := nI (i + 1)) (lv' := [(4, .int (nI (i + 1))), (0, .ref h0), (1, .int (nI a)), (2, .int (nI s1)), (3, .int (nI n))]) xx xb dX1_standsThough_61 hl (k := 4) rfl (nI_add _ 1) (by decide) rfl (fun ls hl => ?_)
            refine lv_goto (tgt := 14) xx xb dX1_standsThough_64 (by decide) ?_
            exact ih_14 (i + 1) H _ ls (by omega) (by omega) hB2 hw (lv_sub hl [1, 2, 3, 4, 0] rfl)
          · skip
            have c_44 := b0_c c_44
            refine lv_iconst (v := nI 0) xx xb dX1_standsThough_47 (by decide) ?_
            exact rt_z C hw (psR R s1 i) (Or.inl rfl) (⟨r0 (fun q => by rw [psB_f c_32 c_44 _ (by omega)] at q; cases q.1), trivial⟩) rfl dX1_standsThough_48
  exact L_14 (_ + 1) 0 H _ ls (Nat.lt_succ_self _) (by omega) rfl hw (lv_sub hl [1, 2, 3, 4, 0] rfl)
set_option maxRecDepth 100000 in
set_option maxHeartbeats 4000000 in
theorem kX1_pullMost (l : Launch) (G : GT) (h0 : Nat) (so : Nat) (to : Nat) (uo : Nat) (x5 : Nat) (x6 : Nat) (x7 : Nat) (x8 : Nat) (im : Nat) (lm : Nat) (rm : Nat) (sd : Int32) (rf : Nat → Nat) (ak : Nat) (af : Nat) (ab : Nat) (aa : Nat) (R : RT) (tk : Nat) (tf : Nat) (tb : Nat) (ta : Nat) (m0 : Nat) (S : RT) (x : Int32) (xz : Int) (n : Int32) (nz : Int) (ww : Int32) (wwz : Int) (h_x : x.toInt = xz) (h_n : n.toInt = nz) (h_ww : ww.toInt = wwz) (hR : OK R) (hK : AK R) (hp : R 0 3 = 0) : Ct l yX1_pullMost cX1_pullMost 11 (some .int) 4 102 [.ref h0, .int x, .int n, .int ww] G [(h0, .inr (1, [.ref so, .ref to, .ref uo, .int (nI im), .ref x5, .int (nI lm), .ref x6, .int (nI rm), .ref x7, .ref x8, .int sd])), (so, .inr (0, [.int (nI (sN R)), .int (nI (R 0 1)), .int (nI (sF R)), .int (nI (sS R)), .int (nI (sL R)), .ref ak, .ref af, .ref ab, .ref aa])), (ak, aI G 10 (sK R)), (af, aI G 10 (sG R)), (ab, aI G 10 (sO R)), (aa, aI G 10 (sA R)), (to, .inr (0, [.int (nI (sN S)), .int (nI m0), .int (nI (sF S)), .int (nI (sS S)), .int (nI (sL S)), .ref tk, .ref tf, .ref tb, .ref ta])), (tk, aI G 10 (sK S)), (tf, aI G 10 (sG S)), (tb, aI G 10 (sO S)), (ta, aI G 10 (sA S)), (x7, aI G 7 (cN rf))] (QI G [(h0, .inr (1, [.ref so, .ref to, .ref uo, .int (nI im), .ref x5, .int (nI lm), .ref x6, .int (nI rm), .ref x7, .ref x8, .int sd])), (so, .inr (0, [.int (nI (sN R)), .int (nI (R 0 1)), .int (nI (sF R)), .int (nI (sS R)), .int (nI (sL R)), .ref ak, .ref af, .ref ab, .ref aa])), (ak, aI G 10 (sK R)), (af, aI G 10 (sG R)), (ab, aI G 10 (sO R)), (aa, aI G 10 (sA R)), (to, .inr (0, [.int (nI (sN S)), .int (nI m0), .int (nI (sF S)), .int (nI (sS S)), .int (nI (sL S)), .ref tk, .ref tf, .ref tb, .ref ta])), (tk, aI G 10 (sK S)), (tf, aI G 10 (sG S)), (tb, aI G 10 (sO S)), (ta, aI G 10 (sA S)), (x7, aI G 7 (cN rf))] (fun (r : Int32) (u : Nat × RT) => r = anI (cPM R xz nz wwz) (vPM R xz.toNat nz.toNat wwz)) (fun u => [(h0, .inr (1, [.ref so, .ref to, .ref uo, .int (nI im), .ref x5, .int (nI lm), .ref x6, .int (nI rm), .ref x7, .ref x8, .int sd])), (so, .inr (0, [.int (nI (sN R)), .int (nI (R 0 1)), .int (nI (sF R)), .int (nI (sS R)), .int (nI (sL R)), .ref ak, .ref af, .ref ab, .ref aa])), (ak, aI G 10 (sK R)), (af, aI G 10 (sG R)), (ab, aI G 10 (sO R)), (aa, aI G 10 (sA R)), (to, .inr (0, [.int (nI (sN u.2)), .int (nI u.1), .int (nI (sF u.2)), .int (nI (sS u.2)), .int (nI (sL u.2)), .ref tk, .ref tf, .ref tb, .ref ta])), (tk, aI G 10 (sK u.2)), (tf, aI G 10 (sG u.2)), (tb, aI G 10 (sO u.2)), (ta, aI G 10 (sA u.2)), (x7, aI G 7 (cN (rfU rf (cPM R xz nz wwz))))])) := by
  refine en (by decide +kernel) (Nat.le_of_ble_eq_true rfl) ?_
  intro p e s m below meth c ls H locs C hl hw
  have xx := C.1
  have xb := C.2.1
  have hw : Wd G (fA [(h0, .inr (1, [.ref so, .ref to, .ref uo, .int (nI im), .ref x5, .int (nI lm), .ref x6, .int (nI rm), .ref x7, .ref x8, .int sd])), (so, .inr (0, [.int (nI (sN R)), .int (nI (R 0 1)), .int (nI (sF R)), .int (nI (sS R)), .int (nI (sL R)), .ref ak, .ref af, .ref ab, .ref aa])), (ak, aI G 10 (sK R)), (af, aI G 10 (sG R)), (ab, aI G 10 (sO R)), (aa, aI G 10 (sA R)), (to, .inr (0, [.int (nI (sN S)), .int (nI m0), .int (nI (sF S)), .int (nI (sS S)), .int (nI (sL S)), .ref tk, .ref tf, .ref tb, .ref ta])), (tk, aI G 10 (sK S)), (tf, aI G 10 (sG S)), (tb, aI G 10 (sO S)), (ta, aI G 10 (sA S)), (x7, aI G 7 (cN rf))]) s [(h0, .inr (1, [.ref so, .ref to, .ref uo, .int (nI im), .ref x5, .int (nI lm), .ref x6, .int (nI rm), .ref x7, .ref x8, .int sd])), (so, .inr (0, [.int (nI (sN R)), .int (nI (R 0 1)), .int (nI (sF R)), .int (nI (sS R)), .int (nI (sL R)), .ref ak, .ref af, .ref ab, .ref aa])), (ak, aI G 10 (sK R)), (af, aI G 10 (sG R)), (ab, aI G 10 (sO R)), (aa, aI G 10 (sA R)), (to, .inr (0, [.int (nI (sN S)), .int (nI m0), .int (nI (sF S)), .int (nI (sS S)), .int (nI (sL S)), .ref tk, .ref tf, .ref tb, .ref ta])), (tk, aI G 10 (sK S)), (tf, aI G 10 (sG S)), (tb, aI G 10 (sO S)), (ta, aI G 10 (sA S)), (x7, aI G 7 (cN rf))] H locs := hw
  have hl : lv_has ls 11 [(0, .ref h0), (1, .int x), (2, .int n), (3, .int ww)] := hl
  obtain ⟨hn, hf0, hpr, hA⟩ := id hR
  have hc6 := cPM_le R xz nz wwz
  have hw6 := wlN_le nz 0 30
  have ho2 := otN_le wwz 1
  have h210 : 2 ^ R 0 0 ≤ 2 ^ 10 := Nat.pow_le_pow_right (by decide) hn
  refine lv_iload_n xx xb dX1_pullMost_0 rfl (lv_at hl 2 rfl) ?_
  refine lv_iconst (v := nI 0) xx xb dX1_pullMost_1 (by decide) ?_
  refine lv_bipush (v := nI 30) xx xb dX1_pullMost_2 (by decide) ?_
  have hM := kX1_outside l G n nz (nI 0) 0 (nI 30) 30 h_n (tN (by omega)) (tN (by omega))
  refine cs_i C hw hM ysX1_outside ml_X1_35 rfl [] rfl rfl (fun _ => (rfl : ([] : List Nat) = [])) (by decide) ⟨Nat.zero_le _, Nat.zero_le _⟩ hl.1 rfl (Nat.le_of_ble_eq_true rfl) dX1_pullMost_4 (fun r _ H locs hr hw => ?_)
  have hw : Wd G (fA [(h0, .inr (1, [.ref so, .ref to, .ref uo, .int (nI im), .ref x5, .int (nI lm), .ref x6, .int (nI rm), .ref x7, .ref x8, .int sd])), (so, .inr (0, [.int (nI (sN R)), .int (nI (R 0 1)), .int (nI (sF R)), .int (nI (sS R)), .int (nI (sL R)), .ref ak, .ref af, .ref ab, .ref aa])), (ak, aI G 10 (sK R)), (af, aI G 10 (sG R)), (ab, aI G 10 (sO R)), (aa, aI G 10 (sA R)), (to, .inr (0, [.int (nI (sN S)), .int (nI m0), .int (nI (sF S)), .int (nI (sS S)), .int (nI (sL S)), .ref tk, .ref tf, .ref tb, .ref ta])), (tk, aI G 10 (sK S)), (tf, aI G 10 (sG S)), (tb, aI G 10 (sO S)), (ta, aI G 10 (sA S)), (x7, aI G 7 (cN rf))]) s [(h0, .inr (1, [.ref so, .ref to, .ref uo, .int (nI im), .ref x5, .int (nI lm), .ref x6, .int (nI rm), .ref x7, .ref x8, .int sd])), (so, .inr (0, [.int (nI (sN R)), .int (nI (R 0 1)), .int (nI (sF R)), .int (nI (sS R)), .int (nI (sL R)), .ref ak, .ref af, .ref ab, .ref aa])), (ak, aI G 10 (sK R)), (af, aI G 10 (sG R)), (ab, aI G 10 (sO R)), (aa, aI G 10 (sA R)), (to, .inr (0, [.int (nI (sN S)), .int (nI m0), .int (nI (sF S)), .int (nI (sS S)), .int (nI (sL S)), .ref tk, .ref tf, .ref tb, .ref ta])), (tk, aI G 10 (sK S)), (tf, aI G 10 (sG S)), (tb, aI G 10 (sO S)), (ta, aI G 10 (sA S)), (x7, aI G 7 (cN rf))] H locs := hw
  subst hr
  refine lv_iload_n xx xb dX1_pullMost_7 rfl (lv_at hl 3 rfl) ?_
  refine lv_iconst (v := nI 1) xx xb dX1_pullMost_8 (by decide) ?_
  have hM := kX1_otherThan l G ww wwz (nI 1) 1 h_ww (tN (by omega))
  refine cs_i C hw hM ysX1_otherThan ml_X1_51 rfl [] rfl rfl (fun _ => (rfl : ([] : List Nat) = [])) (by decide) ⟨Nat.zero_le _, Nat.zero_le _⟩ hl.1 rfl (Nat.le_of_ble_eq_true rfl) dX1_pullMost_9 (fun r _ H locs hr hw => ?_)
  have hw : Wd G (fA [(h0, .inr (1, [.ref so, .ref to, .ref uo, .int (nI im), .ref x5, .int (nI lm), .ref x6, .int (nI rm), .ref x7, .ref x8, .int sd])), (so, .inr (0, [.int (nI (sN R)), .int (nI (R 0 1)), .int (nI (sF R)), .int (nI (sS R)), .int (nI (sL R)), .ref ak, .ref af, .ref ab, .ref aa])), (ak, aI G 10 (sK R)), (af, aI G 10 (sG R)), (ab, aI G 10 (sO R)), (aa, aI G 10 (sA R)), (to, .inr (0, [.int (nI (sN S)), .int (nI m0), .int (nI (sF S)), .int (nI (sS S)), .int (nI (sL S)), .ref tk, .ref tf, .ref tb, .ref ta])), (tk, aI G 10 (sK S)), (tf, aI G 10 (sG S)), (tb, aI G 10 (sO S)), (ta, aI G 10 (sA S)), (x7, aI G 7 (cN rf))]) s [(h0, .inr (1, [.ref so, .ref to, .ref uo, .int (nI im), .ref x5, .int (nI lm), .ref x6, .int (nI rm), .ref x7, .ref x8, .int sd])), (so, .inr (0, [.int (nI (sN R)), .int (nI (R 0 1)), .int (nI (sF R)), .int (nI (sS R)), .int (nI (sL R)), .ref ak, .ref af, .ref ab, .ref aa])), (ak, aI G 10 (sK R)), (af, aI G 10 (sG R)), (ab, aI G 10 (sO R)), (aa, aI G 10 (sA R)), (to, .inr (0, [.int (nI (sN S)), .int (nI m0), .int (nI (sF S)), .int (nI (sS S)), .int (nI (sL S)), .ref tk, .ref tf, .ref tb, .ref ta])), (tk, aI G 10 (sK S)), (tf, aI G 10 (sG S)), (tb, aI G 10 (sO S)), (ta, aI G 10 (sA S)), (x7, aI G 7 (cN rf))] H locs := hw
  subst hr
  have hM := kX1_firstOf l G (wlN nz 0 30) (otN wwz 1) (by omega)
  refine cs_i C hw hM ysX1_firstOf ml_X1_115 rfl [] rfl rfl (fun _ => (rfl : ([] : List Nat) = [])) (by decide) ⟨Nat.zero_le _, Nat.zero_le _⟩ hl.1 rfl (Nat.le_of_ble_eq_true rfl) dX1_pullMost_12 (fun r _ H locs hr hw => ?_)
  have hw : Wd G (fA [(h0, .inr (1, [.ref so, .ref to, .ref uo, .int (nI im), .ref x5, .int (nI lm), .ref x6, .int (nI rm), .ref x7, .ref x8, .int sd])), (so, .inr (0, [.int (nI (sN R)), .int (nI (R 0 1)), .int (nI (sF R)), .int (nI (sS R)), .int (nI (sL R)), .ref ak, .ref af, .ref ab, .ref aa])), (ak, aI G 10 (sK R)), (af, aI G 10 (sG R)), (ab, aI G 10 (sO R)), (aa, aI G 10 (sA R)), (to, .inr (0, [.int (nI (sN S)), .int (nI m0), .int (nI (sF S)), .int (nI (sS S)), .int (nI (sL S)), .ref tk, .ref tf, .ref tb, .ref ta])), (tk, aI G 10 (sK S)), (tf, aI G 10 (sG S)), (tb, aI G 10 (sO S)), (ta, aI G 10 (sA S)), (x7, aI G 7 (cN rf))]) s [(h0, .inr (1, [.ref so, .ref to, .ref uo, .int (nI im), .ref x5, .int (nI lm), .ref x6, .int (nI rm), .ref x7, .ref x8, .int sd])), (so, .inr (0, [.int (nI (sN R)), .int (nI (R 0 1)), .int (nI (sF R)), .int (nI (sS R)), .int (nI (sL R)), .ref ak, .ref af, .ref ab, .ref aa])), (ak, aI G 10 (sK R)), (af, aI G 10 (sG R)), (ab, aI G 10 (sO R)), (aa, aI G 10 (sA R)), (to, .inr (0, [.int (nI (sN S)), .int (nI m0), .int (nI (sF S)), .int (nI (sS S)), .int (nI (sL S)), .ref tk, .ref tf, .ref tb, .ref ta])), (tk, aI G 10 (sK S)), (tf, aI G 10 (sG S)), (tb, aI G 10 (sO S)), (ta, aI G 10 (sA S)), (x7, aI G 7 (cN rf))] H locs := hw
  subst hr
  refine lv_istore (lv' := [(4, .int (nG (foN (wlN nz 0 30) (otN wwz 1)))), (0, .ref h0), (1, .int x), (2, .int n), (3, .int ww)]) xx xb dX1_pullMost_15 hl (by decide) rfl (fun ls hl => ?_)
  refine lv_aload_n xx xb dX1_pullMost_17 rfl (lv_at hl 1 rfl) ?_
  refine lv_iload_n xx xb dX1_pullMost_18 rfl (lv_at hl 2 rfl) ?_
  refine lv_iload xx xb dX1_pullMost_19 (lv_at hl 0 rfl) ?_
  have hM := kX1_refusalOfThing l G h0 so to uo x5 x6 x7 x8 im lm rm sd ak af ab aa (R 0 1) R (foN (wlN nz 0 30) (otN wwz 1)) x xz h_x (by first | assumption | omega)
  refine cv_i C hw hM yvX1_refusalOfThing ml_X1_55 0 rfl rfl rfl [0, 1, 2, 3, 4, 5] rfl rfl (fun _ => (rfl : ([h0, so, ak, af, ab, aa] : List Nat) = [h0, so, ak, af, ab, aa])) (by decide) ⟨Nat.zero_le _, Nat.zero_le _⟩ hl.1 rfl (Nat.le_of_ble_eq_true rfl) dX1_pullMost_21 (fun r _ H locs hr hw => ?_)
  have hw : Wd G (fA [(h0, .inr (1, [.ref so, .ref to, .ref uo, .int (nI im), .ref x5, .int (nI lm), .ref x6, .int (nI rm), .ref x7, .ref x8, .int sd])), (so, .inr (0, [.int (nI (sN R)), .int (nI (R 0 1)), .int (nI (sF R)), .int (nI (sS R)), .int (nI (sL R)), .ref ak, .ref af, .ref ab, .ref aa])), (ak, aI G 10 (sK R)), (af, aI G 10 (sG R)), (ab, aI G 10 (sO R)), (aa, aI G 10 (sA R)), (to, .inr (0, [.int (nI (sN S)), .int (nI m0), .int (nI (sF S)), .int (nI (sS S)), .int (nI (sL S)), .ref tk, .ref tf, .ref tb, .ref ta])), (tk, aI G 10 (sK S)), (tf, aI G 10 (sG S)), (tb, aI G 10 (sO S)), (ta, aI G 10 (sA S)), (x7, aI G 7 (cN rf))]) s [(h0, .inr (1, [.ref so, .ref to, .ref uo, .int (nI im), .ref x5, .int (nI lm), .ref x6, .int (nI rm), .ref x7, .ref x8, .int sd])), (so, .inr (0, [.int (nI (sN R)), .int (nI (R 0 1)), .int (nI (sF R)), .int (nI (sS R)), .int (nI (sL R)), .ref ak, .ref af, .ref ab, .ref aa])), (ak, aI G 10 (sK R)), (af, aI G 10 (sG R)), (ab, aI G 10 (sO R)), (aa, aI G 10 (sA R)), (to, .inr (0, [.int (nI (sN S)), .int (nI m0), .int (nI (sF S)), .int (nI (sS S)), .int (nI (sL S)), .ref tk, .ref tf, .ref tb, .ref ta])), (tk, aI G 10 (sK S)), (tf, aI G 10 (sG S)), (tb, aI G 10 (sO S)), (ta, aI G 10 (sA S)), (x7, aI G 7 (cN rf))] H locs := hw
  subst hr
  refine re_i (nG (cPM R xz nz wwz)) (congrArg nG rfl) ?_
  refine lv_istore (lv' := [(5, .int (nG (cPM R xz nz wwz))), (4, .int (nG (foN (wlN nz 0 30) (otN wwz 1)))), (0, .ref h0), (1, .int x), (2, .int n), (3, .int ww)]) xx xb dX1_pullMost_24 hl (by decide) rfl (fun ls hl => ?_)
  refine lv_iload xx xb dX1_pullMost_26 (lv_at hl 0 rfl) ?_
  refine lv_if_eq (tgt := 38) xx xb dX1_pullMost_28 (by decide) (fun c_28 => ?_) (fun c_28 => ?_)
  · skip
    have c_28 := g0_c (by omega) c_28
    obtain ⟨g1, g2, g3⟩ := cPM_0 c_28
    refine lv_aload_n xx xb dX1_pullMost_38 rfl (lv_at hl 2 rfl) ?_
    refine m_get C hw 0 rfl fk_X1_10 rfl dX1_pullMost_39 ?_
    refine m_get C hw 1 rfl fk_X1_156 rfl dX1_pullMost_42 ?_
    refine re_i (nI (setF R 0)) rfl ?_
    refine lv_iconst (v := nI 1) xx xb dX1_pullMost_45 (by decide) ?_
    refine lv_iload_n xx xb dX1_pullMost_46 rfl (lv_at hl 3 rfl) ?_
    refine re_i (nI xz.toNat) (ofT h_x (by omega) (by omega)) ?_
    refine lv_ishl xx xb dX1_pullMost_47 ?_
    refine re_i (nI (2 ^ xz.toNat)) (shl1 (by omega)) ?_
    refine lv_iconst (v := (-1)) xx xb dX1_pullMost_48 (by decide) ?_
    refine lv_ixor xx xb dX1_pullMost_49 ?_
    refine lv_iand xx xb dX1_pullMost_50 ?_
    refine re_i (nI (otS R xz.toNat)) (an_N _ _) ?_
    have hot := otS_lt R xz.toNat
    refine lv_istore (lv' := [(6, .int (nI (otS R xz.toNat))), (5, .int (nG (cPM R xz nz wwz))), (4, .int (nG (foN (wlN nz 0 30) (otN wwz 1)))), (0, .ref h0), (1, .int x), (2, .int n), (3, .int ww)]) xx xb dX1_pullMost_51 hl (by decide) rfl (fun ls hl => ?_)
    refine lv_bipush (v := (-9)) xx xb dX1_pullMost_53 (by decide) ?_
    refine lv_istore (lv' := [(7, .int (-9)), (6, .int (nI (otS R xz.toNat))), (5, .int (nG (cPM R xz nz wwz))), (4, .int (nG (foN (wlN nz 0 30) (otN wwz 1)))), (0, .ref h0), (1, .int x), (2, .int n), (3, .int ww)]) xx xb dX1_pullMost_55 hl (by decide) rfl (fun ls hl => ?_)
    refine lv_bipush (v := (-9)) xx xb dX1_pullMost_57 (by decide) ?_
    refine lv_istore (lv' := [(8, .int (-9)), (7, .int (-9)), (6, .int (nI (otS R xz.toNat))), (5, .int (nG (cPM R xz nz wwz))), (4, .int (nG (foN (wlN nz 0 30) (otN wwz 1)))), (0, .ref h0), (1, .int x), (2, .int n), (3, .int ww)]) xx xb dX1_pullMost_59 hl (by decide) rfl (fun ls hl => ?_)
    refine lv_iconst (v := nI 0) xx xb dX1_pullMost_61 (by decide) ?_
    refine lv_istore (lv' := [(9, .int (nI 0)), (8, .int (-9)), (7, .int (-9)), (6, .int (nI (otS R xz.toNat))), (5, .int (nG (cPM R xz nz wwz))), (4, .int (nG (foN (wlN nz 0 30) (otN wwz 1)))), (0, .ref h0), (1, .int x), (2, .int n), (3, .int ww)]) xx xb dX1_pullMost_62 hl (by decide) rfl (fun ls hl => ?_)
    have hl : lv_has ls 11 [(9, .int (nI 0)), (8, .int (-9)), (7, .int (msI (pmF R xz.toNat nz.toNat 0))), (6, .int (nI (otS R xz.toNat))), (5, .int (nG (cPM R xz nz wwz))), (4, .int (nG (foN (wlN nz 0 30) (otN wwz 1)))), (0, .ref h0), (1, .int x), (2, .int n), (3, .int ww)] := hl
    have hl : lv_has ls 11 [(9, .int (nI 0)), (8, .int (fdI (pmF R xz.toNat nz.toNat 0))), (7, .int (msI (pmF R xz.toNat nz.toNat 0))), (6, .int (nI (otS R xz.toNat))), (5, .int (nG (cPM R xz nz wwz))), (4, .int (nG (foN (wlN nz 0 30) (otN wwz 1)))), (0, .ref h0), (1, .int x), (2, .int n), (3, .int ww)] := hl
    have L_64 : ∀ (fu : Nat) (s1 : Nat) (y0 : Nat) (Y : RT) (H : Heap) (locs : List Loc) (ls : Array Slot), 1025 - s1 < fu → (s1 ≤ otS R xz.toNat + 1) → Wd G (fA [(h0, .inr (1, [.ref so, .ref to, .ref uo, .int (nI im), .ref x5, .int (nI lm), .ref x6, .int (nI rm), .ref x7, .ref x8, .int sd])), (so, .inr (0, [.int (nI (sN R)), .int (nI (R 0 1)), .int (nI (sF R)), .int (nI (sS R)), .int (nI (sL R)), .ref ak, .ref af, .ref ab, .ref aa])), (ak, aI G 10 (sK R)), (af, aI G 10 (sG R)), (ab, aI G 10 (sO R)), (aa, aI G 10 (sA R)), (to, .inr (0, [.int (nI (sN S)), .int (nI m0), .int (nI (sF S)), .int (nI (sS S)), .int (nI (sL S)), .ref tk, .ref tf, .ref tb, .ref ta])), (tk, aI G 10 (sK S)), (tf, aI G 10 (sG S)), (tb, aI G 10 (sO S)), (ta, aI G 10 (sA S)), (x7, aI G 7 (cN rf))]) s [(h0, .inr (1, [.ref so, .ref to, .ref uo, .int (nI im), .ref x5, .int (nI lm), .ref x6, .int (nI rm), .ref x7, .ref x8, .int sd])), (so, .inr (0, [.int (nI (sN R)), .int (nI (R 0 1)), .int (nI (sF R)), .int (nI (sS R)), .int (nI (sL R)), .ref ak, .ref af, .ref ab, .ref aa])), (ak, aI G 10 (sK R)), (af, aI G 10 (sG R)), (ab, aI G 10 (sO R)), (aa, aI G 10 (sA R)), (to, .inr (0, [.int (nI (sN Y)), .int (nI y0), .int (nI (sF Y)), .int (nI (sS Y)), .int (nI (sL Y)), .ref tk, .ref tf, .ref tb, .ref ta])), (tk, aI G 10 (sK Y)), (tf, aI G 10 (sG Y)), (tb, aI G 10 (sO Y)), (ta, aI G 10 (sA Y)), (x7, aI G 7 (cN rf))] H locs → lv_has ls 11 [(0, .ref h0), (1, .int x), (2, .int n), (3, .int ww), (6, .int (nI (otS R xz.toNat))), (7, .int (msI (pmF R xz.toNat nz.toNat s1))), (8, .int (fdI (pmF R xz.toNat nz.toNat s1))), (9, .int (nI s1))] → W p l e ({ frames := 4, cells := 0, slots := 0, locals := 102 }) s m (([.ref h0, .int x, .int n, .int ww] : List Value).toArray) below meth c H locs 0 0 (MQ below (QI G [(h0, .inr (1, [.ref so, .ref to, .ref uo, .int (nI im), .ref x5, .int (nI lm), .ref x6, .int (nI rm), .ref x7, .ref x8, .int sd])), (so, .inr (0, [.int (nI (sN R)), .int (nI (R 0 1)), .int (nI (sF R)), .int (nI (sS R)), .int (nI (sL R)), .ref ak, .ref af, .ref ab, .ref aa])), (ak, aI G 10 (sK R)), (af, aI G 10 (sG R)), (ab, aI G 10 (sO R)), (aa, aI G 10 (sA R)), (to, .inr (0, [.int (nI (sN S)), .int (nI m0), .int (nI (sF S)), .int (nI (sS S)), .int (nI (sL S)), .ref tk, .ref tf, .ref tb, .ref ta])), (tk, aI G 10 (sK S)), (tf, aI G 10 (sG S)), (tb, aI G 10 (sO S)), (ta, aI G 10 (sA S)), (x7, aI G 7 (cN rf))] (fun (r : Int32) (u : Nat × RT) => r = anI (cPM R xz nz wwz) (vPM R xz.toNat nz.toNat wwz)) (fun u => [(h0, .inr (1, [.ref so, .ref to, .ref uo, .int (nI im), .ref x5, .int (nI lm), .ref x6, .int (nI rm), .ref x7, .ref x8, .int sd])), (so, .inr (0, [.int (nI (sN R)), .int (nI (R 0 1)), .int (nI (sF R)), .int (nI (sS R)), .int (nI (sL R)), .ref ak, .ref af, .ref ab, .ref aa])), (ak, aI G 10 (sK R)), (af, aI G 10 (sG R)), (ab, aI G 10 (sO R)), (aa, aI G 10 (sA R)), (to, .inr (0, [.int (nI (sN u.2)), .int (nI u.1), .int (nI (sF u.2)), .int (nI (sS u.2)), .int (nI (sL u.2)), .ref tk, .ref tf, .ref tb, .ref ta])), (tk, aI G 10 (sK u.2)), (tf, aI G 10 (sG u.2)), (tb, aI G 10 (sO u.2)), (ta, aI G 10 (sA u.2)), (x7, aI G 7 (cN (rfU rf (cPM R xz nz wwz))))])) (([.ref h0, .int x, .int n, .int ww] : List Value).toArray) s 0 0 (fA [(h0, .inr (1, [.ref so, .ref to, .ref uo, .int (nI im), .ref x5, .int (nI lm), .ref x6, .int (nI rm), .ref x7, .ref x8, .int sd])), (so, .inr (0, [.int (nI (sN R)), .int (nI (R 0 1)), .int (nI (sF R)), .int (nI (sS R)), .int (nI (sL R)), .ref ak, .ref af, .ref ab, .ref aa])), (ak, aI G 10 (sK R)), (af, aI G 10 (sG R)), (ab, aI G 10 (sO R)), (aa, aI G 10 (sA R)), (to, .inr (0, [.int (nI (sN S)), .int (nI m0), .int (nI (sF S)), .int (nI (sS S)), .int (nI (sL S)), .ref tk, .ref tf, .ref tb, .ref ta])), (tk, aI G 10 (sK S)), (tf, aI G 10 (sG S)), (tb, aI G 10 (sO S)), (ta, aI G 10 (sA S)), (x7, aI G 7 (cN rf))])) (F0 m 64 ls []) := by
      intro fu
      induction fu with
      | zero => intro s1 y0 Y H locs ls hfu; exact absurd hfu (Nat.not_lt_zero _)
      | succ fu ih_64 =>
        intro s1 y0 Y H locs ls hfu hs1 hw hl
        refine lv_iload xx xb dX1_pullMost_64 (lv_at hl 7 rfl) ?_
        refine lv_iload xx xb dX1_pullMost_66 (lv_at hl 4 rfl) ?_
        refine lv_icmp_gt (tgt := 120) xx xb dX1_pullMost_68 (by decide) (fun c_68 => ?_) (fun c_68 => ?_)
        · skip
          have c_68 := lt_c (tN (by omega)) (tN (by omega)) c_68
          have hse : pmF R xz.toNat nz.toNat (2 ^ R 0 0) = pmF R xz.toNat nz.toNat s1 := by
            have := pm_end (R := R) (k := xz.toNat) (m := nz.toNat) (2 ^ R 0 0 - s1) s1 (by omega) (by omega)
            rw [show s1 + (2 ^ R 0 0 - s1) = 2 ^ R 0 0 by omega] at this
            exact this
          have hpf := pmF_le R xz.toNat nz.toNat s1 (by omega)
          refine lv_iload_n xx xb dX1_pullMost_120 rfl (lv_at hl 3 rfl) ?_
          refine lv_if_ne (tgt := 129) xx xb dX1_pullMost_121 (by decide) (fun c_121 => ?_) (fun c_121 => ?_)
          · skip
            have c_121 := ne_c h_ww Int32.toInt_zero c_121
            refine lv_iload xx xb dX1_pullMost_129 (lv_at hl 6 rfl) ?_
            refine re_i (vPM R xz.toNat nz.toNat wwz) (vPM_1 hse hpf (by omega)) ?_
            have hc : cPM R xz nz wwz = 0 := by first | assumption | rfl
            exact rt_i C hw (y0, Y) (by exact (anI_0 hc _).symm) (by rw [rfU_0 hc]) dX1_pullMost_131
          · skip
            have c_121 := eq_c h_ww Int32.toInt_zero c_121
            refine lv_iload xx xb dX1_pullMost_124 (lv_at hl 5 rfl) ?_
            refine lv_goto (tgt := 131) xx xb dX1_pullMost_126 (by decide) ?_
            refine re_i (vPM R xz.toNat nz.toNat wwz) (vPM_0 hse hpf (by omega)) ?_
            have hc : cPM R xz nz wwz = 0 := by first | assumption | rfl
            exact rt_i C hw (y0, Y) (by exact (anI_0 hc _).symm) (by rw [rfU_0 hc]) dX1_pullMost_131
        · skip
          have c_68 := nlt_c (tN (by omega)) (tN (by omega)) c_68
          have hpf := pmF_le R xz.toNat nz.toNat s1 (by omega)
          refine lv_iload xx xb dX1_pullMost_71 (lv_at hl 7 rfl) ?_
          have hM := kJ6_bitCount_0f7a4 l G s1 (by omega)
          refine cs_i C hw hM ysJ6_bitCount_0f7a4 ml_X1_93 rfl [] rfl rfl (fun _ => (rfl : ([] : List Nat) = [])) (by decide) ⟨Nat.zero_le _, Nat.zero_le _⟩ hl.1 rfl (Nat.le_of_ble_eq_true rfl) dX1_pullMost_73 (fun r _ H locs hr hw => ?_)
          have hw : Wd G (fA [(h0, .inr (1, [.ref so, .ref to, .ref uo, .int (nI im), .ref x5, .int (nI lm), .ref x6, .int (nI rm), .ref x7, .ref x8, .int sd])), (so, .inr (0, [.int (nI (sN R)), .int (nI (R 0 1)), .int (nI (sF R)), .int (nI (sS R)), .int (nI (sL R)), .ref ak, .ref af, .ref ab, .ref aa])), (ak, aI G 10 (sK R)), (af, aI G 10 (sG R)), (ab, aI G 10 (sO R)), (aa, aI G 10 (sA R)), (to, .inr (0, [.int (nI (sN S)), .int (nI m0), .int (nI (sF S)), .int (nI (sS S)), .int (nI (sL S)), .ref tk, .ref tf, .ref tb, .ref ta])), (tk, aI G 10 (sK S)), (tf, aI G 10 (sG S)), (tb, aI G 10 (sO S)), (ta, aI G 10 (sA S)), (x7, aI G 7 (cN rf))]) s [(h0, .inr (1, [.ref so, .ref to, .ref uo, .int (nI im), .ref x5, .int (nI lm), .ref x6, .int (nI rm), .ref x7, .ref x8, .int sd])), (so, .inr (0, [.int (nI (sN R)), .int (nI (R 0 1)), .int (nI (sF R)), .int (nI (sS R)), .int (nI (sL R)), .ref ak, .ref af, .ref ab, .ref aa])), (ak, aI G 10 (sK R)), (af, aI G 10 (sG R)), (ab, aI G 10 (sO R)), (aa, aI G 10 (sA R)), (to, .inr (0, [.int (nI (sN Y)), .int (nI y0), .int (nI (sF Y)), .int (nI (sS Y)), .int (nI (sL Y)), .ref tk, .ref tf, .ref tb, .ref ta])), (tk, aI G 10 (sK Y)), (tf, aI G 10 (sG Y)), (tb, aI G 10 (sO Y)), (ta, aI G 10 (sA Y)), (x7, aI G 7 (cN rf))] H locs := hw
          subst hr
          refine lv_istore (lv' := [(10, .int (nI (pc s1))), (0, .ref h0), (1, .int x), (2, .int n), (3, .int ww), (6, .int (nI (otS R xz.toNat))), (7, .int (msI (pmF R xz.toNat nz.toNat s1))), (8, .int (fdI (pmF R xz.toNat nz.toNat s1))), (9, .int (nI s1))]) xx xb dX1_pullMost_76 hl (by decide) rfl (fun ls hl => ?_)
          refine lv_iload xx xb dX1_pullMost_78 (lv_at hl 8 rfl) ?_
          refine lv_iload xx xb dX1_pullMost_80 (lv_at hl 5 rfl) ?_
          refine lv_iconst (v := (-1)) xx xb dX1_pullMost_82 (by decide) ?_
          refine lv_ixor xx xb dX1_pullMost_83 ?_
          refine lv_iand xx xb dX1_pullMost_84 ?_
          refine re_i (nI (anN s1 (otS R xz.toNat))) (an_N _ _) ?_
          have hal := anN_le s1 (otS R xz.toNat)
          have hps := pc_le s1
          refine lv_if_ne (tgt := 114) xx xb dX1_pullMost_85 (by decide) (fun c_85 => ?_) (fun c_85 => ?_)
          · skip
            have c_85 := ne_c (tN (by omega)) Int32.toInt_zero c_85
            have hsub : ¬ anN s1 (otS R xz.toNat) = 0 := by omega
            have hy := pmF_n (R := R) (k := xz.toNat) (m := nz.toNat) (s := s1) (by first | exact fun z => c_103 (gd_1 z.1).2 | exact fun z => hsub (gd_ot (by omega) z.1) | (rintro ⟨z1, z2⟩; rcases z2 with z2 | z2 <;> omega))
            have hl : lv_has ls 11 [(10, .int (nI (pc s1))), (0, .ref h0), (1, .int x), (2, .int n), (3, .int ww), (6, .int (nI (otS R xz.toNat))), (7, .int (msI (pmF R xz.toNat nz.toNat (s1 + 1)))), (8, .int (fdI (pmF R xz.toNat nz.toNat s1))), (9, .int (nI s1))] := by rw [show msI (pmF R xz.toNat nz.toNat (s1 + 1)) = msI (pmF R xz.toNat nz.toNat s1) from congrArg msI hy]; exact hl
            have hl : lv_has ls 11 [(10, .int (nI (pc s1))), (0, .ref h0), (1, .int x), (2, .int n), (3, .int ww), (6, .int (nI (otS R xz.toNat))), (7, .int (msI (pmF R xz.toNat nz.toNat (s1 + 1)))), (8, .int (fdI (pmF R xz.toNat nz.toNat (s1 + 1)))), (9, .int (nI s1))] := by rw [show fdI (pmF R xz.toNat nz.toNat (s1 + 1)) = fdI (pmF R xz.toNat nz.toNat s1) from congrArg fdI hy]; exact hl
            refine lv_iinc (v := nI (s1 + 1)) (lv' := [(9, .int (nI (s1 + 1))), (10, .int (nI (pc s1))), (0, .ref h0), (1, .int x), (2, .int n), (3, .int ww), (6, .int (nI (otS R xz.toNat))), (7, .int (msI (pmF R xz.toNat nz.toNat (s1 + 1)))), (8, .int (fdI (pmF R xz.toNat nz.toNat (s1 + 1))))]) xx xb dX1_pullMost_114 hl (k := 8) rfl (nI_add _ 1) (by decide) rfl (fun ls hl => ?_)
            refine lv_goto (tgt := 64) xx xb dX1_pullMost_117 (by decide) ?_
            exact ih_64 (s1 + 1) y0 Y H _ ls (by omega) (by omega) hw (lv_sub hl [2, 3, 4, 5, 6, 7, 8, 0] rfl)
          · skip
            have c_85 := eq_c (tN (by omega)) Int32.toInt_zero c_85
            have hsub : anN s1 (otS R xz.toNat) = 0 := by omega
            refine lv_iload xx xb dX1_pullMost_88 (lv_at hl 0 rfl) ?_
            refine lv_iload xx xb dX1_pullMost_90 (lv_at hl 6 rfl) ?_
            refine lv_icmp_le (tgt := 114) xx xb dX1_pullMost_92 (by decide) (fun c_92 => ?_) (fun c_92 => ?_)
            · skip
              have c_92 := ms_le hps c_92
              have hy := pmF_n (R := R) (k := xz.toNat) (m := nz.toNat) (s := s1) (by first | exact fun z => c_103 (gd_1 z.1).2 | exact fun z => hsub (gd_ot (by omega) z.1) | (rintro ⟨z1, z2⟩; rcases z2 with z2 | z2 <;> omega))
              have hl : lv_has ls 11 [(10, .int (nI (pc s1))), (0, .ref h0), (1, .int x), (2, .int n), (3, .int ww), (6, .int (nI (otS R xz.toNat))), (7, .int (msI (pmF R xz.toNat nz.toNat (s1 + 1)))), (8, .int (fdI (pmF R xz.toNat nz.toNat s1))), (9, .int (nI s1))] := by rw [show msI (pmF R xz.toNat nz.toNat (s1 + 1)) = msI (pmF R xz.toNat nz.toNat s1) from congrArg msI hy]; exact hl
              have hl : lv_has ls 11 [(10, .int (nI (pc s1))), (0, .ref h0), (1, .int x), (2, .int n), (3, .int ww), (6, .int (nI (otS R xz.toNat))), (7, .int (msI (pmF R xz.toNat nz.toNat (s1 + 1)))), (8, .int (fdI (pmF R xz.toNat nz.toNat (s1 + 1)))), (9, .int (nI s1))] := by rw [show fdI (pmF R xz.toNat nz.toNat (s1 + 1)) = fdI (pmF R xz.toNat nz.toNat s1) from congrArg fdI hy]; exact hl
              refine lv_iinc (v := nI (s1 + 1)) (lv' := [(9, .int (nI (s1 + 1))), (10, .int (nI (pc s1))), (0, .ref h0), (1, .int x), (2, .int n), (3, .int ww), (6, .int (nI (otS R xz.toNat))), (7, .int (msI (pmF R xz.toNat nz.toNat (s1 + 1)))), (8, .int (fdI (pmF R xz.toNat nz.toNat (s1 + 1))))]) xx xb dX1_pullMost_114 hl (k := 8) rfl (nI_add _ 1) (by decide) rfl (fun ls hl => ?_)
              refine lv_goto (tgt := 64) xx xb dX1_pullMost_117 (by decide) ?_
              exact ih_64 (s1 + 1) y0 Y H _ ls (by omega) (by omega) hw (lv_sub hl [2, 3, 4, 5, 6, 7, 8, 0] rfl)
            · skip
              have c_92 := ms_gt hpf c_92 hps
              have hgt := c_92
              refine lv_aload_n xx xb dX1_pullMost_95 rfl (lv_at hl 1 rfl) ?_
              refine lv_iload_n xx xb dX1_pullMost_96 rfl (lv_at hl 2 rfl) ?_
              refine re_i (nI xz.toNat) (ofT h_x (by omega) (by omega)) ?_
              refine lv_iload xx xb dX1_pullMost_97 (lv_at hl 8 rfl) ?_
              refine lv_iload_n xx xb dX1_pullMost_99 rfl (lv_at hl 3 rfl) ?_
              refine re_i (nI nz.toNat) (ofT h_n (by omega) (by omega)) ?_
              have hM := kX1_standsThough l G h0 so to uo x5 x6 x7 x8 im lm rm sd ak af ab aa R tk tf tb ta y0 Y xz.toNat s1 nz.toNat (by first | assumption | omega) (by first | assumption | omega) (by first | assumption | omega) (by omega) (by omega) (by omega)
              refine cv_i C hw hM yvX1_standsThough ml_X1_159 0 rfl rfl rfl [0, 1, 2, 3, 4, 5, 6, 7, 8, 9, 10] rfl rfl (fun _ => (rfl : ([h0, so, ak, af, ab, aa, to, tk, tf, tb, ta] : List Nat) = [h0, so, ak, af, ab, aa, to, tk, tf, tb, ta])) (by decide) ⟨Nat.zero_le _, Nat.zero_le _⟩ hl.1 rfl (Nat.le_of_ble_eq_true rfl) dX1_pullMost_100 (fun r u H locs hr hw => ?_)
              obtain ⟨u1, hu1⟩ : ∃ z, z = u := ⟨_, rfl⟩
              subst hu1
              have hw : Wd G (fA [(h0, .inr (1, [.ref so, .ref to, .ref uo, .int (nI im), .ref x5, .int (nI lm), .ref x6, .int (nI rm), .ref x7, .ref x8, .int sd])), (so, .inr (0, [.int (nI (sN R)), .int (nI (R 0 1)), .int (nI (sF R)), .int (nI (sS R)), .int (nI (sL R)), .ref ak, .ref af, .ref ab, .ref aa])), (ak, aI G 10 (sK R)), (af, aI G 10 (sG R)), (ab, aI G 10 (sO R)), (aa, aI G 10 (sA R)), (to, .inr (0, [.int (nI (sN S)), .int (nI m0), .int (nI (sF S)), .int (nI (sS S)), .int (nI (sL S)), .ref tk, .ref tf, .ref tb, .ref ta])), (tk, aI G 10 (sK S)), (tf, aI G 10 (sG S)), (tb, aI G 10 (sO S)), (ta, aI G 10 (sA S)), (x7, aI G 7 (cN rf))]) s [(h0, .inr (1, [.ref so, .ref to, .ref uo, .int (nI im), .ref x5, .int (nI lm), .ref x6, .int (nI rm), .ref x7, .ref x8, .int sd])), (so, .inr (0, [.int (nI (sN R)), .int (nI (R 0 1)), .int (nI (sF R)), .int (nI (sS R)), .int (nI (sL R)), .ref ak, .ref af, .ref ab, .ref aa])), (ak, aI G 10 (sK R)), (af, aI G 10 (sG R)), (ab, aI G 10 (sO R)), (aa, aI G 10 (sA R)), (to, .inr (0, [.int (nI (sN u1)), .int (nI (R 0 1)), .int (nI (sF u1)), .int (nI (sS u1)), .int (nI (sL u1)), .ref tk, .ref tf, .ref tb, .ref ta])), (tk, aI G 10 (sK u1)), (tf, aI G 10 (sG u1)), (tb, aI G 10 (sO u1)), (ta, aI G 10 (sA u1)), (x7, aI G 7 (cN rf))] H locs := hw
              obtain ⟨hr, hq1⟩ := hr
              subst hr
              refine lv_if_eq (tgt := 114) xx xb dX1_pullMost_103 (by decide) (fun c_103 => ?_) (fun c_103 => ?_)
              · skip
                have c_103 := b0_c c_103
                have hy := pmF_n (R := R) (k := xz.toNat) (m := nz.toNat) (s := s1) (by first | exact fun z => c_103 (gd_1 z.1).2 | exact fun z => hsub (gd_ot (by omega) z.1) | (rintro ⟨z1, z2⟩; rcases z2 with z2 | z2 <;> omega))
                have hl : lv_has ls 11 [(10, .int (nI (pc s1))), (0, .ref h0), (1, .int x), (2, .int n), (3, .int ww), (6, .int (nI (otS R xz.toNat))), (7, .int (msI (pmF R xz.toNat nz.toNat (s1 + 1)))), (8, .int (fdI (pmF R xz.toNat nz.toNat s1))), (9, .int (nI s1))] := by rw [show msI (pmF R xz.toNat nz.toNat (s1 + 1)) = msI (pmF R xz.toNat nz.toNat s1) from congrArg msI hy]; exact hl
                have hl : lv_has ls 11 [(10, .int (nI (pc s1))), (0, .ref h0), (1, .int x), (2, .int n), (3, .int ww), (6, .int (nI (otS R xz.toNat))), (7, .int (msI (pmF R xz.toNat nz.toNat (s1 + 1)))), (8, .int (fdI (pmF R xz.toNat nz.toNat (s1 + 1)))), (9, .int (nI s1))] := by rw [show fdI (pmF R xz.toNat nz.toNat (s1 + 1)) = fdI (pmF R xz.toNat nz.toNat s1) from congrArg fdI hy]; exact hl
                refine lv_iinc (v := nI (s1 + 1)) (lv' := [(9, .int (nI (s1 + 1))), (10, .int (nI (pc s1))), (0, .ref h0), (1, .int x), (2, .int n), (3, .int ww), (6, .int (nI (otS R xz.toNat))), (7, .int (msI (pmF R xz.toNat nz.toNat (s1 + 1)))), (8, .int (fdI (pmF R xz.toNat nz.toNat (s1 + 1))))]) xx xb dX1_pullMost_114 hl (k := 8) rfl (nI_add _ 1) (by decide) rfl (fun ls hl => ?_)
                refine lv_goto (tgt := 64) xx xb dX1_pullMost_117 (by decide) ?_
                exact ih_64 (s1 + 1) (R 0 1) u1 H _ ls (by omega) (by omega) hw (lv_sub hl [2, 3, 4, 5, 6, 7, 8, 0] rfl)
              · skip
                have c_103 := b1_c c_103
                refine lv_iload xx xb dX1_pullMost_106 (lv_at hl 0 rfl) ?_
                refine lv_istore (lv' := [(7, .int (nI (pc s1))), (10, .int (nI (pc s1))), (0, .ref h0), (1, .int x), (2, .int n), (3, .int ww), (6, .int (nI (otS R xz.toNat))), (8, .int (fdI (pmF R xz.toNat nz.toNat s1))), (9, .int (nI s1))]) xx xb dX1_pullMost_108 hl (by decide) rfl (fun ls hl => ?_)
                refine lv_iload xx xb dX1_pullMost_110 (lv_at hl 8 rfl) ?_
                refine lv_istore (lv' := [(8, .int (nI s1)), (7, .int (nI (pc s1))), (10, .int (nI (pc s1))), (0, .ref h0), (1, .int x), (2, .int n), (3, .int ww), (6, .int (nI (otS R xz.toNat))), (9, .int (nI s1))]) xx xb dX1_pullMost_112 hl (by decide) rfl (fun ls hl => ?_)
                have hy := pmF_y (R := R) (k := xz.toNat) (m := nz.toNat) (s := s1) ⟨gd_of hsub c_103.1 c_103.2, hgt⟩
                have hl : lv_has ls 11 [(8, .int (nI s1)), (7, .int (msI (pmF R xz.toNat nz.toNat (s1 + 1)))), (10, .int (nI (pc s1))), (0, .ref h0), (1, .int x), (2, .int n), (3, .int ww), (6, .int (nI (otS R xz.toNat))), (9, .int (nI s1))] := by rw [show msI (pmF R xz.toNat nz.toNat (s1 + 1)) = nI (pc s1) from (congrArg msI hy).trans (if_pos (by omega))]; exact hl
                have hl : lv_has ls 11 [(8, .int (fdI (pmF R xz.toNat nz.toNat (s1 + 1)))), (7, .int (msI (pmF R xz.toNat nz.toNat (s1 + 1)))), (10, .int (nI (pc s1))), (0, .ref h0), (1, .int x), (2, .int n), (3, .int ww), (6, .int (nI (otS R xz.toNat))), (9, .int (nI s1))] := by rw [show fdI (pmF R xz.toNat nz.toNat (s1 + 1)) = nI s1 from (congrArg fdI hy).trans (fdI_y (by omega))]; exact hl
                refine lv_iinc (v := nI (s1 + 1)) (lv' := [(9, .int (nI (s1 + 1))), (8, .int (fdI (pmF R xz.toNat nz.toNat (s1 + 1)))), (7, .int (msI (pmF R xz.toNat nz.toNat (s1 + 1)))), (10, .int (nI (pc s1))), (0, .ref h0), (1, .int x), (2, .int n), (3, .int ww), (6, .int (nI (otS R xz.toNat)))]) xx xb dX1_pullMost_114 hl (k := 8) rfl (nI_add _ 1) (by decide) rfl (fun ls hl => ?_)
                refine lv_goto (tgt := 64) xx xb dX1_pullMost_117 (by decide) ?_
                exact ih_64 (s1 + 1) (R 0 1) u1 H _ ls (by omega) (by omega) hw (lv_sub hl [4, 5, 6, 7, 8, 2, 1, 0] rfl)
    exact L_64 (_ + 1) 0 m0 S H _ ls (Nat.lt_succ_self _) (by omega) hw (lv_sub hl [6, 7, 8, 9, 3, 2, 1, 0] rfl)
  · skip
    have c_28 := g0_n c_28
    refine lv_aload_n xx xb dX1_pullMost_31 rfl (lv_at hl 2 rfl) ?_
    refine lv_iload xx xb dX1_pullMost_32 (lv_at hl 0 rfl) ?_
    have hM := kX1_refuse l G h0 so to uo x5 x6 x7 x8 im lm rm sd rf (cPM R xz nz wwz) (by first | assumption | omega)
    refine cv_i C hw hM yvX1_refuse ml_X1_43 0 rfl rfl rfl [0, 11] rfl rfl (fun _ => (rfl : ([h0, x7] : List Nat) = [h0, x7])) (by decide) ⟨Nat.zero_le _, Nat.zero_le _⟩ hl.1 rfl (Nat.le_of_ble_eq_true rfl) dX1_pullMost_34 (fun r _ H locs hr hw => ?_)
    have hw : Wd G (fA [(h0, .inr (1, [.ref so, .ref to, .ref uo, .int (nI im), .ref x5, .int (nI lm), .ref x6, .int (nI rm), .ref x7, .ref x8, .int sd])), (so, .inr (0, [.int (nI (sN R)), .int (nI (R 0 1)), .int (nI (sF R)), .int (nI (sS R)), .int (nI (sL R)), .ref ak, .ref af, .ref ab, .ref aa])), (ak, aI G 10 (sK R)), (af, aI G 10 (sG R)), (ab, aI G 10 (sO R)), (aa, aI G 10 (sA R)), (to, .inr (0, [.int (nI (sN S)), .int (nI m0), .int (nI (sF S)), .int (nI (sS S)), .int (nI (sL S)), .ref tk, .ref tf, .ref tb, .ref ta])), (tk, aI G 10 (sK S)), (tf, aI G 10 (sG S)), (tb, aI G 10 (sO S)), (ta, aI G 10 (sA S)), (x7, aI G 7 (cN rf))]) s [(h0, .inr (1, [.ref so, .ref to, .ref uo, .int (nI im), .ref x5, .int (nI lm), .ref x6, .int (nI rm), .ref x7, .ref x8, .int sd])), (so, .inr (0, [.int (nI (sN R)), .int (nI (R 0 1)), .int (nI (sF R)), .int (nI (sS R)), .int (nI (sL R)), .ref ak, .ref af, .ref ab, .ref aa])), (ak, aI G 10 (sK R)), (af, aI G 10 (sG R)), (ab, aI G 10 (sO R)), (aa, aI G 10 (sA R)), (to, .inr (0, [.int (nI (sN S)), .int (nI m0), .int (nI (sF S)), .int (nI (sS S)), .int (nI (sL S)), .ref tk, .ref tf, .ref tb, .ref ta])), (tk, aI G 10 (sK S)), (tf, aI G 10 (sG S)), (tb, aI G 10 (sO S)), (ta, aI G 10 (sA S)), (x7, aI G 7 (cN (upN rf (cPM R xz nz wwz) (rf (cPM R xz nz wwz) + 1))))] H locs := hw
    subst hr
    have hc : cPM R xz nz wwz = (cPM R xz nz wwz) := by first | assumption | rfl
    have hj : (cPM R xz nz wwz) ≠ 0 := by omega
    exact rt_i C hw (m0, S) (by exact (anI_r hc hj _).symm) (by rw [rfU_r hc hj]) dX1_pullMost_37
