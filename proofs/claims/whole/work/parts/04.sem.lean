-- ===== numbers =====
theorem tN {n : Nat} (h : n < 2147483648) : (nI n).toInt = (n : Int) := nI_toInt h
theorem tM9 : (-9 : Int32).toInt = -9 := by decide +kernel
theorem le_c {x y : Int32} {a b : Int} (hx : x.toInt = a) (hy : y.toInt = b) (h : x ≤ y) : a ≤ b := by
  rw [← hx, ← hy]; exact Int32.le_iff_toInt_le.mp h
theorem nle_c {x y : Int32} {a b : Int} (hx : x.toInt = a) (hy : y.toInt = b) (h : ¬ x ≤ y) : b < a := by
  rw [Int32.le_iff_toInt_le, hx, hy] at h; omega
theorem lt_c {x y : Int32} {a b : Int} (hx : x.toInt = a) (hy : y.toInt = b) (h : x < y) : a < b := by
  rw [← hx, ← hy]; exact Int32.lt_iff_toInt_lt.mp h
theorem nlt_c {x y : Int32} {a b : Int} (hx : x.toInt = a) (hy : y.toInt = b) (h : ¬ x < y) : b ≤ a := by
  rw [Int32.lt_iff_toInt_lt, hx, hy] at h; omega
theorem eq_c {x y : Int32} {a b : Int} (hx : x.toInt = a) (hy : y.toInt = b) (h : x = y) : a = b := by
  rw [← hx, ← hy, h]
theorem ne_c {x y : Int32} {a b : Int} (hx : x.toInt = a) (hy : y.toInt = b) (h : ¬ x = y) : a ≠ b := by
  intro q; exact h (Int32.toInt_inj.mp (by rw [hx, hy, q]))
theorem of_toInt {x : Int32} {n : Nat} (h : x.toInt = (n : Int)) (hn : n < 2147483648) : x = nI n := Int32.toInt_inj.mp (by rw [h, tN hn])
theorem or_N (a b : Nat) : nI a ||| nI b = nI (a ||| b) := by
  apply Int32.toBitVec_inj.1
  show BitVec.ofNat 32 a ||| BitVec.ofNat 32 b = BitVec.ofNat 32 (a ||| b)
  apply BitVec.eq_of_getLsbD_eq
  intro i hi
  simp [BitVec.getLsbD_ofNat, hi]
theorem and_N (a b : Nat) : nI a &&& nI b = nI (a &&& b) := by
  apply Int32.toBitVec_inj.1
  show BitVec.ofNat 32 a &&& BitVec.ofNat 32 b = BitVec.ofNat 32 (a &&& b)
  apply BitVec.eq_of_getLsbD_eq
  intro i hi
  simp [BitVec.getLsbD_ofNat, hi]
/-- a without b's bits -/
def anN (a b : Nat) : Nat := a ^^^ (a &&& b)
theorem anN_bit (a b k : Nat) : (anN a b).testBit k = (a.testBit k && !b.testBit k) := by
  simp only [anN, Nat.testBit_xor, Nat.testBit_and]
  cases a.testBit k <;> cases b.testBit k <;> rfl
theorem an_N (a b : Nat) : nI a &&& (nI b ^^^ (-1)) = nI (anN a b) := by
  apply Int32.toBitVec_inj.1
  show BitVec.ofNat 32 a &&& (BitVec.ofNat 32 b ^^^ (-1 : Int32).toBitVec) = BitVec.ofNat 32 (anN a b)
  have h1 : (-1 : Int32).toBitVec = BitVec.allOnes 32 := by decide +kernel
  rw [h1]
  apply BitVec.eq_of_getLsbD_eq
  intro i hi
  simp only [BitVec.getLsbD_and, BitVec.getLsbD_xor, BitVec.getLsbD_allOnes, BitVec.getLsbD_ofNat, hi, anN_bit, decide_true, Bool.true_and, Bool.xor_true]
theorem s31 : ∀ k, k < 32 → ((nI k &&& 31).toBitVec.smod 32).toNat = k := by decide +kernel
theorem shl1 {k : Nat} (h : k < 31) : nI 1 <<< (nI k &&& 31) = nI (2 ^ k) := by
  have h2 : 2 ^ k < 2 ^ 31 := Nat.pow_lt_pow_right (by decide) h
  rw [pk_shlN _ k (s31 k (by omega)) (by omega), Nat.one_mul]
theorem shr_N {n k : Nat} (hn : n < 2147483648) (h : k < 32) : nI n >>> (nI k &&& 31) = nI (n / 2 ^ k) := pk_shrN hn _ k (s31 k h)
theorem bit_N {n k : Nat} (hn : n < 2147483648) (h : k < 32) : (nI n >>> (nI k &&& 31)) &&& nI 1 = nI (if n.testBit k then 1 else 0) := by
  rw [shr_N hn h, and_N, Nat.and_one_is_mod]
  congr 1
  rw [Nat.testBit_eq_decide_div_mod_eq]
  have := Nat.mod_two_eq_zero_or_one (n / 2 ^ k)
  rcases this with h | h <;> simp [h]
/-- sets as numbers: the places below n where P holds -/
def bs (P : Nat → Bool) : Nat → Nat
  | 0 => 0
  | n + 1 => bs P n + (if P n then 2 ^ n else 0)
theorem bs_lt (P : Nat → Bool) : ∀ n, bs P n < 2 ^ n
  | 0 => by simp [bs]
  | n + 1 => by
    have h := bs_lt P n
    simp only [bs, Nat.pow_succ]
    split <;> omega
theorem bs_bit (P : Nat → Bool) : ∀ n k, (bs P n).testBit k = (decide (k < n) && P k)
  | 0, k => by simp [bs]
  | n + 1, k => by
    have h := bs_lt P n
    have ih := bs_bit P n k
    simp only [bs]
    by_cases hp : P n
    · rw [if_pos hp, Nat.add_comm]
      by_cases hk : k = n
      · subst hk
        rw [Nat.testBit_two_pow_add_eq, ih]
        simp [hp]
      · rcases Nat.lt_or_gt_of_ne hk with q | q
        · rw [Nat.testBit_two_pow_add_gt q, ih]
          simp [q, Nat.lt_succ_of_lt q]
        · have h2 : 2 ^ n + bs P n < 2 ^ k := by
            have : 2 ^ (n + 1) ≤ 2 ^ k := Nat.pow_le_pow_right (by decide) q
            rw [Nat.pow_succ] at this
            omega
          rw [Nat.testBit_lt_two_pow h2]
          have : ¬ k < n + 1 := by omega
          simp [this]
    · rw [if_neg hp, Nat.add_zero, ih]
      by_cases hk : k = n
      · subst hk; simp [hp]
      · have : (k < n + 1) ↔ (k < n) := by omega
        simp [this]
theorem bs_or (P : Nat → Bool) (n : Nat) : bs P n ||| (if P n then 2 ^ n else 0) = bs P (n + 1) := by
  apply Nat.eq_of_testBit_eq
  intro k
  rw [Nat.testBit_or, bs_bit, bs_bit]
  by_cases hp : P n
  · rw [if_pos hp, Nat.testBit_two_pow]
    by_cases hk : n = k
    · subst hk; simp [hp]
    · have : (k < n + 1) ↔ (k < n) := by omega
      simp [this, hk]
  · rw [if_neg hp, Nat.zero_testBit]
    by_cases hk : k = n
    · subst hk; simp [hp]
    · have : (k < n + 1) ↔ (k < n) := by omega
      simp [this]
theorem bs_orT {P : Nat → Bool} {n : Nat} (h : P n = true) : bs P n ||| 2 ^ n = bs P (n + 1) := by rw [← bs_or, if_pos h]
theorem bs_orF {P : Nat → Bool} {n : Nat} (h : P n = false) : bs P n ||| 0 = bs P (n + 1) := by rw [← bs_or, h]; rfl
theorem bs_congr {P P' : Nat → Bool} : ∀ {n : Nat}, (∀ k, k < n → P k = P' k) → bs P n = bs P' n
  | 0, _ => rfl
  | n + 1, h => by
    simp only [bs]
    rw [bs_congr (fun k hk => h k (Nat.lt_succ_of_lt hk)), h n (Nat.lt_succ_self n)]
theorem bs_zero {P : Nat → Bool} {n : Nat} : bs P n = 0 ↔ ∀ k, k < n → P k = false := by
  constructor
  · intro h k hk
    have h2 := bs_bit P n k
    rw [h, Nat.zero_testBit] at h2
    cases hp : P k with
    | false => rfl
    | true => rw [hp] at h2; simp [hk] at h2
  · intro h
    have : bs P n = bs (fun _ => false) n := bs_congr h
    rw [this]
    apply Nat.eq_of_testBit_eq
    intro k
    rw [bs_bit]; simp
theorem bs_lt31 (P : Nat → Bool) {n : Nat} (h : n ≤ 30) : bs P n < 2147483648 := by
  have h1 := bs_lt P n
  have h2 : 2 ^ n ≤ 2 ^ 30 := Nat.pow_le_pow_right (by decide) h
  omega
/-- how many places below n hold P -/
def ct (P : Nat → Bool) : Nat → Nat
  | 0 => 0
  | n + 1 => ct P n + (if P n then 1 else 0)
theorem ct_le (P : Nat → Bool) : ∀ n, ct P n ≤ n
  | 0 => Nat.le_refl _
  | n + 1 => by
    have h := ct_le P n
    simp only [ct]
    split <;> omega
theorem ct_congr {P P' : Nat → Bool} : ∀ {n : Nat}, (∀ k, k < n → P k = P' k) → ct P n = ct P' n
  | 0, _ => rfl
  | n + 1, h => by
    simp only [ct]
    rw [ct_congr (fun k hk => h k (Nat.lt_succ_of_lt hk)), h n (Nat.lt_succ_self n)]
theorem ct_ext {P : Nat → Bool} {n : Nat} : ∀ {k : Nat}, (∀ a, n ≤ a → P a = false) → n ≤ k → ct P k = ct P n
  | 0, _, h => by
    have : n = 0 := by omega
    rw [this]
  | k + 1, hp, h => by
    by_cases hk : n = k + 1
    · rw [hk]
    · simp only [ct]
      rw [ct_ext hp (by omega : n ≤ k), hp k (by omega)]
      rfl
/-- a number's bits, ten of them -/
def pc (x : Nat) : Nat := ct (fun k => x.testBit k) 10
theorem pc_bs (P : Nat → Bool) {n : Nat} (h : n ≤ 10) : pc (bs P n) = ct P n := by
  unfold pc
  rw [ct_ext (n := n) (fun a ha => by rw [bs_bit]; simp [Nat.not_lt.mpr ha]) h]
  exact ct_congr fun k hk => by rw [bs_bit]; simp [hk]
-- ===== a room's state: R 0: how many, minute, floor, props; R 1 .. R 5: KIND, FIGURE, ON (10 the floor), HOW, AIR =====
abbrev RT : Type := Nat → Nat → Nat
def upR (R : RT) (i j v : Nat) : RT := fun i' j' => if i' = i ∧ j' = j then v else R i' j'
theorem upR_s {R : RT} {i j v : Nat} : upR R i j v i j = v := by simp [upR]
theorem upR_n {R : RT} {i j v i' j' : Nat} (h : ¬ (i' = i ∧ j' = j)) : upR R i j v i' j' = R i' j' := by simp [upR, h]
def onI (o : Nat) : Int32 := if o < 10 then nI o else -9
theorem onI_lt {o : Nat} (h : o < 10) : onI o = nI o := if_pos h
theorem onI_10 : onI 10 = -9 := rfl
theorem onI_t {o : Nat} (h : o < 10) : (onI o).toInt = (o : Int) := by rw [onI_lt h]; exact tN (by omega)
theorem onI_inj {o f : Nat} (ho : o ≤ 10) (hf : f ≤ 10) : onI o = onI f ↔ o = f := by
  constructor
  · have : ∀ o, o ≤ 10 → ∀ f, f ≤ 10 → onI o = onI f → o = f := by decide +kernel
    exact this o ho f hf
  · intro h; rw [h]
theorem onI_neg {o : Nat} (ho : o ≤ 10) : onI o < 0 ↔ o = 10 := by
  have : ∀ o, o ≤ 10 → (onI o < 0 ↔ o = 10) := by decide +kernel
  exact this o ho
/-- the reference's row of a room -/
def fl (R : RT) : Nat → Int32 := fun j => if j < 4 then nI (R 0 j) else if (j - 4) % 5 = 2 then onI (R 3 ((j - 4) / 5)) else nI (R ((j - 4) % 5 + 1) ((j - 4) / 5))
theorem fl_h (R : RT) {j : Nat} (h : j < 4) : fl R j = nI (R 0 j) := if_pos h
theorem fl_k (R : RT) {a k : Nat} (hk : k < 5) (h2 : k ≠ 2) : fl R (4 + 5 * a + k) = nI (R (k + 1) a) := by
  have e1 : (4 + 5 * a + k - 4) % 5 = k := by omega
  have e2 : (4 + 5 * a + k - 4) / 5 = a := by omega
  unfold fl
  rw [if_neg (by omega), e1, e2, if_neg h2]
theorem fl_on (R : RT) (a : Nat) : fl R (4 + 5 * a + 2) = onI (R 3 a) := by
  have e1 : (4 + 5 * a + 2 - 4) % 5 = 2 := by omega
  have e2 : (4 + 5 * a + 2 - 4) / 5 = a := by omega
  unfold fl
  rw [if_neg (by omega), e1, e2, if_pos rfl]
theorem fl_uh (R : RT) {j v : Nat} (h : j < 4) : upd (fl R) j (nI v) = fl (upR R 0 j v) := by
  funext i
  unfold upd fl
  by_cases hi : i = j
  · subst hi
    rw [if_pos rfl, if_pos h, upR_s]
  · rw [if_neg hi]
    by_cases h4 : i < 4
    · rw [if_pos h4, if_pos h4, upR_n (by omega)]
    · rw [if_neg h4, if_neg h4, upR_n (by omega), upR_n (by omega)]
theorem fl_uk (R : RT) {a k v : Nat} (hk : k < 5) (h2 : k ≠ 2) : upd (fl R) (4 + 5 * a + k) (nI v) = fl (upR R (k + 1) a v) := by
  funext i
  unfold upd fl
  by_cases hi : i = 4 + 5 * a + k
  · subst hi
    have e1 : (4 + 5 * a + k - 4) % 5 = k := by omega
    have e2 : (4 + 5 * a + k - 4) / 5 = a := by omega
    rw [if_pos rfl, if_neg (by omega), e1, e2, if_neg h2, upR_s]
  · rw [if_neg hi]
    by_cases h4 : i < 4
    · rw [if_pos h4, if_pos h4, upR_n (by omega)]
    · rw [if_neg h4, if_neg h4, upR_n (by omega), upR_n (by omega)]
theorem fl_uon (R : RT) {a v : Nat} : upd (fl R) (4 + 5 * a + 2) (onI v) = fl (upR R 3 a v) := by
  funext i
  unfold upd fl
  by_cases hi : i = 4 + 5 * a + 2
  · subst hi
    have e1 : (4 + 5 * a + 2 - 4) % 5 = 2 := by omega
    have e2 : (4 + 5 * a + 2 - 4) / 5 = a := by omega
    rw [if_pos rfl, if_neg (by omega), e1, e2, if_pos rfl, upR_s]
  · rw [if_neg hi]
    by_cases h4 : i < 4
    · rw [if_pos h4, if_pos h4, upR_n (by omega)]
    · rw [if_neg h4, if_neg h4]
      by_cases h5 : (i - 4) % 5 = 2
      · rw [if_pos h5, if_pos h5, upR_n (by omega)]
      · rw [if_neg h5, if_neg h5, upR_n (by omega)]
theorem upR_id (R : RT) (i j : Nat) : upR R i j (R i j) = R := by
  funext i' j'
  unfold upR
  by_cases h : i' = i ∧ j' = j
  · rw [if_pos h, h.1, h.2]
  · rw [if_neg h]
-- ===== what the document says of a room, as numbers =====
abbrev hN (R : RT) : Nat := R 0 0
def gripF (R : RT) (a : Nat) : Nat := if R 1 a = 1 then 9 - R 2 a else if R 1 a = 2 then R 2 a / 2 else if R 1 a = 3 then 0 else if R 1 a = 4 then R 2 a / 2 else if R 1 a = 5 then 10 - R 2 a else R 2 a
def habF (R : RT) (a : Nat) (sl : Bool) : Nat := if R 1 a = 1 then R 2 a / 3 - 1 else if R 1 a = 2 then R 2 a / 3 + R 2 a else if R 1 a = 3 then R 2 a / 3 + R 2 a + 20 else if R 1 a = 4 then (if sl then 0 else R 2 a / 3 + R 2 a) else if R 1 a = 5 then R 2 a / 3 - 1 + 2 else R 2 a / 3
/-- those of one state -/
def isS (R : RT) (h : Nat) : Nat → Bool := fun a => decide (R 4 a = h)
def setF (R : RT) (h : Nat) : Nat := bs (isS R h) (R 0 0)
def grdF (R : RT) (a : Nat) : Bool := if R 3 a < 10 then decide (R 4 (R 3 a) = 0) else decide (R 0 2 = 1)
def heldF (R : RT) (a : Nat) : Bool := (R 0 3).testBit a || grdF R a
def shkF (R : RT) (f v : Nat) : Nat → Bool := fun a => decide (R 4 a = 0) && (decide (R 3 a = f) && decide (v < gripF R a))
def pulF (R : RT) (f v : Nat) : RT := fun i j =>
  if i = 4 ∧ j < R 0 0 then (if shkF R f v j then 1 else if j = f then 2 else R 4 j) else if i = 0 ∧ j = 2 ∧ f = 10 then 0 else R i j
def slF (R : RT) : Bool := decide (setF R 1 ≠ 0)
def airF (R : RT) (d a : Nat) : Nat := if R 4 a = 0 then (if heldF R a then 0 else R 5 a + 1 + d) else R 5 a
def howF (R : RT) (d a : Nat) : Nat := if R 4 a = 0 ∧ habF R a (slF R) < airF R d a then 1 else R 4 a
/-- a MINUTE, but for its number -/
def minF (R : RT) (d : Nat) : RT := fun i j => if i = 5 ∧ j < R 0 0 then airF R d j else if i = 4 ∧ j < R 0 0 then howF R d j else R i j
/-- what a state keeps to -/
def OK (R : RT) : Prop := R 0 0 ≤ 10 ∧ R 0 2 ≤ 1 ∧ R 0 3 < 1024 ∧ ∀ a, a < R 0 0 → R 1 a ≤ 5 ∧ R 2 a ≤ 9 ∧ R 3 a ≤ 10 ∧ (R 3 a < 10 → R 3 a < a) ∧ R 4 a ≤ 2
/-- and its AIR -/
def AK (R : RT) : Prop := ∀ a, a < R 0 0 → R 5 a ≤ 34 ∧ (R 4 a = 0 → R 5 a ≤ 32)
theorem OK_of {R S : RT} (h : ∀ i, i ≤ 4 → ∀ j, (i = 0 → j ≠ 1) → S i j = R i j) (hR : OK R) : OK S := by
  obtain ⟨h1, h2, h3, h4⟩ := hR
  have e0 := h 0 (by omega) 0 (by omega)
  refine ⟨by rw [e0]; exact h1, by rw [h 0 (by omega) 2 (by omega)]; exact h2, by rw [h 0 (by omega) 3 (by omega)]; exact h3, fun a ha => ?_⟩
  rw [e0] at ha
  rw [h 1 (by omega) a (by omega), h 2 (by omega) a (by omega), h 3 (by omega) a (by omega), h 4 (by omega) a (by omega)]
  exact h4 a ha
theorem OK_how {R S : RT} (h : ∀ i, i ≤ 3 → ∀ j, (i = 0 → j ≠ 1 ∧ j ≠ 2) → S i j = R i j) (hf : S 0 2 ≤ 1) (hh : ∀ a, a < R 0 0 → S 4 a ≤ 2) (hR : OK R) : OK S := by
  obtain ⟨h1, h2, h3, h4⟩ := hR
  have e0 := h 0 (by omega) 0 (by omega)
  refine ⟨by rw [e0]; exact h1, hf, by rw [h 0 (by omega) 3 (by omega)]; exact h3, fun a ha => ?_⟩
  rw [e0] at ha
  rw [h 1 (by omega) a (by omega), h 2 (by omega) a (by omega), h 3 (by omega) a (by omega)]
  obtain ⟨g1, g2, g3, g4, -⟩ := h4 a ha
  exact ⟨g1, g2, g3, g4, hh a ha⟩
theorem heldF_iff {R : RT} {a : Nat} : heldF R a = true ↔ (R 0 3).testBit a = true ∨ (R 3 a < 10 ∧ R 4 (R 3 a) = 0) ∨ (¬ R 3 a < 10 ∧ R 0 2 = 1) := by
  simp only [heldF, grdF, Bool.or_eq_true]
  by_cases h : R 3 a < 10 <;> simp [h]
theorem shkF_iff {R : RT} {f v a : Nat} : shkF R f v a = true ↔ R 4 a = 0 ∧ R 3 a = f ∧ v < gripF R a := by
  simp only [shkF, Bool.and_eq_true, decide_eq_true_eq]
theorem shkF_n {R : RT} {f v a : Nat} (h : ¬ (R 4 a = 0 ∧ R 3 a = f ∧ v < gripF R a)) : shkF R f v a = false := by
  cases hb : shkF R f v a with
  | false => rfl
  | true => exact absurd (shkF_iff.mp hb) h
theorem gripF_le {R : RT} {a : Nat} (h : R 2 a ≤ 9) : gripF R a ≤ 10 := by
  unfold gripF
  repeat' split
  all_goals omega
theorem habF_le {R : RT} {a : Nat} {sl : Bool} (h : R 2 a ≤ 9) : habF R a sl ≤ 32 := by
  unfold habF
  repeat' split
  all_goals omega
theorem setF_lt {R : RT} (hR : OK R) (h : Nat) : setF R h < 1024 := by
  have h1 := bs_lt (isS R h) (R 0 0)
  have h2 : 2 ^ R 0 0 ≤ 2 ^ 10 := Nat.pow_le_pow_right (by decide) hR.1
  unfold setF
  omega
/-- MINUTE is 1 more -/
def bmp (R : RT) : RT := upR R 0 1 (R 0 1 + 1)
def miF (R : RT) (d : Nat) : RT := minF (bmp R) d
def itF (R : RT) : Nat → RT
  | 0 => R
  | n + 1 => miF (itF R n) 0
theorem OK_bmp {R : RT} (h : OK R) : OK (bmp R) := OK_of (fun i hi j hj => upR_n (by omega)) h
theorem AK_bmp {R : RT} (h : AK R) : AK (bmp R) := h
def air2 (S : RT) (d i : Nat) : RT := fun x y => if x = 5 ∧ y < i then airF S d y else S x y
def how3 (S : RT) (d i : Nat) : RT := fun x y => if x = 5 ∧ y < S 0 0 then airF S d y else if x = 4 ∧ y < i then howF S d y else S x y
theorem how3_0 (S : RT) (d : Nat) : air2 S d (S 0 0) = how3 S d 0 := by
  funext x y
  unfold air2 how3
  by_cases h : x = 5 ∧ y < S 0 0
  · rw [if_pos h, if_pos h]
  · rw [if_neg h, if_neg h, if_neg (by omega)]
theorem air2_0 (S : RT) (d : Nat) : S = air2 S d 0 := by
  funext x y
  unfold air2
  rw [if_neg (by omega)]
theorem air2_s {S : RT} {d i v : Nat} (h : v = airF S d i) : upR (air2 S d i) 5 i v = air2 S d (i + 1) := by
  funext x y
  unfold upR air2
  by_cases h1 : x = 5 ∧ y = i
  · rw [if_pos h1, if_pos (by omega), h, h1.2]
  · rw [if_neg h1]
    by_cases h2 : x = 5 ∧ y < i
    · rw [if_pos h2, if_pos (by omega)]
    · rw [if_neg h2, if_neg (by omega)]
theorem air2_n {S : RT} {d i : Nat} (h : S 5 i = airF S d i) : air2 S d i = air2 S d (i + 1) := by
  funext x y
  unfold air2
  by_cases h2 : x = 5 ∧ y < i
  · rw [if_pos h2, if_pos (by omega)]
  · rw [if_neg h2]
    by_cases h1 : x = 5 ∧ y = i
    · rw [if_pos (by omega), h1.1, h1.2, h]
    · rw [if_neg (by omega)]
theorem how3_s {S : RT} {d i v : Nat} (h : v = howF S d i) : upR (how3 S d i) 4 i v = how3 S d (i + 1) := by
  funext x y
  unfold upR how3
  by_cases h1 : x = 4 ∧ y = i
  · rw [if_pos h1, if_neg (by omega), if_pos (by omega), h, h1.2]
  · rw [if_neg h1]
    by_cases h3 : x = 5 ∧ y < S 0 0
    · rw [if_pos h3, if_pos h3]
    · rw [if_neg h3, if_neg h3]
      by_cases h2 : x = 4 ∧ y < i
      · rw [if_pos h2, if_pos (by omega)]
      · rw [if_neg h2, if_neg (by omega)]
theorem how3_n {S : RT} {d i : Nat} (h : S 4 i = howF S d i) : how3 S d i = how3 S d (i + 1) := by
  funext x y
  unfold how3
  by_cases h3 : x = 5 ∧ y < S 0 0
  · rw [if_pos h3, if_pos h3]
  · rw [if_neg h3, if_neg h3]
    by_cases h2 : x = 4 ∧ y < i
    · rw [if_pos h2, if_pos (by omega)]
    · rw [if_neg h2]
      by_cases h1 : x = 4 ∧ y = i
      · rw [if_pos (by omega), h1.1, h1.2, h]
      · rw [if_neg (by omega)]
theorem howF_le {S : RT} {d a : Nat} (h : S 4 a ≤ 2) : howF S d a ≤ 2 := by
  unfold howF
  split <;> omega
theorem OK_air2 {S : RT} (d i : Nat) (h : OK S) : OK (air2 S d i) := OK_of (fun x hx y _ => by unfold air2; rw [if_neg (by omega)]) h
theorem OK_how3 {S : RT} (d i : Nat) (h : OK S) : OK (how3 S d i) := by
  refine OK_how (R := S) (fun x hx y _ => by unfold how3; rw [if_neg (by omega), if_neg (by omega)]) h.2.1 (fun a ha => ?_) h
  have h4 := (h.2.2.2 a ha).2.2.2.2
  show (if 4 = 5 ∧ a < S 0 0 then airF S d a else if 4 = 4 ∧ a < i then howF S d a else S 4 a) ≤ 2
  rw [if_neg (by omega)]
  split
  · exact howF_le h4
  · exact h4
theorem OK_minF {S : RT} (d : Nat) (h : OK S) : OK (minF S d) := OK_how3 d (S 0 0) h
theorem OK_miF {R : RT} (d : Nat) (h : OK R) : OK (miF R d) := OK_minF d (OK_bmp h)
theorem airF_le {S : RT} {d a : Nat} (hd : d ≤ 1) (h : S 5 a ≤ 34 ∧ (S 4 a = 0 → S 5 a ≤ 32)) : airF S d a ≤ 34 := by
  unfold airF
  split
  · split
    · omega
    · have := h.2 (by assumption); omega
  · exact h.1
theorem AK_minF {S : RT} {d : Nat} (hd : d ≤ 1) (hS : OK S) (h : AK S) : AK (minF S d) := by
  intro a ha
  have ha : a < S 0 0 := ha
  have h1 : minF S d 5 a = airF S d a := by unfold minF; rw [if_pos (by omega)]
  have h2 : minF S d 4 a = howF S d a := by unfold minF; rw [if_neg (by omega), if_pos (by omega)]
  rw [h1, h2]
  refine ⟨airF_le hd (h a ha), fun h0 => ?_⟩
  have hb := habF_le (R := S) (a := a) (sl := slF S) (hS.2.2.2 a ha).2.1
  unfold howF at h0
  by_cases hc : S 4 a = 0 ∧ habF S a (slF S) < airF S d a
  · rw [if_pos hc] at h0; omega
  · rw [if_neg hc] at h0; omega
theorem AK_miF {R : RT} {d : Nat} (hd : d ≤ 1) (hR : OK R) (h : AK R) : AK (miF R d) := AK_minF hd (OK_bmp hR) (AK_bmp h)
theorem OK_itF {R : RT} (h : OK R) : ∀ n, OK (itF R n)
  | 0 => h
  | n + 1 => OK_miF 0 (OK_itF h n)
theorem AK_itF {R : RT} (hR : OK R) (h : AK R) : ∀ n, AK (itF R n)
  | 0 => h
  | n + 1 => AK_miF (by omega) (OK_itF hR n) (AK_itF hR h n)
/-- while what is pulled takes the others down -/
def pul2 (R : RT) (f v i : Nat) : RT := fun x y => if x = 4 ∧ y < i then (if shkF R f v y then 1 else if y = f then 2 else R 4 y) else if x = 4 ∧ y = f ∧ f < 10 then 2 else if x = 0 ∧ y = 2 ∧ f = 10 then 0 else R x y
theorem pul2_n {R : RT} {f v : Nat} (hn : R 0 0 ≤ 10) (hf : f = 10 ∨ f < R 0 0) : pul2 R f v (R 0 0) = pulF R f v := by
  funext x y
  unfold pul2 pulF
  by_cases h1 : x = 4 ∧ y < R 0 0
  · rw [if_pos h1, if_pos h1]
  · rw [if_neg h1, if_neg h1, if_neg (by omega)]
theorem pul2_0a {R : RT} {f v : Nat} (hf : f < 10) : upR R 4 f 2 = pul2 R f v 0 := by
  funext x y
  unfold upR pul2
  by_cases h1 : x = 4 ∧ y = f
  · rw [if_pos h1, if_neg (by omega), if_pos (by omega)]
  · rw [if_neg h1, if_neg (by omega), if_neg (by omega), if_neg (by omega)]
theorem pul2_0b {R : RT} {v : Nat} : upR R 0 2 0 = pul2 R 10 v 0 := by
  funext x y
  unfold upR pul2
  by_cases h1 : x = 0 ∧ y = 2
  · rw [if_pos h1, if_neg (by omega), if_neg (by omega), if_pos (by omega)]
  · rw [if_neg h1, if_neg (by omega), if_neg (by omega), if_neg (by omega)]
theorem pul2_at {R : RT} {f v i : Nat} (hi : i < 10) : pul2 R f v i 4 i = if i = f then 2 else R 4 i := by
  unfold pul2
  rw [if_neg (by omega)]
  by_cases h : i = f
  · rw [if_pos (by omega), if_pos h]
  · rw [if_neg (by omega), if_neg h, if_neg (by omega)]
theorem pul2_s {R : RT} {f v i z : Nat} (h : z = if shkF R f v i then 1 else if i = f then 2 else R 4 i) : upR (pul2 R f v i) 4 i z = pul2 R f v (i + 1) := by
  funext x y
  unfold upR pul2
  by_cases h1 : x = 4 ∧ y = i
  · rw [if_pos h1, if_pos (by omega), h, h1.2]
  · rw [if_neg h1]
    by_cases h2 : x = 4 ∧ y < i
    · have h3 : x = 4 ∧ y < i + 1 := by omega
      rw [if_pos h2, if_pos h3]
    · have h3 : ¬ (x = 4 ∧ y < i + 1) := by omega
      rw [if_neg h2, if_neg h3]
theorem pul2_h {R : RT} {f v i : Nat} : pul2 R f v i 0 0 = R 0 0 := by
  unfold pul2
  rw [if_neg (by omega), if_neg (by omega), if_neg (by omega)]
theorem OK_pul2 {R : RT} (f v i : Nat) (h : OK R) : OK (pul2 R f v i) := by
  refine OK_how (R := R) (fun x hx y hy => by unfold pul2; rw [if_neg (by omega), if_neg (by omega), if_neg (by omega)]) ?_ (fun a ha => ?_) h
  · show (if 0 = 4 ∧ 2 < i then _ else _) ≤ 1
    rw [if_neg (by omega), if_neg (by omega)]
    split
    · omega
    · exact h.2.1
  · have h4 := (h.2.2.2 a ha).2.2.2.2
    unfold pul2
    repeat' split
    all_goals omega
theorem OK_pulF {R : RT} (f v : Nat) (h : OK R) (hf : f = 10 ∨ f < R 0 0) : OK (pulF R f v) := by rw [← pul2_n h.1 hf]; exact OK_pul2 f v _ h
theorem AK_pulF {R : RT} (f v : Nat) (h : AK R) : AK (pulF R f v) := by
  intro a ha
  have e0 : pulF R f v 0 0 = R 0 0 := by unfold pulF; rw [if_neg (by omega), if_neg (by omega)]
  rw [e0] at ha
  have e5 : pulF R f v 5 a = R 5 a := by unfold pulF; rw [if_neg (by omega), if_neg (by omega)]
  have e4 : pulF R f v 4 a = if shkF R f v a then 1 else if a = f then 2 else R 4 a := by unfold pulF; rw [if_pos (by omega)]
  rw [e5, e4]
  refine ⟨(h a ha).1, fun h0 => (h a ha).2 ?_⟩
  split at h0
  · omega
  · split at h0
    · omega
    · exact h0
