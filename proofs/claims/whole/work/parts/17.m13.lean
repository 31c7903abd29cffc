/-- those that have to be propped: what they stand on is gone, and their AIR runs out -/
def frP (R : RT) (m : Nat) : Nat → Bool := fun a => decide (m ≠ 0) && (decide (R 4 a = 0) && (!grdF R a && decide (habF R a (slF R) < R 5 a + m)))
def prN (R : RT) (m : Nat) : Nat := bs (frP R m) (R 0 0)
/-- the room with props -/
def prS (R : RT) (s : Nat) : RT := upR R 0 3 s
theorem frP_iff {R : RT} {m a : Nat} : frP R m a = true ↔ m ≠ 0 ∧ R 4 a = 0 ∧ grdF R a = false ∧ habF R a (slF R) < R 5 a + m := by
  simp [frP]
theorem OK_prS {R : RT} (hR : OK R) {s : Nat} (hs : s < 1024) : OK (prS R s) := by
  obtain ⟨h1, h2, h3, h4⟩ := hR
  have e : ∀ i j, ¬ (i = 0 ∧ j = 3) → prS R s i j = R i j := fun i j h => upR_n h
  refine ⟨by rw [e 0 0 (by omega)]; exact h1, by rw [e 0 2 (by omega)]; exact h2, by unfold prS; rw [upR_s]; exact hs, fun a ha => ?_⟩
  rw [e 0 0 (by omega)] at ha
  rw [e 1 a (by omega), e 2 a (by omega), e 3 a (by omega), e 4 a (by omega)]
  exact h4 a ha
theorem AK_prS {R : RT} (hK : AK R) (s : Nat) : AK (prS R s) := hK
theorem held_same {R T : RT} (hR : OK R) {a : Nat} (ha : a < R 0 0) (h0 : T 0 2 = R 0 2) (hp : T 0 3 = R 0 3) (h3 : T 3 a = R 3 a) (h4 : ∀ b, b < R 0 0 → T 4 b = R 4 b) : heldF T a = heldF R a := by
  unfold heldF grdF
  rw [hp, h0, h3]
  by_cases q : R 3 a < 10
  · have := (hR.2.2.2 a ha).2.2.2.1 q
    rw [if_pos q, if_pos q, h4 _ (by omega)]
  · rw [if_neg q, if_neg q]
theorem sl_same {R T : RT} (h00 : T 0 0 = R 0 0) (h4 : ∀ b, b < R 0 0 → T 4 b = R 4 b) : slF T = slF R := by
  have e : setF T 1 = setF R 1 := by
    unfold setF
    rw [h00]
    exact bs_congr fun k hk => by unfold isS; rw [h4 k hk]
  unfold slF
  rw [e]
theorem hab_same {R T : RT} {a : Nat} (h1 : T 1 a = R 1 a) (h2 : T 2 a = R 2 a) (b : Bool) : habF T a b = habF R a b := by
  unfold habF
  rw [h1, h2]
/-- one more MINUTE over a room in which nobody has fallen -/
theorem pr_step {R : RT} (hR : OK R) (k a : Nat) (ha : a < R 0 0) (h4 : ∀ b, b < R 0 0 → itF R k 4 b = R 4 b) :
    itF R (k + 1) 5 a = (if R 4 a = 0 then (if heldF R a = true then 0 else itF R k 5 a + 1 + 0) else itF R k 5 a) ∧
    itF R (k + 1) 4 a = (if R 4 a = 0 ∧ habF R a (slF R) < itF R (k + 1) 5 a then 1 else R 4 a) := by
  have e00 : bmp (itF R k) 0 0 = R 0 0 := itF_00 R k
  have e5 : itF R (k + 1) 5 a = airF (bmp (itF R k)) 0 a := by
    show minF (bmp (itF R k)) 0 5 a = _
    unfold minF; rw [if_pos (by omega)]
  have e4 : itF R (k + 1) 4 a = howF (bmp (itF R k)) 0 a := by
    show minF (bmp (itF R k)) 0 4 a = _
    unfold minF; rw [if_neg (by omega), if_pos (by omega)]
  have b4 : ∀ b, b < R 0 0 → bmp (itF R k) 4 b = R 4 b := fun b hb => by unfold bmp; rw [upR_n (by omega)]; exact h4 b hb
  have b5 : bmp (itF R k) 5 a = itF R k 5 a := upR_n (by omega)
  have bn : ∀ i j, i ≤ 3 → (i = 0 → j ≠ 1) → bmp (itF R k) i j = R i j := fun i j h1 h2 => by unfold bmp; rw [upR_n (by omega)]; exact itF_n R k i j h1 h2
  have hh := held_same (T := bmp (itF R k)) hR ha (bn 0 2 (by omega) (by omega)) (bn 0 3 (by omega) (by omega)) (bn 3 a (by omega) (by omega)) b4
  have hs := sl_same (T := bmp (itF R k)) (R := R) e00 b4
  have hb := hab_same (T := bmp (itF R k)) (R := R) (bn 1 a (by omega) (by omega)) (bn 2 a (by omega) (by omega)) (slF R)
  constructor
  · rw [e5]; unfold airF; rw [b4 a ha, b5, hh]
  · rw [e4, e5]; unfold howF; rw [b4 a ha, hs, hb]
theorem pr_air {R : RT} (hR : OK R) (a : Nat) (ha : a < R 0 0) (h0 : R 4 a = 0) (hh : heldF R a = false) : ∀ k, (∀ j, j < k → ∀ b, b < R 0 0 → itF R j 4 b = R 4 b) → itF R k 5 a = R 5 a + k
  | 0, _ => rfl
  | k + 1, h => by
    have ih := pr_air hR a ha h0 hh k (fun j hj => h j (by omega))
    have st := (pr_step hR k a ha (h k (by omega))).1
    rw [st, if_pos h0, hh, ih]
    rfl
theorem held_prS {R : RT} {s a : Nat} : heldF (prS R s) a = (s.testBit a || grdF R a) := by
  unfold heldF
  have e : grdF (prS R s) a = grdF R a := by
    unfold grdF
    have e3 : prS R s 3 a = R 3 a := upR_n (by omega)
    have e4 : ∀ b, prS R s 4 b = R 4 b := fun b => upR_n (by omega)
    have e0 : prS R s 0 2 = R 0 2 := upR_n (by omega)
    rw [e3, e4, e0]
  rw [e]
  unfold prS
  rw [upR_s]
theorem pr_up {R : RT} (hR : OK R) {s m : Nat} (hs : s < 1024) (hF : ∀ a, a < R 0 0 → frP R m a = true → s.testBit a = true) : ∀ k, k ≤ m → ∀ b, b < R 0 0 → itF (prS R s) k 4 b = R 4 b := by
  have hS := OK_prS hR hs
  have key : ∀ k, k ≤ m → ∀ j, j ≤ k → ∀ b, b < R 0 0 → itF (prS R s) j 4 b = R 4 b := by
    intro k
    induction k with
    | zero =>
      intro _ j hj b hb
      have : j = 0 := by omega
      subst this
      show prS R s 4 b = R 4 b
      exact upR_n (by omega)
    | succ k ih =>
      intro hk j hj b hb
      have ih' := ih (by omega)
      by_cases hjk : j ≤ k
      · exact ih' j hjk b hb
      · have e : j = k + 1 := by omega
        subst e
        have e4 : ∀ b, prS R s 4 b = R 4 b := fun b => upR_n (by omega)
        have e5 : prS R s 5 b = R 5 b := upR_n (by omega)
        have st := pr_step hS k b hb (fun c hc => (ih' k (Nat.le_refl _) c hc).trans (e4 c).symm)
        rw [st.2, e4]
        rw [if_neg]
        rintro ⟨q1, q2⟩
        have hb2 := hab_same (T := prS R s) (R := R) (a := b) (upR_n (by omega)) (upR_n (by omega)) (slF (prS R s))
        have hs2 := sl_same (T := prS R s) (R := R) (upR_n (by omega)) (fun c _ => e4 c)
        rw [hb2, hs2] at q2
        cases hh : heldF (prS R s) b with
        | true =>
          rw [st.1, e4, if_pos q1, hh] at q2
          exact absurd q2 (Nat.not_lt_zero _)
        | false =>
          rw [pr_air hS b hb ((e4 b).trans q1) hh (k + 1) (fun i hi c hc => (ih' i (by omega) c hc).trans (e4 c).symm), e5] at q2
          rw [held_prS] at hh
          simp only [Bool.or_eq_false_iff] at hh
          have hf : frP R m b = true := frP_iff.mpr ⟨by omega, q1, hh.2, by omega⟩
          rw [hF b hb hf] at hh
          exact absurd hh.1 (by decide)
  intro k hk b hb
  exact key k hk k (Nat.le_refl _) b hb
theorem pr_dn {R : RT} (hR : OK R) {s m a : Nat} (hs : s < 1024) (ha : a < R 0 0) (hF : frP R m a = true) (hn : s.testBit a = false) : ∃ b, b < R 0 0 ∧ R 4 b = 0 ∧ itF (prS R s) m 4 b ≠ 0 := by
  have hS := OK_prS hR hs
  obtain ⟨hm, h4, hg, hh⟩ := frP_iff.mp hF
  have e4 : ∀ b, prS R s 4 b = R 4 b := fun b => upR_n (by omega)
  have e5 : prS R s 5 a = R 5 a := upR_n (by omega)
  apply Classical.byContradiction
  intro hc
  have all : ∀ j, j ≤ m → ∀ b, b < R 0 0 → itF (prS R s) j 4 b = R 4 b := by
    intro j hj b hb
    by_cases q : R 4 b = 0
    · apply Classical.byContradiction
      intro z
      have z2 : itF (prS R s) j 4 b ≠ 0 := by omega
      have kp := how_keep (prS R s) b hb j z2 (m - j)
      rw [show j + (m - j) = m by omega] at kp
      exact hc ⟨b, hb, q, by omega⟩
    · have kp := how_keep (prS R s) b hb 0 (by rw [show itF (prS R s) 0 4 b = prS R s 4 b from rfl, e4]; exact q) j
      rw [Nat.zero_add] at kp
      rw [kp]; exact e4 b
  obtain ⟨k, rfl⟩ : ∃ k, m = k + 1 := ⟨m - 1, by omega⟩
  have hheld : heldF (prS R s) a = false := by rw [held_prS, hn, hg]; rfl
  have air := pr_air hS a ha ((e4 a).trans h4) hheld (k + 1) (fun j hj b hb => (all j (by omega) b hb).trans (e4 b).symm)
  have st := (pr_step hS k a ha (fun c hc2 => (all k (by omega) c hc2).trans (e4 c).symm)).2
  have hb2 := hab_same (T := prS R s) (R := R) (a := a) (upR_n (by omega)) (upR_n (by omega)) (slF (prS R s))
  have hs2 := sl_same (T := prS R s) (R := R) (upR_n (by omega)) (fun c _ => e4 c)
  rw [hb2, hs2, air, e4, e5, if_pos ⟨h4, hh⟩] at st
  have := all (k + 1) (Nat.le_refl _) a ha
  omega
/-- whether with these props all that STAND now STAND still -/
theorem pr_good {R : RT} (hR : OK R) {s m : Nat} (hs : s < 1024) : setF (itF (prS R s) m) 0 = setF R 0 ↔ ∀ a, a < R 0 0 → frP R m a = true → s.testBit a = true := by
  have e00 : itF (prS R s) m 0 0 = R 0 0 := itF_00 (prS R s) m
  constructor
  · intro h a ha hf
    apply Classical.byContradiction
    intro hc
    obtain ⟨b, hb, h4, hz⟩ := pr_dn hR hs ha hf (Bool.eq_false_iff.mpr hc)
    have hx := congrArg (fun x => Nat.testBit x b) h
    unfold setF at hx
    simp only [bs_bit, e00, hb, decide_true, Bool.true_and] at hx
    unfold isS at hx
    simp [h4, hz] at hx
  · intro h
    unfold setF
    rw [e00]
    exact bs_congr fun k hk => by unfold isS; rw [pr_up hR hs h m (Nat.le_refl _) k hk]
theorem sub_le {F s : Nat} (h : ∀ k, F.testBit k = true → s.testBit k = true) : F ≤ s := by
  have e : F &&& s = F := by
    apply Nat.eq_of_testBit_eq
    intro k
    rw [Nat.testBit_and]
    cases q : F.testBit k with
    | false => rfl
    | true => rw [h k q]; rfl
  rw [← e]
  exact Nat.and_le_right
theorem ct_mono {P P' : Nat → Bool} (h : ∀ a, P' a = true → P a = true) : ∀ n, ct P' n ≤ ct P n
  | 0 => Nat.le_refl _
  | n + 1 => by
    have ih := ct_mono h n
    unfold ct
    by_cases q : P' n = true
    · rw [if_pos q, if_pos (h n q)]; omega
    · rw [if_neg q]; split <;> omega
theorem pc_mono {F s : Nat} (h : ∀ k, F.testBit k = true → s.testBit k = true) : pc F ≤ pc s := ct_mono h 10
theorem pc_str {F s : Nat} (h : ∀ k, F.testBit k = true → s.testBit k = true) (hn : F ≠ s) (hs : s < 1024) : pc F < pc s := by
  have ⟨k, h1, h2⟩ : ∃ k, s.testBit k = true ∧ F.testBit k = false := by
    apply Classical.byContradiction
    intro hc
    apply hn
    apply Nat.eq_of_testBit_eq
    intro k
    cases q : F.testBit k with
    | true => exact (h k q).symm
    | false =>
      cases z : s.testBit k with
      | false => rfl
      | true => exact absurd ⟨k, z, q⟩ hc
  have hk : k < 10 := by
    apply Classical.byContradiction
    intro q
    have : s < 2 ^ k := Nat.lt_of_lt_of_le hs (Nat.pow_le_pow_right (n := 2) (by decide) (by omega : 10 ≤ k))
    rw [Nat.testBit_lt_two_pow this] at h1
    cases h1
  exact ct_lt hk h h1 h2
theorem an_sub {s b : Nat} : anN s b = 0 ↔ ∀ k, s.testBit k = true → b.testBit k = true := by
  constructor
  · intro h k hk
    have := anN_bit s b k
    rw [h, Nat.zero_testBit, hk] at this
    cases q : b.testBit k with
    | true => rfl
    | false => rw [q] at this; simp at this
  · intro h
    apply Nat.eq_of_testBit_eq
    intro k
    rw [anN_bit, Nat.zero_testBit]
    cases q : s.testBit k with
    | false => rfl
    | true => rw [h k q]; rfl
/-- what has been found among the sets below s -/
def pfF (R : RT) (m : Nat) : Nat → Nat
  | 0 => setF R 0
  | s + 1 => if anN s (setF R 0) = 0 ∧ pc s < pc (pfF R m s) ∧ setF (itF (prS R s) m) 0 = setF R 0 then s else pfF R m s
theorem prN_bit {R : RT} {m k : Nat} : (prN R m).testBit k = (decide (k < R 0 0) && frP R m k) := bs_bit _ _ _
theorem prN_sub {R : RT} (m : Nat) : ∀ k, (prN R m).testBit k = true → (setF R 0).testBit k = true := by
  intro k hk
  rw [prN_bit, Bool.and_eq_true, decide_eq_true_eq] at hk
  unfold setF
  rw [bs_bit]
  simp [hk.1, isS, (frP_iff.mp hk.2).2.1]
theorem good_sub {R : RT} (hR : OK R) {s m : Nat} (hs : s < 1024) : setF (itF (prS R s) m) 0 = setF R 0 ↔ ∀ k, (prN R m).testBit k = true → s.testBit k = true := by
  rw [pr_good hR hs]
  constructor
  · intro h k hk
    rw [prN_bit, Bool.and_eq_true, decide_eq_true_eq] at hk
    exact h k hk.1 hk.2
  · intro h a ha hf
    exact h a (by rw [prN_bit, hf]; simp [ha])
theorem pf_lo {R : RT} (hR : OK R) (m : Nat) : ∀ s, s ≤ prN R m → s ≤ setF R 0 → pfF R m s = setF R 0
  | 0, _, _ => rfl
  | s + 1, h, h2 => by
    have ih := pf_lo hR m s (by omega) (by omega)
    have hs := setF_lt hR 0
    unfold pfF
    rw [if_neg, ih]
    rintro ⟨-, -, hg⟩
    have := sub_le ((good_sub hR (by omega)).mp hg)
    omega
theorem pf_hi {R : RT} (hR : OK R) (m : Nat) (hlt : prN R m < setF R 0) : ∀ d, prN R m + 1 + d ≤ setF R 0 → pfF R m (prN R m + 1 + d) = prN R m
  | 0, h => by
    have hs := setF_lt hR 0
    have lo := pf_lo hR m (prN R m) (Nat.le_refl _) (by omega)
    show (if _ then _ else _) = _
    rw [if_pos]
    refine ⟨an_sub.mpr (prN_sub m), ?_, (good_sub hR (by omega)).mpr (fun k hk => hk)⟩
    rw [lo]
    exact pc_str (prN_sub m) (by omega) hs
  | d + 1, h => by
    have hs := setF_lt hR 0
    have ih := pf_hi hR m hlt d (by omega)
    show (if _ then _ else pfF R m (prN R m + 1 + d)) = _
    rw [if_neg, ih]
    rintro ⟨-, hp, hg⟩
    have hp : pc (prN R m + 1 + d) < pc (pfF R m (prN R m + 1 + d)) := hp
    have hg : setF (itF (prS R (prN R m + 1 + d)) m) 0 = setF R 0 := hg
    rw [ih] at hp
    have := pc_mono ((good_sub hR (by omega)).mp hg)
    omega
theorem pf_end {R : RT} (hR : OK R) (m : Nat) : pfF R m (setF R 0) = prN R m := by
  have hle := sub_le (prN_sub (R := R) m)
  by_cases h : prN R m = setF R 0
  · rw [pf_lo hR m (setF R 0) (by omega) (Nat.le_refl _), h]
  · have := pf_hi hR m (by omega) (setF R 0 - (prN R m + 1)) (by omega)
    rw [show prN R m + 1 + (setF R 0 - (prN R m + 1)) = setF R 0 by omega] at this
    exact this
theorem pf_lt {R : RT} (hR : OK R) (m : Nat) : ∀ s, s ≤ 1024 → pfF R m s < 1024
  | 0, _ => setF_lt hR 0
  | s + 1, h => by
    have ih := pf_lt hR m s (by omega)
    unfold pfF
    split <;> omega
theorem anN_le (s b : Nat) : anN s b ≤ s := sub_le (fun k hk => by
  rw [anN_bit] at hk
  cases q : s.testBit k with
  | true => rfl
  | false => rw [q] at hk; simp at hk)
set_option maxRecDepth 100000 in
set_option maxHeartbeats 4000000 in
theorem kX2_prop (l : Launch) (G : GT) (h0 : Nat) (a1 : Nat) (a2 : Nat) (a3 : Nat) (a4 : Nat) (a5 : Nat) (a6 : Nat) (a7 : Nat) (a8 : Nat) (im : Nat) (lm : Nat) (rm : Nat) (pl : Nat) (sd : Int32) (R : RT) (Rm : RT) (rf : Nat → Nat) (n : Int32) (nz : Int) (h_n : n.toInt = nz) (hR : OK R) (hK : AK R) : Ct l yX2_prop cX2_prop 6 (some .int) 5 110 [.ref h0, .int n] G [(h0, .inr (2, [.ref a1, .ref a2, .ref a3, .ref a4, .int (nI im), .ref a5, .ref a6, .ref a7, .int (nI lm), .int (nI rm), .int (nI pl), .ref a8, .int sd])), (a1, aI G 54 (fl R)), (a2, aI G 54 (fl Rm)), (a7, aI G 7 (cN rf))] (QI G [(h0, .inr (2, [.ref a1, .ref a2, .ref a3, .ref a4, .int (nI im), .ref a5, .ref a6, .ref a7, .int (nI lm), .int (nI rm), .int (nI pl), .ref a8, .int sd])), (a1, aI G 54 (fl R)), (a2, aI G 54 (fl Rm)), (a7, aI G 7 (cN rf))] (fun (r : Int32) (u : RT) => r = anI (wbN nz 99) (nI (prN R nz.toNat))) (fun u => [(h0, .inr (2, [.ref a1, .ref a2, .ref a3, .ref a4, .int (nI im), .ref a5, .ref a6, .ref a7, .int (nI lm), .int (nI rm), .int (nI pl), .ref a8, .int sd])), (a1, aI G 54 (fl R)), (a2, aI G 54 (fl u)), (a7, aI G 7 (cN (rfU rf (wbN nz 99))))])) := by
  refine en (by decide +kernel) (Nat.le_of_ble_eq_true rfl) ?_
  intro p e s m below meth c ls H locs C hl hw
  have xx := C.1
  have xb := C.2.1
  have hw : Wd G (fA [(h0, .inr (2, [.ref a1, .ref a2, .ref a3, .ref a4, .int (nI im), .ref a5, .ref a6, .ref a7, .int (nI lm), .int (nI rm), .int (nI pl), .ref a8, .int sd])), (a1, aI G 54 (fl R)), (a2, aI G 54 (fl Rm)), (a7, aI G 7 (cN rf))]) s [(h0, .inr (2, [.ref a1, .ref a2, .ref a3, .ref a4, .int (nI im), .ref a5, .ref a6, .ref a7, .int (nI lm), .int (nI rm), .int (nI pl), .ref a8, .int sd])), (a1, aI G 54 (fl R)), (a2, aI G 54 (fl Rm)), (a7, aI G 7 (cN rf))] H locs := hw
  have hl : lv_has ls 6 [(0, .ref h0), (1, .int n)] := hl
  obtain ⟨hn, hf0, hpr, hA⟩ := id hR
  have hb9 := wbN_le nz 99
  have hs0 := setF_lt hR 0
  refine lv_iload_n xx xb dX2_prop_0 rfl (lv_at hl 1 rfl) ?_
  refine lv_bipush (v := nI 99) xx xb dX2_prop_1 (by decide) ?_
  have hM := kX2_wrongBy l G n nz (nI 99) 99 h_n (tN (by omega))
  refine cs_i C hw hM ysX2_wrongBy ml_X2_128 rfl [] rfl rfl (fun _ => (rfl : ([] : List Nat) = [])) (by decide) ⟨Nat.zero_le _, Nat.zero_le _⟩ hl.1 rfl (Nat.le_of_ble_eq_true rfl) dX2_prop_3 (fun r _ H locs hr hw => ?_)
  have hw : Wd G (fA [(h0, .inr (2, [.ref a1, .ref a2, .ref a3, .ref a4, .int (nI im), .ref a5, .ref a6, .ref a7, .int (nI lm), .int (nI rm), .int (nI pl), .ref a8, .int sd])), (a1, aI G 54 (fl R)), (a2, aI G 54 (fl Rm)), (a7, aI G 7 (cN rf))]) s [(h0, .inr (2, [.ref a1, .ref a2, .ref a3, .ref a4, .int (nI im), .ref a5, .ref a6, .ref a7, .int (nI lm), .int (nI rm), .int (nI pl), .ref a8, .int sd])), (a1, aI G 54 (fl R)), (a2, aI G 54 (fl Rm)), (a7, aI G 7 (cN rf))] H locs := hw
  subst hr
  refine lv_istore_n (lv' := [(2, .int (nG (wbN nz 99))), (0, .ref h0), (1, .int n)]) xx xb dX2_prop_6 rfl hl (by decide) rfl (fun ls hl => ?_)
  refine lv_iload_n xx xb dX2_prop_7 rfl (lv_at hl 0 rfl) ?_
  refine lv_if_eq (tgt := 17) xx xb dX2_prop_8 (by decide) (fun c_8 => ?_) (fun c_8 => ?_)
  · skip
    have c_8 := g0_c (by omega) c_8
    obtain ⟨g1, g2⟩ := wbN_0 c_8
    refine lv_aload_n xx xb dX2_prop_17 rfl (lv_at hl 1 rfl) ?_
    refine m_get C hw 0 rfl fk_X2_9 rfl dX2_prop_18 ?_
    refine lv_iconst (v := nI 0) xx xb dX2_prop_21 (by decide) ?_
    have hM := kX2_setOf l G a1 R 0 (by first | assumption | omega) (by first | assumption | omega)
    refine cs_i C hw hM ysX2_setOf ml_X2_73 rfl [1] rfl rfl (fun _ => (rfl : ([a1] : List Nat) = [a1])) (by decide) ⟨Nat.zero_le _, Nat.zero_le _⟩ hl.1 rfl (Nat.le_of_ble_eq_true rfl) dX2_prop_22 (fun r _ H locs hr hw => ?_)
    have hw : Wd G (fA [(h0, .inr (2, [.ref a1, .ref a2, .ref a3, .ref a4, .int (nI im), .ref a5, .ref a6, .ref a7, .int (nI lm), .int (nI rm), .int (nI pl), .ref a8, .int sd])), (a1, aI G 54 (fl R)), (a2, aI G 54 (fl Rm)), (a7, aI G 7 (cN rf))]) s [(h0, .inr (2, [.ref a1, .ref a2, .ref a3, .ref a4, .int (nI im), .ref a5, .ref a6, .ref a7, .int (nI lm), .int (nI rm), .int (nI pl), .ref a8, .int sd])), (a1, aI G 54 (fl R)), (a2, aI G 54 (fl Rm)), (a7, aI G 7 (cN rf))] H locs := hw
    subst hr
    refine lv_istore_n (lv' := [(3, .int (nI (setF R 0))), (2, .int (nG (wbN nz 99))), (0, .ref h0), (1, .int n)]) xx xb dX2_prop_25 rfl hl (by decide) rfl (fun ls hl => ?_)
    refine lv_iload_n xx xb dX2_prop_26 rfl (lv_at hl 0 rfl) ?_
    refine lv_istore (lv' := [(4, .int (nI (setF R 0))), (3, .int (nI (setF R 0))), (2, .int (nG (wbN nz 99))), (0, .ref h0), (1, .int n)]) xx xb dX2_prop_27 hl (by decide) rfl (fun ls hl => ?_)
    refine lv_iconst (v := nI 0) xx xb dX2_prop_29 (by decide) ?_
    refine lv_istore (lv' := [(5, .int (nI 0)), (4, .int (nI (setF R 0))), (3, .int (nI (setF R 0))), (2, .int (nG (wbN nz 99))), (0, .ref h0), (1, .int n)]) xx xb dX2_prop_30 hl (by decide) rfl (fun ls hl => ?_)
    have hl : lv_has ls 6 [(5, .int (nI 0)), (4, .int (nI (pfF R nz.toNat 0))), (3, .int (nI (setF R 0))), (2, .int (nG (wbN nz 99))), (0, .ref h0), (1, .int n)] := hl
    have L_32 : ∀ (fu : Nat) (s1 : Nat) (Y : RT) (H : Heap) (locs : List Loc) (ls : Array Slot), 1024 - s1 < fu → (s1 ≤ setF R 0) → Wd G (fA [(h0, .inr (2, [.ref a1, .ref a2, .ref a3, .ref a4, .int (nI im), .ref a5, .ref a6, .ref a7, .int (nI lm), .int (nI rm), .int (nI pl), .ref a8, .int sd])), (a1, aI G 54 (fl R)), (a2, aI G 54 (fl Rm)), (a7, aI G 7 (cN rf))]) s [(h0, .inr (2, [.ref a1, .ref a2, .ref a3, .ref a4, .int (nI im), .ref a5, .ref a6, .ref a7, .int (nI lm), .int (nI rm), .int (nI pl), .ref a8, .int sd])), (a1, aI G 54 (fl R)), (a2, aI G 54 (fl Y)), (a7, aI G 7 (cN rf))] H locs → lv_has ls 6 [(0, .ref h0), (1, .int n), (3, .int (nI (setF R 0))), (4, .int (nI (pfF R nz.toNat s1))), (5, .int (nI s1))] → W p l e ({ frames := 5, cells := 0, slots := 0, locals := 110 }) s m (([.ref h0, .int n] : List Value).toArray) below meth c H locs 0 0 (MQ below (QI G [(h0, .inr (2, [.ref a1, .ref a2, .ref a3, .ref a4, .int (nI im), .ref a5, .ref a6, .ref a7, .int (nI lm), .int (nI rm), .int (nI pl), .ref a8, .int sd])), (a1, aI G 54 (fl R)), (a2, aI G 54 (fl Rm)), (a7, aI G 7 (cN rf))] (fun (r : Int32) (u : RT) => r = anI (wbN nz 99) (nI (prN R nz.toNat))) (fun u => [(h0, .inr (2, [.ref a1, .ref a2, .ref a3, .ref a4, .int (nI im), .ref a5, .ref a6, .ref a7, .int (nI lm), .int (nI rm), .int (nI pl), .ref a8, .int sd])), (a1, aI G 54 (fl R)), (a2, aI G 54 (fl u)), (a7, aI G 7 (cN (rfU rf (wbN nz 99))))])) (([.ref h0, .int n] : List Value).toArray) s 0 0 (fA [(h0, .inr (2, [.ref a1, .ref a2, .ref a3, .ref a4, .int (nI im), .ref a5, .ref a6, .ref a7, .int (nI lm), .int (nI rm), .int (nI pl), .ref a8, .int sd])), (a1, aI G 54 (fl R)), (a2, aI G 54 (fl Rm)), (a7, aI G 7 (cN rf))])) (F0 m 32 ls []) := by
      intro fu
      induction fu with
      | zero => intro s1 Y H locs ls hfu; exact absurd hfu (Nat.not_lt_zero _)
      | succ fu ih_32 =>
        intro s1 Y H locs ls hfu hs1 hw hl
        refine lv_iload xx xb dX2_prop_32 (lv_at hl 4 rfl) ?_
        refine lv_iload_n xx xb dX2_prop_34 rfl (lv_at hl 2 rfl) ?_
        refine lv_icmp_ge (tgt := 112) xx xb dX2_prop_35 (by decide) (fun c_35 => ?_) (fun c_35 => ?_)
        · skip
          have c_35 := le_c (tN (by omega)) (tN (by omega)) c_35
          refine lv_iload xx xb dX2_prop_112 (lv_at hl 3 rfl) ?_
          refine re_i (nI (prN R nz.toNat)) (congrArg nI (by rw [← pf_end hR, show setF R 0 = s1 by omega])) ?_
          have hc : wbN nz 99 = 0 := by first | assumption | rfl
          exact rt_i C hw Y (by exact (anI_0 hc _).symm) (by rw [rfU_0 hc]) dX2_prop_114
        · skip
          have c_35 := nle_c (tN (by omega)) (tN (by omega)) c_35
          have hfl := pf_lt hR nz.toNat s1 (by omega)
          refine lv_iload xx xb dX2_prop_38 (lv_at hl 4 rfl) ?_
          refine lv_iload_n xx xb dX2_prop_40 rfl (lv_at hl 2 rfl) ?_
          refine lv_iconst (v := (-1)) xx xb dX2_prop_41 (by decide) ?_
          refine lv_ixor xx xb dX2_prop_42 ?_
          refine lv_iand xx xb dX2_prop_43 ?_
          refine re_i (nI (anN s1 (setF R 0))) (an_N _ _) ?_
          have han := anN_le s1 (setF R 0)
          refine lv_if_ne (tgt := 106) xx xb dX2_prop_44 (by decide) (fun c_44 => ?_) (fun c_44 => ?_)
          · skip
            have c_44 := ne_c (tN (by omega)) Int32.toInt_zero c_44
            have hq : ¬ (anN s1 (setF R 0) = 0 ∧ pc s1 < pc (pfF R nz.toNat s1) ∧ setF (itF (prS R s1) nz.toNat) 0 = setF R 0) := fun z => by have z1 := z.1; have z2 := z.2.1; have z3 := z.2.2; first | exact c_44 z1 | omega
            have eF : pfF R nz.toNat (s1 + 1) = pfF R nz.toNat s1 := if_neg hq
            have hl : lv_has ls 6 [(0, .ref h0), (1, .int n), (3, .int (nI (setF R 0))), (4, .int (nI (pfF R nz.toNat (s1 + 1)))), (5, .int (nI s1))] := by rw [eF]; exact hl
            refine lv_iinc (v := nI (s1 + 1)) (lv' := [(5, .int (nI (s1 + 1))), (0, .ref h0), (1, .int n), (3, .int (nI (setF R 0))), (4, .int (nI (pfF R nz.toNat (s1 + 1))))]) xx xb dX2_prop_106 hl (k := 4) rfl (nI_add _ 1) (by decide) rfl (fun ls hl => ?_)
            refine lv_goto (tgt := 32) xx xb dX2_prop_109 (by decide) ?_
            exact ih_32 (s1 + 1) Y H _ ls (by omega) (by omega) hw (lv_sub hl [1, 2, 3, 4, 0] rfl)
          · skip
            have c_44 := eq_c (tN (by omega)) Int32.toInt_zero c_44
            refine lv_iload xx xb dX2_prop_47 (lv_at hl 4 rfl) ?_
            have hM := kX2_bits l G s1 (by first | assumption | omega)
            refine cs_i C hw hM ysX2_bits ml_X2_67 rfl [] rfl rfl (fun _ => (rfl : ([] : List Nat) = [])) (by decide) ⟨Nat.zero_le _, Nat.zero_le _⟩ hl.1 rfl (Nat.le_of_ble_eq_true rfl) dX2_prop_49 (fun r _ H locs hr hw => ?_)
            have hw : Wd G (fA [(h0, .inr (2, [.ref a1, .ref a2, .ref a3, .ref a4, .int (nI im), .ref a5, .ref a6, .ref a7, .int (nI lm), .int (nI rm), .int (nI pl), .ref a8, .int sd])), (a1, aI G 54 (fl R)), (a2, aI G 54 (fl Rm)), (a7, aI G 7 (cN rf))]) s [(h0, .inr (2, [.ref a1, .ref a2, .ref a3, .ref a4, .int (nI im), .ref a5, .ref a6, .ref a7, .int (nI lm), .int (nI rm), .int (nI pl), .ref a8, .int sd])), (a1, aI G 54 (fl R)), (a2, aI G 54 (fl Y)), (a7, aI G 7 (cN rf))] H locs := hw
            subst hr
            refine lv_iload xx xb dX2_prop_52 (lv_at hl 3 rfl) ?_
            have hM := kX2_bits l G (pfF R nz.toNat s1) (by first | assumption | omega)
            refine cs_i C hw hM ysX2_bits ml_X2_67 rfl [] rfl rfl (fun _ => (rfl : ([] : List Nat) = [])) (by decide) ⟨Nat.zero_le _, Nat.zero_le _⟩ hl.1 rfl (Nat.le_of_ble_eq_true rfl) dX2_prop_54 (fun r _ H locs hr hw => ?_)
            have hw : Wd G (fA [(h0, .inr (2, [.ref a1, .ref a2, .ref a3, .ref a4, .int (nI im), .ref a5, .ref a6, .ref a7, .int (nI lm), .int (nI rm), .int (nI pl), .ref a8, .int sd])), (a1, aI G 54 (fl R)), (a2, aI G 54 (fl Rm)), (a7, aI G 7 (cN rf))]) s [(h0, .inr (2, [.ref a1, .ref a2, .ref a3, .ref a4, .int (nI im), .ref a5, .ref a6, .ref a7, .int (nI lm), .int (nI rm), .int (nI pl), .ref a8, .int sd])), (a1, aI G 54 (fl R)), (a2, aI G 54 (fl Y)), (a7, aI G 7 (cN rf))] H locs := hw
            subst hr
            have hpa := pc_le s1
            have hpb := pc_le (pfF R nz.toNat s1)
            refine lv_icmp_lt (tgt := 63) xx xb dX2_prop_57 (by decide) (fun c_57 => ?_) (fun c_57 => ?_)
            · skip
              have c_57 := lt_c (tN (by omega)) (tN (by omega)) c_57
              refine lv_aload_n xx xb dX2_prop_63 rfl (lv_at hl 0 rfl) ?_
              refine m_get C hw 0 rfl fk_X2_9 rfl dX2_prop_64 ?_
              refine lv_aload_n xx xb dX2_prop_67 rfl (lv_at hl 0 rfl) ?_
              refine m_get C hw 0 rfl fk_X2_13 rfl dX2_prop_68 ?_
              have hM := kX2_copies l G a1 a2 (fl R) (fl Y) 
              refine cs_v C hw hM ysX2_copies ml_X2_121 rfl [1, 2] rfl rfl (fun _ => (rfl : ([a1, a2] : List Nat) = [a1, a2])) (by decide) ⟨Nat.zero_le _, Nat.zero_le _⟩ hl.1 rfl (Nat.le_of_ble_eq_true rfl) dX2_prop_71 (fun _ H locs hr hw => ?_)
              have hw : Wd G (fA [(h0, .inr (2, [.ref a1, .ref a2, .ref a3, .ref a4, .int (nI im), .ref a5, .ref a6, .ref a7, .int (nI lm), .int (nI rm), .int (nI pl), .ref a8, .int sd])), (a1, aI G 54 (fl R)), (a2, aI G 54 (fl Rm)), (a7, aI G 7 (cN rf))]) s [(h0, .inr (2, [.ref a1, .ref a2, .ref a3, .ref a4, .int (nI im), .ref a5, .ref a6, .ref a7, .int (nI lm), .int (nI rm), .int (nI pl), .ref a8, .int sd])), (a1, aI G 54 (fl R)), (a2, aI G 54 (fl R)), (a7, aI G 7 (cN rf))] H locs := hw
              refine lv_aload_n xx xb dX2_prop_74 rfl (lv_at hl 0 rfl) ?_
              refine m_get C hw 0 rfl fk_X2_13 rfl dX2_prop_75 ?_
              refine lv_iconst (v := nI 3) xx xb dX2_prop_78 (by decide) ?_
              refine lv_iload xx xb dX2_prop_79 (lv_at hl 4 rfl) ?_
              refine m_ast C hw 2 rfl 3 rfl (by omega) (by decide) (fl (upR R 0 3 s1)) (fl_uh _ (by decide)) dX2_prop_81 (fun H locs hw => ?_)
              have hw : Wd G (fA [(h0, .inr (2, [.ref a1, .ref a2, .ref a3, .ref a4, .int (nI im), .ref a5, .ref a6, .ref a7, .int (nI lm), .int (nI rm), .int (nI pl), .ref a8, .int sd])), (a1, aI G 54 (fl R)), (a2, aI G 54 (fl Rm)), (a7, aI G 7 (cN rf))]) s [(h0, .inr (2, [.ref a1, .ref a2, .ref a3, .ref a4, .int (nI im), .ref a5, .ref a6, .ref a7, .int (nI lm), .int (nI rm), .int (nI pl), .ref a8, .int sd])), (a1, aI G 54 (fl R)), (a2, aI G 54 (fl (upR R 0 3 s1))), (a7, aI G 7 (cN rf))] H locs := hw
              have hw : Wd G (fA [(h0, .inr (2, [.ref a1, .ref a2, .ref a3, .ref a4, .int (nI im), .ref a5, .ref a6, .ref a7, .int (nI lm), .int (nI rm), .int (nI pl), .ref a8, .int sd])), (a1, aI G 54 (fl R)), (a2, aI G 54 (fl Rm)), (a7, aI G 7 (cN rf))]) s [(h0, .inr (2, [.ref a1, .ref a2, .ref a3, .ref a4, .int (nI im), .ref a5, .ref a6, .ref a7, .int (nI lm), .int (nI rm), .int (nI pl), .ref a8, .int sd])), (a1, aI G 54 (fl R)), (a2, aI G 54 (fl (prS R s1))), (a7, aI G 7 (cN rf))] H locs := hw
              refine lv_aload_n xx xb dX2_prop_82 rfl (lv_at hl 0 rfl) ?_
              refine m_get C hw 0 rfl fk_X2_13 rfl dX2_prop_83 ?_
              refine lv_iload_n xx xb dX2_prop_86 rfl (lv_at hl 1 rfl) ?_
              refine re_i (nI nz.toNat) (ofT h_n (by omega) (by omega)) ?_
              have hM := kX2_minutesOn l G a2 (prS R s1) nz.toNat (OK_prS hR (by omega)) (AK_prS hK s1) (by first | assumption | omega)
              refine cs_v C hw hM ysX2_minutesOn ml_X2_115 rfl [2] rfl rfl (fun _ => (rfl : ([a2] : List Nat) = [a2])) (by decide) ⟨Nat.zero_le _, Nat.zero_le _⟩ hl.1 rfl (Nat.le_of_ble_eq_true rfl) dX2_prop_87 (fun _ H locs hr hw => ?_)
              have hw : Wd G (fA [(h0, .inr (2, [.ref a1, .ref a2, .ref a3, .ref a4, .int (nI im), .ref a5, .ref a6, .ref a7, .int (nI lm), .int (nI rm), .int (nI pl), .ref a8, .int sd])), (a1, aI G 54 (fl R)), (a2, aI G 54 (fl Rm)), (a7, aI G 7 (cN rf))]) s [(h0, .inr (2, [.ref a1, .ref a2, .ref a3, .ref a4, .int (nI im), .ref a5, .ref a6, .ref a7, .int (nI lm), .int (nI rm), .int (nI pl), .ref a8, .int sd])), (a1, aI G 54 (fl R)), (a2, aI G 54 (fl (itF (prS R s1) nz.toNat))), (a7, aI G 7 (cN rf))] H locs := hw
              have hPO := OK_itF (OK_prS hR (s := s1) (by omega)) nz.toNat
              have hPs := setF_lt hPO 0
              refine lv_aload_n xx xb dX2_prop_90 rfl (lv_at hl 0 rfl) ?_
              refine m_get C hw 0 rfl fk_X2_13 rfl dX2_prop_91 ?_
              refine lv_iconst (v := nI 0) xx xb dX2_prop_94 (by decide) ?_
              have hM := kX2_setOf l G a2 (itF (prS R s1) nz.toNat) 0 (by first | assumption | omega) (by first | assumption | omega)
              refine cs_i C hw hM ysX2_setOf ml_X2_73 rfl [2] rfl rfl (fun _ => (rfl : ([a2] : List Nat) = [a2])) (by decide) ⟨Nat.zero_le _, Nat.zero_le _⟩ hl.1 rfl (Nat.le_of_ble_eq_true rfl) dX2_prop_95 (fun r _ H locs hr hw => ?_)
              have hw : Wd G (fA [(h0, .inr (2, [.ref a1, .ref a2, .ref a3, .ref a4, .int (nI im), .ref a5, .ref a6, .ref a7, .int (nI lm), .int (nI rm), .int (nI pl), .ref a8, .int sd])), (a1, aI G 54 (fl R)), (a2, aI G 54 (fl Rm)), (a7, aI G 7 (cN rf))]) s [(h0, .inr (2, [.ref a1, .ref a2, .ref a3, .ref a4, .int (nI im), .ref a5, .ref a6, .ref a7, .int (nI lm), .int (nI rm), .int (nI pl), .ref a8, .int sd])), (a1, aI G 54 (fl R)), (a2, aI G 54 (fl (itF (prS R s1) nz.toNat))), (a7, aI G 7 (cN rf))] H locs := hw
              subst hr
              refine lv_iload_n xx xb dX2_prop_98 rfl (lv_at hl 2 rfl) ?_
              refine lv_icmp_ne (tgt := 106) xx xb dX2_prop_99 (by decide) (fun c_99 => ?_) (fun c_99 => ?_)
              · skip
                have c_99 := ne_c (tN (by omega)) (tN (by omega)) c_99
                have hq : ¬ (anN s1 (setF R 0) = 0 ∧ pc s1 < pc (pfF R nz.toNat s1) ∧ setF (itF (prS R s1) nz.toNat) 0 = setF R 0) := fun z => by have z1 := z.1; have z2 := z.2.1; have z3 := z.2.2; first | exact c_44 z1 | omega
                have eF : pfF R nz.toNat (s1 + 1) = pfF R nz.toNat s1 := if_neg hq
                have hl : lv_has ls 6 [(0, .ref h0), (1, .int n), (3, .int (nI (setF R 0))), (4, .int (nI (pfF R nz.toNat (s1 + 1)))), (5, .int (nI s1))] := by rw [eF]; exact hl
                refine lv_iinc (v := nI (s1 + 1)) (lv' := [(5, .int (nI (s1 + 1))), (0, .ref h0), (1, .int n), (3, .int (nI (setF R 0))), (4, .int (nI (pfF R nz.toNat (s1 + 1))))]) xx xb dX2_prop_106 hl (k := 4) rfl (nI_add _ 1) (by decide) rfl (fun ls hl => ?_)
                refine lv_goto (tgt := 32) xx xb dX2_prop_109 (by decide) ?_
                exact ih_32 (s1 + 1) (itF (prS R s1) nz.toNat) H _ ls (by omega) (by omega) hw (lv_sub hl [1, 2, 3, 4, 0] rfl)
              · skip
                have c_99 := eq_c (tN (by omega)) (tN (by omega)) c_99
                refine lv_iload xx xb dX2_prop_102 (lv_at hl 4 rfl) ?_
                refine lv_istore (lv' := [(4, .int (nI s1)), (0, .ref h0), (1, .int n), (3, .int (nI (setF R 0))), (5, .int (nI s1))]) xx xb dX2_prop_104 hl (by decide) rfl (fun ls hl => ?_)
                have hq : anN s1 (setF R 0) = 0 ∧ pc s1 < pc (pfF R nz.toNat s1) ∧ setF (itF (prS R s1) nz.toNat) 0 = setF R 0 := ⟨by omega, by omega, by omega⟩
                have eF : pfF R nz.toNat (s1 + 1) = s1 := if_pos hq
                have hl : lv_has ls 6 [(4, .int (nI (pfF R nz.toNat (s1 + 1)))), (0, .ref h0), (1, .int n), (3, .int (nI (setF R 0))), (5, .int (nI s1))] := by rw [eF]; exact hl
                refine lv_iinc (v := nI (s1 + 1)) (lv' := [(5, .int (nI (s1 + 1))), (4, .int (nI (pfF R nz.toNat (s1 + 1)))), (0, .ref h0), (1, .int n), (3, .int (nI (setF R 0)))]) xx xb dX2_prop_106 hl (k := 4) rfl (nI_add _ 1) (by decide) rfl (fun ls hl => ?_)
                refine lv_goto (tgt := 32) xx xb dX2_prop_109 (by decide) ?_
                exact ih_32 (s1 + 1) (itF (prS R s1) nz.toNat) H _ ls (by omega) (by omega) hw (lv_sub hl [2, 3, 4, 1, 0] rfl)
            · skip
              have c_57 := nlt_c (tN (by omega)) (tN (by omega)) c_57
              refine lv_goto (tgt := 106) xx xb dX2_prop_60 (by decide) ?_
              have hq : ¬ (anN s1 (setF R 0) = 0 ∧ pc s1 < pc (pfF R nz.toNat s1) ∧ setF (itF (prS R s1) nz.toNat) 0 = setF R 0) := fun z => by have z1 := z.1; have z2 := z.2.1; have z3 := z.2.2; first | exact c_44 z1 | omega
              have eF : pfF R nz.toNat (s1 + 1) = pfF R nz.toNat s1 := if_neg hq
              have hl : lv_has ls 6 [(0, .ref h0), (1, .int n), (3, .int (nI (setF R 0))), (4, .int (nI (pfF R nz.toNat (s1 + 1)))), (5, .int (nI s1))] := by rw [eF]; exact hl
              refine lv_iinc (v := nI (s1 + 1)) (lv' := [(5, .int (nI (s1 + 1))), (0, .ref h0), (1, .int n), (3, .int (nI (setF R 0))), (4, .int (nI (pfF R nz.toNat (s1 + 1))))]) xx xb dX2_prop_106 hl (k := 4) rfl (nI_add _ 1) (by decide) rfl (fun ls hl => ?_)
              refine lv_goto (tgt := 32) xx xb dX2_prop_109 (by decide) ?_
              exact ih_32 (s1 + 1) Y H _ ls (by omega) (by omega) hw (lv_sub hl [1, 2, 3, 4, 0] rfl)
    exact L_32 (_ + 1) 0 Rm H _ ls (Nat.lt_succ_self _) (Nat.zero_le _) hw (lv_sub hl [4, 5, 2, 1, 0] rfl)
  · skip
    have c_8 := g0_n c_8
    refine lv_aload_n xx xb dX2_prop_11 rfl (lv_at hl 1 rfl) ?_
    refine lv_iload_n xx xb dX2_prop_12 rfl (lv_at hl 0 rfl) ?_
    have hM := kX2_no l G h0 a1 a2 a3 a4 a5 a6 a7 a8 im lm rm pl sd rf (wbN nz 99) (by omega)
    refine cv_i C hw hM yvX2_no ml_X2_36 0 rfl rfl rfl [0, 3] rfl rfl (fun _ => (rfl : ([h0, a7] : List Nat) = [h0, a7])) (by decide) ⟨Nat.zero_le _, Nat.zero_le _⟩ hl.1 rfl (Nat.le_of_ble_eq_true rfl) dX2_prop_13 (fun r _ H locs hr hw => ?_)
    have hw : Wd G (fA [(h0, .inr (2, [.ref a1, .ref a2, .ref a3, .ref a4, .int (nI im), .ref a5, .ref a6, .ref a7, .int (nI lm), .int (nI rm), .int (nI pl), .ref a8, .int sd])), (a1, aI G 54 (fl R)), (a2, aI G 54 (fl Rm)), (a7, aI G 7 (cN rf))]) s [(h0, .inr (2, [.ref a1, .ref a2, .ref a3, .ref a4, .int (nI im), .ref a5, .ref a6, .ref a7, .int (nI lm), .int (nI rm), .int (nI pl), .ref a8, .int sd])), (a1, aI G 54 (fl R)), (a2, aI G 54 (fl Rm)), (a7, aI G 7 (cN (upN rf (wbN nz 99) (rf (wbN nz 99) + 1))))] H locs := hw
    subst hr
    have hc : wbN nz 99 = (wbN nz 99) := by first | assumption | rfl
    have hj : (wbN nz 99) ≠ 0 := by omega
    exact rt_i C hw Rm (by exact (anI_r hc hj _).symm) (by rw [rfU_r hc hj]) dX2_prop_16
