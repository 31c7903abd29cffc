/-- from k, going down by ON, b is reached -/
def rch (R : RT) (b : Nat) : Nat → Nat → Bool
  | 0, k => decide (k = b)
  | f + 1, k => if k = b then true else if k < 10 then rch R b f (R 3 k) else false
theorem rch_b (R : RT) (b f : Nat) : rch R b f b = true := by
  cases f
  · simp [rch]
  · simp [rch]
theorem rch_10 (R : RT) {b : Nat} (hb : b < 10) (f : Nat) : rch R b f 10 = false := by
  cases f
  · simp [rch]; omega
  · simp [rch]; omega
theorem rch_s (R : RT) {b k f : Nat} (h : k ≠ b) (hk : k < 10) : rch R b (f + 1) k = rch R b f (R 3 k) := by
  show (if k = b then true else if k < 10 then rch R b f (R 3 k) else false) = _
  rw [if_neg h, if_pos hk]
/-- the room when those of S below a are PULLED, one behind the other; whether each STANDS then -/
def psR (R : RT) (S : Nat) : Nat → RT
  | 0 => R
  | a + 1 => if S.testBit a = true then pulF (psR R S a) a 9 else psR R S a
def psB (R : RT) (S : Nat) : Nat → Bool
  | 0 => true
  | a + 1 => psB R S a && (!S.testBit a || decide (psR R S a 4 a = 0))
theorem pulF_00 (R : RT) (f v : Nat) : pulF R f v 0 0 = R 0 0 := by unfold pulF; rw [if_neg (by omega), if_neg (by omega)]
theorem psR_00 (R : RT) (S : Nat) : ∀ a, psR R S a 0 0 = R 0 0
  | 0 => rfl
  | a + 1 => by
    unfold psR
    split
    · rw [pulF_00]; exact psR_00 R S a
    · exact psR_00 R S a
theorem OK_psR {R : RT} (hR : OK R) (S : Nat) : ∀ a, a ≤ R 0 0 → OK (psR R S a)
  | 0, _ => hR
  | a + 1, h => by
    have ih := OK_psR hR S a (by omega)
    unfold psR
    split
    · exact OK_pulF a 9 ih (Or.inr (by rw [psR_00]; omega))
    · exact ih
theorem AK_psR {R : RT} (hK : AK R) (S : Nat) : ∀ a, AK (psR R S a)
  | 0 => hK
  | a + 1 => by
    have ih := AK_psR hK S a
    unfold psR
    split
    · exact AK_pulF a 9 ih
    · exact ih
theorem psB_s {R : RT} {S a : Nat} (h : psB R S a = true) (h2 : ¬ S.testBit a = true ∨ psR R S a 4 a = 0) : psB R S (a + 1) = true := by
  unfold psB
  rw [h]
  rcases h2 with q | q
  · simp [q]
  · simp [q]
theorem psB_f {R : RT} {S a : Nat} (h1 : S.testBit a = true) (h2 : ¬ psR R S a 4 a = 0) : ∀ n, a < n → psB R S n = false
  | 0, h => absurd h (Nat.not_lt_zero _)
  | n + 1, h => by
    unfold psB
    by_cases e : a = n
    · subst e; simp [h1, h2]
    · rw [psB_f h1 h2 n (by omega)]; rfl
/-- which one is PULLED ahead of MINUTE k -/
def obX (a b c k : Nat) : Nat := if k = 0 then a else if k = 1 then b else if k = 2 then c else 10
def obP (R : RT) (x v : Nat) : RT := if x < 10 ∧ R 4 x = 0 then pulF R x v else R
def obF (R : RT) (a b c v : Nat) : Nat → RT
  | 0 => R
  | k + 1 => miF (obP (obF R a b c v k) (obX a b c k) v) 0
theorem obP_00 (R : RT) (x v : Nat) : obP R x v 0 0 = R 0 0 := by
  unfold obP
  split
  · exact pulF_00 R x v
  · rfl
theorem OK_obP {R : RT} (hR : OK R) {x : Nat} (hx : x = 10 ∨ x < R 0 0) (v : Nat) : OK (obP R x v) := by
  unfold obP
  split
  · exact OK_pulF x v hR (by omega)
  · exact hR
theorem AK_obP {R : RT} (hK : AK R) (x v : Nat) : AK (obP R x v) := by
  unfold obP
  split
  · exact AK_pulF x v hK
  · exact hK
theorem obF_00 (R : RT) (a b c v : Nat) : ∀ k, obF R a b c v k 0 0 = R 0 0
  | 0 => rfl
  | k + 1 => (obP_00 (obF R a b c v k) (obX a b c k) v).trans (obF_00 R a b c v k)
theorem obX_lt {R : RT} {a b c : Nat} (ha : a < R 0 0) (hb : b < R 0 0) (hc : c < R 0 0) (k : Nat) : obX a b c k = 10 ∨ obX a b c k < R 0 0 := by
  unfold obX
  repeat' split
  all_goals omega
theorem OK_obF {R : RT} (hR : OK R) {a b c : Nat} (ha : a < R 0 0) (hb : b < R 0 0) (hc : c < R 0 0) (v : Nat) : ∀ k, OK (obF R a b c v k)
  | 0 => hR
  | k + 1 => OK_miF 0 (OK_obP (OK_obF hR ha hb hc v k) (by rw [obF_00]; exact obX_lt ha hb hc k) v)
theorem AK_obF {R : RT} (hR : OK R) (hK : AK R) {a b c : Nat} (ha : a < R 0 0) (hb : b < R 0 0) (hc : c < R 0 0) (v : Nat) : ∀ k, AK (obF R a b c v k)
  | 0 => hK
  | k + 1 => AK_miF (by omega) (OK_obP (OK_obF hR ha hb hc v k) (by rw [obF_00]; exact obX_lt ha hb hc k) v) (AK_obP (AK_obF hR hK ha hb hc v k) _ v)
/-- two who pull, in mind -/
def spP (R : RT) (a x : Nat) : RT := if x = 1 ∧ R 4 a = 0 then pulF R a 9 else R
def spF (R : RT) (a x b y : Nat) : RT := spP (spP R a x) b y
theorem spP_00 (R : RT) (a x : Nat) : spP R a x 0 0 = R 0 0 := by
  unfold spP
  split
  · exact pulF_00 R a 9
  · rfl
theorem OK_spP {R : RT} (hR : OK R) {a : Nat} (ha : a < R 0 0) (x : Nat) : OK (spP R a x) := by
  unfold spP
  split
  · exact OK_pulF a 9 hR (Or.inr ha)
  · exact hR
theorem AK_spP {R : RT} (hK : AK R) (a x : Nat) : AK (spP R a x) := by
  unfold spP
  split
  · exact AK_pulF a 9 hK
  · exact hK
/-- a DRAW -/
def nxI (z : Int32) : Int32 := z * 1664525 + 1013904223
def drN (z : Int32) (n : Nat) : Nat := z.toBitVec.toNat % 2147483648 / 256 % n
theorem dr_and (z : Int32) : z &&& 2147483647 = nI (z.toBitVec.toNat % 2147483648) := pk_and z 31 (by decide)
theorem psR_t {R : RT} {S a : Nat} (h : S.testBit a = true) : psR R S (a + 1) = pulF (psR R S a) a 9 := if_pos h
theorem psR_f {R : RT} {S a : Nat} (h : ¬ S.testBit a = true) : psR R S (a + 1) = psR R S a := if_neg h
theorem onI_lt10 {o f : Nat} (h : o < 10) : onI o = nI o := onI_lt h
set_option maxRecDepth 100000 in
set_option maxHeartbeats 4000000 in
theorem kX2_isAbove (l : Launch) (G : GT) (h0 : Nat) (a1 : Nat) (a2 : Nat) (a3 : Nat) (a4 : Nat) (a5 : Nat) (a6 : Nat) (a7 : Nat) (a8 : Nat) (im : Nat) (lm : Nat) (rm : Nat) (pl : Nat) (sd : Int32) (R : RT) (a : Nat) (b : Nat) (hR : OK R) (ha : a < R 0 0) (hb : b < R 0 0) : Ct l yX2_isAbove cX2_isAbove 4 (some .boolean) 1 21 [.ref h0, .int (nI a), .int (nI b)] G [(h0, .inr (2, [.ref a1, .ref a2, .ref a3, .ref a4, .int (nI im), .ref a5, .ref a6, .ref a7, .int (nI lm), .int (nI rm), .int (nI pl), .ref a8, .int sd])), (a1, aI G 54 (fl R))] (QI G [(h0, .inr (2, [.ref a1, .ref a2, .ref a3, .ref a4, .int (nI im), .ref a5, .ref a6, .ref a7, .int (nI lm), .int (nI rm), .int (nI pl), .ref a8, .int sd])), (a1, aI G 54 (fl R))] (fun (r : Int32) (u : Unit) => r = if rch R b 11 (R 3 a) = true then 1 else 0) (fun u => [(h0, .inr (2, [.ref a1, .ref a2, .ref a3, .ref a4, .int (nI im), .ref a5, .ref a6, .ref a7, .int (nI lm), .int (nI rm), .int (nI pl), .ref a8, .int sd])), (a1, aI G 54 (fl R))])) := by
  refine en (by decide +kernel) (Nat.le_of_ble_eq_true rfl) ?_
  intro p e s m below meth c ls H locs C hl hw
  have xx := C.1
  have xb := C.2.1
  have hw : Wd G (fA [(h0, .inr (2, [.ref a1, .ref a2, .ref a3, .ref a4, .int (nI im), .ref a5, .ref a6, .ref a7, .int (nI lm), .int (nI rm), .int (nI pl), .ref a8, .int sd])), (a1, aI G 54 (fl R))]) s [(h0, .inr (2, [.ref a1, .ref a2, .ref a3, .ref a4, .int (nI im), .ref a5, .ref a6, .ref a7, .int (nI lm), .int (nI rm), .int (nI pl), .ref a8, .int sd])), (a1, aI G 54 (fl R))] H locs := hw
  have hl : lv_has ls 4 [(0, .ref h0), (1, .int (nI a)), (2, .int (nI b))] := hl
  obtain ⟨hn, hf0, hpr, hA⟩ := id hR
  obtain ⟨q1, q2, q3, q4, q5⟩ := hA a ha
  refine lv_aload_n xx xb dX2_isAbove_0 rfl (lv_at hl 0 rfl) ?_
  refine m_get C hw 0 rfl fk_X2_9 rfl dX2_isAbove_1 ?_
  refine lv_iload_n xx xb dX2_isAbove_4 rfl (lv_at hl 1 rfl) ?_
  refine lv_iconst (v := nI 2) xx xb dX2_isAbove_5 (by decide) ?_
  have hM := kX2_of l G a 2 
  refine cs_i C hw hM ysX2_of ml_X2_44 rfl [] rfl rfl (fun _ => (rfl : ([] : List Nat) = [])) (by decide) ⟨Nat.zero_le _, Nat.zero_le _⟩ hl.1 rfl (Nat.le_of_ble_eq_true rfl) dX2_isAbove_6 (fun r _ H locs hr hw => ?_)
  have hw : Wd G (fA [(h0, .inr (2, [.ref a1, .ref a2, .ref a3, .ref a4, .int (nI im), .ref a5, .ref a6, .ref a7, .int (nI lm), .int (nI rm), .int (nI pl), .ref a8, .int sd])), (a1, aI G 54 (fl R))]) s [(h0, .inr (2, [.ref a1, .ref a2, .ref a3, .ref a4, .int (nI im), .ref a5, .ref a6, .ref a7, .int (nI lm), .int (nI rm), .int (nI pl), .ref a8, .int sd])), (a1, aI G 54 (fl R))] H locs := hw
  subst hr
  refine m_ald C hw 1 rfl (4 + 5 * a + 2) rfl (by omega) (by decide) dX2_isAbove_9 ?_
  refine re_i (onI (R 3 a)) (fl_on R _) ?_
  refine lv_istore_n (lv' := [(3, .int (onI (R 3 a))), (0, .ref h0), (1, .int (nI a)), (2, .int (nI b))]) xx xb dX2_isAbove_10 rfl hl (by decide) rfl (fun ls hl => ?_)
  have L_11 : ∀ (fu : Nat) (k : Nat) (f : Nat) (H : Heap) (locs : List Loc) (ls : Array Slot), f < fu → (k = 10 ∨ k < R 0 0) → (k = 10 ∨ k + 1 ≤ f) → (rch R b 11 (R 3 a) = rch R b f k) → Wd G (fA [(h0, .inr (2, [.ref a1, .ref a2, .ref a3, .ref a4, .int (nI im), .ref a5, .ref a6, .ref a7, .int (nI lm), .int (nI rm), .int (nI pl), .ref a8, .int sd])), (a1, aI G 54 (fl R))]) s [(h0, .inr (2, [.ref a1, .ref a2, .ref a3, .ref a4, .int (nI im), .ref a5, .ref a6, .ref a7, .int (nI lm), .int (nI rm), .int (nI pl), .ref a8, .int sd])), (a1, aI G 54 (fl R))] H locs → lv_has ls 4 [(0, .ref h0), (2, .int (nI b)), (3, .int (onI k))] → W p l e ({ frames := 1, cells := 0, slots := 0, locals := 21 }) s m (([.ref h0, .int (nI a), .int (nI b)] : List Value).toArray) below meth c H locs 0 0 (MQ below (QI G [(h0, .inr (2, [.ref a1, .ref a2, .ref a3, .ref a4, .int (nI im), .ref a5, .ref a6, .ref a7, .int (nI lm), .int (nI rm), .int (nI pl), .ref a8, .int sd])), (a1, aI G 54 (fl R))] (fun (r : Int32) (u : Unit) => r = if rch R b 11 (R 3 a) = true then 1 else 0) (fun u => [(h0, .inr (2, [.ref a1, .ref a2, .ref a3, .ref a4, .int (nI im), .ref a5, .ref a6, .ref a7, .int (nI lm), .int (nI rm), .int (nI pl), .ref a8, .int sd])), (a1, aI G 54 (fl R))])) (([.ref h0, .int (nI a), .int (nI b)] : List Value).toArray) s 0 0 (fA [(h0, .inr (2, [.ref a1, .ref a2, .ref a3, .ref a4, .int (nI im), .ref a5, .ref a6, .ref a7, .int (nI lm), .int (nI rm), .int (nI pl), .ref a8, .int sd])), (a1, aI G 54 (fl R))])) (F0 m 11 ls []) := by
    intro fu
    induction fu with
    | zero => intro k f H locs ls hfu; exact absurd hfu (Nat.not_lt_zero _)
    | succ fu ih_11 =>
      intro k f H locs ls hfu hk hf hrc hw hl
      refine lv_iload_n xx xb dX2_isAbove_11 rfl (lv_at hl 2 rfl) ?_
      refine lv_if_lt (tgt := 34) xx xb dX2_isAbove_12 (by decide) (fun c_12 => ?_) (fun c_12 => ?_)
      · skip
        have c_12 := (onI_neg (by omega)).mp c_12
        refine lv_iload_n xx xb dX2_isAbove_34 rfl (lv_at hl 2 rfl) ?_
        refine lv_iload_n xx xb dX2_isAbove_35 rfl (lv_at hl 1 rfl) ?_
        refine lv_icmp_ne (tgt := 43) xx xb dX2_isAbove_36 (by decide) (fun c_36 => ?_) (fun c_36 => ?_)
        · skip
          have c_36 := fun q => c_36 (((onI_inj (f := b) (by omega) (by omega)).mpr q).trans (onI_lt (by omega)))
          refine lv_iconst (v := nI 0) xx xb dX2_isAbove_43 (by decide) ?_
          exact rt_z C hw () (Or.inl rfl) (by rw [hrc]; first | exact r1 (by rw [c_36]; exact rch_b R b f) | exact absurd c_17 c_36 | exact r0 (by rw [show k = 10 by omega, rch_10 R (by omega)]; decide)) rfl dX2_isAbove_44
        · skip
          have c_36 := (onI_inj (f := b) (by omega) (by omega)).mp (c_36.trans (onI_lt (by omega)).symm)
          refine lv_iconst (v := nI 1) xx xb dX2_isAbove_39 (by decide) ?_
          refine lv_goto (tgt := 44) xx xb dX2_isAbove_40 (by decide) ?_
          exact rt_z C hw () (Or.inr rfl) (by rw [hrc]; first | exact r1 (by rw [c_36]; exact rch_b R b f) | exact absurd c_17 c_36 | exact r0 (by rw [show k = 10 by omega, rch_10 R (by omega)]; decide)) rfl dX2_isAbove_44
      · skip
        have c_12 := mt (onI_neg (by omega)).mpr c_12
        have hkn : k < R 0 0 := by omega
        refine lv_iload_n xx xb dX2_isAbove_15 rfl (lv_at hl 2 rfl) ?_
        refine lv_iload_n xx xb dX2_isAbove_16 rfl (lv_at hl 1 rfl) ?_
        refine lv_icmp_eq (tgt := 34) xx xb dX2_isAbove_17 (by decide) (fun c_17 => ?_) (fun c_17 => ?_)
        · skip
          have c_17 := (onI_inj (f := b) (by omega) (by omega)).mp (c_17.trans (onI_lt (by omega)).symm)
          refine lv_iload_n xx xb dX2_isAbove_34 rfl (lv_at hl 2 rfl) ?_
          refine lv_iload_n xx xb dX2_isAbove_35 rfl (lv_at hl 1 rfl) ?_
          refine lv_icmp_ne (tgt := 43) xx xb dX2_isAbove_36 (by decide) (fun c_36 => ?_) (fun c_36 => ?_)
          · skip
            have c_36 := fun q => c_36 (((onI_inj (f := b) (by omega) (by omega)).mpr q).trans (onI_lt (by omega)))
            refine lv_iconst (v := nI 0) xx xb dX2_isAbove_43 (by decide) ?_
            exact rt_z C hw () (Or.inl rfl) (by rw [hrc]; first | exact r1 (by rw [c_36]; exact rch_b R b f) | exact absurd c_17 c_36 | exact r0 (by rw [show k = 10 by omega, rch_10 R (by omega)]; decide)) rfl dX2_isAbove_44
          · skip
            have c_36 := (onI_inj (f := b) (by omega) (by omega)).mp (c_36.trans (onI_lt (by omega)).symm)
            refine lv_iconst (v := nI 1) xx xb dX2_isAbove_39 (by decide) ?_
            refine lv_goto (tgt := 44) xx xb dX2_isAbove_40 (by decide) ?_
            exact rt_z C hw () (Or.inr rfl) (by rw [hrc]; first | exact r1 (by rw [c_36]; exact rch_b R b f) | exact absurd c_17 c_36 | exact r0 (by rw [show k = 10 by omega, rch_10 R (by omega)]; decide)) rfl dX2_isAbove_44
        · skip
          have c_17 := fun q => c_17 (((onI_inj (f := b) (by omega) (by omega)).mpr q).trans (onI_lt (by omega)))
          obtain ⟨f1, rfl⟩ : ∃ z, f = z + 1 := ⟨f - 1, by omega⟩
          have hrs := hrc.trans (rch_s R c_17 (by omega))
          obtain ⟨p1, p2, p3, p4, p5⟩ := hA k (by omega)
          refine lv_aload_n xx xb dX2_isAbove_20 rfl (lv_at hl 0 rfl) ?_
          refine m_get C hw 0 rfl fk_X2_9 rfl dX2_isAbove_21 ?_
          refine lv_iload_n xx xb dX2_isAbove_24 rfl (lv_at hl 2 rfl) ?_
          refine re_i (nI k) (onI_lt (by omega)) ?_
          refine lv_iconst (v := nI 2) xx xb dX2_isAbove_25 (by decide) ?_
          have hM := kX2_of l G k 2 
          refine cs_i C hw hM ysX2_of ml_X2_44 rfl [] rfl rfl (fun _ => (rfl : ([] : List Nat) = [])) (by decide) ⟨Nat.zero_le _, Nat.zero_le _⟩ hl.1 rfl (Nat.le_of_ble_eq_true rfl) dX2_isAbove_26 (fun r _ H locs hr hw => ?_)
          have hw : Wd G (fA [(h0, .inr (2, [.ref a1, .ref a2, .ref a3, .ref a4, .int (nI im), .ref a5, .ref a6, .ref a7, .int (nI lm), .int (nI rm), .int (nI pl), .ref a8, .int sd])), (a1, aI G 54 (fl R))]) s [(h0, .inr (2, [.ref a1, .ref a2, .ref a3, .ref a4, .int (nI im), .ref a5, .ref a6, .ref a7, .int (nI lm), .int (nI rm), .int (nI pl), .ref a8, .int sd])), (a1, aI G 54 (fl R))] H locs := hw
          subst hr
          refine m_ald C hw 1 rfl (4 + 5 * k + 2) rfl (by omega) (by decide) dX2_isAbove_29 ?_
          refine re_i (onI (R 3 k)) (fl_on R _) ?_
          refine lv_istore_n (lv' := [(3, .int (onI (R 3 k))), (0, .ref h0), (2, .int (nI b))]) xx xb dX2_isAbove_30 rfl hl (by decide) rfl (fun ls hl => ?_)
          refine lv_goto (tgt := 11) xx xb dX2_isAbove_31 (by decide) ?_
          exact ih_11 (R 3 k) f1 H _ ls (by omega) (by omega) (by omega) hrs hw (lv_sub hl [1, 2, 0] rfl)
  exact L_11 (_ + 1) (R 3 a) 11 H _ ls (Nat.lt_succ_self _) (by omega) (by omega) rfl hw (lv_sub hl [1, 3, 0] rfl)
set_option maxRecDepth 100000 in
set_option maxHeartbeats 4000000 in
theorem kX2_pullsSet (l : Launch) (G : GT) (h0 : Nat) (a1 : Nat) (a2 : Nat) (a3 : Nat) (a4 : Nat) (a5 : Nat) (a6 : Nat) (a7 : Nat) (a8 : Nat) (im : Nat) (lm : Nat) (rm : Nat) (pl : Nat) (sd : Int32) (R : RT) (Rm : RT) (S : Nat) (hR : OK R) (hS : S < 1024) : Ct l yX2_pullsSet cX2_pullsSet 4 (some .boolean) 4 91 [.ref h0, .int (nI S)] G [(h0, .inr (2, [.ref a1, .ref a2, .ref a3, .ref a4, .int (nI im), .ref a5, .ref a6, .ref a7, .int (nI lm), .int (nI rm), .int (nI pl), .ref a8, .int sd])), (a1, aI G 54 (fl R)), (a2, aI G 54 (fl Rm))] (QI G [(h0, .inr (2, [.ref a1, .ref a2, .ref a3, .ref a4, .int (nI im), .ref a5, .ref a6, .ref a7, .int (nI lm), .int (nI rm), .int (nI pl), .ref a8, .int sd])), (a1, aI G 54 (fl R)), (a2, aI G 54 (fl Rm))] (fun (r : Int32) (u : RT) => r = (if psB R S (R 0 0) = true then 1 else 0) ∧ (psB R S (R 0 0) = true → u = psR R S (R 0 0))) (fun u => [(h0, .inr (2, [.ref a1, .ref a2, .ref a3, .ref a4, .int (nI im), .ref a5, .ref a6, .ref a7, .int (nI lm), .int (nI rm), .int (nI pl), .ref a8, .int sd])), (a1, aI G 54 (fl R)), (a2, aI G 54 (fl u))])) := by
  refine en (by decide +kernel) (Nat.le_of_ble_eq_true rfl) ?_
  intro p e s m below meth c ls H locs C hl hw
  have xx := C.1
  have xb := C.2.1
  have hw : Wd G (fA [(h0, .inr (2, [.ref a1, .ref a2, .ref a3, .ref a4, .int (nI im), .ref a5, .ref a6, .ref a7, .int (nI lm), .int (nI rm), .int (nI pl), .ref a8, .int sd])), (a1, aI G 54 (fl R)), (a2, aI G 54 (fl Rm))]) s [(h0, .inr (2, [.ref a1, .ref a2, .ref a3, .ref a4, .int (nI im), .ref a5, .ref a6, .ref a7, .int (nI lm), .int (nI rm), .int (nI pl), .ref a8, .int sd])), (a1, aI G 54 (fl R)), (a2, aI G 54 (fl Rm))] H locs := hw
  have hl : lv_has ls 4 [(0, .ref h0), (1, .int (nI S))] := hl
  obtain ⟨hn, hf0, hpr, hA⟩ := id hR
  refine lv_aload_n xx xb dX2_pullsSet_0 rfl (lv_at hl 0 rfl) ?_
  refine m_get C hw 0 rfl fk_X2_9 rfl dX2_pullsSet_1 ?_
  refine lv_aload_n xx xb dX2_pullsSet_4 rfl (lv_at hl 0 rfl) ?_
  refine m_get C hw 0 rfl fk_X2_13 rfl dX2_pullsSet_5 ?_
  have hM := kX2_copies l G a1 a2 (fl R) (fl Rm) 
  refine cs_v C hw hM ysX2_copies ml_X2_121 rfl [1, 2] rfl rfl (fun _ => (rfl : ([a1, a2] : List Nat) = [a1, a2])) (by decide) ⟨Nat.zero_le _, Nat.zero_le _⟩ hl.1 rfl (Nat.le_of_ble_eq_true rfl) dX2_pullsSet_8 (fun _ H locs hr hw => ?_)
  have hw : Wd G (fA [(h0, .inr (2, [.ref a1, .ref a2, .ref a3, .ref a4, .int (nI im), .ref a5, .ref a6, .ref a7, .int (nI lm), .int (nI rm), .int (nI pl), .ref a8, .int sd])), (a1, aI G 54 (fl R)), (a2, aI G 54 (fl Rm))]) s [(h0, .inr (2, [.ref a1, .ref a2, .ref a3, .ref a4, .int (nI im), .ref a5, .ref a6, .ref a7, .int (nI lm), .int (nI rm), .int (nI pl), .ref a8, .int sd])), (a1, aI G 54 (fl R)), (a2, aI G 54 (fl R))] H locs := hw
  refine lv_iconst (v := nI 0) xx xb dX2_pullsSet_11 (by decide) ?_
  refine lv_istore_n (lv' := [(2, .int (nI 0)), (0, .ref h0), (1, .int (nI S))]) xx xb dX2_pullsSet_12 rfl hl (by decide) rfl (fun ls hl => ?_)
  have hw : Wd G (fA [(h0, .inr (2, [.ref a1, .ref a2, .ref a3, .ref a4, .int (nI im), .ref a5, .ref a6, .ref a7, .int (nI lm), .int (nI rm), .int (nI pl), .ref a8, .int sd])), (a1, aI G 54 (fl R)), (a2, aI G 54 (fl Rm))]) s [(h0, .inr (2, [.ref a1, .ref a2, .ref a3, .ref a4, .int (nI im), .ref a5, .ref a6, .ref a7, .int (nI lm), .int (nI rm), .int (nI pl), .ref a8, .int sd])), (a1, aI G 54 (fl R)), (a2, aI G 54 (fl (psR R S 0)))] H locs := hw
  have L_13 : ∀ (fu : Nat) (i : Nat) (H : Heap) (locs : List Loc) (ls : Array Slot), 10 - i < fu → (i ≤ R 0 0) → (psB R S i = true) → Wd G (fA [(h0, .inr (2, [.ref a1, .ref a2, .ref a3, .ref a4, .int (nI im), .ref a5, .ref a6, .ref a7, .int (nI lm), .int (nI rm), .int (nI pl), .ref a8, .int sd])), (a1, aI G 54 (fl R)), (a2, aI G 54 (fl Rm))]) s [(h0, .inr (2, [.ref a1, .ref a2, .ref a3, .ref a4, .int (nI im), .ref a5, .ref a6, .ref a7, .int (nI lm), .int (nI rm), .int (nI pl), .ref a8, .int sd])), (a1, aI G 54 (fl R)), (a2, aI G 54 (fl (psR R S i)))] H locs → lv_has ls 4 [(0, .ref h0), (1, .int (nI S)), (2, .int (nI i))] → W p l e ({ frames := 4, cells := 0, slots := 0, locals := 91 }) s m (([.ref h0, .int (nI S)] : List Value).toArray) below meth c H locs 0 0 (MQ below (QI G [(h0, .inr (2, [.ref a1, .ref a2, .ref a3, .ref a4, .int (nI im), .ref a5, .ref a6, .ref a7, .int (nI lm), .int (nI rm), .int (nI pl), .ref a8, .int sd])), (a1, aI G 54 (fl R)), (a2, aI G 54 (fl Rm))] (fun (r : Int32) (u : RT) => r = (if psB R S (R 0 0) = true then 1 else 0) ∧ (psB R S (R 0 0) = true → u = psR R S (R 0 0))) (fun u => [(h0, .inr (2, [.ref a1, .ref a2, .ref a3, .ref a4, .int (nI im), .ref a5, .ref a6, .ref a7, .int (nI lm), .int (nI rm), .int (nI pl), .ref a8, .int sd])), (a1, aI G 54 (fl R)), (a2, aI G 54 (fl u))])) (([.ref h0, .int (nI S)] : List Value).toArray) s 0 0 (fA [(h0, .inr (2, [.ref a1, .ref a2, .ref a3, .ref a4, .int (nI im), .ref a5, .ref a6, .ref a7, .int (nI lm), .int (nI rm), .int (nI pl), .ref a8, .int sd])), (a1, aI G 54 (fl R)), (a2, aI G 54 (fl Rm))])) (F0 m 13 ls []) := by
    intro fu
    induction fu with
    | zero => intro i H locs ls hfu; exact absurd hfu (Nat.not_lt_zero _)
    | succ fu ih_13 =>
      intro i H locs ls hfu hi hB hw hl
      refine lv_iload_n xx xb dX2_pullsSet_13 rfl (lv_at hl 2 rfl) ?_
      refine lv_aload_n xx xb dX2_pullsSet_14 rfl (lv_at hl 0 rfl) ?_
      refine m_get C hw 0 rfl fk_X2_9 rfl dX2_pullsSet_15 ?_
      refine lv_iconst (v := nI 0) xx xb dX2_pullsSet_18 (by decide) ?_
      refine m_ald C hw 1 rfl 0 rfl (by omega) (by decide) dX2_pullsSet_19 ?_
      refine re_i (nI (R 0 0)) (fl_h R (by decide)) ?_
      refine lv_icmp_ge (tgt := 64) xx xb dX2_pullsSet_20 (by decide) (fun c_20 => ?_) (fun c_20 => ?_)
      · skip
        have c_20 := le_c (tN (by omega)) (tN (by omega)) c_20
        refine lv_iconst (v := nI 1) xx xb dX2_pullsSet_64 (by decide) ?_
        exact rt_z C hw (psR R S i) (Or.inr rfl) (by first | (have e : i = R 0 0 := (by omega); rw [e] at hB; exact ⟨r1 hB, fun _ => by rw [e]⟩) | exact ⟨r0 (by rw [psB_f c_28 c_42 _ (by omega)]; decide), fun q => by rw [psB_f c_28 c_42 _ (by omega)] at q; cases q⟩) rfl dX2_pullsSet_65
      · skip
        have c_20 := nle_c (tN (by omega)) (tN (by omega)) c_20
        refine lv_iload_n xx xb dX2_pullsSet_23 rfl (lv_at hl 1 rfl) ?_
        refine lv_iload_n xx xb dX2_pullsSet_24 rfl (lv_at hl 2 rfl) ?_
        have hM := kX2_has l G S i (by first | assumption | omega) (by first | assumption | omega)
        refine cs_i C hw hM ysX2_has ml_X2_51 rfl [] rfl rfl (fun _ => (rfl : ([] : List Nat) = [])) (by decide) ⟨Nat.zero_le _, Nat.zero_le _⟩ hl.1 rfl (Nat.le_of_ble_eq_true rfl) dX2_pullsSet_25 (fun r _ H locs hr hw => ?_)
        have hw : Wd G (fA [(h0, .inr (2, [.ref a1, .ref a2, .ref a3, .ref a4, .int (nI im), .ref a5, .ref a6, .ref a7, .int (nI lm), .int (nI rm), .int (nI pl), .ref a8, .int sd])), (a1, aI G 54 (fl R)), (a2, aI G 54 (fl Rm))]) s [(h0, .inr (2, [.ref a1, .ref a2, .ref a3, .ref a4, .int (nI im), .ref a5, .ref a6, .ref a7, .int (nI lm), .int (nI rm), .int (nI pl), .ref a8, .int sd])), (a1, aI G 54 (fl R)), (a2, aI G 54 (fl (psR R S i)))] H locs := hw
        subst hr
        refine lv_if_ne (tgt := 34) xx xb dX2_pullsSet_28 (by decide) (fun c_28 => ?_) (fun c_28 => ?_)
        · skip
          have c_28 := b1_c c_28
          refine lv_aload_n xx xb dX2_pullsSet_34 rfl (lv_at hl 0 rfl) ?_
          refine m_get C hw 0 rfl fk_X2_13 rfl dX2_pullsSet_35 ?_
          refine lv_iload_n xx xb dX2_pullsSet_38 rfl (lv_at hl 2 rfl) ?_
          have hM := kX2_stands l G a2 (psR R S i) i (OK_psR hR S i (by omega)) (by rw [psR_00]; omega)
          refine cs_i C hw hM ysX2_stands ml_X2_55 rfl [2] rfl rfl (fun _ => (rfl : ([a2] : List Nat) = [a2])) (by decide) ⟨Nat.zero_le _, Nat.zero_le _⟩ hl.1 rfl (Nat.le_of_ble_eq_true rfl) dX2_pullsSet_39 (fun r _ H locs hr hw => ?_)
          have hw : Wd G (fA [(h0, .inr (2, [.ref a1, .ref a2, .ref a3, .ref a4, .int (nI im), .ref a5, .ref a6, .ref a7, .int (nI lm), .int (nI rm), .int (nI pl), .ref a8, .int sd])), (a1, aI G 54 (fl R)), (a2, aI G 54 (fl Rm))]) s [(h0, .inr (2, [.ref a1, .ref a2, .ref a3, .ref a4, .int (nI im), .ref a5, .ref a6, .ref a7, .int (nI lm), .int (nI rm), .int (nI pl), .ref a8, .int sd])), (a1, aI G 54 (fl R)), (a2, aI G 54 (fl (psR R S i)))] H locs := hw
          subst hr
          refine lv_if_ne (tgt := 47) xx xb dX2_pullsSet_42 (by decide) (fun c_42 => ?_) (fun c_42 => ?_)
          · skip
            have c_42 := b1_c c_42
            refine lv_aload_n xx xb dX2_pullsSet_47 rfl (lv_at hl 0 rfl) ?_
            refine m_get C hw 0 rfl fk_X2_13 rfl dX2_pullsSet_48 ?_
            refine lv_iload_n xx xb dX2_pullsSet_51 rfl (lv_at hl 2 rfl) ?_
            refine re_i (onI i) ((onI_lt (by omega)).symm) ?_
            refine lv_bipush (v := nI 9) xx xb dX2_pullsSet_52 (by decide) ?_
            have hM := kX2_pullsIn l G a2 (psR R S i) i 9 (OK_psR hR S i (by omega)) (Or.inr (by rw [psR_00]; omega)) (by first | assumption | omega)
            refine cs_i C hw hM ysX2_pullsIn ml_X2_112 rfl [2] rfl rfl (fun _ => (rfl : ([a2] : List Nat) = [a2])) (by decide) ⟨Nat.zero_le _, Nat.zero_le _⟩ hl.1 rfl (Nat.le_of_ble_eq_true rfl) dX2_pullsSet_54 (fun r _ H locs hr hw => ?_)
            have hw : Wd G (fA [(h0, .inr (2, [.ref a1, .ref a2, .ref a3, .ref a4, .int (nI im), .ref a5, .ref a6, .ref a7, .int (nI lm), .int (nI rm), .int (nI pl), .ref a8, .int sd])), (a1, aI G 54 (fl R)), (a2, aI G 54 (fl Rm))]) s [(h0, .inr (2, [.ref a1, .ref a2, .ref a3, .ref a4, .int (nI im), .ref a5, .ref a6, .ref a7, .int (nI lm), .int (nI rm), .int (nI pl), .ref a8, .int sd])), (a1, aI G 54 (fl R)), (a2, aI G 54 (fl (pulF (psR R S i) i 9)))] H locs := hw
            subst hr
            refine lv_istore_n (lv' := [(3, .int (nI (ct (shkF (psR R S i) i 9) ((psR R S i) 0 0)))), (0, .ref h0), (1, .int (nI S)), (2, .int (nI i))]) xx xb dX2_pullsSet_57 rfl hl (by decide) rfl (fun ls hl => ?_)
            have hw : Wd G (fA [(h0, .inr (2, [.ref a1, .ref a2, .ref a3, .ref a4, .int (nI im), .ref a5, .ref a6, .ref a7, .int (nI lm), .int (nI rm), .int (nI pl), .ref a8, .int sd])), (a1, aI G 54 (fl R)), (a2, aI G 54 (fl Rm))]) s [(h0, .inr (2, [.ref a1, .ref a2, .ref a3, .ref a4, .int (nI im), .ref a5, .ref a6, .ref a7, .int (nI lm), .int (nI rm), .int (nI pl), .ref a8, .int sd])), (a1, aI G 54 (fl R)), (a2, aI G 54 (fl (psR R S (i + 1))))] H locs := by first | (rw [psR_t c_28]; exact hw) | (rw [psR_f c_28]; exact hw)
            have hB2 : psB R S (i + 1) = true := by first | exact psB_s hB (Or.inl c_28) | exact psB_s hB (Or.inr c_42)
            refine lv_iinc (v := nI (i + 1)) (lv' := [(2, .int (nI (i + 1))), (3, .int (nI (ct (shkF (psR R S i) i 9) ((psR R S i) 0 0)))), (0, .ref h0), (1, .int (nI S))]) xx xb dX2_pullsSet_58 hl (k := 3) rfl (nI_add _ 1) (by decide) rfl (fun ls hl => ?_)
            refine lv_goto (tgt := 13) xx xb dX2_pullsSet_61 (by decide) ?_
            exact ih_13 (i + 1) H _ ls (by omega) (by omega) hB2 hw (lv_sub hl [2, 3, 0] rfl)
          · skip
            have c_42 := b0_c c_42
            refine lv_iconst (v := nI 0) xx xb dX2_pullsSet_45 (by decide) ?_
            exact rt_z C hw (psR R S i) (Or.inl rfl) (by first | (have e : i = R 0 0 := (by omega); rw [e] at hB; exact ⟨r1 hB, fun _ => by rw [e]⟩) | exact ⟨r0 (by rw [psB_f c_28 c_42 _ (by omega)]; decide), fun q => by rw [psB_f c_28 c_42 _ (by omega)] at q; cases q⟩) rfl dX2_pullsSet_46
        · skip
          have c_28 := b0_c c_28
          refine lv_goto (tgt := 58) xx xb dX2_pullsSet_31 (by decide) ?_
          have hw : Wd G (fA [(h0, .inr (2, [.ref a1, .ref a2, .ref a3, .ref a4, .int (nI im), .ref a5, .ref a6, .ref a7, .int (nI lm), .int (nI rm), .int (nI pl), .ref a8, .int sd])), (a1, aI G 54 (fl R)), (a2, aI G 54 (fl Rm))]) s [(h0, .inr (2, [.ref a1, .ref a2, .ref a3, .ref a4, .int (nI im), .ref a5, .ref a6, .ref a7, .int (nI lm), .int (nI rm), .int (nI pl), .ref a8, .int sd])), (a1, aI G 54 (fl R)), (a2, aI G 54 (fl (psR R S (i + 1))))] H locs := by first | (rw [psR_t c_28]; exact hw) | (rw [psR_f c_28]; exact hw)
          have hB2 : psB R S (i + 1) = true := by first | exact psB_s hB (Or.inl c_28) | exact psB_s hB (Or.inr c_42)
          refine lv_iinc (v := nI (i + 1)) (lv' := [(2, .int (nI (i + 1))), (0, .ref h0), (1, .int (nI S))]) xx xb dX2_pullsSet_58 hl (k := 2) rfl (nI_add _ 1) (by decide) rfl (fun ls hl => ?_)
          refine lv_goto (tgt := 13) xx xb dX2_pullsSet_61 (by decide) ?_
          exact ih_13 (i + 1) H _ ls (by omega) (by omega) hB2 hw (lv_sub hl [1, 2, 0] rfl)
  exact L_13 (_ + 1) 0 H _ ls (Nat.lt_succ_self _) (by omega) rfl hw (lv_sub hl [1, 2, 0] rfl)
set_option maxRecDepth 100000 in
set_option maxHeartbeats 4000000 in
theorem kX2_standingBy (l : Launch) (G : GT) (h0 : Nat) (a1 : Nat) (a2 : Nat) (a3 : Nat) (a4 : Nat) (a5 : Nat) (a6 : Nat) (a7 : Nat) (a8 : Nat) (im : Nat) (lm : Nat) (rm : Nat) (pl : Nat) (sd : Int32) (R : RT) (Rm : RT) (a : Nat) (b : Nat) (c3 : Nat) (v : Nat) (hR : OK R) (hK : AK R) (ha : a < R 0 0) (hb : b < R 0 0) (hc : c3 < R 0 0) (hv : v ≤ 9) : Ct l yX2_standingBy cX2_standingBy 8 (some .int) 4 91 [.ref h0, .int (nI a), .int (nI b), .int (nI c3), .int (nI v)] G [(h0, .inr (2, [.ref a1, .ref a2, .ref a3, .ref a4, .int (nI im), .ref a5, .ref a6, .ref a7, .int (nI lm), .int (nI rm), .int (nI pl), .ref a8, .int sd])), (a1, aI G 54 (fl R)), (a2, aI G 54 (fl Rm))] (QI G [(h0, .inr (2, [.ref a1, .ref a2, .ref a3, .ref a4, .int (nI im), .ref a5, .ref a6, .ref a7, .int (nI lm), .int (nI rm), .int (nI pl), .ref a8, .int sd])), (a1, aI G 54 (fl R)), (a2, aI G 54 (fl Rm))] (fun (r : Int32) (u : Unit) => r = nI (stN (obF R a b c3 v 10))) (fun u => [(h0, .inr (2, [.ref a1, .ref a2, .ref a3, .ref a4, .int (nI im), .ref a5, .ref a6, .ref a7, .int (nI lm), .int (nI rm), .int (nI pl), .ref a8, .int sd])), (a1, aI G 54 (fl R)), (a2, aI G 54 (fl (obF R a b c3 v 10)))])) := by
  refine en (by decide +kernel) (Nat.le_of_ble_eq_true rfl) ?_
  intro p e s m below meth c ls H locs C hl hw
  have xx := C.1
  have xb := C.2.1
  have hw : Wd G (fA [(h0, .inr (2, [.ref a1, .ref a2, .ref a3, .ref a4, .int (nI im), .ref a5, .ref a6, .ref a7, .int (nI lm), .int (nI rm), .int (nI pl), .ref a8, .int sd])), (a1, aI G 54 (fl R)), (a2, aI G 54 (fl Rm))]) s [(h0, .inr (2, [.ref a1, .ref a2, .ref a3, .ref a4, .int (nI im), .ref a5, .ref a6, .ref a7, .int (nI lm), .int (nI rm), .int (nI pl), .ref a8, .int sd])), (a1, aI G 54 (fl R)), (a2, aI G 54 (fl Rm))] H locs := hw
  have hl : lv_has ls 8 [(0, .ref h0), (1, .int (nI a)), (2, .int (nI b)), (3, .int (nI c3)), (4, .int (nI v))] := hl
  obtain ⟨hn, hf0, hpr, hA⟩ := id hR
  refine lv_aload_n xx xb dX2_standingBy_0 rfl (lv_at hl 0 rfl) ?_
  refine m_get C hw 0 rfl fk_X2_9 rfl dX2_standingBy_1 ?_
  refine lv_aload_n xx xb dX2_standingBy_4 rfl (lv_at hl 0 rfl) ?_
  refine m_get C hw 0 rfl fk_X2_13 rfl dX2_standingBy_5 ?_
  have hM := kX2_copies l G a1 a2 (fl R) (fl Rm) 
  refine cs_v C hw hM ysX2_copies ml_X2_121 rfl [1, 2] rfl rfl (fun _ => (rfl : ([a1, a2] : List Nat) = [a1, a2])) (by decide) ⟨Nat.zero_le _, Nat.zero_le _⟩ hl.1 rfl (Nat.le_of_ble_eq_true rfl) dX2_standingBy_8 (fun _ H locs hr hw => ?_)
  have hw : Wd G (fA [(h0, .inr (2, [.ref a1, .ref a2, .ref a3, .ref a4, .int (nI im), .ref a5, .ref a6, .ref a7, .int (nI lm), .int (nI rm), .int (nI pl), .ref a8, .int sd])), (a1, aI G 54 (fl R)), (a2, aI G 54 (fl Rm))]) s [(h0, .inr (2, [.ref a1, .ref a2, .ref a3, .ref a4, .int (nI im), .ref a5, .ref a6, .ref a7, .int (nI lm), .int (nI rm), .int (nI pl), .ref a8, .int sd])), (a1, aI G 54 (fl R)), (a2, aI G 54 (fl R))] H locs := hw
  refine lv_iconst (v := nI 0) xx xb dX2_standingBy_11 (by decide) ?_
  refine lv_istore (lv' := [(5, .int (nI 0)), (0, .ref h0), (1, .int (nI a)), (2, .int (nI b)), (3, .int (nI c3)), (4, .int (nI v))]) xx xb dX2_standingBy_12 hl (by decide) rfl (fun ls hl => ?_)
  have hw : Wd G (fA [(h0, .inr (2, [.ref a1, .ref a2, .ref a3, .ref a4, .int (nI im), .ref a5, .ref a6, .ref a7, .int (nI lm), .int (nI rm), .int (nI pl), .ref a8, .int sd])), (a1, aI G 54 (fl R)), (a2, aI G 54 (fl Rm))]) s [(h0, .inr (2, [.ref a1, .ref a2, .ref a3, .ref a4, .int (nI im), .ref a5, .ref a6, .ref a7, .int (nI lm), .int (nI rm), .int (nI pl), .ref a8, .int sd])), (a1, aI G 54 (fl R)), (a2, aI G 54 (fl (obF R a b c3 v 0)))] H locs := hw
  have L_14 : ∀ (fu : Nat) (i : Nat) (H : Heap) (locs : List Loc) (ls : Array Slot), 10 - i < fu → (i ≤ 10) → Wd G (fA [(h0, .inr (2, [.ref a1, .ref a2, .ref a3, .ref a4, .int (nI im), .ref a5, .ref a6, .ref a7, .int (nI lm), .int (nI rm), .int (nI pl), .ref a8, .int sd])), (a1, aI G 54 (fl R)), (a2, aI G 54 (fl Rm))]) s [(h0, .inr (2, [.ref a1, .ref a2, .ref a3, .ref a4, .int (nI im), .ref a5, .ref a6, .ref a7, .int (nI lm), .int (nI rm), .int (nI pl), .ref a8, .int sd])), (a1, aI G 54 (fl R)), (a2, aI G 54 (fl (obF R a b c3 v i)))] H locs → lv_has ls 8 [(0, .ref h0), (1, .int (nI a)), (2, .int (nI b)), (3, .int (nI c3)), (4, .int (nI v)), (5, .int (nI i))] → W p l e ({ frames := 4, cells := 0, slots := 0, locals := 91 }) s m (([.ref h0, .int (nI a), .int (nI b), .int (nI c3), .int (nI v)] : List Value).toArray) below meth c H locs 0 0 (MQ below (QI G [(h0, .inr (2, [.ref a1, .ref a2, .ref a3, .ref a4, .int (nI im), .ref a5, .ref a6, .ref a7, .int (nI lm), .int (nI rm), .int (nI pl), .ref a8, .int sd])), (a1, aI G 54 (fl R)), (a2, aI G 54 (fl Rm))] (fun (r : Int32) (u : Unit) => r = nI (stN (obF R a b c3 v 10))) (fun u => [(h0, .inr (2, [.ref a1, .ref a2, .ref a3, .ref a4, .int (nI im), .ref a5, .ref a6, .ref a7, .int (nI lm), .int (nI rm), .int (nI pl), .ref a8, .int sd])), (a1, aI G 54 (fl R)), (a2, aI G 54 (fl (obF R a b c3 v 10)))])) (([.ref h0, .int (nI a), .int (nI b), .int (nI c3), .int (nI v)] : List Value).toArray) s 0 0 (fA [(h0, .inr (2, [.ref a1, .ref a2, .ref a3, .ref a4, .int (nI im), .ref a5, .ref a6, .ref a7, .int (nI lm), .int (nI rm), .int (nI pl), .ref a8, .int sd])), (a1, aI G 54 (fl R)), (a2, aI G 54 (fl Rm))])) (F0 m 14 ls []) := by
    intro fu
    induction fu with
    | zero => intro i H locs ls hfu; exact absurd hfu (Nat.not_lt_zero _)
    | succ fu ih_14 =>
      intro i H locs ls hfu hi hw hl
      refine lv_iload xx xb dX2_standingBy_14 (lv_at hl 5 rfl) ?_
      refine lv_bipush (v := nI 10) xx xb dX2_standingBy_16 (by decide) ?_
      refine lv_icmp_ge (tgt := 102) xx xb dX2_standingBy_18 (by decide) (fun c_18 => ?_) (fun c_18 => ?_)
      · skip
        have c_18 := le_c (tN (by omega)) (tN (by omega)) c_18
        have hw : Wd G (fA [(h0, .inr (2, [.ref a1, .ref a2, .ref a3, .ref a4, .int (nI im), .ref a5, .ref a6, .ref a7, .int (nI lm), .int (nI rm), .int (nI pl), .ref a8, .int sd])), (a1, aI G 54 (fl R)), (a2, aI G 54 (fl Rm))]) s [(h0, .inr (2, [.ref a1, .ref a2, .ref a3, .ref a4, .int (nI im), .ref a5, .ref a6, .ref a7, .int (nI lm), .int (nI rm), .int (nI pl), .ref a8, .int sd])), (a1, aI G 54 (fl R)), (a2, aI G 54 (fl (obF R a b c3 v 10)))] H locs := by rw [show 10 = i by omega]; exact hw
        have hS9 := OK_obF hR ha hb hc v 10
        refine lv_aload_n xx xb dX2_standingBy_102 rfl (lv_at hl 0 rfl) ?_
        have hM := kX2_standingIn l G h0 a1 a2 a3 a4 a5 a6 a7 a8 im lm rm pl sd (obF R a b c3 v 10) (by first | assumption | omega)
        refine cv_i C hw hM yvX2_standingIn ml_X2_138 0 rfl rfl rfl [0, 2] rfl rfl (fun _ => (rfl : ([h0, a2] : List Nat) = [h0, a2])) (by decide) ⟨Nat.zero_le _, Nat.zero_le _⟩ hl.1 rfl (Nat.le_of_ble_eq_true rfl) dX2_standingBy_103 (fun r _ H locs hr hw => ?_)
        have hw : Wd G (fA [(h0, .inr (2, [.ref a1, .ref a2, .ref a3, .ref a4, .int (nI im), .ref a5, .ref a6, .ref a7, .int (nI lm), .int (nI rm), .int (nI pl), .ref a8, .int sd])), (a1, aI G 54 (fl R)), (a2, aI G 54 (fl Rm))]) s [(h0, .inr (2, [.ref a1, .ref a2, .ref a3, .ref a4, .int (nI im), .ref a5, .ref a6, .ref a7, .int (nI lm), .int (nI rm), .int (nI pl), .ref a8, .int sd])), (a1, aI G 54 (fl R)), (a2, aI G 54 (fl (obF R a b c3 v 10)))] H locs := hw
        subst hr
        exact rt_i C hw () rfl rfl dX2_standingBy_106
      · skip
        have c_18 := nle_c (tN (by omega)) (tN (by omega)) c_18
        refine lv_iload xx xb dX2_standingBy_21 (lv_at hl 5 rfl) ?_
        refine lv_if_ne (tgt := 30) xx xb dX2_standingBy_23 (by decide) (fun c_23 => ?_) (fun c_23 => ?_)
        · skip
          have c_23 := ne_c (tN (by omega)) Int32.toInt_zero c_23
          refine lv_iload xx xb dX2_standingBy_30 (lv_at hl 5 rfl) ?_
          refine lv_iconst (v := nI 1) xx xb dX2_standingBy_32 (by decide) ?_
          refine lv_icmp_ne (tgt := 40) xx xb dX2_standingBy_33 (by decide) (fun c_33 => ?_) (fun c_33 => ?_)
          · skip
            have c_33 := ne_c (tN (by omega)) (tN (by omega)) c_33
            refine lv_iload xx xb dX2_standingBy_40 (lv_at hl 5 rfl) ?_
            refine lv_iconst (v := nI 2) xx xb dX2_standingBy_42 (by decide) ?_
            refine lv_icmp_ne (tgt := 50) xx xb dX2_standingBy_43 (by decide) (fun c_43 => ?_) (fun c_43 => ?_)
            · skip
              have c_43 := ne_c (tN (by omega)) (tN (by omega)) c_43
              refine lv_bipush (v := (-9)) xx xb dX2_standingBy_50 (by decide) ?_
              refine re_i (onI (obX a b c3 i)) (by unfold obX; rw [if_neg (by omega), if_neg (by omega), if_neg (by omega)]; rfl) ?_
              refine lv_istore (lv' := [(6, .int (onI (obX a b c3 i))), (0, .ref h0), (1, .int (nI a)), (2, .int (nI b)), (3, .int (nI c3)), (4, .int (nI v)), (5, .int (nI i))]) xx xb dX2_standingBy_52 hl (by decide) rfl (fun ls hl => ?_)
              have hX := obX_lt ha hb hc i
              have hS := OK_obF hR ha hb hc v i
              have hT := AK_obF hR hK ha hb hc v i
              have hN := obF_00 R a b c3 v i
              refine lv_iload xx xb dX2_standingBy_54 (lv_at hl 0 rfl) ?_
              refine lv_if_lt (tgt := 85) xx xb dX2_standingBy_56 (by decide) (fun c_56 => ?_) (fun c_56 => ?_)
              · skip
                have c_56 := (onI_neg (by omega)).mp c_56
                refine lv_iconst (v := nI 0) xx xb dX2_standingBy_85 (by decide) ?_
                refine lv_istore (lv' := [(7, .int (nI 0)), (6, .int (onI (obX a b c3 i))), (0, .ref h0), (1, .int (nI a)), (2, .int (nI b)), (3, .int (nI c3)), (4, .int (nI v)), (5, .int (nI i))]) xx xb dX2_standingBy_86 hl (by decide) rfl (fun ls hl => ?_)
                have hw : Wd G (fA [(h0, .inr (2, [.ref a1, .ref a2, .ref a3, .ref a4, .int (nI im), .ref a5, .ref a6, .ref a7, .int (nI lm), .int (nI rm), .int (nI pl), .ref a8, .int sd])), (a1, aI G 54 (fl R)), (a2, aI G 54 (fl Rm))]) s [(h0, .inr (2, [.ref a1, .ref a2, .ref a3, .ref a4, .int (nI im), .ref a5, .ref a6, .ref a7, .int (nI lm), .int (nI rm), .int (nI pl), .ref a8, .int sd])), (a1, aI G 54 (fl R)), (a2, aI G 54 (fl (obP (obF R a b c3 v i) (obX a b c3 i) v)))] H locs := by unfold obP; first | (rw [if_pos (And.intro (by omega) c_68)]; exact hw) | (rw [if_neg (fun q => c_68 q.2)]; exact hw) | (rw [if_neg (by omega)]; exact hw)
                refine lv_aload_n xx xb dX2_standingBy_88 rfl (lv_at hl 2 rfl) ?_
                refine m_get C hw 0 rfl fk_X2_13 rfl dX2_standingBy_89 ?_
                refine lv_iconst (v := nI 0) xx xb dX2_standingBy_92 (by decide) ?_
                have hM := kX2_minute l G a2 (obP (obF R a b c3 v i) (obX a b c3 i) v) 0 (OK_obP hS (by omega) v) (AK_obP hT _ v) (by first | assumption | omega)
                refine cs_v C hw hM ysX2_minute ml_X2_80 rfl [2] rfl rfl (fun _ => (rfl : ([a2] : List Nat) = [a2])) (by decide) ⟨Nat.zero_le _, Nat.zero_le _⟩ hl.1 rfl (Nat.le_of_ble_eq_true rfl) dX2_standingBy_93 (fun _ H locs hr hw => ?_)
                have hw : Wd G (fA [(h0, .inr (2, [.ref a1, .ref a2, .ref a3, .ref a4, .int (nI im), .ref a5, .ref a6, .ref a7, .int (nI lm), .int (nI rm), .int (nI pl), .ref a8, .int sd])), (a1, aI G 54 (fl R)), (a2, aI G 54 (fl Rm))]) s [(h0, .inr (2, [.ref a1, .ref a2, .ref a3, .ref a4, .int (nI im), .ref a5, .ref a6, .ref a7, .int (nI lm), .int (nI rm), .int (nI pl), .ref a8, .int sd])), (a1, aI G 54 (fl R)), (a2, aI G 54 (fl (miF (obP (obF R a b c3 v i) (obX a b c3 i) v) 0)))] H locs := hw
                have hw : Wd G (fA [(h0, .inr (2, [.ref a1, .ref a2, .ref a3, .ref a4, .int (nI im), .ref a5, .ref a6, .ref a7, .int (nI lm), .int (nI rm), .int (nI pl), .ref a8, .int sd])), (a1, aI G 54 (fl R)), (a2, aI G 54 (fl Rm))]) s [(h0, .inr (2, [.ref a1, .ref a2, .ref a3, .ref a4, .int (nI im), .ref a5, .ref a6, .ref a7, .int (nI lm), .int (nI rm), .int (nI pl), .ref a8, .int sd])), (a1, aI G 54 (fl R)), (a2, aI G 54 (fl (obF R a b c3 v (i + 1))))] H locs := hw
                refine lv_iinc (v := nI (i + 1)) (lv' := [(5, .int (nI (i + 1))), (7, .int (nI 0)), (6, .int (onI (obX a b c3 i))), (0, .ref h0), (1, .int (nI a)), (2, .int (nI b)), (3, .int (nI c3)), (4, .int (nI v))]) xx xb dX2_standingBy_96 hl (k := 7) rfl (nI_add _ 1) (by decide) rfl (fun ls hl => ?_)
                refine lv_goto (tgt := 14) xx xb dX2_standingBy_99 (by decide) ?_
                exact ih_14 (i + 1) H _ ls (by omega) (by omega) hw (lv_sub hl [3, 4, 5, 6, 7, 0] rfl)
              · skip
                have c_56 := mt (onI_neg (by omega)).mpr c_56
                refine lv_aload_n xx xb dX2_standingBy_59 rfl (lv_at hl 1 rfl) ?_
                refine m_get C hw 0 rfl fk_X2_13 rfl dX2_standingBy_60 ?_
                refine lv_iload xx xb dX2_standingBy_63 (lv_at hl 0 rfl) ?_
                refine re_i (nI (obX a b c3 i)) (onI_lt (by omega)) ?_
                have hM := kX2_stands l G a2 (obF R a b c3 v i) (obX a b c3 i) hS (by omega)
                refine cs_i C hw hM ysX2_stands ml_X2_55 rfl [2] rfl rfl (fun _ => (rfl : ([a2] : List Nat) = [a2])) (by decide) ⟨Nat.zero_le _, Nat.zero_le _⟩ hl.1 rfl (Nat.le_of_ble_eq_true rfl) dX2_standingBy_65 (fun r _ H locs hr hw => ?_)
                have hw : Wd G (fA [(h0, .inr (2, [.ref a1, .ref a2, .ref a3, .ref a4, .int (nI im), .ref a5, .ref a6, .ref a7, .int (nI lm), .int (nI rm), .int (nI pl), .ref a8, .int sd])), (a1, aI G 54 (fl R)), (a2, aI G 54 (fl Rm))]) s [(h0, .inr (2, [.ref a1, .ref a2, .ref a3, .ref a4, .int (nI im), .ref a5, .ref a6, .ref a7, .int (nI lm), .int (nI rm), .int (nI pl), .ref a8, .int sd])), (a1, aI G 54 (fl R)), (a2, aI G 54 (fl (obF R a b c3 v i)))] H locs := hw
                subst hr
                refine lv_if_eq (tgt := 85) xx xb dX2_standingBy_68 (by decide) (fun c_68 => ?_) (fun c_68 => ?_)
                · skip
                  have c_68 := b0_c c_68
                  refine lv_iconst (v := nI 0) xx xb dX2_standingBy_85 (by decide) ?_
                  refine lv_istore (lv' := [(7, .int (nI 0)), (6, .int (onI (obX a b c3 i))), (0, .ref h0), (1, .int (nI a)), (2, .int (nI b)), (3, .int (nI c3)), (4, .int (nI v)), (5, .int (nI i))]) xx xb dX2_standingBy_86 hl (by decide) rfl (fun ls hl => ?_)
                  have hw : Wd G (fA [(h0, .inr (2, [.ref a1, .ref a2, .ref a3, .ref a4, .int (nI im), .ref a5, .ref a6, .ref a7, .int (nI lm), .int (nI rm), .int (nI pl), .ref a8, .int sd])), (a1, aI G 54 (fl R)), (a2, aI G 54 (fl Rm))]) s [(h0, .inr (2, [.ref a1, .ref a2, .ref a3, .ref a4, .int (nI im), .ref a5, .ref a6, .ref a7, .int (nI lm), .int (nI rm), .int (nI pl), .ref a8, .int sd])), (a1, aI G 54 (fl R)), (a2, aI G 54 (fl (obP (obF R a b c3 v i) (obX a b c3 i) v)))] H locs := by unfold obP; first | (rw [if_pos (And.intro (by omega) c_68)]; exact hw) | (rw [if_neg (fun q => c_68 q.2)]; exact hw) | (rw [if_neg (by omega)]; exact hw)
                  refine lv_aload_n xx xb dX2_standingBy_88 rfl (lv_at hl 2 rfl) ?_
                  refine m_get C hw 0 rfl fk_X2_13 rfl dX2_standingBy_89 ?_
                  refine lv_iconst (v := nI 0) xx xb dX2_standingBy_92 (by decide) ?_
                  have hM := kX2_minute l G a2 (obP (obF R a b c3 v i) (obX a b c3 i) v) 0 (OK_obP hS (by omega) v) (AK_obP hT _ v) (by first | assumption | omega)
                  refine cs_v C hw hM ysX2_minute ml_X2_80 rfl [2] rfl rfl (fun _ => (rfl : ([a2] : List Nat) = [a2])) (by decide) ⟨Nat.zero_le _, Nat.zero_le _⟩ hl.1 rfl (Nat.le_of_ble_eq_true rfl) dX2_standingBy_93 (fun _ H locs hr hw => ?_)
                  have hw : Wd G (fA [(h0, .inr (2, [.ref a1, .ref a2, .ref a3, .ref a4, .int (nI im), .ref a5, .ref a6, .ref a7, .int (nI lm), .int (nI rm), .int (nI pl), .ref a8, .int sd])), (a1, aI G 54 (fl R)), (a2, aI G 54 (fl Rm))]) s [(h0, .inr (2, [.ref a1, .ref a2, .ref a3, .ref a4, .int (nI im), .ref a5, .ref a6, .ref a7, .int (nI lm), .int (nI rm), .int (nI pl), .ref a8, .int sd])), (a1, aI G 54 (fl R)), (a2, aI G 54 (fl (miF (obP (obF R a b c3 v i) (obX a b c3 i) v) 0)))] H locs := hw
                  have hw : Wd G (fA [(h0, .inr (2, [.ref a1, .ref a2, .ref a3, .ref a4, .int (nI im), .ref a5, .ref a6, .ref a7, .int (nI lm), .int (nI rm), .int (nI pl), .ref a8, .int sd])), (a1, aI G 54 (fl R)), (a2, aI G 54 (fl Rm))]) s [(h0, .inr (2, [.ref a1, .ref a2, .ref a3, .ref a4, .int (nI im), .ref a5, .ref a6, .ref a7, .int (nI lm), .int (nI rm), .int (nI pl), .ref a8, .int sd])), (a1, aI G 54 (fl R)), (a2, aI G 54 (fl (obF R a b c3 v (i + 1))))] H locs := hw
                  refine lv_iinc (v := nI (i + 1)) (lv' := [(5, .int (nI (i + 1))), (7, .int (nI 0)), (6, .int (onI (obX a b c3 i))), (0, .ref h0), (1, .int (nI a)), (2, .int (nI b)), (3, .int (nI c3)), (4, .int (nI v))]) xx xb dX2_standingBy_96 hl (k := 7) rfl (nI_add _ 1) (by decide) rfl (fun ls hl => ?_)
                  refine lv_goto (tgt := 14) xx xb dX2_standingBy_99 (by decide) ?_
                  exact ih_14 (i + 1) H _ ls (by omega) (by omega) hw (lv_sub hl [3, 4, 5, 6, 7, 0] rfl)
                · skip
                  have c_68 := b1_c c_68
                  refine lv_aload_n xx xb dX2_standingBy_71 rfl (lv_at hl 1 rfl) ?_
                  refine m_get C hw 0 rfl fk_X2_13 rfl dX2_standingBy_72 ?_
                  refine lv_iload xx xb dX2_standingBy_75 (lv_at hl 0 rfl) ?_
                  refine lv_iload xx xb dX2_standingBy_77 (lv_at hl 5 rfl) ?_
                  have hM := kX2_pullsIn l G a2 (obF R a b c3 v i) (obX a b c3 i) v hS (by omega) (by first | assumption | omega)
                  refine cs_i C hw hM ysX2_pullsIn ml_X2_112 rfl [2] rfl rfl (fun _ => (rfl : ([a2] : List Nat) = [a2])) (by decide) ⟨Nat.zero_le _, Nat.zero_le _⟩ hl.1 rfl (Nat.le_of_ble_eq_true rfl) dX2_standingBy_79 (fun r _ H locs hr hw => ?_)
                  have hw : Wd G (fA [(h0, .inr (2, [.ref a1, .ref a2, .ref a3, .ref a4, .int (nI im), .ref a5, .ref a6, .ref a7, .int (nI lm), .int (nI rm), .int (nI pl), .ref a8, .int sd])), (a1, aI G 54 (fl R)), (a2, aI G 54 (fl Rm))]) s [(h0, .inr (2, [.ref a1, .ref a2, .ref a3, .ref a4, .int (nI im), .ref a5, .ref a6, .ref a7, .int (nI lm), .int (nI rm), .int (nI pl), .ref a8, .int sd])), (a1, aI G 54 (fl R)), (a2, aI G 54 (fl (pulF (obF R a b c3 v i) (obX a b c3 i) v)))] H locs := hw
                  subst hr
                  refine lv_goto (tgt := 86) xx xb dX2_standingBy_82 (by decide) ?_
                  refine lv_istore (lv' := [(7, .int (nI (ct (shkF (obF R a b c3 v i) (obX a b c3 i) v) ((obF R a b c3 v i) 0 0)))), (6, .int (onI (obX a b c3 i))), (0, .ref h0), (1, .int (nI a)), (2, .int (nI b)), (3, .int (nI c3)), (4, .int (nI v)), (5, .int (nI i))]) xx xb dX2_standingBy_86 hl (by decide) rfl (fun ls hl => ?_)
                  have hw : Wd G (fA [(h0, .inr (2, [.ref a1, .ref a2, .ref a3, .ref a4, .int (nI im), .ref a5, .ref a6, .ref a7, .int (nI lm), .int (nI rm), .int (nI pl), .ref a8, .int sd])), (a1, aI G 54 (fl R)), (a2, aI G 54 (fl Rm))]) s [(h0, .inr (2, [.ref a1, .ref a2, .ref a3, .ref a4, .int (nI im), .ref a5, .ref a6, .ref a7, .int (nI lm), .int (nI rm), .int (nI pl), .ref a8, .int sd])), (a1, aI G 54 (fl R)), (a2, aI G 54 (fl (obP (obF R a b c3 v i) (obX a b c3 i) v)))] H locs := by unfold obP; first | (rw [if_pos (And.intro (by omega) c_68)]; exact hw) | (rw [if_neg (fun q => c_68 q.2)]; exact hw) | (rw [if_neg (by omega)]; exact hw)
                  refine lv_aload_n xx xb dX2_standingBy_88 rfl (lv_at hl 2 rfl) ?_
                  refine m_get C hw 0 rfl fk_X2_13 rfl dX2_standingBy_89 ?_
                  refine lv_iconst (v := nI 0) xx xb dX2_standingBy_92 (by decide) ?_
                  have hM := kX2_minute l G a2 (obP (obF R a b c3 v i) (obX a b c3 i) v) 0 (OK_obP hS (by omega) v) (AK_obP hT _ v) (by first | assumption | omega)
                  refine cs_v C hw hM ysX2_minute ml_X2_80 rfl [2] rfl rfl (fun _ => (rfl : ([a2] : List Nat) = [a2])) (by decide) ⟨Nat.zero_le _, Nat.zero_le _⟩ hl.1 rfl (Nat.le_of_ble_eq_true rfl) dX2_standingBy_93 (fun _ H locs hr hw => ?_)
                  have hw : Wd G (fA [(h0, .inr (2, [.ref a1, .ref a2, .ref a3, .ref a4, .int (nI im), .ref a5, .ref a6, .ref a7, .int (nI lm), .int (nI rm), .int (nI pl), .ref a8, .int sd])), (a1, aI G 54 (fl R)), (a2, aI G 54 (fl Rm))]) s [(h0, .inr (2, [.ref a1, .ref a2, .ref a3, .ref a4, .int (nI im), .ref a5, .ref a6, .ref a7, .int (nI lm), .int (nI rm), .int (nI pl), .ref a8, .int sd])), (a1, aI G 54 (fl R)), (a2, aI G 54 (fl (miF (obP (obF R a b c3 v i) (obX a b c3 i) v) 0)))] H locs := hw
                  have hw : Wd G (fA [(h0, .inr (2, [.ref a1, .ref a2, .ref a3, .ref a4, .int (nI im), .ref a5, .ref a6, .ref a7, .int (nI lm), .int (nI rm), .int (nI pl), .ref a8, .int sd])), (a1, aI G 54 (fl R)), (a2, aI G 54 (fl Rm))]) s [(h0, .inr (2, [.ref a1, .ref a2, .ref a3, .ref a4, .int (nI im), .ref a5, .ref a6, .ref a7, .int (nI lm), .int (nI rm), .int (nI pl), .ref a8, .int sd])), (a1, aI G 54 (fl R)), (a2, aI G 54 (fl (obF R a b c3 v (i + 1))))] H locs := hw
                  refine lv_iinc (v := nI (i + 1)) (lv' := [(5, .int (nI (i + 1))), (7, .int (nI (ct (shkF (obF R a b c3 v i) (obX a b c3 i) v) ((obF R a b c3 v i) 0 0)))), (6, .int (onI (obX a b c3 i))), (0, .ref h0), (1, .int (nI a)), (2, .int (nI b)), (3, .int (nI c3)), (4, .int (nI v))]) xx xb dX2_standingBy_96 hl (k := 7) rfl (nI_add _ 1) (by decide) rfl (fun ls hl => ?_)
                  refine lv_goto (tgt := 14) xx xb dX2_standingBy_99 (by decide) ?_
                  exact ih_14 (i + 1) H _ ls (by omega) (by omega) hw (lv_sub hl [3, 4, 5, 6, 7, 0] rfl)
            · skip
              have c_43 := eq_c (tN (by omega)) (tN (by omega)) c_43
              refine lv_iload_n xx xb dX2_standingBy_46 rfl (lv_at hl 3 rfl) ?_
              refine re_i (onI (obX a b c3 i)) (by unfold obX; rw [if_neg (by omega), if_neg (by omega), if_pos (by omega)]; exact (onI_lt (by omega)).symm) ?_
              refine lv_goto (tgt := 52) xx xb dX2_standingBy_47 (by decide) ?_
              refine lv_istore (lv' := [(6, .int (onI (obX a b c3 i))), (0, .ref h0), (1, .int (nI a)), (2, .int (nI b)), (3, .int (nI c3)), (4, .int (nI v)), (5, .int (nI i))]) xx xb dX2_standingBy_52 hl (by decide) rfl (fun ls hl => ?_)
              have hX := obX_lt ha hb hc i
              have hS := OK_obF hR ha hb hc v i
              have hT := AK_obF hR hK ha hb hc v i
              have hN := obF_00 R a b c3 v i
              refine lv_iload xx xb dX2_standingBy_54 (lv_at hl 0 rfl) ?_
              refine lv_if_lt (tgt := 85) xx xb dX2_standingBy_56 (by decide) (fun c_56 => ?_) (fun c_56 => ?_)
              · skip
                have c_56 := (onI_neg (by omega)).mp c_56
                refine lv_iconst (v := nI 0) xx xb dX2_standingBy_85 (by decide) ?_
                refine lv_istore (lv' := [(7, .int (nI 0)), (6, .int (onI (obX a b c3 i))), (0, .ref h0), (1, .int (nI a)), (2, .int (nI b)), (3, .int (nI c3)), (4, .int (nI v)), (5, .int (nI i))]) xx xb dX2_standingBy_86 hl (by decide) rfl (fun ls hl => ?_)
                have hw : Wd G (fA [(h0, .inr (2, [.ref a1, .ref a2, .ref a3, .ref a4, .int (nI im), .ref a5, .ref a6, .ref a7, .int (nI lm), .int (nI rm), .int (nI pl), .ref a8, .int sd])), (a1, aI G 54 (fl R)), (a2, aI G 54 (fl Rm))]) s [(h0, .inr (2, [.ref a1, .ref a2, .ref a3, .ref a4, .int (nI im), .ref a5, .ref a6, .ref a7, .int (nI lm), .int (nI rm), .int (nI pl), .ref a8, .int sd])), (a1, aI G 54 (fl R)), (a2, aI G 54 (fl (obP (obF R a b c3 v i) (obX a b c3 i) v)))] H locs := by unfold obP; first | (rw [if_pos (And.intro (by omega) c_68)]; exact hw) | (rw [if_neg (fun q => c_68 q.2)]; exact hw) | (rw [if_neg (by omega)]; exact hw)
                refine lv_aload_n xx xb dX2_standingBy_88 rfl (lv_at hl 2 rfl) ?_
                refine m_get C hw 0 rfl fk_X2_13 rfl dX2_standingBy_89 ?_
                refine lv_iconst (v := nI 0) xx xb dX2_standingBy_92 (by decide) ?_
                have hM := kX2_minute l G a2 (obP (obF R a b c3 v i) (obX a b c3 i) v) 0 (OK_obP hS (by omega) v) (AK_obP hT _ v) (by first | assumption | omega)
                refine cs_v C hw hM ysX2_minute ml_X2_80 rfl [2] rfl rfl (fun _ => (rfl : ([a2] : List Nat) = [a2])) (by decide) ⟨Nat.zero_le _, Nat.zero_le _⟩ hl.1 rfl (Nat.le_of_ble_eq_true rfl) dX2_standingBy_93 (fun _ H locs hr hw => ?_)
                have hw : Wd G (fA [(h0, .inr (2, [.ref a1, .ref a2, .ref a3, .ref a4, .int (nI im), .ref a5, .ref a6, .ref a7, .int (nI lm), .int (nI rm), .int (nI pl), .ref a8, .int sd])), (a1, aI G 54 (fl R)), (a2, aI G 54 (fl Rm))]) s [(h0, .inr (2, [.ref a1, .ref a2, .ref a3, .ref a4, .int (nI im), .ref a5, .ref a6, .ref a7, .int (nI lm), .int (nI rm), .int (nI pl), .ref a8, .int sd])), (a1, aI G 54 (fl R)), (a2, aI G 54 (fl (miF (obP (obF R a b c3 v i) (obX a b c3 i) v) 0)))] H locs := hw
                have hw : Wd G (fA [(h0, .inr (2, [.ref a1, .ref a2, .ref a3, .ref a4, .int (nI im), .ref a5, .ref a6, .ref a7, .int (nI lm), .int (nI rm), .int (nI pl), .ref a8, .int sd])), (a1, aI G 54 (fl R)), (a2, aI G 54 (fl Rm))]) s [(h0, .inr (2, [.ref a1, .ref a2, .ref a3, .ref a4, .int (nI im), .ref a5, .ref a6, .ref a7, .int (nI lm), .int (nI rm), .int (nI pl), .ref a8, .int sd])), (a1, aI G 54 (fl R)), (a2, aI G 54 (fl (obF R a b c3 v (i + 1))))] H locs := hw
                refine lv_iinc (v := nI (i + 1)) (lv' := [(5, .int (nI (i + 1))), (7, .int (nI 0)), (6, .int (onI (obX a b c3 i))), (0, .ref h0), (1, .int (nI a)), (2, .int (nI b)), (3, .int (nI c3)), (4, .int (nI v))]) xx xb dX2_standingBy_96 hl (k := 7) rfl (nI_add _ 1) (by decide) rfl (fun ls hl => ?_)
                refine lv_goto (tgt := 14) xx xb dX2_standingBy_99 (by decide) ?_
                exact ih_14 (i + 1) H _ ls (by omega) (by omega) hw (lv_sub hl [3, 4, 5, 6, 7, 0] rfl)
              · skip
                have c_56 := mt (onI_neg (by omega)).mpr c_56
                refine lv_aload_n xx xb dX2_standingBy_59 rfl (lv_at hl 1 rfl) ?_
                refine m_get C hw 0 rfl fk_X2_13 rfl dX2_standingBy_60 ?_
                refine lv_iload xx xb dX2_standingBy_63 (lv_at hl 0 rfl) ?_
                refine re_i (nI (obX a b c3 i)) (onI_lt (by omega)) ?_
                have hM := kX2_stands l G a2 (obF R a b c3 v i) (obX a b c3 i) hS (by omega)
                refine cs_i C hw hM ysX2_stands ml_X2_55 rfl [2] rfl rfl (fun _ => (rfl : ([a2] : List Nat) = [a2])) (by decide) ⟨Nat.zero_le _, Nat.zero_le _⟩ hl.1 rfl (Nat.le_of_ble_eq_true rfl) dX2_standingBy_65 (fun r _ H locs hr hw => ?_)
                have hw : Wd G (fA [(h0, .inr (2, [.ref a1, .ref a2, .ref a3, .ref a4, .int (nI im), .ref a5, .ref a6, .ref a7, .int (nI lm), .int (nI rm), .int (nI pl), .ref a8, .int sd])), (a1, aI G 54 (fl R)), (a2, aI G 54 (fl Rm))]) s [(h0, .inr (2, [.ref a1, .ref a2, .ref a3, .ref a4, .int (nI im), .ref a5, .ref a6, .ref a7, .int (nI lm), .int (nI rm), .int (nI pl), .ref a8, .int sd])), (a1, aI G 54 (fl R)), (a2, aI G 54 (fl (obF R a b c3 v i)))] H locs := hw
                subst hr
                refine lv_if_eq (tgt := 85) xx xb dX2_standingBy_68 (by decide) (fun c_68 => ?_) (fun c_68 => ?_)
                · skip
                  have c_68 := b0_c c_68
                  refine lv_iconst (v := nI 0) xx xb dX2_standingBy_85 (by decide) ?_
                  refine lv_istore (lv' := [(7, .int (nI 0)), (6, .int (onI (obX a b c3 i))), (0, .ref h0), (1, .int (nI a)), (2, .int (nI b)), (3, .int (nI c3)), (4, .int (nI v)), (5, .int (nI i))]) xx xb dX2_standingBy_86 hl (by decide) rfl (fun ls hl => ?_)
                  have hw : Wd G (fA [(h0, .inr (2, [.ref a1, .ref a2, .ref a3, .ref a4, .int (nI im), .ref a5, .ref a6, .ref a7, .int (nI lm), .int (nI rm), .int (nI pl), .ref a8, .int sd])), (a1, aI G 54 (fl R)), (a2, aI G 54 (fl Rm))]) s [(h0, .inr (2, [.ref a1, .ref a2, .ref a3, .ref a4, .int (nI im), .ref a5, .ref a6, .ref a7, .int (nI lm), .int (nI rm), .int (nI pl), .ref a8, .int sd])), (a1, aI G 54 (fl R)), (a2, aI G 54 (fl (obP (obF R a b c3 v i) (obX a b c3 i) v)))] H locs := by unfold obP; first | (rw [if_pos (And.intro (by omega) c_68)]; exact hw) | (rw [if_neg (fun q => c_68 q.2)]; exact hw) | (rw [if_neg (by omega)]; exact hw)
                  refine lv_aload_n xx xb dX2_standingBy_88 rfl (lv_at hl 2 rfl) ?_
                  refine m_get C hw 0 rfl fk_X2_13 rfl dX2_standingBy_89 ?_
                  refine lv_iconst (v := nI 0) xx xb dX2_standingBy_92 (by decide) ?_
                  have hM := kX2_minute l G a2 (obP (obF R a b c3 v i) (obX a b c3 i) v) 0 (OK_obP hS (by omega) v) (AK_obP hT _ v) (by first | assumption | omega)
                  refine cs_v C hw hM ysX2_minute ml_X2_80 rfl [2] rfl rfl (fun _ => (rfl : ([a2] : List Nat) = [a2])) (by decide) ⟨Nat.zero_le _, Nat.zero_le _⟩ hl.1 rfl (Nat.le_of_ble_eq_true rfl) dX2_standingBy_93 (fun _ H locs hr hw => ?_)
                  have hw : Wd G (fA [(h0, .inr (2, [.ref a1, .ref a2, .ref a3, .ref a4, .int (nI im), .ref a5, .ref a6, .ref a7, .int (nI lm), .int (nI rm), .int (nI pl), .ref a8, .int sd])), (a1, aI G 54 (fl R)), (a2, aI G 54 (fl Rm))]) s [(h0, .inr (2, [.ref a1, .ref a2, .ref a3, .ref a4, .int (nI im), .ref a5, .ref a6, .ref a7, .int (nI lm), .int (nI rm), .int (nI pl), .ref a8, .int sd])), (a1, aI G 54 (fl R)), (a2, aI G 54 (fl (miF (obP (obF R a b c3 v i) (obX a b c3 i) v) 0)))] H locs := hw
                  have hw : Wd G (fA [(h0, .inr (2, [.ref a1, .ref a2, .ref a3, .ref a4, .int (nI im), .ref a5, .ref a6, .ref a7, .int (nI lm), .int (nI rm), .int (nI pl), .ref a8, .int sd])), (a1, aI G 54 (fl R)), (a2, aI G 54 (fl Rm))]) s [(h0, .inr (2, [.ref a1, .ref a2, .ref a3, .ref a4, .int (nI im), .ref a5, .ref a6, .ref a7, .int (nI lm), .int (nI rm), .int (nI pl), .ref a8, .int sd])), (a1, aI G 54 (fl R)), (a2, aI G 54 (fl (obF R a b c3 v (i + 1))))] H locs := hw
                  refine lv_iinc (v := nI (i + 1)) (lv' := [(5, .int (nI (i + 1))), (7, .int (nI 0)), (6, .int (onI (obX a b c3 i))), (0, .ref h0), (1, .int (nI a)), (2, .int (nI b)), (3, .int (nI c3)), (4, .int (nI v))]) xx xb dX2_standingBy_96 hl (k := 7) rfl (nI_add _ 1) (by decide) rfl (fun ls hl => ?_)
                  refine lv_goto (tgt := 14) xx xb dX2_standingBy_99 (by decide) ?_
                  exact ih_14 (i + 1) H _ ls (by omega) (by omega) hw (lv_sub hl [3, 4, 5, 6, 7, 0] rfl)
                · skip
                  have c_68 := b1_c c_68
                  refine lv_aload_n xx xb dX2_standingBy_71 rfl (lv_at hl 1 rfl) ?_
                  refine m_get C hw 0 rfl fk_X2_13 rfl dX2_standingBy_72 ?_
                  refine lv_iload xx xb dX2_standingBy_75 (lv_at hl 0 rfl) ?_
                  refine lv_iload xx xb dX2_standingBy_77 (lv_at hl 5 rfl) ?_
                  have hM := kX2_pullsIn l G a2 (obF R a b c3 v i) (obX a b c3 i) v hS (by omega) (by first | assumption | omega)
                  refine cs_i C hw hM ysX2_pullsIn ml_X2_112 rfl [2] rfl rfl (fun _ => (rfl : ([a2] : List Nat) = [a2])) (by decide) ⟨Nat.zero_le _, Nat.zero_le _⟩ hl.1 rfl (Nat.le_of_ble_eq_true rfl) dX2_standingBy_79 (fun r _ H locs hr hw => ?_)
                  have hw : Wd G (fA [(h0, .inr (2, [.ref a1, .ref a2, .ref a3, .ref a4, .int (nI im), .ref a5, .ref a6, .ref a7, .int (nI lm), .int (nI rm), .int (nI pl), .ref a8, .int sd])), (a1, aI G 54 (fl R)), (a2, aI G 54 (fl Rm))]) s [(h0, .inr (2, [.ref a1, .ref a2, .ref a3, .ref a4, .int (nI im), .ref a5, .ref a6, .ref a7, .int (nI lm), .int (nI rm), .int (nI pl), .ref a8, .int sd])), (a1, aI G 54 (fl R)), (a2, aI G 54 (fl (pulF (obF R a b c3 v i) (obX a b c3 i) v)))] H locs := hw
                  subst hr
                  refine lv_goto (tgt := 86) xx xb dX2_standingBy_82 (by decide) ?_
                  refine lv_istore (lv' := [(7, .int (nI (ct (shkF (obF R a b c3 v i) (obX a b c3 i) v) ((obF R a b c3 v i) 0 0)))), (6, .int (onI (obX a b c3 i))), (0, .ref h0), (1, .int (nI a)), (2, .int (nI b)), (3, .int (nI c3)), (4, .int (nI v)), (5, .int (nI i))]) xx xb dX2_standingBy_86 hl (by decide) rfl (fun ls hl => ?_)
                  have hw : Wd G (fA [(h0, .inr (2, [.ref a1, .ref a2, .ref a3, .ref a4, .int (nI im), .ref a5, .ref a6, .ref a7, .int (nI lm), .int (nI rm), .int (nI pl), .ref a8, .int sd])), (a1, aI G 54 (fl R)), (a2, aI G 54 (fl Rm))]) s [(h0, .inr (2, [.ref a1, .ref a2, .ref a3, .ref a4, .int (nI im), .ref a5, .ref a6, .ref a7, .int (nI lm), .int (nI rm), .int (nI pl), .ref a8, .int sd])), (a1, aI G 54 (fl R)), (a2, aI G 54 (fl (obP (obF R a b c3 v i) (obX a b c3 i) v)))] H locs := by unfold obP; first | (rw [if_pos (And.intro (by omega) c_68)]; exact hw) | (rw [if_neg (fun q => c_68 q.2)]; exact hw) | (rw [if_neg (by omega)]; exact hw)
                  refine lv_aload_n xx xb dX2_standingBy_88 rfl (lv_at hl 2 rfl) ?_
                  refine m_get C hw 0 rfl fk_X2_13 rfl dX2_standingBy_89 ?_
                  refine lv_iconst (v := nI 0) xx xb dX2_standingBy_92 (by decide) ?_
                  have hM := kX2_minute l G a2 (obP (obF R a b c3 v i) (obX a b c3 i) v) 0 (OK_obP hS (by omega) v) (AK_obP hT _ v) (by first | assumption | omega)
                  refine cs_v C hw hM ysX2_minute ml_X2_80 rfl [2] rfl rfl (fun _ => (rfl : ([a2] : List Nat) = [a2])) (by decide) ⟨Nat.zero_le _, Nat.zero_le _⟩ hl.1 rfl (Nat.le_of_ble_eq_true rfl) dX2_standingBy_93 (fun _ H locs hr hw => ?_)
                  have hw : Wd G (fA [(h0, .inr (2, [.ref a1, .ref a2, .ref a3, .ref a4, .int (nI im), .ref a5, .ref a6, .ref a7, .int (nI lm), .int (nI rm), .int (nI pl), .ref a8, .int sd])), (a1, aI G 54 (fl R)), (a2, aI G 54 (fl Rm))]) s [(h0, .inr (2, [.ref a1, .ref a2, .ref a3, .ref a4, .int (nI im), .ref a5, .ref a6, .ref a7, .int (nI lm), .int (nI rm), .int (nI pl), .ref a8, .int sd])), (a1, aI G 54 (fl R)), (a2, aI G 54 (fl (miF (obP (obF R a b c3 v i) (obX a b c3 i) v) 0)))] H locs := hw
                  have hw : Wd G (fA [(h0, .inr (2, [.ref a1, .ref a2, .ref a3, .ref a4, .int (nI im), .ref a5, .ref a6, .ref a7, .int (nI lm), .int (nI rm), .int (nI pl), .ref a8, .int sd])), (a1, aI G 54 (fl R)), (a2, aI G 54 (fl Rm))]) s [(h0, .inr (2, [.ref a1, .ref a2, .ref a3, .ref a4, .int (nI im), .ref a5, .ref a6, .ref a7, .int (nI lm), .int (nI rm), .int (nI pl), .ref a8, .int sd])), (a1, aI G 54 (fl R)), (a2, aI G 54 (fl (obF R a b c3 v (i + 1))))] H locs := hw
                  refine lv_iinc (v := nI (i + 1)) (lv' := [(5, .int (nI (i + 1))), (7, .int (nI (ct (shkF (obF R a b c3 v i) (obX a b c3 i) v) ((obF R a b c3 v i) 0 0)))), (6, .int (onI (obX a b c3 i))), (0, .ref h0), (1, .int (nI a)), (2, .int (nI b)), (3, .int (nI c3)), (4, .int (nI v))]) xx xb dX2_standingBy_96 hl (k := 7) rfl (nI_add _ 1) (by decide) rfl (fun ls hl => ?_)
                  refine lv_goto (tgt := 14) xx xb dX2_standingBy_99 (by decide) ?_
                  exact ih_14 (i + 1) H _ ls (by omega) (by omega) hw (lv_sub hl [3, 4, 5, 6, 7, 0] rfl)
          · skip
            have c_33 := eq_c (tN (by omega)) (tN (by omega)) c_33
            refine lv_iload_n xx xb dX2_standingBy_36 rfl (lv_at hl 2 rfl) ?_
            refine re_i (onI (obX a b c3 i)) (by unfold obX; rw [if_neg (by omega), if_pos (by omega)]; exact (onI_lt (by omega)).symm) ?_
            refine lv_goto (tgt := 52) xx xb dX2_standingBy_37 (by decide) ?_
            refine lv_istore (lv' := [(6, .int (onI (obX a b c3 i))), (0, .ref h0), (1, .int (nI a)), (2, .int (nI b)), (3, .int (nI c3)), (4, .int (nI v)), (5, .int (nI i))]) xx xb dX2_standingBy_52 hl (by decide) rfl (fun ls hl => ?_)
            have hX := obX_lt ha hb hc i
            have hS := OK_obF hR ha hb hc v i
            have hT := AK_obF hR hK ha hb hc v i
            have hN := obF_00 R a b c3 v i
            refine lv_iload xx xb dX2_standingBy_54 (lv_at hl 0 rfl) ?_
            refine lv_if_lt (tgt := 85) xx xb dX2_standingBy_56 (by decide) (fun c_56 => ?_) (fun c_56 => ?_)
            · skip
              have c_56 := (onI_neg (by omega)).mp c_56
              refine lv_iconst (v := nI 0) xx xb dX2_standingBy_85 (by decide) ?_
              refine lv_istore (lv' := [(7, .int (nI 0)), (6, .int (onI (obX a b c3 i))), (0, .ref h0), (1, .int (nI a)), (2, .int (nI b)), (3, .int (nI c3)), (4, .int (nI v)), (5, .int (nI i))]) xx xb dX2_standingBy_86 hl (by decide) rfl (fun ls hl => ?_)
              have hw : Wd G (fA [(h0, .inr (2, [.ref a1, .ref a2, .ref a3, .ref a4, .int (nI im), .ref a5, .ref a6, .ref a7, .int (nI lm), .int (nI rm), .int (nI pl), .ref a8, .int sd])), (a1, aI G 54 (fl R)), (a2, aI G 54 (fl Rm))]) s [(h0, .inr (2, [.ref a1, .ref a2, .ref a3, .ref a4, .int (nI im), .ref a5, .ref a6, .ref a7, .int (nI lm), .int (nI rm), .int (nI pl), .ref a8, .int sd])), (a1, aI G 54 (fl R)), (a2, aI G 54 (fl (obP (obF R a b c3 v i) (obX a b c3 i) v)))] H locs := by unfold obP; first | (rw [if_pos (And.intro (by omega) c_68)]; exact hw) | (rw [if_neg (fun q => c_68 q.2)]; exact hw) | (rw [if_neg (by omega)]; exact hw)
              refine lv_aload_n xx xb dX2_standingBy_88 rfl (lv_at hl 2 rfl) ?_
              refine m_get C hw 0 rfl fk_X2_13 rfl dX2_standingBy_89 ?_
              refine lv_iconst (v := nI 0) xx xb dX2_standingBy_92 (by decide) ?_
              have hM := kX2_minute l G a2 (obP (obF R a b c3 v i) (obX a b c3 i) v) 0 (OK_obP hS (by omega) v) (AK_obP hT _ v) (by first | assumption | omega)
              refine cs_v C hw hM ysX2_minute ml_X2_80 rfl [2] rfl rfl (fun _ => (rfl : ([a2] : List Nat) = [a2])) (by decide) ⟨Nat.zero_le _, Nat.zero_le _⟩ hl.1 rfl (Nat.le_of_ble_eq_true rfl) dX2_standingBy_93 (fun _ H locs hr hw => ?_)
              have hw : Wd G (fA [(h0, .inr (2, [.ref a1, .ref a2, .ref a3, .ref a4, .int (nI im), .ref a5, .ref a6, .ref a7, .int (nI lm), .int (nI rm), .int (nI pl), .ref a8, .int sd])), (a1, aI G 54 (fl R)), (a2, aI G 54 (fl Rm))]) s [(h0, .inr (2, [.ref a1, .ref a2, .ref a3, .ref a4, .int (nI im), .ref a5, .ref a6, .ref a7, .int (nI lm), .int (nI rm), .int (nI pl), .ref a8, .int sd])), (a1, aI G 54 (fl R)), (a2, aI G 54 (fl (miF (obP (obF R a b c3 v i) (obX a b c3 i) v) 0)))] H locs := hw
              have hw : Wd G (fA [(h0, .inr (2, [.ref a1, .ref a2, .ref a3, .ref a4, .int (nI im), .ref a5, .ref a6, .ref a7, .int (nI lm), .int (nI rm), .int (nI pl), .ref a8, .int sd])), (a1, aI G 54 (fl R)), (a2, aI G 54 (fl Rm))]) s [(h0, .inr (2, [.ref a1, .ref a2, .ref a3, .ref a4, .int (nI im), .ref a5, .ref a6, .ref a7, .int (nI lm), .int (nI rm), .int (nI pl), .ref a8, .int sd])), (a1, aI G 54 (fl R)), (a2, aI G 54 (fl (obF R a b c3 v (i + 1))))] H locs := hw
              refine lv_iinc (v := nI (i + 1)) (lv' := [(5, .int (nI (i + 1))), (7, .int (nI 0)), (6, .int (onI (obX a b c3 i))), (0, .ref h0), (1, .int (nI a)), (2, .int (nI b)), (3, .int (nI c3)), (4, .int (nI v))]) xx xb dX2_standingBy_96 hl (k := 7) rfl (nI_add _ 1) (by decide) rfl (fun ls hl => ?_)
              refine lv_goto (tgt := 14) xx xb dX2_standingBy_99 (by decide) ?_
              exact ih_14 (i + 1) H _ ls (by omega) (by omega) hw (lv_sub hl [3, 4, 5, 6, 7, 0] rfl)
            · skip
              have c_56 := mt (onI_neg (by omega)).mpr c_56
              refine lv_aload_n xx xb dX2_standingBy_59 rfl (lv_at hl 1 rfl) ?_
              refine m_get C hw 0 rfl fk_X2_13 rfl dX2_standingBy_60 ?_
              refine lv_iload xx xb dX2_standingBy_63 (lv_at hl 0 rfl) ?_
              refine re_i (nI (obX a b c3 i)) (onI_lt (by omega)) ?_
              have hM := kX2_stands l G a2 (obF R a b c3 v i) (obX a b c3 i) hS (by omega)
              refine cs_i C hw hM ysX2_stands ml_X2_55 rfl [2] rfl rfl (fun _ => (rfl : ([a2] : List Nat) = [a2])) (by decide) ⟨Nat.zero_le _, Nat.zero_le _⟩ hl.1 rfl (Nat.le_of_ble_eq_true rfl) dX2_standingBy_65 (fun r _ H locs hr hw => ?_)
              have hw : Wd G (fA [(h0, .inr (2, [.ref a1, .ref a2, .ref a3, .ref a4, .int (nI im), .ref a5, .ref a6, .ref a7, .int (nI lm), .int (nI rm), .int (nI pl), .ref a8, .int sd])), (a1, aI G 54 (fl R)), (a2, aI G 54 (fl Rm))]) s [(h0, .inr (2, [.ref a1, .ref a2, .ref a3, .ref a4, .int (nI im), .ref a5, .ref a6, .ref a7, .int (nI lm), .int (nI rm), .int (nI pl), .ref a8, .int sd])), (a1, aI G 54 (fl R)), (a2, aI G 54 (fl (obF R a b c3 v i)))] H locs := hw
              subst hr
              refine lv_if_eq (tgt := 85) xx xb dX2_standingBy_68 (by decide) (fun c_68 => ?_) (fun c_68 => ?_)
              · skip
                have c_68 := b0_c c_68
                refine lv_iconst (v := nI 0) xx xb dX2_standingBy_85 (by decide) ?_
                refine lv_istore (lv' := [(7, .int (nI 0)), (6, .int (onI (obX a b c3 i))), (0, .ref h0), (1, .int (nI a)), (2, .int (nI b)), (3, .int (nI c3)), (4, .int (nI v)), (5, .int (nI i))]) xx xb dX2_standingBy_86 hl (by decide) rfl (fun ls hl => ?_)
                have hw : Wd G (fA [(h0, .inr (2, [.ref a1, .ref a2, .ref a3, .ref a4, .int (nI im), .ref a5, .ref a6, .ref a7, .int (nI lm), .int (nI rm), .int (nI pl), .ref a8, .int sd])), (a1, aI G 54 (fl R)), (a2, aI G 54 (fl Rm))]) s [(h0, .inr (2, [.ref a1, .ref a2, .ref a3, .ref a4, .int (nI im), .ref a5, .ref a6, .ref a7, .int (nI lm), .int (nI rm), .int (nI pl), .ref a8, .int sd])), (a1, aI G 54 (fl R)), (a2, aI G 54 (fl (obP (obF R a b c3 v i) (obX a b c3 i) v)))] H locs := by unfold obP; first | (rw [if_pos (And.intro (by omega) c_68)]; exact hw) | (rw [if_neg (fun q => c_68 q.2)]; exact hw) | (rw [if_neg (by omega)]; exact hw)
                refine lv_aload_n xx xb dX2_standingBy_88 rfl (lv_at hl 2 rfl) ?_
                refine m_get C hw 0 rfl fk_X2_13 rfl dX2_standingBy_89 ?_
                refine lv_iconst (v := nI 0) xx xb dX2_standingBy_92 (by decide) ?_
                have hM := kX2_minute l G a2 (obP (obF R a b c3 v i) (obX a b c3 i) v) 0 (OK_obP hS (by omega) v) (AK_obP hT _ v) (by first | assumption | omega)
                refine cs_v C hw hM ysX2_minute ml_X2_80 rfl [2] rfl rfl (fun _ => (rfl : ([a2] : List Nat) = [a2])) (by decide) ⟨Nat.zero_le _, Nat.zero_le _⟩ hl.1 rfl (Nat.le_of_ble_eq_true rfl) dX2_standingBy_93 (fun _ H locs hr hw => ?_)
                have hw : Wd G (fA [(h0, .inr (2, [.ref a1, .ref a2, .ref a3, .ref a4, .int (nI im), .ref a5, .ref a6, .ref a7, .int (nI lm), .int (nI rm), .int (nI pl), .ref a8, .int sd])), (a1, aI G 54 (fl R)), (a2, aI G 54 (fl Rm))]) s [(h0, .inr (2, [.ref a1, .ref a2, .ref a3, .ref a4, .int (nI im), .ref a5, .ref a6, .ref a7, .int (nI lm), .int (nI rm), .int (nI pl), .ref a8, .int sd])), (a1, aI G 54 (fl R)), (a2, aI G 54 (fl (miF (obP (obF R a b c3 v i) (obX a b c3 i) v) 0)))] H locs := hw
                have hw : Wd G (fA [(h0, .inr (2, [.ref a1, .ref a2, .ref a3, .ref a4, .int (nI im), .ref a5, .ref a6, .ref a7, .int (nI lm), .int (nI rm), .int (nI pl), .ref a8, .int sd])), (a1, aI G 54 (fl R)), (a2, aI G 54 (fl Rm))]) s [(h0, .inr (2, [.ref a1, .ref a2, .ref a3, .ref a4, .int (nI im), .ref a5, .ref a6, .ref a7, .int (nI lm), .int (nI rm), .int (nI pl), .ref a8, .int sd])), (a1, aI G 54 (fl R)), (a2, aI G 54 (fl (obF R a b c3 v (i + 1))))] H locs := hw
                refine lv_iinc (v := nI (i + 1)) (lv' := [(5, .int (nI (i + 1))), (7, .int (nI 0)), (6, .int (onI (obX a b c3 i))), (0, .ref h0), (1, .int (nI a)), (2, .int (nI b)), (3, .int (nI c3)), (4, .int (nI v))]) xx xb dX2_standingBy_96 hl (k := 7) rfl (nI_add _ 1) (by decide) rfl (fun ls hl => ?_)
                refine lv_goto (tgt := 14) xx xb dX2_standingBy_99 (by decide) ?_
                exact ih_14 (i + 1) H _ ls (by omega) (by omega) hw (lv_sub hl [3, 4, 5, 6, 7, 0] rfl)
              · skip
                have c_68 := b1_c c_68
                refine lv_aload_n xx xb dX2_standingBy_71 rfl (lv_at hl 1 rfl) ?_
                refine m_get C hw 0 rfl fk_X2_13 rfl dX2_standingBy_72 ?_
                refine lv_iload xx xb dX2_standingBy_75 (lv_at hl 0 rfl) ?_
                refine lv_iload xx xb dX2_standingBy_77 (lv_at hl 5 rfl) ?_
                have hM := kX2_pullsIn l G a2 (obF R a b c3 v i) (obX a b c3 i) v hS (by omega) (by first | assumption | omega)
                refine cs_i C hw hM ysX2_pullsIn ml_X2_112 rfl [2] rfl rfl (fun _ => (rfl : ([a2] : List Nat) = [a2])) (by decide) ⟨Nat.zero_le _, Nat.zero_le _⟩ hl.1 rfl (Nat.le_of_ble_eq_true rfl) dX2_standingBy_79 (fun r _ H locs hr hw => ?_)
                have hw : Wd G (fA [(h0, .inr (2, [.ref a1, .ref a2, .ref a3, .ref a4, .int (nI im), .ref a5, .ref a6, .ref a7, .int (nI lm), .int (nI rm), .int (nI pl), .ref a8, .int sd])), (a1, aI G 54 (fl R)), (a2, aI G 54 (fl Rm))]) s [(h0, .inr (2, [.ref a1, .ref a2, .ref a3, .ref a4, .int (nI im), .ref a5, .ref a6, .ref a7, .int (nI lm), .int (nI rm), .int (nI pl), .ref a8, .int sd])), (a1, aI G 54 (fl R)), (a2, aI G 54 (fl (pulF (obF R a b c3 v i) (obX a b c3 i) v)))] H locs := hw
                subst hr
                refine lv_goto (tgt := 86) xx xb dX2_standingBy_82 (by decide) ?_
                refine lv_istore (lv' := [(7, .int (nI (ct (shkF (obF R a b c3 v i) (obX a b c3 i) v) ((obF R a b c3 v i) 0 0)))), (6, .int (onI (obX a b c3 i))), (0, .ref h0), (1, .int (nI a)), (2, .int (nI b)), (3, .int (nI c3)), (4, .int (nI v)), (5, .int (nI i))]) xx xb dX2_standingBy_86 hl (by decide) rfl (fun ls hl => ?_)
                have hw : Wd G (fA [(h0, .inr (2, [.ref a1, .ref a2, .ref a3, .ref a4, .int (nI im), .ref a5, .ref a6, .ref a7, .int (nI lm), .int (nI rm), .int (nI pl), .ref a8, .int sd])), (a1, aI G 54 (fl R)), (a2, aI G 54 (fl Rm))]) s [(h0, .inr (2, [.ref a1, .ref a2, .ref a3, .ref a4, .int (nI im), .ref a5, .ref a6, .ref a7, .int (nI lm), .int (nI rm), .int (nI pl), .ref a8, .int sd])), (a1, aI G 54 (fl R)), (a2, aI G 54 (fl (obP (obF R a b c3 v i) (obX a b c3 i) v)))] H locs := by unfold obP; first | (rw [if_pos (And.intro (by omega) c_68)]; exact hw) | (rw [if_neg (fun q => c_68 q.2)]; exact hw) | (rw [if_neg (by omega)]; exact hw)
                refine lv_aload_n xx xb dX2_standingBy_88 rfl (lv_at hl 2 rfl) ?_
                refine m_get C hw 0 rfl fk_X2_13 rfl dX2_standingBy_89 ?_
                refine lv_iconst (v := nI 0) xx xb dX2_standingBy_92 (by decide) ?_
                have hM := kX2_minute l G a2 (obP (obF R a b c3 v i) (obX a b c3 i) v) 0 (OK_obP hS (by omega) v) (AK_obP hT _ v) (by first | assumption | omega)
                refine cs_v C hw hM ysX2_minute ml_X2_80 rfl [2] rfl rfl (fun _ => (rfl : ([a2] : List Nat) = [a2])) (by decide) ⟨Nat.zero_le _, Nat.zero_le _⟩ hl.1 rfl (Nat.le_of_ble_eq_true rfl) dX2_standingBy_93 (fun _ H locs hr hw => ?_)
                have hw : Wd G (fA [(h0, .inr (2, [.ref a1, .ref a2, .ref a3, .ref a4, .int (nI im), .ref a5, .ref a6, .ref a7, .int (nI lm), .int (nI rm), .int (nI pl), .ref a8, .int sd])), (a1, aI G 54 (fl R)), (a2, aI G 54 (fl Rm))]) s [(h0, .inr (2, [.ref a1, .ref a2, .ref a3, .ref a4, .int (nI im), .ref a5, .ref a6, .ref a7, .int (nI lm), .int (nI rm), .int (nI pl), .ref a8, .int sd])), (a1, aI G 54 (fl R)), (a2, aI G 54 (fl (miF (obP (obF R a b c3 v i) (obX a b c3 i) v) 0)))] H locs := hw
                have hw : Wd G (fA [(h0, .inr (2, [.ref a1, .ref a2, .ref a3, .ref a4, .int (nI im), .ref a5, .ref a6, .ref a7, .int (nI lm), .int (nI rm), .int (nI pl), .ref a8, .int sd])), (a1, aI G 54 (fl R)), (a2, aI G 54 (fl Rm))]) s [(h0, .inr (2, [.ref a1, .ref a2, .ref a3, .ref a4, .int (nI im), .ref a5, .ref a6, .ref a7, .int (nI lm), .int (nI rm), .int (nI pl), .ref a8, .int sd])), (a1, aI G 54 (fl R)), (a2, aI G 54 (fl (obF R a b c3 v (i + 1))))] H locs := hw
                refine lv_iinc (v := nI (i + 1)) (lv' := [(5, .int (nI (i + 1))), (7, .int (nI (ct (shkF (obF R a b c3 v i) (obX a b c3 i) v) ((obF R a b c3 v i) 0 0)))), (6, .int (onI (obX a b c3 i))), (0, .ref h0), (1, .int (nI a)), (2, .int (nI b)), (3, .int (nI c3)), (4, .int (nI v))]) xx xb dX2_standingBy_96 hl (k := 7) rfl (nI_add _ 1) (by decide) rfl (fun ls hl => ?_)
                refine lv_goto (tgt := 14) xx xb dX2_standingBy_99 (by decide) ?_
                exact ih_14 (i + 1) H _ ls (by omega) (by omega) hw (lv_sub hl [3, 4, 5, 6, 7, 0] rfl)
        · skip
          have c_23 := eq_c (tN (by omega)) Int32.toInt_zero c_23
          refine lv_iload_n xx xb dX2_standingBy_26 rfl (lv_at hl 1 rfl) ?_
          refine re_i (onI (obX a b c3 i)) (by unfold obX; rw [if_pos (by omega)]; exact (onI_lt (by omega)).symm) ?_
          refine lv_goto (tgt := 52) xx xb dX2_standingBy_27 (by decide) ?_
          refine lv_istore (lv' := [(6, .int (onI (obX a b c3 i))), (0, .ref h0), (1, .int (nI a)), (2, .int (nI b)), (3, .int (nI c3)), (4, .int (nI v)), (5, .int (nI i))]) xx xb dX2_standingBy_52 hl (by decide) rfl (fun ls hl => ?_)
          have hX := obX_lt ha hb hc i
          have hS := OK_obF hR ha hb hc v i
          have hT := AK_obF hR hK ha hb hc v i
          have hN := obF_00 R a b c3 v i
          refine lv_iload xx xb dX2_standingBy_54 (lv_at hl 0 rfl) ?_
          refine lv_if_lt (tgt := 85) xx xb dX2_standingBy_56 (by decide) (fun c_56 => ?_) (fun c_56 => ?_)
          · skip
            have c_56 := (onI_neg (by omega)).mp c_56
            refine lv_iconst (v := nI 0) xx xb dX2_standingBy_85 (by decide) ?_
            refine lv_istore (lv' := [(7, .int (nI 0)), (6, .int (onI (obX a b c3 i))), (0, .ref h0), (1, .int (nI a)), (2, .int (nI b)), (3, .int (nI c3)), (4, .int (nI v)), (5, .int (nI i))]) xx xb dX2_standingBy_86 hl (by decide) rfl (fun ls hl => ?_)
            have hw : Wd G (fA [(h0, .inr (2, [.ref a1, .ref a2, .ref a3, .ref a4, .int (nI im), .ref a5, .ref a6, .ref a7, .int (nI lm), .int (nI rm), .int (nI pl), .ref a8, .int sd])), (a1, aI G 54 (fl R)), (a2, aI G 54 (fl Rm))]) s [(h0, .inr (2, [.ref a1, .ref a2, .ref a3, .ref a4, .int (nI im), .ref a5, .ref a6, .ref a7, .int (nI lm), .int (nI rm), .int (nI pl), .ref a8, .int sd])), (a1, aI G 54 (fl R)), (a2, aI G 54 (fl (obP (obF R a b c3 v i) (obX a b c3 i) v)))] H locs := by unfold obP; first | (rw [if_pos (And.intro (by omega) c_68)]; exact hw) | (rw [if_neg (fun q => c_68 q.2)]; exact hw) | (rw [if_neg (by omega)]; exact hw)
            refine lv_aload_n xx xb dX2_standingBy_88 rfl (lv_at hl 2 rfl) ?_
            refine m_get C hw 0 rfl fk_X2_13 rfl dX2_standingBy_89 ?_
            refine lv_iconst (v := nI 0) xx xb dX2_standingBy_92 (by decide) ?_
            have hM := kX2_minute l G a2 (obP (obF R a b c3 v i) (obX a b c3 i) v) 0 (OK_obP hS (by omega) v) (AK_obP hT _ v) (by first | assumption | omega)
            refine cs_v C hw hM ysX2_minute ml_X2_80 rfl [2] rfl rfl (fun _ => (rfl : ([a2] : List Nat) = [a2])) (by decide) ⟨Nat.zero_le _, Nat.zero_le _⟩ hl.1 rfl (Nat.le_of_ble_eq_true rfl) dX2_standingBy_93 (fun _ H locs hr hw => ?_)
            have hw : Wd G (fA [(h0, .inr (2, [.ref a1, .ref a2, .ref a3, .ref a4, .int (nI im), .ref a5, .ref a6, .ref a7, .int (nI lm), .int (nI rm), .int (nI pl), .ref a8, .int sd])), (a1, aI G 54 (fl R)), (a2, aI G 54 (fl Rm))]) s [(h0, .inr (2, [.ref a1, .ref a2, .ref a3, .ref a4, .int (nI im), .ref a5, .ref a6, .ref a7, .int (nI lm), .int (nI rm), .int (nI pl), .ref a8, .int sd])), (a1, aI G 54 (fl R)), (a2, aI G 54 (fl (miF (obP (obF R a b c3 v i) (obX a b c3 i) v) 0)))] H locs := hw
            have hw : Wd G (fA [(h0, .inr (2, [.ref a1, .ref a2, .ref a3, .ref a4, .int (nI im), .ref a5, .ref a6, .ref a7, .int (nI lm), .int (nI rm), .int (nI pl), .ref a8, .int sd])), (a1, aI G 54 (fl R)), (a2, aI G 54 (fl Rm))]) s [(h0, .inr (2, [.ref a1, .ref a2, .ref a3, .ref a4, .int (nI im), .ref a5, .ref a6, .ref a7, .int (nI lm), .int (nI rm), .int (nI pl), .ref a8, .int sd])), (a1, aI G 54 (fl R)), (a2, aI G 54 (fl (obF R a b c3 v (i + 1))))] H locs := hw
            refine lv_iinc (v := nI (i + 1)) (lv' := [(5, .int (nI (i + 1))), (7, .int (nI 0)), (6, .int (onI (obX a b c3 i))), (0, .ref h0), (1, .int (nI a)), (2, .int (nI b)), (3, .int (nI c3)), (4, .int (nI v))]) xx xb dX2_standingBy_96 hl (k := 7) rfl (nI_add _ 1) (by decide) rfl (fun ls hl => ?_)
            refine lv_goto (tgt := 14) xx xb dX2_standingBy_99 (by decide) ?_
            exact ih_14 (i + 1) H _ ls (by omega) (by omega) hw (lv_sub hl [3, 4, 5, 6, 7, 0] rfl)
          · skip
            have c_56 := mt (onI_neg (by omega)).mpr c_56
            refine lv_aload_n xx xb dX2_standingBy_59 rfl (lv_at hl 1 rfl) ?_
            refine m_get C hw 0 rfl fk_X2_13 rfl dX2_standingBy_60 ?_
            refine lv_iload xx xb dX2_standingBy_63 (lv_at hl 0 rfl) ?_
            refine re_i (nI (obX a b c3 i)) (onI_lt (by omega)) ?_
            have hM := kX2_stands l G a2 (obF R a b c3 v i) (obX a b c3 i) hS (by omega)
            refine cs_i C hw hM ysX2_stands ml_X2_55 rfl [2] rfl rfl (fun _ => (rfl : ([a2] : List Nat) = [a2])) (by decide) ⟨Nat.zero_le _, Nat.zero_le _⟩ hl.1 rfl (Nat.le_of_ble_eq_true rfl) dX2_standingBy_65 (fun r _ H locs hr hw => ?_)
            have hw : Wd G (fA [(h0, .inr (2, [.ref a1, .ref a2, .ref a3, .ref a4, .int (nI im), .ref a5, .ref a6, .ref a7, .int (nI lm), .int (nI rm), .int (nI pl), .ref a8, .int sd])), (a1, aI G 54 (fl R)), (a2, aI G 54 (fl Rm))]) s [(h0, .inr (2, [.ref a1, .ref a2, .ref a3, .ref a4, .int (nI im), .ref a5, .ref a6, .ref a7, .int (nI lm), .int (nI rm), .int (nI pl), .ref a8, .int sd])), (a1, aI G 54 (fl R)), (a2, aI G 54 (fl (obF R a b c3 v i)))] H locs := hw
            subst hr
            refine lv_if_eq (tgt := 85) xx xb dX2_standingBy_68 (by decide) (fun c_68 => ?_) (fun c_68 => ?_)
            · skip
              have c_68 := b0_c c_68
              refine lv_iconst (v := nI 0) xx xb dX2_standingBy_85 (by decide) ?_
              refine lv_istore (lv' := [(7, .int (nI 0)), (6, .int (onI (obX a b c3 i))), (0, .ref h0), (1, .int (nI a)), (2, .int (nI b)), (3, .int (nI c3)), (4, .int (nI v)), (5, .int (nI i))]) xx xb dX2_standingBy_86 hl (by decide) rfl (fun ls hl => ?_)
              have hw : Wd G (fA [(h0, .inr (2, [.ref a1, .ref a2, .ref a3, .ref a4, .int (nI im), .ref a5, .ref a6, .ref a7, .int (nI lm), .int (nI rm), .int (nI pl), .ref a8, .int sd])), (a1, aI G 54 (fl R)), (a2, aI G 54 (fl Rm))]) s [(h0, .inr (2, [.ref a1, .ref a2, .ref a3, .ref a4, .int (nI im), .ref a5, .ref a6, .ref a7, .int (nI lm), .int (nI rm), .int (nI pl), .ref a8, .int sd])), (a1, aI G 54 (fl R)), (a2, aI G 54 (fl (obP (obF R a b c3 v i) (obX a b c3 i) v)))] H locs := by unfold obP; first | (rw [if_pos (And.intro (by omega) c_68)]; exact hw) | (rw [if_neg (fun q => c_68 q.2)]; exact hw) | (rw [if_neg (by omega)]; exact hw)
              refine lv_aload_n xx xb dX2_standingBy_88 rfl (lv_at hl 2 rfl) ?_
              refine m_get C hw 0 rfl fk_X2_13 rfl dX2_standingBy_89 ?_
              refine lv_iconst (v := nI 0) xx xb dX2_standingBy_92 (by decide) ?_
              have hM := kX2_minute l G a2 (obP (obF R a b c3 v i) (obX a b c3 i) v) 0 (OK_obP hS (by omega) v) (AK_obP hT _ v) (by first | assumption | omega)
              refine cs_v C hw hM ysX2_minute ml_X2_80 rfl [2] rfl rfl (fun _ => (rfl : ([a2] : List Nat) = [a2])) (by decide) ⟨Nat.zero_le _, Nat.zero_le _⟩ hl.1 rfl (Nat.le_of_ble_eq_true rfl) dX2_standingBy_93 (fun _ H locs hr hw => ?_)
              have hw : Wd G (fA [(h0, .inr (2, [.ref a1, .ref a2, .ref a3, .ref a4, .int (nI im), .ref a5, .ref a6, .ref a7, .int (nI lm), .int (nI rm), .int (nI pl), .ref a8, .int sd])), (a1, aI G 54 (fl R)), (a2, aI G 54 (fl Rm))]) s [(h0, .inr (2, [.ref a1, .ref a2, .ref a3, .ref a4, .int (nI im), .ref a5, .ref a6, .ref a7, .int (nI lm), .int (nI rm), .int (nI pl), .ref a8, .int sd])), (a1, aI G 54 (fl R)), (a2, aI G 54 (fl (miF (obP (obF R a b c3 v i) (obX a b c3 i) v) 0)))] H locs := hw
              have hw : Wd G (fA [(h0, .inr (2, [.ref a1, .ref a2, .ref a3, .ref a4, .int (nI im), .ref a5, .ref a6, .ref a7, .int (nI lm), .int (nI rm), .int (nI pl), .ref a8, .int sd])), (a1, aI G 54 (fl R)), (a2, aI G 54 (fl Rm))]) s [(h0, .inr (2, [.ref a1, .ref a2, .ref a3, .ref a4, .int (nI im), .ref a5, .ref a6, .ref a7, .int (nI lm), .int (nI rm), .int (nI pl), .ref a8, .int sd])), (a1, aI G 54 (fl R)), (a2, aI G 54 (fl (obF R a b c3 v (i + 1))))] H locs := hw
              refine lv_iinc (v := nI (i + 1)) (lv' := [(5, .int (nI (i + 1))), (7, .int (nI 0)), (6, .int (onI (obX a b c3 i))), (0, .ref h0), (1, .int (nI a)), (2, .int (nI b)), (3, .int (nI c3)), (4, .int (nI v))]) xx xb dX2_standingBy_96 hl (k := 7) rfl (nI_add _ 1) (by decide) rfl (fun ls hl => ?_)
              refine lv_goto (tgt := 14) xx xb dX2_standingBy_99 (by decide) ?_
              exact ih_14 (i + 1) H _ ls (by omega) (by omega) hw (lv_sub hl [3, 4, 5, 6, 7, 0] rfl)
            · skip
              have c_68 := b1_c c_68
              refine lv_aload_n xx xb dX2_standingBy_71 rfl (lv_at hl 1 rfl) ?_
              refine m_get C hw 0 rfl fk_X2_13 rfl dX2_standingBy_72 ?_
              refine lv_iload xx xb dX2_standingBy_75 (lv_at hl 0 rfl) ?_
              refine lv_iload xx xb dX2_standingBy_77 (lv_at hl 5 rfl) ?_
              have hM := kX2_pullsIn l G a2 (obF R a b c3 v i) (obX a b c3 i) v hS (by omega) (by first | assumption | omega)
              refine cs_i C hw hM ysX2_pullsIn ml_X2_112 rfl [2] rfl rfl (fun _ => (rfl : ([a2] : List Nat) = [a2])) (by decide) ⟨Nat.zero_le _, Nat.zero_le _⟩ hl.1 rfl (Nat.le_of_ble_eq_true rfl) dX2_standingBy_79 (fun r _ H locs hr hw => ?_)
              have hw : Wd G (fA [(h0, .inr (2, [.ref a1, .ref a2, .ref a3, .ref a4, .int (nI im), .ref a5, .ref a6, .ref a7, .int (nI lm), .int (nI rm), .int (nI pl), .ref a8, .int sd])), (a1, aI G 54 (fl R)), (a2, aI G 54 (fl Rm))]) s [(h0, .inr (2, [.ref a1, .ref a2, .ref a3, .ref a4, .int (nI im), .ref a5, .ref a6, .ref a7, .int (nI lm), .int (nI rm), .int (nI pl), .ref a8, .int sd])), (a1, aI G 54 (fl R)), (a2, aI G 54 (fl (pulF (obF R a b c3 v i) (obX a b c3 i) v)))] H locs := hw
              subst hr
              refine lv_goto (tgt := 86) xx xb dX2_standingBy_82 (by decide) ?_
              refine lv_istore (lv' := [(7, .int (nI (ct (shkF (obF R a b c3 v i) (obX a b c3 i) v) ((obF R a b c3 v i) 0 0)))), (6, .int (onI (obX a b c3 i))), (0, .ref h0), (1, .int (nI a)), (2, .int (nI b)), (3, .int (nI c3)), (4, .int (nI v)), (5, .int (nI i))]) xx xb dX2_standingBy_86 hl (by decide) rfl (fun ls hl => ?_)
              have hw : Wd G (fA [(h0, .inr (2, [.ref a1, .ref a2, .ref a3, .ref a4, .int (nI im), .ref a5, .ref a6, .ref a7, .int (nI lm), .int (nI rm), .int (nI pl), .ref a8, .int sd])), (a1, aI G 54 (fl R)), (a2, aI G 54 (fl Rm))]) s [(h0, .inr (2, [.ref a1, .ref a2, .ref a3, .ref a4, .int (nI im), .ref a5, .ref a6, .ref a7, .int (nI lm), .int (nI rm), .int (nI pl), .ref a8, .int sd])), (a1, aI G 54 (fl R)), (a2, aI G 54 (fl (obP (obF R a b c3 v i) (obX a b c3 i) v)))] H locs := by unfold obP; first | (rw [if_pos (And.intro (by omega) c_68)]; exact hw) | (rw [if_neg (fun q => c_68 q.2)]; exact hw) | (rw [if_neg (by omega)]; exact hw)
              refine lv_aload_n xx xb dX2_standingBy_88 rfl (lv_at hl 2 rfl) ?_
              refine m_get C hw 0 rfl fk_X2_13 rfl dX2_standingBy_89 ?_
              refine lv_iconst (v := nI 0) xx xb dX2_standingBy_92 (by decide) ?_
              have hM := kX2_minute l G a2 (obP (obF R a b c3 v i) (obX a b c3 i) v) 0 (OK_obP hS (by omega) v) (AK_obP hT _ v) (by first | assumption | omega)
              refine cs_v C hw hM ysX2_minute ml_X2_80 rfl [2] rfl rfl (fun _ => (rfl : ([a2] : List Nat) = [a2])) (by decide) ⟨Nat.zero_le _, Nat.zero_le _⟩ hl.1 rfl (Nat.le_of_ble_eq_true rfl) dX2_standingBy_93 (fun _ H locs hr hw => ?_)
              have hw : Wd G (fA [(h0, .inr (2, [.ref a1, .ref a2, .ref a3, .ref a4, .int (nI im), .ref a5, .ref a6, .ref a7, .int (nI lm), .int (nI rm), .int (nI pl), .ref a8, .int sd])), (a1, aI G 54 (fl R)), (a2, aI G 54 (fl Rm))]) s [(h0, .inr (2, [.ref a1, .ref a2, .ref a3, .ref a4, .int (nI im), .ref a5, .ref a6, .ref a7, .int (nI lm), .int (nI rm), .int (nI pl), .ref a8, .int sd])), (a1, aI G 54 (fl R)), (a2, aI G 54 (fl (miF (obP (obF R a b c3 v i) (obX a b c3 i) v) 0)))] H locs := hw
              have hw : Wd G (fA [(h0, .inr (2, [.ref a1, .ref a2, .ref a3, .ref a4, .int (nI im), .ref a5, .ref a6, .ref a7, .int (nI lm), .int (nI rm), .int (nI pl), .ref a8, .int sd])), (a1, aI G 54 (fl R)), (a2, aI G 54 (fl Rm))]) s [(h0, .inr (2, [.ref a1, .ref a2, .ref a3, .ref a4, .int (nI im), .ref a5, .ref a6, .ref a7, .int (nI lm), .int (nI rm), .int (nI pl), .ref a8, .int sd])), (a1, aI G 54 (fl R)), (a2, aI G 54 (fl (obF R a b c3 v (i + 1))))] H locs := hw
              refine lv_iinc (v := nI (i + 1)) (lv' := [(5, .int (nI (i + 1))), (7, .int (nI (ct (shkF (obF R a b c3 v i) (obX a b c3 i) v) ((obF R a b c3 v i) 0 0)))), (6, .int (onI (obX a b c3 i))), (0, .ref h0), (1, .int (nI a)), (2, .int (nI b)), (3, .int (nI c3)), (4, .int (nI v))]) xx xb dX2_standingBy_96 hl (k := 7) rfl (nI_add _ 1) (by decide) rfl (fun ls hl => ?_)
              refine lv_goto (tgt := 14) xx xb dX2_standingBy_99 (by decide) ?_
              exact ih_14 (i + 1) H _ ls (by omega) (by omega) hw (lv_sub hl [3, 4, 5, 6, 7, 0] rfl)
  exact L_14 (_ + 1) 0 H _ ls (Nat.lt_succ_self _) (by omega) hw (lv_sub hl [1, 2, 3, 4, 5, 0] rfl)
set_option maxRecDepth 100000 in
set_option maxHeartbeats 4000000 in
theorem kX2_standingPulled (l : Launch) (G : GT) (h0 : Nat) (a1 : Nat) (a2 : Nat) (a3 : Nat) (a4 : Nat) (a5 : Nat) (a6 : Nat) (a7 : Nat) (a8 : Nat) (im : Nat) (lm : Nat) (rm : Nat) (pl : Nat) (sd : Int32) (R : RT) (Rm : RT) (a : Nat) (x : Nat) (b : Nat) (y : Nat) (n : Nat) (hR : OK R) (hK : AK R) (ha : a < R 0 0) (hb : b < R 0 0) (hn : n < 1000) (hx : x ≤ 1) (hy : y ≤ 1) : Ct l yX2_standingPulled cX2_standingPulled 8 (some .int) 5 110 [.ref h0, .int (nI a), .int (nI x), .int (nI b), .int (nI y), .int (nI n)] G [(h0, .inr (2, [.ref a1, .ref a2, .ref a3, .ref a4, .int (nI im), .ref a5, .ref a6, .ref a7, .int (nI lm), .int (nI rm), .int (nI pl), .ref a8, .int sd])), (a1, aI G 54 (fl R)), (a2, aI G 54 (fl Rm))] (QI G [(h0, .inr (2, [.ref a1, .ref a2, .ref a3, .ref a4, .int (nI im), .ref a5, .ref a6, .ref a7, .int (nI lm), .int (nI rm), .int (nI pl), .ref a8, .int sd])), (a1, aI G 54 (fl R)), (a2, aI G 54 (fl Rm))] (fun (r : Int32) (u : Unit) => r = nI (stN (itF (spF R a x b y) n))) (fun u => [(h0, .inr (2, [.ref a1, .ref a2, .ref a3, .ref a4, .int (nI im), .ref a5, .ref a6, .ref a7, .int (nI lm), .int (nI rm), .int (nI pl), .ref a8, .int sd])), (a1, aI G 54 (fl R)), (a2, aI G 54 (fl (itF (spF R a x b y) n)))])) := by
  refine en (by decide +kernel) (Nat.le_of_ble_eq_true rfl) ?_
  intro p e s m below meth c ls H locs C hl hw
  have xx := C.1
  have xb := C.2.1
  have hw : Wd G (fA [(h0, .inr (2, [.ref a1, .ref a2, .ref a3, .ref a4, .int (nI im), .ref a5, .ref a6, .ref a7, .int (nI lm), .int (nI rm), .int (nI pl), .ref a8, .int sd])), (a1, aI G 54 (fl R)), (a2, aI G 54 (fl Rm))]) s [(h0, .inr (2, [.ref a1, .ref a2, .ref a3, .ref a4, .int (nI im), .ref a5, .ref a6, .ref a7, .int (nI lm), .int (nI rm), .int (nI pl), .ref a8, .int sd])), (a1, aI G 54 (fl R)), (a2, aI G 54 (fl Rm))] H locs := hw
  have hl : lv_has ls 8 [(0, .ref h0), (1, .int (nI a)), (2, .int (nI x)), (3, .int (nI b)), (4, .int (nI y)), (5, .int (nI n))] := hl
  have hn0 := hR.1
  have hS1 := OK_spP hR ha x
  have hT1 := AK_spP hK a x
  have hN1 := spP_00 R a x
  have hS2 := OK_spP hS1 (a := b) (by rw [hN1]; exact hb) y
  have hT2 := AK_spP hT1 b y
  have hS3 := OK_itF hS2 n
  refine lv_aload_n xx xb dX2_standingPulled_0 rfl (lv_at hl 0 rfl) ?_
  refine m_get C hw 0 rfl fk_X2_9 rfl dX2_standingPulled_1 ?_
  refine lv_aload_n xx xb dX2_standingPulled_4 rfl (lv_at hl 0 rfl) ?_
  refine m_get C hw 0 rfl fk_X2_13 rfl dX2_standingPulled_5 ?_
  have hM := kX2_copies l G a1 a2 (fl R) (fl Rm) 
  refine cs_v C hw hM ysX2_copies ml_X2_121 rfl [1, 2] rfl rfl (fun _ => (rfl : ([a1, a2] : List Nat) = [a1, a2])) (by decide) ⟨Nat.zero_le _, Nat.zero_le _⟩ hl.1 rfl (Nat.le_of_ble_eq_true rfl) dX2_standingPulled_8 (fun _ H locs hr hw => ?_)
  have hw : Wd G (fA [(h0, .inr (2, [.ref a1, .ref a2, .ref a3, .ref a4, .int (nI im), .ref a5, .ref a6, .ref a7, .int (nI lm), .int (nI rm), .int (nI pl), .ref a8, .int sd])), (a1, aI G 54 (fl R)), (a2, aI G 54 (fl Rm))]) s [(h0, .inr (2, [.ref a1, .ref a2, .ref a3, .ref a4, .int (nI im), .ref a5, .ref a6, .ref a7, .int (nI lm), .int (nI rm), .int (nI pl), .ref a8, .int sd])), (a1, aI G 54 (fl R)), (a2, aI G 54 (fl R))] H locs := hw
  refine lv_iload_n xx xb dX2_standingPulled_11 rfl (lv_at hl 2 rfl) ?_
  refine lv_iconst (v := nI 1) xx xb dX2_standingPulled_12 (by decide) ?_
  refine lv_icmp_ne (tgt := 40) xx xb dX2_standingPulled_13 (by decide) (fun c_13 => ?_) (fun c_13 => ?_)
  · skip
    have c_13 := ne_c (tN (by omega)) (tN (by omega)) c_13
    refine lv_iconst (v := nI 0) xx xb dX2_standingPulled_40 (by decide) ?_
    refine lv_istore (lv' := [(6, .int (nI 0)), (0, .ref h0), (1, .int (nI a)), (2, .int (nI x)), (3, .int (nI b)), (4, .int (nI y)), (5, .int (nI n))]) xx xb dX2_standingPulled_41 hl (by decide) rfl (fun ls hl => ?_)
    have hw : Wd G (fA [(h0, .inr (2, [.ref a1, .ref a2, .ref a3, .ref a4, .int (nI im), .ref a5, .ref a6, .ref a7, .int (nI lm), .int (nI rm), .int (nI pl), .ref a8, .int sd])), (a1, aI G 54 (fl R)), (a2, aI G 54 (fl Rm))]) s [(h0, .inr (2, [.ref a1, .ref a2, .ref a3, .ref a4, .int (nI im), .ref a5, .ref a6, .ref a7, .int (nI lm), .int (nI rm), .int (nI pl), .ref a8, .int sd])), (a1, aI G 54 (fl R)), (a2, aI G 54 (fl (spP R a x)))] H locs := by unfold spP; first | (rw [if_pos (And.intro (by omega) c_24)]; exact hw) | (rw [if_neg (fun q => c_24 q.2)]; exact hw) | (rw [if_neg (by omega)]; exact hw)
    refine lv_iload xx xb dX2_standingPulled_43 (lv_at hl 5 rfl) ?_
    refine lv_iconst (v := nI 1) xx xb dX2_standingPulled_45 (by decide) ?_
    refine lv_icmp_ne (tgt := 73) xx xb dX2_standingPulled_46 (by decide) (fun c_46 => ?_) (fun c_46 => ?_)
    · skip
      have c_46 := ne_c (tN (by omega)) (tN (by omega)) c_46
      refine lv_iconst (v := nI 0) xx xb dX2_standingPulled_73 (by decide) ?_
      refine lv_istore (lv' := [(7, .int (nI 0)), (6, .int (nI 0)), (0, .ref h0), (1, .int (nI a)), (2, .int (nI x)), (3, .int (nI b)), (4, .int (nI y)), (5, .int (nI n))]) xx xb dX2_standingPulled_74 hl (by decide) rfl (fun ls hl => ?_)
      have hw : Wd G (fA [(h0, .inr (2, [.ref a1, .ref a2, .ref a3, .ref a4, .int (nI im), .ref a5, .ref a6, .ref a7, .int (nI lm), .int (nI rm), .int (nI pl), .ref a8, .int sd])), (a1, aI G 54 (fl R)), (a2, aI G 54 (fl Rm))]) s [(h0, .inr (2, [.ref a1, .ref a2, .ref a3, .ref a4, .int (nI im), .ref a5, .ref a6, .ref a7, .int (nI lm), .int (nI rm), .int (nI pl), .ref a8, .int sd])), (a1, aI G 54 (fl R)), (a2, aI G 54 (fl (spF R a x b y)))] H locs := by show Wd _ _ _ [_, _, (a2, aI G 54 (fl (spP (spP R a x) b y)))] _ _; rw [show spP (spP R a x) b y = (if y = 1 ∧ spP R a x 4 b = 0 then pulF (spP R a x) b 9 else spP R a x) from rfl]; first | (rw [if_pos (And.intro (by omega) c_57)]; exact hw) | (rw [if_neg (fun q => c_57 q.2)]; exact hw) | (rw [if_neg (by omega)]; exact hw)
      refine lv_aload_n xx xb dX2_standingPulled_76 rfl (lv_at hl 2 rfl) ?_
      refine m_get C hw 0 rfl fk_X2_13 rfl dX2_standingPulled_77 ?_
      refine lv_iload xx xb dX2_standingPulled_80 (lv_at hl 7 rfl) ?_
      have hM := kX2_minutesOn l G a2 (spF R a x b y) n hS2 hT2 (by first | assumption | omega)
      refine cs_v C hw hM ysX2_minutesOn ml_X2_115 rfl [2] rfl rfl (fun _ => (rfl : ([a2] : List Nat) = [a2])) (by decide) ⟨Nat.zero_le _, Nat.zero_le _⟩ hl.1 rfl (Nat.le_of_ble_eq_true rfl) dX2_standingPulled_82 (fun _ H locs hr hw => ?_)
      have hw : Wd G (fA [(h0, .inr (2, [.ref a1, .ref a2, .ref a3, .ref a4, .int (nI im), .ref a5, .ref a6, .ref a7, .int (nI lm), .int (nI rm), .int (nI pl), .ref a8, .int sd])), (a1, aI G 54 (fl R)), (a2, aI G 54 (fl Rm))]) s [(h0, .inr (2, [.ref a1, .ref a2, .ref a3, .ref a4, .int (nI im), .ref a5, .ref a6, .ref a7, .int (nI lm), .int (nI rm), .int (nI pl), .ref a8, .int sd])), (a1, aI G 54 (fl R)), (a2, aI G 54 (fl (itF (spF R a x b y) n)))] H locs := hw
      refine lv_aload_n xx xb dX2_standingPulled_85 rfl (lv_at hl 2 rfl) ?_
      have hM := kX2_standingIn l G h0 a1 a2 a3 a4 a5 a6 a7 a8 im lm rm pl sd (itF (spF R a x b y) n) hS3
      refine cv_i C hw hM yvX2_standingIn ml_X2_138 0 rfl rfl rfl [0, 2] rfl rfl (fun _ => (rfl : ([h0, a2] : List Nat) = [h0, a2])) (by decide) ⟨Nat.zero_le _, Nat.zero_le _⟩ hl.1 rfl (Nat.le_of_ble_eq_true rfl) dX2_standingPulled_86 (fun r _ H locs hr hw => ?_)
      have hw : Wd G (fA [(h0, .inr (2, [.ref a1, .ref a2, .ref a3, .ref a4, .int (nI im), .ref a5, .ref a6, .ref a7, .int (nI lm), .int (nI rm), .int (nI pl), .ref a8, .int sd])), (a1, aI G 54 (fl R)), (a2, aI G 54 (fl Rm))]) s [(h0, .inr (2, [.ref a1, .ref a2, .ref a3, .ref a4, .int (nI im), .ref a5, .ref a6, .ref a7, .int (nI lm), .int (nI rm), .int (nI pl), .ref a8, .int sd])), (a1, aI G 54 (fl R)), (a2, aI G 54 (fl (itF (spF R a x b y) n)))] H locs := hw
      subst hr
      exact rt_i C hw () rfl rfl dX2_standingPulled_89
    · skip
      have c_46 := eq_c (tN (by omega)) (tN (by omega)) c_46
      refine lv_aload_n xx xb dX2_standingPulled_49 rfl (lv_at hl 1 rfl) ?_
      refine m_get C hw 0 rfl fk_X2_13 rfl dX2_standingPulled_50 ?_
      refine lv_iload_n xx xb dX2_standingPulled_53 rfl (lv_at hl 4 rfl) ?_
      have hM := kX2_stands l G a2 (spP R a x) b hS1 (by rw [hN1]; exact hb)
      refine cs_i C hw hM ysX2_stands ml_X2_55 rfl [2] rfl rfl (fun _ => (rfl : ([a2] : List Nat) = [a2])) (by decide) ⟨Nat.zero_le _, Nat.zero_le _⟩ hl.1 rfl (Nat.le_of_ble_eq_true rfl) dX2_standingPulled_54 (fun r _ H locs hr hw => ?_)
      have hw : Wd G (fA [(h0, .inr (2, [.ref a1, .ref a2, .ref a3, .ref a4, .int (nI im), .ref a5, .ref a6, .ref a7, .int (nI lm), .int (nI rm), .int (nI pl), .ref a8, .int sd])), (a1, aI G 54 (fl R)), (a2, aI G 54 (fl Rm))]) s [(h0, .inr (2, [.ref a1, .ref a2, .ref a3, .ref a4, .int (nI im), .ref a5, .ref a6, .ref a7, .int (nI lm), .int (nI rm), .int (nI pl), .ref a8, .int sd])), (a1, aI G 54 (fl R)), (a2, aI G 54 (fl (spP R a x)))] H locs := hw
      subst hr
      refine lv_if_eq (tgt := 73) xx xb dX2_standingPulled_57 (by decide) (fun c_57 => ?_) (fun c_57 => ?_)
      · skip
        have c_57 := b0_c c_57
        refine lv_iconst (v := nI 0) xx xb dX2_standingPulled_73 (by decide) ?_
        refine lv_istore (lv' := [(7, .int (nI 0)), (6, .int (nI 0)), (0, .ref h0), (1, .int (nI a)), (2, .int (nI x)), (3, .int (nI b)), (4, .int (nI y)), (5, .int (nI n))]) xx xb dX2_standingPulled_74 hl (by decide) rfl (fun ls hl => ?_)
        have hw : Wd G (fA [(h0, .inr (2, [.ref a1, .ref a2, .ref a3, .ref a4, .int (nI im), .ref a5, .ref a6, .ref a7, .int (nI lm), .int (nI rm), .int (nI pl), .ref a8, .int sd])), (a1, aI G 54 (fl R)), (a2, aI G 54 (fl Rm))]) s [(h0, .inr (2, [.ref a1, .ref a2, .ref a3, .ref a4, .int (nI im), .ref a5, .ref a6, .ref a7, .int (nI lm), .int (nI rm), .int (nI pl), .ref a8, .int sd])), (a1, aI G 54 (fl R)), (a2, aI G 54 (fl (spF R a x b y)))] H locs := by show Wd _ _ _ [_, _, (a2, aI G 54 (fl (spP (spP R a x) b y)))] _ _; rw [show spP (spP R a x) b y = (if y = 1 ∧ spP R a x 4 b = 0 then pulF (spP R a x) b 9 else spP R a x) from rfl]; first | (rw [if_pos (And.intro (by omega) c_57)]; exact hw) | (rw [if_neg (fun q => c_57 q.2)]; exact hw) | (rw [if_neg (by omega)]; exact hw)
        refine lv_aload_n xx xb dX2_standingPulled_76 rfl (lv_at hl 2 rfl) ?_
        refine m_get C hw 0 rfl fk_X2_13 rfl dX2_standingPulled_77 ?_
        refine lv_iload xx xb dX2_standingPulled_80 (lv_at hl 7 rfl) ?_
        have hM := kX2_minutesOn l G a2 (spF R a x b y) n hS2 hT2 (by first | assumption | omega)
        refine cs_v C hw hM ysX2_minutesOn ml_X2_115 rfl [2] rfl rfl (fun _ => (rfl : ([a2] : List Nat) = [a2])) (by decide) ⟨Nat.zero_le _, Nat.zero_le _⟩ hl.1 rfl (Nat.le_of_ble_eq_true rfl) dX2_standingPulled_82 (fun _ H locs hr hw => ?_)
        have hw : Wd G (fA [(h0, .inr (2, [.ref a1, .ref a2, .ref a3, .ref a4, .int (nI im), .ref a5, .ref a6, .ref a7, .int (nI lm), .int (nI rm), .int (nI pl), .ref a8, .int sd])), (a1, aI G 54 (fl R)), (a2, aI G 54 (fl Rm))]) s [(h0, .inr (2, [.ref a1, .ref a2, .ref a3, .ref a4, .int (nI im), .ref a5, .ref a6, .ref a7, .int (nI lm), .int (nI rm), .int (nI pl), .ref a8, .int sd])), (a1, aI G 54 (fl R)), (a2, aI G 54 (fl (itF (spF R a x b y) n)))] H locs := hw
        refine lv_aload_n xx xb dX2_standingPulled_85 rfl (lv_at hl 2 rfl) ?_
        have hM := kX2_standingIn l G h0 a1 a2 a3 a4 a5 a6 a7 a8 im lm rm pl sd (itF (spF R a x b y) n) hS3
        refine cv_i C hw hM yvX2_standingIn ml_X2_138 0 rfl rfl rfl [0, 2] rfl rfl (fun _ => (rfl : ([h0, a2] : List Nat) = [h0, a2])) (by decide) ⟨Nat.zero_le _, Nat.zero_le _⟩ hl.1 rfl (Nat.le_of_ble_eq_true rfl) dX2_standingPulled_86 (fun r _ H locs hr hw => ?_)
        have hw : Wd G (fA [(h0, .inr (2, [.ref a1, .ref a2, .ref a3, .ref a4, .int (nI im), .ref a5, .ref a6, .ref a7, .int (nI lm), .int (nI rm), .int (nI pl), .ref a8, .int sd])), (a1, aI G 54 (fl R)), (a2, aI G 54 (fl Rm))]) s [(h0, .inr (2, [.ref a1, .ref a2, .ref a3, .ref a4, .int (nI im), .ref a5, .ref a6, .ref a7, .int (nI lm), .int (nI rm), .int (nI pl), .ref a8, .int sd])), (a1, aI G 54 (fl R)), (a2, aI G 54 (fl (itF (spF R a x b y) n)))] H locs := hw
        subst hr
        exact rt_i C hw () rfl rfl dX2_standingPulled_89
      · skip
        have c_57 := b1_c c_57
        refine lv_aload_n xx xb dX2_standingPulled_60 rfl (lv_at hl 1 rfl) ?_
        refine m_get C hw 0 rfl fk_X2_13 rfl dX2_standingPulled_61 ?_
        refine lv_iload_n xx xb dX2_standingPulled_64 rfl (lv_at hl 4 rfl) ?_
        refine re_i (onI b) ((onI_lt (by omega)).symm) ?_
        refine lv_bipush (v := nI 9) xx xb dX2_standingPulled_65 (by decide) ?_
        have hM := kX2_pullsIn l G a2 (spP R a x) b 9 hS1 (Or.inr (by rw [hN1]; exact hb)) (by first | assumption | omega)
        refine cs_i C hw hM ysX2_pullsIn ml_X2_112 rfl [2] rfl rfl (fun _ => (rfl : ([a2] : List Nat) = [a2])) (by decide) ⟨Nat.zero_le _, Nat.zero_le _⟩ hl.1 rfl (Nat.le_of_ble_eq_true rfl) dX2_standingPulled_67 (fun r _ H locs hr hw => ?_)
        have hw : Wd G (fA [(h0, .inr (2, [.ref a1, .ref a2, .ref a3, .ref a4, .int (nI im), .ref a5, .ref a6, .ref a7, .int (nI lm), .int (nI rm), .int (nI pl), .ref a8, .int sd])), (a1, aI G 54 (fl R)), (a2, aI G 54 (fl Rm))]) s [(h0, .inr (2, [.ref a1, .ref a2, .ref a3, .ref a4, .int (nI im), .ref a5, .ref a6, .ref a7, .int (nI lm), .int (nI rm), .int (nI pl), .ref a8, .int sd])), (a1, aI G 54 (fl R)), (a2, aI G 54 (fl (pulF (spP R a x) b 9)))] H locs := hw
        subst hr
        refine lv_goto (tgt := 74) xx xb dX2_standingPulled_70 (by decide) ?_
        refine lv_istore (lv' := [(7, .int (nI (ct (shkF (spP R a x) b 9) ((spP R a x) 0 0)))), (6, .int (nI 0)), (0, .ref h0), (1, .int (nI a)), (2, .int (nI x)), (3, .int (nI b)), (4, .int (nI y)), (5, .int (nI n))]) xx xb dX2_standingPulled_74 hl (by decide) rfl (fun ls hl => ?_)
        have hw : Wd G (fA [(h0, .inr (2, [.ref a1, .ref a2, .ref a3, .ref a4, .int (nI im), .ref a5, .ref a6, .ref a7, .int (nI lm), .int (nI rm), .int (nI pl), .ref a8, .int sd])), (a1, aI G 54 (fl R)), (a2, aI G 54 (fl Rm))]) s [(h0, .inr (2, [.ref a1, .ref a2, .ref a3, .ref a4, .int (nI im), .ref a5, .ref a6, .ref a7, .int (nI lm), .int (nI rm), .int (nI pl), .ref a8, .int sd])), (a1, aI G 54 (fl R)), (a2, aI G 54 (fl (spF R a x b y)))] H locs := by show Wd _ _ _ [_, _, (a2, aI G 54 (fl (spP (spP R a x) b y)))] _ _; rw [show spP (spP R a x) b y = (if y = 1 ∧ spP R a x 4 b = 0 then pulF (spP R a x) b 9 else spP R a x) from rfl]; first | (rw [if_pos (And.intro (by omega) c_57)]; exact hw) | (rw [if_neg (fun q => c_57 q.2)]; exact hw) | (rw [if_neg (by omega)]; exact hw)
        refine lv_aload_n xx xb dX2_standingPulled_76 rfl (lv_at hl 2 rfl) ?_
        refine m_get C hw 0 rfl fk_X2_13 rfl dX2_standingPulled_77 ?_
        refine lv_iload xx xb dX2_standingPulled_80 (lv_at hl 7 rfl) ?_
        have hM := kX2_minutesOn l G a2 (spF R a x b y) n hS2 hT2 (by first | assumption | omega)
        refine cs_v C hw hM ysX2_minutesOn ml_X2_115 rfl [2] rfl rfl (fun _ => (rfl : ([a2] : List Nat) = [a2])) (by decide) ⟨Nat.zero_le _, Nat.zero_le _⟩ hl.1 rfl (Nat.le_of_ble_eq_true rfl) dX2_standingPulled_82 (fun _ H locs hr hw => ?_)
        have hw : Wd G (fA [(h0, .inr (2, [.ref a1, .ref a2, .ref a3, .ref a4, .int (nI im), .ref a5, .ref a6, .ref a7, .int (nI lm), .int (nI rm), .int (nI pl), .ref a8, .int sd])), (a1, aI G 54 (fl R)), (a2, aI G 54 (fl Rm))]) s [(h0, .inr (2, [.ref a1, .ref a2, .ref a3, .ref a4, .int (nI im), .ref a5, .ref a6, .ref a7, .int (nI lm), .int (nI rm), .int (nI pl), .ref a8, .int sd])), (a1, aI G 54 (fl R)), (a2, aI G 54 (fl (itF (spF R a x b y) n)))] H locs := hw
        refine lv_aload_n xx xb dX2_standingPulled_85 rfl (lv_at hl 2 rfl) ?_
        have hM := kX2_standingIn l G h0 a1 a2 a3 a4 a5 a6 a7 a8 im lm rm pl sd (itF (spF R a x b y) n) hS3
        refine cv_i C hw hM yvX2_standingIn ml_X2_138 0 rfl rfl rfl [0, 2] rfl rfl (fun _ => (rfl : ([h0, a2] : List Nat) = [h0, a2])) (by decide) ⟨Nat.zero_le _, Nat.zero_le _⟩ hl.1 rfl (Nat.le_of_ble_eq_true rfl) dX2_standingPulled_86 (fun r _ H locs hr hw => ?_)
        have hw : Wd G (fA [(h0, .inr (2, [.ref a1, .ref a2, .ref a3, .ref a4, .int (nI im), .ref a5, .ref a6, .ref a7, .int (nI lm), .int (nI rm), .int (nI pl), .ref a8, .int sd])), (a1, aI G 54 (fl R)), (a2, aI G 54 (fl Rm))]) s [(h0, .inr (2, [.ref a1, .ref a2, .ref a3, .ref a4, .int (nI im), .ref a5, .ref a6, .ref a7, .int (nI lm), .int (nI rm), .int (nI pl), .ref a8, .int sd])), (a1, aI G 54 (fl R)), (a2, aI G 54 (fl (itF (spF R a x b y) n)))] H locs := hw
        subst hr
        exact rt_i C hw () rfl rfl dX2_standingPulled_89
  · skip
    have c_13 := eq_c (tN (by omega)) (tN (by omega)) c_13
    refine lv_aload_n xx xb dX2_standingPulled_16 rfl (lv_at hl 0 rfl) ?_
    refine m_get C hw 0 rfl fk_X2_13 rfl dX2_standingPulled_17 ?_
    refine lv_iload_n xx xb dX2_standingPulled_20 rfl (lv_at hl 1 rfl) ?_
    have hM := kX2_stands l G a2 R a (by first | assumption | omega) (by first | assumption | omega)
    refine cs_i C hw hM ysX2_stands ml_X2_55 rfl [2] rfl rfl (fun _ => (rfl : ([a2] : List Nat) = [a2])) (by decide) ⟨Nat.zero_le _, Nat.zero_le _⟩ hl.1 rfl (Nat.le_of_ble_eq_true rfl) dX2_standingPulled_21 (fun r _ H locs hr hw => ?_)
    have hw : Wd G (fA [(h0, .inr (2, [.ref a1, .ref a2, .ref a3, .ref a4, .int (nI im), .ref a5, .ref a6, .ref a7, .int (nI lm), .int (nI rm), .int (nI pl), .ref a8, .int sd])), (a1, aI G 54 (fl R)), (a2, aI G 54 (fl Rm))]) s [(h0, .inr (2, [.ref a1, .ref a2, .ref a3, .ref a4, .int (nI im), .ref a5, .ref a6, .ref a7, .int (nI lm), .int (nI rm), .int (nI pl), .ref a8, .int sd])), (a1, aI G 54 (fl R)), (a2, aI G 54 (fl R))] H locs := hw
    subst hr
    refine lv_if_eq (tgt := 40) xx xb dX2_standingPulled_24 (by decide) (fun c_24 => ?_) (fun c_24 => ?_)
    · skip
      have c_24 := b0_c c_24
      refine lv_iconst (v := nI 0) xx xb dX2_standingPulled_40 (by decide) ?_
      refine lv_istore (lv' := [(6, .int (nI 0)), (0, .ref h0), (1, .int (nI a)), (2, .int (nI x)), (3, .int (nI b)), (4, .int (nI y)), (5, .int (nI n))]) xx xb dX2_standingPulled_41 hl (by decide) rfl (fun ls hl => ?_)
      have hw : Wd G (fA [(h0, .inr (2, [.ref a1, .ref a2, .ref a3, .ref a4, .int (nI im), .ref a5, .ref a6, .ref a7, .int (nI lm), .int (nI rm), .int (nI pl), .ref a8, .int sd])), (a1, aI G 54 (fl R)), (a2, aI G 54 (fl Rm))]) s [(h0, .inr (2, [.ref a1, .ref a2, .ref a3, .ref a4, .int (nI im), .ref a5, .ref a6, .ref a7, .int (nI lm), .int (nI rm), .int (nI pl), .ref a8, .int sd])), (a1, aI G 54 (fl R)), (a2, aI G 54 (fl (spP R a x)))] H locs := by unfold spP; first | (rw [if_pos (And.intro (by omega) c_24)]; exact hw) | (rw [if_neg (fun q => c_24 q.2)]; exact hw) | (rw [if_neg (by omega)]; exact hw)
      refine lv_iload xx xb dX2_standingPulled_43 (lv_at hl 5 rfl) ?_
      refine lv_iconst (v := nI 1) xx xb dX2_standingPulled_45 (by decide) ?_
      refine lv_icmp_ne (tgt := 73) xx xb dX2_standingPulled_46 (by decide) (fun c_46 => ?_) (fun c_46 => ?_)
      · skip
        have c_46 := ne_c (tN (by omega)) (tN (by omega)) c_46
        refine lv_iconst (v := nI 0) xx xb dX2_standingPulled_73 (by decide) ?_
        refine lv_istore (lv' := [(7, .int (nI 0)), (6, .int (nI 0)), (0, .ref h0), (1, .int (nI a)), (2, .int (nI x)), (3, .int (nI b)), (4, .int (nI y)), (5, .int (nI n))]) xx xb dX2_standingPulled_74 hl (by decide) rfl (fun ls hl => ?_)
        have hw : Wd G (fA [(h0, .inr (2, [.ref a1, .ref a2, .ref a3, .ref a4, .int (nI im), .ref a5, .ref a6, .ref a7, .int (nI lm), .int (nI rm), .int (nI pl), .ref a8, .int sd])), (a1, aI G 54 (fl R)), (a2, aI G 54 (fl Rm))]) s [(h0, .inr (2, [.ref a1, .ref a2, .ref a3, .ref a4, .int (nI im), .ref a5, .ref a6, .ref a7, .int (nI lm), .int (nI rm), .int (nI pl), .ref a8, .int sd])), (a1, aI G 54 (fl R)), (a2, aI G 54 (fl (spF R a x b y)))] H locs := by show Wd _ _ _ [_, _, (a2, aI G 54 (fl (spP (spP R a x) b y)))] _ _; rw [show spP (spP R a x) b y = (if y = 1 ∧ spP R a x 4 b = 0 then pulF (spP R a x) b 9 else spP R a x) from rfl]; first | (rw [if_pos (And.intro (by omega) c_57)]; exact hw) | (rw [if_neg (fun q => c_57 q.2)]; exact hw) | (rw [if_neg (by omega)]; exact hw)
        refine lv_aload_n xx xb dX2_standingPulled_76 rfl (lv_at hl 2 rfl) ?_
        refine m_get C hw 0 rfl fk_X2_13 rfl dX2_standingPulled_77 ?_
        refine lv_iload xx xb dX2_standingPulled_80 (lv_at hl 7 rfl) ?_
        have hM := kX2_minutesOn l G a2 (spF R a x b y) n hS2 hT2 (by first | assumption | omega)
        refine cs_v C hw hM ysX2_minutesOn ml_X2_115 rfl [2] rfl rfl (fun _ => (rfl : ([a2] : List Nat) = [a2])) (by decide) ⟨Nat.zero_le _, Nat.zero_le _⟩ hl.1 rfl (Nat.le_of_ble_eq_true rfl) dX2_standingPulled_82 (fun _ H locs hr hw => ?_)
        have hw : Wd G (fA [(h0, .inr (2, [.ref a1, .ref a2, .ref a3, .ref a4, .int (nI im), .ref a5, .ref a6, .ref a7, .int (nI lm), .int (nI rm), .int (nI pl), .ref a8, .int sd])), (a1, aI G 54 (fl R)), (a2, aI G 54 (fl Rm))]) s [(h0, .inr (2, [.ref a1, .ref a2, .ref a3, .ref a4, .int (nI im), .ref a5, .ref a6, .ref a7, .int (nI lm), .int (nI rm), .int (nI pl), .ref a8, .int sd])), (a1, aI G 54 (fl R)), (a2, aI G 54 (fl (itF (spF R a x b y) n)))] H locs := hw
        refine lv_aload_n xx xb dX2_standingPulled_85 rfl (lv_at hl 2 rfl) ?_
        have hM := kX2_standingIn l G h0 a1 a2 a3 a4 a5 a6 a7 a8 im lm rm pl sd (itF (spF R a x b y) n) hS3
        refine cv_i C hw hM yvX2_standingIn ml_X2_138 0 rfl rfl rfl [0, 2] rfl rfl (fun _ => (rfl : ([h0, a2] : List Nat) = [h0, a2])) (by decide) ⟨Nat.zero_le _, Nat.zero_le _⟩ hl.1 rfl (Nat.le_of_ble_eq_true rfl) dX2_standingPulled_86 (fun r _ H locs hr hw => ?_)
        have hw : Wd G (fA [(h0, .inr (2, [.ref a1, .ref a2, .ref a3, .ref a4, .int (nI im), .ref a5, .ref a6, .ref a7, .int (nI lm), .int (nI rm), .int (nI pl), .ref a8, .int sd])), (a1, aI G 54 (fl R)), (a2, aI G 54 (fl Rm))]) s [(h0, .inr (2, [.ref a1, .ref a2, .ref a3, .ref a4, .int (nI im), .ref a5, .ref a6, .ref a7, .int (nI lm), .int (nI rm), .int (nI pl), .ref a8, .int sd])), (a1, aI G 54 (fl R)), (a2, aI G 54 (fl (itF (spF R a x b y) n)))] H locs := hw
        subst hr
        exact rt_i C hw () rfl rfl dX2_standingPulled_89
      · skip
        have c_46 := eq_c (tN (by omega)) (tN (by omega)) c_46
        refine lv_aload_n xx xb dX2_standingPulled_49 rfl (lv_at hl 1 rfl) ?_
        refine m_get C hw 0 rfl fk_X2_13 rfl dX2_standingPulled_50 ?_
        refine lv_iload_n xx xb dX2_standingPulled_53 rfl (lv_at hl 4 rfl) ?_
        have hM := kX2_stands l G a2 (spP R a x) b hS1 (by rw [hN1]; exact hb)
        refine cs_i C hw hM ysX2_stands ml_X2_55 rfl [2] rfl rfl (fun _ => (rfl : ([a2] : List Nat) = [a2])) (by decide) ⟨Nat.zero_le _, Nat.zero_le _⟩ hl.1 rfl (Nat.le_of_ble_eq_true rfl) dX2_standingPulled_54 (fun r _ H locs hr hw => ?_)
        have hw : Wd G (fA [(h0, .inr (2, [.ref a1, .ref a2, .ref a3, .ref a4, .int (nI im), .ref a5, .ref a6, .ref a7, .int (nI lm), .int (nI rm), .int (nI pl), .ref a8, .int sd])), (a1, aI G 54 (fl R)), (a2, aI G 54 (fl Rm))]) s [(h0, .inr (2, [.ref a1, .ref a2, .ref a3, .ref a4, .int (nI im), .ref a5, .ref a6, .ref a7, .int (nI lm), .int (nI rm), .int (nI pl), .ref a8, .int sd])), (a1, aI G 54 (fl R)), (a2, aI G 54 (fl (spP R a x)))] H locs := hw
        subst hr
        refine lv_if_eq (tgt := 73) xx xb dX2_standingPulled_57 (by decide) (fun c_57 => ?_) (fun c_57 => ?_)
        · skip
          have c_57 := b0_c c_57
          refine lv_iconst (v := nI 0) xx xb dX2_standingPulled_73 (by decide) ?_
          refine lv_istore (lv' := [(7, .int (nI 0)), (6, .int (nI 0)), (0, .ref h0), (1, .int (nI a)), (2, .int (nI x)), (3, .int (nI b)), (4, .int (nI y)), (5, .int (nI n))]) xx xb dX2_standingPulled_74 hl (by decide) rfl (fun ls hl => ?_)
          have hw : Wd G (fA [(h0, .inr (2, [.ref a1, .ref a2, .ref a3, .ref a4, .int (nI im), .ref a5, .ref a6, .ref a7, .int (nI lm), .int (nI rm), .int (nI pl), .ref a8, .int sd])), (a1, aI G 54 (fl R)), (a2, aI G 54 (fl Rm))]) s [(h0, .inr (2, [.ref a1, .ref a2, .ref a3, .ref a4, .int (nI im), .ref a5, .ref a6, .ref a7, .int (nI lm), .int (nI rm), .int (nI pl), .ref a8, .int sd])), (a1, aI G 54 (fl R)), (a2, aI G 54 (fl (spF R a x b y)))] H locs := by show Wd _ _ _ [_, _, (a2, aI G 54 (fl (spP (spP R a x) b y)))] _ _; rw [show spP (spP R a x) b y = (if y = 1 ∧ spP R a x 4 b = 0 then pulF (spP R a x) b 9 else spP R a x) from rfl]; first | (rw [if_pos (And.intro (by omega) c_57)]; exact hw) | (rw [if_neg (fun q => c_57 q.2)]; exact hw) | (rw [if_neg (by omega)]; exact hw)
          refine lv_aload_n xx xb dX2_standingPulled_76 rfl (lv_at hl 2 rfl) ?_
          refine m_get C hw 0 rfl fk_X2_13 rfl dX2_standingPulled_77 ?_
          refine lv_iload xx xb dX2_standingPulled_80 (lv_at hl 7 rfl) ?_
          have hM := kX2_minutesOn l G a2 (spF R a x b y) n hS2 hT2 (by first | assumption | omega)
          refine cs_v C hw hM ysX2_minutesOn ml_X2_115 rfl [2] rfl rfl (fun _ => (rfl : ([a2] : List Nat) = [a2])) (by decide) ⟨Nat.zero_le _, Nat.zero_le _⟩ hl.1 rfl (Nat.le_of_ble_eq_true rfl) dX2_standingPulled_82 (fun _ H locs hr hw => ?_)
          have hw : Wd G (fA [(h0, .inr (2, [.ref a1, .ref a2, .ref a3, .ref a4, .int (nI im), .ref a5, .ref a6, .ref a7, .int (nI lm), .int (nI rm), .int (nI pl), .ref a8, .int sd])), (a1, aI G 54 (fl R)), (a2, aI G 54 (fl Rm))]) s [(h0, .inr (2, [.ref a1, .ref a2, .ref a3, .ref a4, .int (nI im), .ref a5, .ref a6, .ref a7, .int (nI lm), .int (nI rm), .int (nI pl), .ref a8, .int sd])), (a1, aI G 54 (fl R)), (a2, aI G 54 (fl (itF (spF R a x b y) n)))] H locs := hw
          refine lv_aload_n xx xb dX2_standingPulled_85 rfl (lv_at hl 2 rfl) ?_
          have hM := kX2_standingIn l G h0 a1 a2 a3 a4 a5 a6 a7 a8 im lm rm pl sd (itF (spF R a x b y) n) hS3
          refine cv_i C hw hM yvX2_standingIn ml_X2_138 0 rfl rfl rfl [0, 2] rfl rfl (fun _ => (rfl : ([h0, a2] : List Nat) = [h0, a2])) (by decide) ⟨Nat.zero_le _, Nat.zero_le _⟩ hl.1 rfl (Nat.le_of_ble_eq_true rfl) dX2_standingPulled_86 (fun r _ H locs hr hw => ?_)
          have hw : Wd G (fA [(h0, .inr (2, [.ref a1, .ref a2, .ref a3, .ref a4, .int (nI im), .ref a5, .ref a6, .ref a7, .int (nI lm), .int (nI rm), .int (nI pl), .ref a8, .int sd])), (a1, aI G 54 (fl R)), (a2, aI G 54 (fl Rm))]) s [(h0, .inr (2, [.ref a1, .ref a2, .ref a3, .ref a4, .int (nI im), .ref a5, .ref a6, .ref a7, .int (nI lm), .int (nI rm), .int (nI pl), .ref a8, .int sd])), (a1, aI G 54 (fl R)), (a2, aI G 54 (fl (itF (spF R a x b y) n)))] H locs := hw
          subst hr
          exact rt_i C hw () rfl rfl dX2_standingPulled_89
        · skip
          have c_57 := b1_c c_57
          refine lv_aload_n xx xb dX2_standingPulled_60 rfl (lv_at hl 1 rfl) ?_
          refine m_get C hw 0 rfl fk_X2_13 rfl dX2_standingPulled_61 ?_
          refine lv_iload_n xx xb dX2_standingPulled_64 rfl (lv_at hl 4 rfl) ?_
          refine re_i (onI b) ((onI_lt (by omega)).symm) ?_
          refine lv_bipush (v := nI 9) xx xb dX2_standingPulled_65 (by decide) ?_
          have hM := kX2_pullsIn l G a2 (spP R a x) b 9 hS1 (Or.inr (by rw [hN1]; exact hb)) (by first | assumption | omega)
          refine cs_i C hw hM ysX2_pullsIn ml_X2_112 rfl [2] rfl rfl (fun _ => (rfl : ([a2] : List Nat) = [a2])) (by decide) ⟨Nat.zero_le _, Nat.zero_le _⟩ hl.1 rfl (Nat.le_of_ble_eq_true rfl) dX2_standingPulled_67 (fun r _ H locs hr hw => ?_)
          have hw : Wd G (fA [(h0, .inr (2, [.ref a1, .ref a2, .ref a3, .ref a4, .int (nI im), .ref a5, .ref a6, .ref a7, .int (nI lm), .int (nI rm), .int (nI pl), .ref a8, .int sd])), (a1, aI G 54 (fl R)), (a2, aI G 54 (fl Rm))]) s [(h0, .inr (2, [.ref a1, .ref a2, .ref a3, .ref a4, .int (nI im), .ref a5, .ref a6, .ref a7, .int (nI lm), .int (nI rm), .int (nI pl), .ref a8, .int sd])), (a1, aI G 54 (fl R)), (a2, aI G 54 (fl (pulF (spP R a x) b 9)))] H locs := hw
          subst hr
          refine lv_goto (tgt := 74) xx xb dX2_standingPulled_70 (by decide) ?_
          refine lv_istore (lv' := [(7, .int (nI (ct (shkF (spP R a x) b 9) ((spP R a x) 0 0)))), (6, .int (nI 0)), (0, .ref h0), (1, .int (nI a)), (2, .int (nI x)), (3, .int (nI b)), (4, .int (nI y)), (5, .int (nI n))]) xx xb dX2_standingPulled_74 hl (by decide) rfl (fun ls hl => ?_)
          have hw : Wd G (fA [(h0, .inr (2, [.ref a1, .ref a2, .ref a3, .ref a4, .int (nI im), .ref a5, .ref a6, .ref a7, .int (nI lm), .int (nI rm), .int (nI pl), .ref a8, .int sd])), (a1, aI G 54 (fl R)), (a2, aI G 54 (fl Rm))]) s [(h0, .inr (2, [.ref a1, .ref a2, .ref a3, .ref a4, .int (nI im), .ref a5, .ref a6, .ref a7, .int (nI lm), .int (nI rm), .int (nI pl), .ref a8, .int sd])), (a1, aI G 54 (fl R)), (a2, aI G 54 (fl (spF R a x b y)))] H locs := by show Wd _ _ _ [_, _, (a2, aI G 54 (fl (spP (spP R a x) b y)))] _ _; rw [show spP (spP R a x) b y = (if y = 1 ∧ spP R a x 4 b = 0 then pulF (spP R a x) b 9 else spP R a x) from rfl]; first | (rw [if_pos (And.intro (by omega) c_57)]; exact hw) | (rw [if_neg (fun q => c_57 q.2)]; exact hw) | (rw [if_neg (by omega)]; exact hw)
          refine lv_aload_n xx xb dX2_standingPulled_76 rfl (lv_at hl 2 rfl) ?_
          refine m_get C hw 0 rfl fk_X2_13 rfl dX2_standingPulled_77 ?_
          refine lv_iload xx xb dX2_standingPulled_80 (lv_at hl 7 rfl) ?_
          have hM := kX2_minutesOn l G a2 (spF R a x b y) n hS2 hT2 (by first | assumption | omega)
          refine cs_v C hw hM ysX2_minutesOn ml_X2_115 rfl [2] rfl rfl (fun _ => (rfl : ([a2] : List Nat) = [a2])) (by decide) ⟨Nat.zero_le _, Nat.zero_le _⟩ hl.1 rfl (Nat.le_of_ble_eq_true rfl) dX2_standingPulled_82 (fun _ H locs hr hw => ?_)
          have hw : Wd G (fA [(h0, .inr (2, [.ref a1, .ref a2, .ref a3, .ref a4, .int (nI im), .ref a5, .ref a6, .ref a7, .int (nI lm), .int (nI rm), .int (nI pl), .ref a8, .int sd])), (a1, aI G 54 (fl R)), (a2, aI G 54 (fl Rm))]) s [(h0, .inr (2, [.ref a1, .ref a2, .ref a3, .ref a4, .int (nI im), .ref a5, .ref a6, .ref a7, .int (nI lm), .int (nI rm), .int (nI pl), .ref a8, .int sd])), (a1, aI G 54 (fl R)), (a2, aI G 54 (fl (itF (spF R a x b y) n)))] H locs := hw
          refine lv_aload_n xx xb dX2_standingPulled_85 rfl (lv_at hl 2 rfl) ?_
          have hM := kX2_standingIn l G h0 a1 a2 a3 a4 a5 a6 a7 a8 im lm rm pl sd (itF (spF R a x b y) n) hS3
          refine cv_i C hw hM yvX2_standingIn ml_X2_138 0 rfl rfl rfl [0, 2] rfl rfl (fun _ => (rfl : ([h0, a2] : List Nat) = [h0, a2])) (by decide) ⟨Nat.zero_le _, Nat.zero_le _⟩ hl.1 rfl (Nat.le_of_ble_eq_true rfl) dX2_standingPulled_86 (fun r _ H locs hr hw => ?_)
          have hw : Wd G (fA [(h0, .inr (2, [.ref a1, .ref a2, .ref a3, .ref a4, .int (nI im), .ref a5, .ref a6, .ref a7, .int (nI lm), .int (nI rm), .int (nI pl), .ref a8, .int sd])), (a1, aI G 54 (fl R)), (a2, aI G 54 (fl Rm))]) s [(h0, .inr (2, [.ref a1, .ref a2, .ref a3, .ref a4, .int (nI im), .ref a5, .ref a6, .ref a7, .int (nI lm), .int (nI rm), .int (nI pl), .ref a8, .int sd])), (a1, aI G 54 (fl R)), (a2, aI G 54 (fl (itF (spF R a x b y) n)))] H locs := hw
          subst hr
          exact rt_i C hw () rfl rfl dX2_standingPulled_89
    · skip
      have c_24 := b1_c c_24
      refine lv_aload_n xx xb dX2_standingPulled_27 rfl (lv_at hl 0 rfl) ?_
      refine m_get C hw 0 rfl fk_X2_13 rfl dX2_standingPulled_28 ?_
      refine lv_iload_n xx xb dX2_standingPulled_31 rfl (lv_at hl 1 rfl) ?_
      refine re_i (onI a) ((onI_lt (by omega)).symm) ?_
      refine lv_bipush (v := nI 9) xx xb dX2_standingPulled_32 (by decide) ?_
      have hM := kX2_pullsIn l G a2 R a 9 (by first | assumption | omega) (by first | assumption | omega) (by first | assumption | omega)
      refine cs_i C hw hM ysX2_pullsIn ml_X2_112 rfl [2] rfl rfl (fun _ => (rfl : ([a2] : List Nat) = [a2])) (by decide) ⟨Nat.zero_le _, Nat.zero_le _⟩ hl.1 rfl (Nat.le_of_ble_eq_true rfl) dX2_standingPulled_34 (fun r _ H locs hr hw => ?_)
      have hw : Wd G (fA [(h0, .inr (2, [.ref a1, .ref a2, .ref a3, .ref a4, .int (nI im), .ref a5, .ref a6, .ref a7, .int (nI lm), .int (nI rm), .int (nI pl), .ref a8, .int sd])), (a1, aI G 54 (fl R)), (a2, aI G 54 (fl Rm))]) s [(h0, .inr (2, [.ref a1, .ref a2, .ref a3, .ref a4, .int (nI im), .ref a5, .ref a6, .ref a7, .int (nI lm), .int (nI rm), .int (nI pl), .ref a8, .int sd])), (a1, aI G 54 (fl R)), (a2, aI G 54 (fl (pulF R a 9)))] H locs := hw
      subst hr
      refine lv_goto (tgt := 41) xx xb dX2_standingPulled_37 (by decide) ?_
      refine lv_istore (lv' := [(6, .int (nI (ct (shkF R a 9) (R 0 0)))), (0, .ref h0), (1, .int (nI a)), (2, .int (nI x)), (3, .int (nI b)), (4, .int (nI y)), (5, .int (nI n))]) xx xb dX2_standingPulled_41 hl (by decide) rfl (fun ls hl => ?_)
      have hw : Wd G (fA [(h0, .inr (2, [.ref a1, .ref a2, .ref a3, .ref a4, .int (nI im), .ref a5, .ref a6, .ref a7, .int (nI lm), .int (nI rm), .int (nI pl), .ref a8, .int sd])), (a1, aI G 54 (fl R)), (a2, aI G 54 (fl Rm))]) s [(h0, .inr (2, [.ref a1, .ref a2, .ref a3, .ref a4, .int (nI im), .ref a5, .ref a6, .ref a7, .int (nI lm), .int (nI rm), .int (nI pl), .ref a8, .int sd])), (a1, aI G 54 (fl R)), (a2, aI G 54 (fl (spP R a x)))] H locs := by unfold spP; first | (rw [if_pos (And.intro (by omega) c_24)]; exact hw) | (rw [if_neg (fun q => c_24 q.2)]; exact hw) | (rw [if_neg (by omega)]; exact hw)
      refine lv_iload xx xb dX2_standingPulled_43 (lv_at hl 5 rfl) ?_
      refine lv_iconst (v := nI 1) xx xb dX2_standingPulled_45 (by decide) ?_
      refine lv_icmp_ne (tgt := 73) xx xb dX2_standingPulled_46 (by decide) (fun c_46 => ?_) (fun c_46 => ?_)
      · skip
        have c_46 := ne_c (tN (by omega)) (tN (by omega)) c_46
        refine lv_iconst (v := nI 0) xx xb dX2_standingPulled_73 (by decide) ?_
        refine lv_istore (lv' := [(7, .int (nI 0)), (6, .int (nI (ct (shkF R a 9) (R 0 0)))), (0, .ref h0), (1, .int (nI a)), (2, .int (nI x)), (3, .int (nI b)), (4, .int (nI y)), (5, .int (nI n))]) xx xb dX2_standingPulled_74 hl (by decide) rfl (fun ls hl => ?_)
        have hw : Wd G (fA [(h0, .inr (2, [.ref a1, .ref a2, .ref a3, .ref a4, .int (nI im), .ref a5, .ref a6, .ref a7, .int (nI lm), .int (nI rm), .int (nI pl), .ref a8, .int sd])), (a1, aI G 54 (fl R)), (a2, aI G 54 (fl Rm))]) s [(h0, .inr (2, [.ref a1, .ref a2, .ref a3, .ref a4, .int (nI im), .ref a5, .ref a6, .ref a7, .int (nI lm), .int (nI rm), .int (nI pl), .ref a8, .int sd])), (a1, aI G 54 (fl R)), (a2, aI G 54 (fl (spF R a x b y)))] H locs := by show Wd _ _ _ [_, _, (a2, aI G 54 (fl (spP (spP R a x) b y)))] _ _; rw [show spP (spP R a x) b y = (if y = 1 ∧ spP R a x 4 b = 0 then pulF (spP R a x) b 9 else spP R a x) from rfl]; first | (rw [if_pos (And.intro (by omega) c_57)]; exact hw) | (rw [if_neg (fun q => c_57 q.2)]; exact hw) | (rw [if_neg (by omega)]; exact hw)
        refine lv_aload_n xx xb dX2_standingPulled_76 rfl (lv_at hl 2 rfl) ?_
        refine m_get C hw 0 rfl fk_X2_13 rfl dX2_standingPulled_77 ?_
        refine lv_iload xx xb dX2_standingPulled_80 (lv_at hl 7 rfl) ?_
        have hM := kX2_minutesOn l G a2 (spF R a x b y) n hS2 hT2 (by first | assumption | omega)
        refine cs_v C hw hM ysX2_minutesOn ml_X2_115 rfl [2] rfl rfl (fun _ => (rfl : ([a2] : List Nat) = [a2])) (by decide) ⟨Nat.zero_le _, Nat.zero_le _⟩ hl.1 rfl (Nat.le_of_ble_eq_true rfl) dX2_standingPulled_82 (fun _ H locs hr hw => ?_)
        have hw : Wd G (fA [(h0, .inr (2, [.ref a1, .ref a2, .ref a3, .ref a4, .int (nI im), .ref a5, .ref a6, .ref a7, .int (nI lm), .int (nI rm), .int (nI pl), .ref a8, .int sd])), (a1, aI G 54 (fl R)), (a2, aI G 54 (fl Rm))]) s [(h0, .inr (2, [.ref a1, .ref a2, .ref a3, .ref a4, .int (nI im), .ref a5, .ref a6, .ref a7, .int (nI lm), .int (nI rm), .int (nI pl), .ref a8, .int sd])), (a1, aI G 54 (fl R)), (a2, aI G 54 (fl (itF (spF R a x b y) n)))] H locs := hw
        refine lv_aload_n xx xb dX2_standingPulled_85 rfl (lv_at hl 2 rfl) ?_
        have hM := kX2_standingIn l G h0 a1 a2 a3 a4 a5 a6 a7 a8 im lm rm pl sd (itF (spF R a x b y) n) hS3
        refine cv_i C hw hM yvX2_standingIn ml_X2_138 0 rfl rfl rfl [0, 2] rfl rfl (fun _ => (rfl : ([h0, a2] : List Nat) = [h0, a2])) (by decide) ⟨Nat.zero_le _, Nat.zero_le _⟩ hl.1 rfl (Nat.le_of_ble_eq_true rfl) dX2_standingPulled_86 (fun r _ H locs hr hw => ?_)
        have hw : Wd G (fA [(h0, .inr (2, [.ref a1, .ref a2, .ref a3, .ref a4, .int (nI im), .ref a5, .ref a6, .ref a7, .int (nI lm), .int (nI rm), .int (nI pl), .ref a8, .int sd])), (a1, aI G 54 (fl R)), (a2, aI G 54 (fl Rm))]) s [(h0, .inr (2, [.ref a1, .ref a2, .ref a3, .ref a4, .int (nI im), .ref a5, .ref a6, .ref a7, .int (nI lm), .int (nI rm), .int (nI pl), .ref a8, .int sd])), (a1, aI G 54 (fl R)), (a2, aI G 54 (fl (itF (spF R a x b y) n)))] H locs := hw
        subst hr
        exact rt_i C hw () rfl rfl dX2_standingPulled_89
      · skip
        have c_46 := eq_c (tN (by omega)) (tN (by omega)) c_46
        refine lv_aload_n xx xb dX2_standingPulled_49 rfl (lv_at hl 1 rfl) ?_
        refine m_get C hw 0 rfl fk_X2_13 rfl dX2_standingPulled_50 ?_
        refine lv_iload_n xx xb dX2_standingPulled_53 rfl (lv_at hl 4 rfl) ?_
        have hM := kX2_stands l G a2 (spP R a x) b hS1 (by rw [hN1]; exact hb)
        refine cs_i C hw hM ysX2_stands ml_X2_55 rfl [2] rfl rfl (fun _ => (rfl : ([a2] : List Nat) = [a2])) (by decide) ⟨Nat.zero_le _, Nat.zero_le _⟩ hl.1 rfl (Nat.le_of_ble_eq_true rfl) dX2_standingPulled_54 (fun r _ H locs hr hw => ?_)
        have hw : Wd G (fA [(h0, .inr (2, [.ref a1, .ref a2, .ref a3, .ref a4, .int (nI im), .ref a5, .ref a6, .ref a7, .int (nI lm), .int (nI rm), .int (nI pl), .ref a8, .int sd])), (a1, aI G 54 (fl R)), (a2, aI G 54 (fl Rm))]) s [(h0, .inr (2, [.ref a1, .ref a2, .ref a3, .ref a4, .int (nI im), .ref a5, .ref a6, .ref a7, .int (nI lm), .int (nI rm), .int (nI pl), .ref a8, .int sd])), (a1, aI G 54 (fl R)), (a2, aI G 54 (fl (spP R a x)))] H locs := hw
        subst hr
        refine lv_if_eq (tgt := 73) xx xb dX2_standingPulled_57 (by decide) (fun c_57 => ?_) (fun c_57 => ?_)
        · skip
          have c_57 := b0_c c_57
          refine lv_iconst (v := nI 0) xx xb dX2_standingPulled_73 (by decide) ?_
          refine lv_istore (lv' := [(7, .int (nI 0)), (6, .int (nI (ct (shkF R a 9) (R 0 0)))), (0, .ref h0), (1, .int (nI a)), (2, .int (nI x)), (3, .int (nI b)), (4, .int (nI y)), (5, .int (nI n))]) xx xb dX2_standingPulled_74 hl (by decide) rfl (fun ls hl => ?_)
          have hw : Wd G (fA [(h0, .inr (2, [.ref a1, .ref a2, .ref a3, .ref a4, .int (nI im), .ref a5, .ref a6, .ref a7, .int (nI lm), .int (nI rm), .int (nI pl), .ref a8, .int sd])), (a1, aI G 54 (fl R)), (a2, aI G 54 (fl Rm))]) s [(h0, .inr (2, [.ref a1, .ref a2, .ref a3, .ref a4, .int (nI im), .ref a5, .ref a6, .ref a7, .int (nI lm), .int (nI rm), .int (nI pl), .ref a8, .int sd])), (a1, aI G 54 (fl R)), (a2, aI G 54 (fl (spF R a x b y)))] H locs := by show Wd _ _ _ [_, _, (a2, aI G 54 (fl (spP (spP R a x) b y)))] _ _; rw [show spP (spP R a x) b y = (if y = 1 ∧ spP R a x 4 b = 0 then pulF (spP R a x) b 9 else spP R a x) from rfl]; first | (rw [if_pos (And.intro (by omega) c_57)]; exact hw) | (rw [if_neg (fun q => c_57 q.2)]; exact hw) | (rw [if_neg (by omega)]; exact hw)
          refine lv_aload_n xx xb dX2_standingPulled_76 rfl (lv_at hl 2 rfl) ?_
          refine m_get C hw 0 rfl fk_X2_13 rfl dX2_standingPulled_77 ?_
          refine lv_iload xx xb dX2_standingPulled_80 (lv_at hl 7 rfl) ?_
          have hM := kX2_minutesOn l G a2 (spF R a x b y) n hS2 hT2 (by first | assumption | omega)
          refine cs_v C hw hM ysX2_minutesOn ml_X2_115 rfl [2] rfl rfl (fun _ => (rfl : ([a2] : List Nat) = [a2])) (by decide) ⟨Nat.zero_le _, Nat.zero_le _⟩ hl.1 rfl (Nat.le_of_ble_eq_true rfl) dX2_standingPulled_82 (fun _ H locs hr hw => ?_)
          have hw : Wd G (fA [(h0, .inr (2, [.ref a1, .ref a2, .ref a3, .ref a4, .int (nI im), .ref a5, .ref a6, .ref a7, .int (nI lm), .int (nI rm), .int (nI pl), .ref a8, .int sd])), (a1, aI G 54 (fl R)), (a2, aI G 54 (fl Rm))]) s [(h0, .inr (2, [.ref a1, .ref a2, .ref a3, .ref a4, .int (nI im), .ref a5, .ref a6, .ref a7, .int (nI lm), .int (nI rm), .int (nI pl), .ref a8, .int sd])), (a1, aI G 54 (fl R)), (a2, aI G 54 (fl (itF (spF R a x b y) n)))] H locs := hw
          refine lv_aload_n xx xb dX2_standingPulled_85 rfl (lv_at hl 2 rfl) ?_
          have hM := kX2_standingIn l G h0 a1 a2 a3 a4 a5 a6 a7 a8 im lm rm pl sd (itF (spF R a x b y) n) hS3
          refine cv_i C hw hM yvX2_standingIn ml_X2_138 0 rfl rfl rfl [0, 2] rfl rfl (fun _ => (rfl : ([h0, a2] : List Nat) = [h0, a2])) (by decide) ⟨Nat.zero_le _, Nat.zero_le _⟩ hl.1 rfl (Nat.le_of_ble_eq_true rfl) dX2_standingPulled_86 (fun r _ H locs hr hw => ?_)
          have hw : Wd G (fA [(h0, .inr (2, [.ref a1, .ref a2, .ref a3, .ref a4, .int (nI im), .ref a5, .ref a6, .ref a7, .int (nI lm), .int (nI rm), .int (nI pl), .ref a8, .int sd])), (a1, aI G 54 (fl R)), (a2, aI G 54 (fl Rm))]) s [(h0, .inr (2, [.ref a1, .ref a2, .ref a3, .ref a4, .int (nI im), .ref a5, .ref a6, .ref a7, .int (nI lm), .int (nI rm), .int (nI pl), .ref a8, .int sd])), (a1, aI G 54 (fl R)), (a2, aI G 54 (fl (itF (spF R a x b y) n)))] H locs := hw
          subst hr
          exact rt_i C hw () rfl rfl dX2_standingPulled_89
        · skip
          have c_57 := b1_c c_57
          refine lv_aload_n xx xb dX2_standingPulled_60 rfl (lv_at hl 1 rfl) ?_
          refine m_get C hw 0 rfl fk_X2_13 rfl dX2_standingPulled_61 ?_
          refine lv_iload_n xx xb dX2_standingPulled_64 rfl (lv_at hl 4 rfl) ?_
          refine re_i (onI b) ((onI_lt (by omega)).symm) ?_
          refine lv_bipush (v := nI 9) xx xb dX2_standingPulled_65 (by decide) ?_
          have hM := kX2_pullsIn l G a2 (spP R a x) b 9 hS1 (Or.inr (by rw [hN1]; exact hb)) (by first | assumption | omega)
          refine cs_i C hw hM ysX2_pullsIn ml_X2_112 rfl [2] rfl rfl (fun _ => (rfl : ([a2] : List Nat) = [a2])) (by decide) ⟨Nat.zero_le _, Nat.zero_le _⟩ hl.1 rfl (Nat.le_of_ble_eq_true rfl) dX2_standingPulled_67 (fun r _ H locs hr hw => ?_)
          have hw : Wd G (fA [(h0, .inr (2, [.ref a1, .ref a2, .ref a3, .ref a4, .int (nI im), .ref a5, .ref a6, .ref a7, .int (nI lm), .int (nI rm), .int (nI pl), .ref a8, .int sd])), (a1, aI G 54 (fl R)), (a2, aI G 54 (fl Rm))]) s [(h0, .inr (2, [.ref a1, .ref a2, .ref a3, .ref a4, .int (nI im), .ref a5, .ref a6, .ref a7, .int (nI lm), .int (nI rm), .int (nI pl), .ref a8, .int sd])), (a1, aI G 54 (fl R)), (a2, aI G 54 (fl (pulF (spP R a x) b 9)))] H locs := hw
          subst hr
          refine lv_goto (tgt := 74) xx xb dX2_standingPulled_70 (by decide) ?_
          refine lv_istore (lv' := [(7, .int (nI (ct (shkF (spP R a x) b 9) ((spP R a x) 0 0)))), (6, .int (nI (ct (shkF R a 9) (R 0 0)))), (0, .ref h0), (1, .int (nI a)), (2, .int (nI x)), (3, .int (nI b)), (4, .int (nI y)), (5, .int (nI n))]) xx xb dX2_standingPulled_74 hl (by decide) rfl (fun ls hl => ?_)
          have hw : Wd G (fA [(h0, .inr (2, [.ref a1, .ref a2, .ref a3, .ref a4, .int (nI im), .ref a5, .ref a6, .ref a7, .int (nI lm), .int (nI rm), .int (nI pl), .ref a8, .int sd])), (a1, aI G 54 (fl R)), (a2, aI G 54 (fl Rm))]) s [(h0, .inr (2, [.ref a1, .ref a2, .ref a3, .ref a4, .int (nI im), .ref a5, .ref a6, .ref a7, .int (nI lm), .int (nI rm), .int (nI pl), .ref a8, .int sd])), (a1, aI G 54 (fl R)), (a2, aI G 54 (fl (spF R a x b y)))] H locs := by show Wd _ _ _ [_, _, (a2, aI G 54 (fl (spP (spP R a x) b y)))] _ _; rw [show spP (spP R a x) b y = (if y = 1 ∧ spP R a x 4 b = 0 then pulF (spP R a x) b 9 else spP R a x) from rfl]; first | (rw [if_pos (And.intro (by omega) c_57)]; exact hw) | (rw [if_neg (fun q => c_57 q.2)]; exact hw) | (rw [if_neg (by omega)]; exact hw)
          refine lv_aload_n xx xb dX2_standingPulled_76 rfl (lv_at hl 2 rfl) ?_
          refine m_get C hw 0 rfl fk_X2_13 rfl dX2_standingPulled_77 ?_
          refine lv_iload xx xb dX2_standingPulled_80 (lv_at hl 7 rfl) ?_
          have hM := kX2_minutesOn l G a2 (spF R a x b y) n hS2 hT2 (by first | assumption | omega)
          refine cs_v C hw hM ysX2_minutesOn ml_X2_115 rfl [2] rfl rfl (fun _ => (rfl : ([a2] : List Nat) = [a2])) (by decide) ⟨Nat.zero_le _, Nat.zero_le _⟩ hl.1 rfl (Nat.le_of_ble_eq_true rfl) dX2_standingPulled_82 (fun _ H locs hr hw => ?_)
          have hw : Wd G (fA [(h0, .inr (2, [.ref a1, .ref a2, .ref a3, .ref a4, .int (nI im), .ref a5, .ref a6, .ref a7, .int (nI lm), .int (nI rm), .int (nI pl), .ref a8, .int sd])), (a1, aI G 54 (fl R)), (a2, aI G 54 (fl Rm))]) s [(h0, .inr (2, [.ref a1, .ref a2, .ref a3, .ref a4, .int (nI im), .ref a5, .ref a6, .ref a7, .int (nI lm), .int (nI rm), .int (nI pl), .ref a8, .int sd])), (a1, aI G 54 (fl R)), (a2, aI G 54 (fl (itF (spF R a x b y) n)))] H locs := hw
          refine lv_aload_n xx xb dX2_standingPulled_85 rfl (lv_at hl 2 rfl) ?_
          have hM := kX2_standingIn l G h0 a1 a2 a3 a4 a5 a6 a7 a8 im lm rm pl sd (itF (spF R a x b y) n) hS3
          refine cv_i C hw hM yvX2_standingIn ml_X2_138 0 rfl rfl rfl [0, 2] rfl rfl (fun _ => (rfl : ([h0, a2] : List Nat) = [h0, a2])) (by decide) ⟨Nat.zero_le _, Nat.zero_le _⟩ hl.1 rfl (Nat.le_of_ble_eq_true rfl) dX2_standingPulled_86 (fun r _ H locs hr hw => ?_)
          have hw : Wd G (fA [(h0, .inr (2, [.ref a1, .ref a2, .ref a3, .ref a4, .int (nI im), .ref a5, .ref a6, .ref a7, .int (nI lm), .int (nI rm), .int (nI pl), .ref a8, .int sd])), (a1, aI G 54 (fl R)), (a2, aI G 54 (fl Rm))]) s [(h0, .inr (2, [.ref a1, .ref a2, .ref a3, .ref a4, .int (nI im), .ref a5, .ref a6, .ref a7, .int (nI lm), .int (nI rm), .int (nI pl), .ref a8, .int sd])), (a1, aI G 54 (fl R)), (a2, aI G 54 (fl (itF (spF R a x b y) n)))] H locs := hw
          subst hr
          exact rt_i C hw () rfl rfl dX2_standingPulled_89
set_option maxRecDepth 100000 in
set_option maxHeartbeats 4000000 in
theorem kX2_drawn (l : Launch) (G : GT) (h0 : Nat) (a1 : Nat) (a2 : Nat) (a3 : Nat) (a4 : Nat) (a5 : Nat) (a6 : Nat) (a7 : Nat) (a8 : Nat) (im : Nat) (lm : Nat) (rm : Nat) (pl : Nat) (sd : Int32) (n : Nat) (hn : 1 ≤ n ∧ n ≤ 10) : Ct l yX2_drawn cX2_drawn 2 (some .int) 0 0 [.ref h0, .int (nI n)] G [(h0, .inr (2, [.ref a1, .ref a2, .ref a3, .ref a4, .int (nI im), .ref a5, .ref a6, .ref a7, .int (nI lm), .int (nI rm), .int (nI pl), .ref a8, .int sd]))] (QI G [(h0, .inr (2, [.ref a1, .ref a2, .ref a3, .ref a4, .int (nI im), .ref a5, .ref a6, .ref a7, .int (nI lm), .int (nI rm), .int (nI pl), .ref a8, .int sd]))] (fun (r : Int32) (u : Unit) => r = nI (drN (nxI sd) n)) (fun u => [(h0, .inr (2, [.ref a1, .ref a2, .ref a3, .ref a4, .int (nI im), .ref a5, .ref a6, .ref a7, .int (nI lm), .int (nI rm), .int (nI pl), .ref a8, .int (nxI sd)]))])) := by
  refine en (by decide +kernel) (Nat.le_of_ble_eq_true rfl) ?_
  intro p e s m below meth c ls H locs C hl hw
  have xx := C.1
  have xb := C.2.1
  have hw : Wd G (fA [(h0, .inr (2, [.ref a1, .ref a2, .ref a3, .ref a4, .int (nI im), .ref a5, .ref a6, .ref a7, .int (nI lm), .int (nI rm), .int (nI pl), .ref a8, .int sd]))]) s [(h0, .inr (2, [.ref a1, .ref a2, .ref a3, .ref a4, .int (nI im), .ref a5, .ref a6, .ref a7, .int (nI lm), .int (nI rm), .int (nI pl), .ref a8, .int sd]))] H locs := hw
  have hl : lv_has ls 2 [(0, .ref h0), (1, .int (nI n))] := hl
  refine lv_aload_n xx xb dX2_drawn_0 rfl (lv_at hl 0 rfl) ?_
  refine lv_aload_n xx xb dX2_drawn_1 rfl (lv_at hl 0 rfl) ?_
  refine m_get C hw 0 rfl fk_X2_184 rfl dX2_drawn_2 ?_
  refine m_ldc C kc_X2_187 dX2_drawn_5 ?_
  refine lv_imul xx xb dX2_drawn_7 ?_
  refine m_ldc C kc_X2_188 dX2_drawn_8 ?_
  refine lv_iadd xx xb dX2_drawn_10 ?_
  refine re_i (nxI sd) rfl ?_
  refine m_put C hw 0 rfl rfl tyX2 tyX2_ok nmX2 fk_X2_184 rfl rfl rfl rfl (Nat.le_of_ble_eq_true rfl) dX2_drawn_11 (fun H locs hw => ?_)
  have hw : Wd G (fA [(h0, .inr (2, [.ref a1, .ref a2, .ref a3, .ref a4, .int (nI im), .ref a5, .ref a6, .ref a7, .int (nI lm), .int (nI rm), .int (nI pl), .ref a8, .int sd]))]) s [(h0, .inr (2, [.ref a1, .ref a2, .ref a3, .ref a4, .int (nI im), .ref a5, .ref a6, .ref a7, .int (nI lm), .int (nI rm), .int (nI pl), .ref a8, .int (nxI sd)]))] H locs := hw
  refine lv_aload_n xx xb dX2_drawn_14 rfl (lv_at hl 0 rfl) ?_
  refine m_get C hw 0 rfl fk_X2_184 rfl dX2_drawn_15 ?_
  refine m_ldc C kc_X2_189 dX2_drawn_18 ?_
  refine lv_iand xx xb dX2_drawn_20 ?_
  refine re_i (nI ((nxI sd).toBitVec.toNat % 2147483648)) (dr_and _) ?_
  refine lv_sipush (v := nI 256) xx xb dX2_drawn_21 (by decide) ?_
  refine lv_idiv xx xb dX2_drawn_24 (by decide +kernel) ?_
  refine re_i (nI (((nxI sd).toBitVec.toNat % 2147483648) / 256)) (pk_div (by omega) (by omega) (by omega)) ?_
  refine lv_iload_n xx xb dX2_drawn_25 rfl (lv_at hl 1 rfl) ?_
  refine lv_irem xx xb dX2_drawn_26 (nI_ne0 (by omega) (by omega)) ?_
  refine re_i (nI ((((nxI sd).toBitVec.toNat % 2147483648) / 256) % n)) (pk_rem (by omega) (by omega) (by omega)) ?_
  exact rt_i C hw () rfl rfl dX2_drawn_27
