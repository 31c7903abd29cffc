theorem held_0 {R : RT} (hp : R 0 3 = 0) (a : Nat) : heldF R a = grdF R a := by unfold heldF; rw [hp, Nat.zero_testBit]; rfl
def mvB (R : RT) (d : Nat) : Nat → Bool
  | 0 => false
  | i + 1 => mvB R d i || (decide (R 4 i = 0) && decide (airF R d i ≠ R 5 i))
theorem mv_k {R : RT} {d i : Nat} (h : mvB R d i = true) : nI 1 = if mvB R d (i + 1) = true then 1 else 0 := by
  have e : mvB R d (i + 1) = true := by show (mvB R d i || _) = true; simp [h]
  rw [e] <;> decide
theorem mv_1 {R : RT} {d i : Nat} (h4 : R 4 i = 0) (h : airF R d i ≠ R 5 i) : nI 1 = if mvB R d (i + 1) = true then 1 else 0 := by
  have e : mvB R d (i + 1) = true := by show (mvB R d i || _) = true; simp [h4, h]
  rw [e] <;> decide
theorem mv_0 {R : RT} {d i : Nat} (hf : ¬ mvB R d i = true) (h : airF R d i = R 5 i) : nI 0 = if mvB R d (i + 1) = true then 1 else 0 := by
  have e : mvB R d (i + 1) = mvB R d i := by show (mvB R d i || _) = _; simp [h]
  rw [e, if_neg hf] <;> decide
theorem mv_n {R : RT} {d i : Nat} (h : ¬ R 4 i = 0) : mvB R d (i + 1) = mvB R d i := by show (mvB R d i || _) = _; simp [h]
theorem mv_all {R : RT} {d : Nat} : ∀ {n : Nat}, mvB R d n = false → ∀ a, a < n → R 4 a = 0 → airF R d a = R 5 a
  | 0, _, a, h, _ => absurd h (Nat.not_lt_zero _)
  | n + 1, h, a, ha, h4 => by
    have h : (mvB R d n || (decide (R 4 n = 0) && decide (airF R d n ≠ R 5 n))) = false := h
    rw [Bool.or_eq_false_iff] at h
    by_cases q : a = n
    · subst q
      have := h.2
      simp [h4] at this
      exact this
    · exact mv_all h.1 a (by omega) h4
theorem air2_row {R : RT} {d i : Nat} : sA (air2 R d (i + 1)) = cN (upN (air2 R d i 5) i (airF R d i)) := by
  funext j
  show nI (air2 R d (i + 1) 5 j) = nI (upN (air2 R d i 5) i (airF R d i) j)
  congr 1
  unfold air2 upN
  by_cases q : j = i
  · rw [if_pos q, if_pos (by omega), q]
  · rw [if_neg q]
    show _ = (if 5 = 5 ∧ j < i then airF R d j else R 5 j)
    by_cases z : j < i
    · rw [if_pos (by omega), if_pos (by omega)]
    · rw [if_neg (by omega), if_neg (by omega)]
theorem air2_nr {R : RT} {d i : Nat} (h : ¬ R 4 i = 0) : sA (air2 R d (i + 1)) = sA (air2 R d i) := by
  rw [← air2_n (S := R) (d := d) (i := i) (by unfold airF; rw [if_neg h])]
def flB (R : RT) (d : Nat) : Nat → Bool := fun a => decide (R 4 a = 0) && decide (habF R a (slF R) < airF R d a)
theorem flB_t {R : RT} {d a : Nat} (h : R 4 a = 0) (h2 : habF R a (slF R) < airF R d a) : flB R d a = true := by simp [flB, h, h2]
theorem flB_f {R : RT} {d a : Nat} (h : ¬ (R 4 a = 0 ∧ habF R a (slF R) < airF R d a)) : flB R d a = false := by
  cases hb : flB R d a with
  | false => rfl
  | true =>
    simp only [flB, Bool.and_eq_true, decide_eq_true_eq] at hb
    exact absurd hb h
theorem slX_st {R : RT} {a : Nat} (h4 : R 4 a = 0) : slX R a = slF R := by
  unfold slX slF
  have e : anN (setF R 1) (2 ^ a) = setF R 1 := by
    apply Nat.eq_of_testBit_eq
    intro k
    rw [anN_bit, setF_bit, Nat.testBit_two_pow]
    by_cases q : a = k
    · subst q; simp [h4]
    · simp [q]
  rw [e]
theorem how_mi {R : RT} {d k : Nat} (hk : k < R 0 0) : miF R d 4 k = if flB R d k = true then 1 else R 4 k := by
  have e : miF R d 4 k = howF (bmp R) d k := by
    show minF (bmp R) d 4 k = _
    unfold minF
    rw [if_neg (by omega), if_pos (by exact ⟨rfl, hk⟩)]
  rw [e, show howF (bmp R) d k = howF R d k from rfl]
  unfold howF
  by_cases q : R 4 k = 0 ∧ habF R k (slF R) < airF R d k
  · rw [if_pos q, flB_t q.1 q.2, if_pos rfl]
  · rw [if_neg q, flB_f q]; rfl
theorem mi_st {R : RT} {d : Nat} : sS (miF R d) = anN (setF R 0) (bs (flB R d) (R 0 0)) := by
  apply Nat.eq_of_testBit_eq
  intro k
  rw [anN_bit, setF_bit, setF_bit, bs_bit]
  have e0 : miF R d 0 0 = R 0 0 := rfl
  rw [e0]
  by_cases hk : k < R 0 0
  · rw [how_mi hk]
    cases hf : flB R d k with
    | true => simp [hk]
    | false => simp [hk]
  · simp [hk]
theorem mi_ly {R : RT} {d : Nat} : sL (miF R d) = setF R 1 ||| bs (flB R d) (R 0 0) := by
  apply Nat.eq_of_testBit_eq
  intro k
  rw [Nat.testBit_or, setF_bit, setF_bit, bs_bit]
  have e0 : miF R d 0 0 = R 0 0 := rfl
  rw [e0]
  by_cases hk : k < R 0 0
  · rw [how_mi hk]
    cases hf : flB R d k with
    | true => simp [hk]
    | false => simp [hk]
  · simp [hk]
theorem mi_aa {R : RT} {d : Nat} : sA (miF R d) = sA (air2 R d (R 0 0)) := by
  funext j
  rfl
def nz (R : RT) : RT := upR R 0 1 0
theorem nz_min (R : RT) (x d : Nat) : nz (minF (upR R 0 1 x) d) = nz (minF (nz R) d) := by
  funext i j
  unfold nz
  by_cases q : i = 0 ∧ j = 1
  · unfold upR; rw [if_pos q, if_pos q]
  · rw [upR_n q, upR_n q]
    unfold minF
    by_cases h5 : i = 5 ∧ j < R 0 0
    · rw [if_pos (show i = 5 ∧ j < upR R 0 1 x 0 0 from h5), if_pos (show i = 5 ∧ j < upR R 0 1 0 0 0 from h5)]; rfl
    · rw [if_neg (show ¬ (i = 5 ∧ j < upR R 0 1 x 0 0) from h5), if_neg (show ¬ (i = 5 ∧ j < upR R 0 1 0 0 0) from h5)]
      by_cases h4 : i = 4 ∧ j < R 0 0
      · rw [if_pos (show i = 4 ∧ j < upR R 0 1 x 0 0 from h4), if_pos (show i = 4 ∧ j < upR R 0 1 0 0 0 from h4)]; rfl
      · rw [if_neg (show ¬ (i = 4 ∧ j < upR R 0 1 x 0 0) from h4), if_neg (show ¬ (i = 4 ∧ j < upR R 0 1 0 0 0) from h4), upR_n q, upR_n q]
theorem nz_mi (R : RT) (d : Nat) : nz (miF R d) = nz (minF (nz R) d) := nz_min R _ d
theorem mv_fix {R : RT} (hR : OK R) (h : mvB R 0 (R 0 0) = false) : nz (miF R 0) = nz R := by
  have hA := mv_all h
  funext i j
  unfold nz
  by_cases q : i = 0 ∧ j = 1
  · unfold upR; rw [if_pos q, if_pos q]
  · rw [upR_n q, upR_n q]
    show minF (bmp R) 0 i j = R i j
    unfold minF
    have e00 : bmp R 0 0 = R 0 0 := rfl
    rw [e00]
    by_cases h5 : i = 5 ∧ j < R 0 0
    · rw [if_pos h5, h5.1, show airF (bmp R) 0 j = airF R 0 j from rfl]
      by_cases h4 : R 4 j = 0
      · exact hA j h5.2 h4
      · unfold airF; rw [if_neg h4]
    · rw [if_neg h5]
      by_cases h4 : i = 4 ∧ j < R 0 0
      · rw [if_pos h4, h4.1, show howF (bmp R) 0 j = howF R 0 j from rfl]
        unfold howF
        rw [if_neg]
        rintro ⟨z1, z2⟩
        have e := hA j h4.2 z1
        have e2 := e
        unfold airF at e2
        rw [if_pos z1] at e2
        by_cases hh : heldF R j = true
        · unfold airF at z2; rw [if_pos z1, if_pos hh] at z2; omega
        · rw [if_neg hh] at e2; omega
      · rw [if_neg h4]
        unfold bmp
        exact upR_n q
theorem nz_w {A B : RT} (h : nz A = nz B) : sN A = sN B ∧ sF A = sF B ∧ sS A = sS B ∧ sL A = sL B ∧ sK A = sK B ∧ sG A = sG B ∧ sO A = sO B ∧ sA A = sA B := by
  refine ⟨?_, ?_, ?_, ?_, ?_, ?_, ?_, ?_⟩
  · show sN (nz A) = sN (nz B); rw [h]
  · show sF (nz A) = sF (nz B); rw [h]
  · show sS (nz A) = sS (nz B); rw [h]
  · show sL (nz A) = sL (nz B); rw [h]
  · show sK (nz A) = sK (nz B); rw [h]
  · show sG (nz A) = sG (nz B); rw [h]
  · show sO (nz A) = sO (nz B); rw [h]
  · show sA (nz A) = sA (nz B); rw [h]
theorem nz_it {R : RT} {i : Nat} (h : nz (itF R (i + 1)) = nz (itF R i)) : ∀ d, nz (itF R (i + d)) = nz (itF R i)
  | 0 => rfl
  | d + 1 => by
    have ih := nz_it h d
    show nz (miF (itF R (i + d)) 0) = _
    rw [nz_mi, ih, ← nz_mi]
    exact h
set_option maxRecDepth 100000 in
set_option maxHeartbeats 4000000 in
theorem kX0_passMinute (l : Launch) (G : GT) (so : Nat) (ak : Nat) (af : Nat) (ab : Nat) (aa : Nat) (mi : Nat) (R : RT) (d : Nat) (hR : OK R) (hK : AK R) (hp : R 0 3 = 0) (hd : d ≤ 1) : Ct l yX0_passMinute cX0_passMinute 5 (some .boolean) 2 54 [.ref so, .int (nI d)] G [(so, .inr (0, [.int (nI (sN R)), .int (nI mi), .int (nI (sF R)), .int (nI (sS R)), .int (nI (sL R)), .ref ak, .ref af, .ref ab, .ref aa])), (ak, aI G 10 (sK R)), (af, aI G 10 (sG R)), (ab, aI G 10 (sO R)), (aa, aI G 10 (sA R))] (QI G [(so, .inr (0, [.int (nI (sN R)), .int (nI mi), .int (nI (sF R)), .int (nI (sS R)), .int (nI (sL R)), .ref ak, .ref af, .ref ab, .ref aa])), (ak, aI G 10 (sK R)), (af, aI G 10 (sG R)), (ab, aI G 10 (sO R)), (aa, aI G 10 (sA R))] (fun (r : Int32) (u : Unit) => r = if mvB R d (R 0 0) = true then 1 else 0) (fun u => [(so, .inr (0, [.int (nI (sN (miF R d))), .int (nI mi), .int (nI (sF (miF R d))), .int (nI (sS (miF R d))), .int (nI (sL (miF R d))), .ref ak, .ref af, .ref ab, .ref aa])), (ak, aI G 10 (sK (miF R d))), (af, aI G 10 (sG (miF R d))), (ab, aI G 10 (sO (miF R d))), (aa, aI G 10 (sA (miF R d)))])) := by
  refine en (by decide +kernel) (Nat.le_of_ble_eq_true rfl) ?_
  intro p e s m below meth c ls H locs C hl hw
  have xx := C.1
  have xb := C.2.1
  have hw : Wd G (fA [(so, .inr (0, [.int (nI (sN R)), .int (nI mi), .int (nI (sF R)), .int (nI (sS R)), .int (nI (sL R)), .ref ak, .ref af, .ref ab, .ref aa])), (ak, aI G 10 (sK R)), (af, aI G 10 (sG R)), (ab, aI G 10 (sO R)), (aa, aI G 10 (sA R))]) s [(so, .inr (0, [.int (nI (sN R)), .int (nI mi), .int (nI (sF R)), .int (nI (sS R)), .int (nI (sL R)), .ref ak, .ref af, .ref ab, .ref aa])), (ak, aI G 10 (sK R)), (af, aI G 10 (sG R)), (ab, aI G 10 (sO R)), (aa, aI G 10 (sA R))] H locs := hw
  have hl : lv_has ls 5 [(0, .ref so), (1, .int (nI d))] := hl
  obtain ⟨hn, hf0, hpr, hA⟩ := id hR
  refine lv_iconst (v := nI 0) xx xb dX0_passMinute_0 (by decide) ?_
  refine lv_istore_n (lv' := [(2, .int (nI 0)), (0, .ref so), (1, .int (nI d))]) xx xb dX0_passMinute_1 rfl hl (by decide) rfl (fun ls hl => ?_)
  refine lv_iconst (v := nI 0) xx xb dX0_passMinute_2 (by decide) ?_
  refine lv_istore_n (lv' := [(3, .int (nI 0)), (2, .int (nI 0)), (0, .ref so), (1, .int (nI d))]) xx xb dX0_passMinute_3 rfl hl (by decide) rfl (fun ls hl => ?_)
  have hw : Wd G (fA [(so, .inr (0, [.int (nI (sN R)), .int (nI mi), .int (nI (sF R)), .int (nI (sS R)), .int (nI (sL R)), .ref ak, .ref af, .ref ab, .ref aa])), (ak, aI G 10 (sK R)), (af, aI G 10 (sG R)), (ab, aI G 10 (sO R)), (aa, aI G 10 (sA R))]) s [(so, .inr (0, [.int (nI (sN (air2 R d 0))), .int (nI mi), .int (nI (sF (air2 R d 0))), .int (nI (sS (air2 R d 0))), .int (nI (sL (air2 R d 0))), .ref ak, .ref af, .ref ab, .ref aa])), (ak, aI G 10 (sK (air2 R d 0))), (af, aI G 10 (sG (air2 R d 0))), (ab, aI G 10 (sO (air2 R d 0))), (aa, aI G 10 (sA (air2 R d 0)))] H locs := by rw [← air2_0]; exact hw
  have hl : lv_has ls 5 [(3, .int (nI 0)), (2, .int (if mvB R d 0 = true then 1 else 0)), (0, .ref so), (1, .int (nI d))] := hl
  have L_4 : ∀ (fu : Nat) (i : Nat) (H : Heap) (locs : List Loc) (ls : Array Slot), 10 - i < fu → (i ≤ R 0 0) → Wd G (fA [(so, .inr (0, [.int (nI (sN R)), .int (nI mi), .int (nI (sF R)), .int (nI (sS R)), .int (nI (sL R)), .ref ak, .ref af, .ref ab, .ref aa])), (ak, aI G 10 (sK R)), (af, aI G 10 (sG R)), (ab, aI G 10 (sO R)), (aa, aI G 10 (sA R))]) s [(so, .inr (0, [.int (nI (sN (air2 R d i))), .int (nI mi), .int (nI (sF (air2 R d i))), .int (nI (sS (air2 R d i))), .int (nI (sL (air2 R d i))), .ref ak, .ref af, .ref ab, .ref aa])), (ak, aI G 10 (sK (air2 R d i))), (af, aI G 10 (sG (air2 R d i))), (ab, aI G 10 (sO (air2 R d i))), (aa, aI G 10 (sA (air2 R d i)))] H locs → lv_has ls 5 [(0, .ref so), (1, .int (nI d)), (2, .int (if mvB R d i = true then 1 else 0)), (3, .int (nI i))] → W p l e ({ frames := 2, cells := 0, slots := 0, locals := 54 }) s m (([.ref so, .int (nI d)] : List Value).toArray) below meth c H locs 0 0 (MQ below (QI G [(so, .inr (0, [.int (nI (sN R)), .int (nI mi), .int (nI (sF R)), .int (nI (sS R)), .int (nI (sL R)), .ref ak, .ref af, .ref ab, .ref aa])), (ak, aI G 10 (sK R)), (af, aI G 10 (sG R)), (ab, aI G 10 (sO R)), (aa, aI G 10 (sA R))] (fun (r : Int32) (u : Unit) => r = if mvB R d (R 0 0) = true then 1 else 0) (fun u => [(so, .inr (0, [.int (nI (sN (miF R d))), .int (nI mi), .int (nI (sF (miF R d))), .int (nI (sS (miF R d))), .int (nI (sL (miF R d))), .ref ak, .ref af, .ref ab, .ref aa])), (ak, aI G 10 (sK (miF R d))), (af, aI G 10 (sG (miF R d))), (ab, aI G 10 (sO (miF R d))), (aa, aI G 10 (sA (miF R d)))])) (([.ref so, .int (nI d)] : List Value).toArray) s 0 0 (fA [(so, .inr (0, [.int (nI (sN R)), .int (nI mi), .int (nI (sF R)), .int (nI (sS R)), .int (nI (sL R)), .ref ak, .ref af, .ref ab, .ref aa])), (ak, aI G 10 (sK R)), (af, aI G 10 (sG R)), (ab, aI G 10 (sO R)), (aa, aI G 10 (sA R))])) (F0 m 4 ls []) := by
    intro fu
    induction fu with
    | zero => intro i H locs ls hfu; exact absurd hfu (Nat.not_lt_zero _)
    | succ fu ih_4 =>
      intro i H locs ls hfu hi hw hl
      refine lv_iload_n xx xb dX0_passMinute_4 rfl (lv_at hl 3 rfl) ?_
      refine lv_aload_n xx xb dX0_passMinute_5 rfl (lv_at hl 0 rfl) ?_
      refine m_get C hw 0 rfl fk_X0_28 rfl dX0_passMinute_6 ?_
      refine re_i (nI ((air2 R d i) 0 0)) rfl ?_
      refine re_i (nI (R 0 0)) rfl ?_
      refine lv_icmp_ge (tgt := 79) xx xb dX0_passMinute_9 (by decide) (fun c_9 => ?_) (fun c_9 => ?_)
      · skip
        have c_9 := le_c (tN (by omega)) (tN (by omega)) c_9
        refine lv_iconst (v := nI 0) xx xb dX0_passMinute_79 (by decide) ?_
        refine lv_istore_n (lv' := [(3, .int (nI 0)), (0, .ref so), (1, .int (nI d)), (2, .int (if mvB R d i = true then 1 else 0))]) xx xb dX0_passMinute_80 rfl hl (by decide) rfl (fun ls hl => ?_)
        refine lv_iconst (v := nI 0) xx xb dX0_passMinute_81 (by decide) ?_
        refine lv_istore (lv' := [(4, .int (nI 0)), (3, .int (nI 0)), (0, .ref so), (1, .int (nI d)), (2, .int (if mvB R d i = true then 1 else 0))]) xx xb dX0_passMinute_82 hl (by decide) rfl (fun ls hl => ?_)
        have hie : i = R 0 0 := by omega
        rw [hie] at hw hl
        have L_84 : ∀ (fu : Nat) (i : Nat) (H : Heap) (locs : List Loc) (ls : Array Slot), 10 - i < fu → (i ≤ R 0 0) → Wd G (fA [(so, .inr (0, [.int (nI (sN R)), .int (nI mi), .int (nI (sF R)), .int (nI (sS R)), .int (nI (sL R)), .ref ak, .ref af, .ref ab, .ref aa])), (ak, aI G 10 (sK R)), (af, aI G 10 (sG R)), (ab, aI G 10 (sO R)), (aa, aI G 10 (sA R))]) s [(so, .inr (0, [.int (nI (sN (air2 R d (R 0 0)))), .int (nI mi), .int (nI (sF (air2 R d (R 0 0)))), .int (nI (sS (air2 R d (R 0 0)))), .int (nI (sL (air2 R d (R 0 0)))), .ref ak, .ref af, .ref ab, .ref aa])), (ak, aI G 10 (sK (air2 R d (R 0 0)))), (af, aI G 10 (sG (air2 R d (R 0 0)))), (ab, aI G 10 (sO (air2 R d (R 0 0)))), (aa, aI G 10 (sA (air2 R d (R 0 0))))] H locs → lv_has ls 5 [(0, .ref so), (2, .int (if mvB R d (R 0 0) = true then 1 else 0)), (3, .int (nI (bs (flB R d) i))), (4, .int (nI i))] → W p l e ({ frames := 2, cells := 0, slots := 0, locals := 54 }) s m (([.ref so, .int (nI d)] : List Value).toArray) below meth c H locs 0 0 (MQ below (QI G [(so, .inr (0, [.int (nI (sN R)), .int (nI mi), .int (nI (sF R)), .int (nI (sS R)), .int (nI (sL R)), .ref ak, .ref af, .ref ab, .ref aa])), (ak, aI G 10 (sK R)), (af, aI G 10 (sG R)), (ab, aI G 10 (sO R)), (aa, aI G 10 (sA R))] (fun (r : Int32) (u : Unit) => r = if mvB R d (R 0 0) = true then 1 else 0) (fun u => [(so, .inr (0, [.int (nI (sN (miF R d))), .int (nI mi), .int (nI (sF (miF R d))), .int (nI (sS (miF R d))), .int (nI (sL (miF R d))), .ref ak, .ref af, .ref ab, .ref aa])), (ak, aI G 10 (sK (miF R d))), (af, aI G 10 (sG (miF R d))), (ab, aI G 10 (sO (miF R d))), (aa, aI G 10 (sA (miF R d)))])) (([.ref so, .int (nI d)] : List Value).toArray) s 0 0 (fA [(so, .inr (0, [.int (nI (sN R)), .int (nI mi), .int (nI (sF R)), .int (nI (sS R)), .int (nI (sL R)), .ref ak, .ref af, .ref ab, .ref aa])), (ak, aI G 10 (sK R)), (af, aI G 10 (sG R)), (ab, aI G 10 (sO R)), (aa, aI G 10 (sA R))])) (F0 m 84 ls []) := by
          intro fu
          induction fu with
          | zero => intro i H locs ls hfu; exact absurd hfu (Nat.not_lt_zero _)
          | succ fu ih_84 =>
            intro i H locs ls hfu hi hw hl
            refine lv_iload xx xb dX0_passMinute_84 (lv_at hl 3 rfl) ?_
            refine lv_aload_n xx xb dX0_passMinute_86 rfl (lv_at hl 0 rfl) ?_
            refine m_get C hw 0 rfl fk_X0_28 rfl dX0_passMinute_87 ?_
            refine re_i (nI ((air2 R d (R 0 0)) 0 0)) rfl ?_
            refine re_i (nI (R 0 0)) rfl ?_
            refine lv_icmp_ge (tgt := 131) xx xb dX0_passMinute_90 (by decide) (fun c_90 => ?_) (fun c_90 => ?_)
            · skip
              have c_90 := le_c (tN (by omega)) (tN (by omega)) c_90
              have eFl : bs (flB R d) (R 0 0) = bs (flB R d) i := by rw [show R 0 0 = i by omega]
              have hl : lv_has ls 5 [(0, .ref so), (2, .int (if mvB R d (R 0 0) = true then 1 else 0)), (3, .int (nI (bs (flB R d) (R 0 0)))), (4, .int (nI i))] := by rw [eFl]; exact hl
              refine lv_aload_n xx xb dX0_passMinute_131 rfl (lv_at hl 0 rfl) ?_
              refine lv_iload_n xx xb dX0_passMinute_132 rfl (lv_at hl 2 rfl) ?_
              have hM := kX0_layDown l G so ak af ab aa (sN (air2 R d (R 0 0))) mi (sF (air2 R d (R 0 0))) (sS (air2 R d (R 0 0))) (sL (air2 R d (R 0 0))) (bs (flB R d) (R 0 0)) 
              refine cv_v C hw hM yvX0_layDown ml_X0_82 0 rfl rfl rfl [0] rfl rfl (fun _ => (rfl : ([so] : List Nat) = [so])) (by decide) ⟨Nat.zero_le _, Nat.zero_le _⟩ hl.1 rfl (Nat.le_of_ble_eq_true rfl) dX0_passMinute_133 (fun _ H locs hr hw => ?_)
              have hw : Wd G (fA [(so, .inr (0, [.int (nI (sN R)), .int (nI mi), .int (nI (sF R)), .int (nI (sS R)), .int (nI (sL R)), .ref ak, .ref af, .ref ab, .ref aa])), (ak, aI G 10 (sK R)), (af, aI G 10 (sG R)), (ab, aI G 10 (sO R)), (aa, aI G 10 (sA R))]) s [(so, .inr (0, [.int (nI (sN (air2 R d (R 0 0)))), .int (nI mi), .int (nI (sF (air2 R d (R 0 0)))), .int (nI (anN (sS (air2 R d (R 0 0))) (bs (flB R d) (R 0 0)))), .int (nI ((sL (air2 R d (R 0 0))) ||| (bs (flB R d) (R 0 0)))), .ref ak, .ref af, .ref ab, .ref aa])), (ak, aI G 10 (sK (air2 R d (R 0 0)))), (af, aI G 10 (sG (air2 R d (R 0 0)))), (ab, aI G 10 (sO (air2 R d (R 0 0)))), (aa, aI G 10 (sA (air2 R d (R 0 0))))] H locs := hw
              have hw : Wd G (fA [(so, .inr (0, [.int (nI (sN R)), .int (nI mi), .int (nI (sF R)), .int (nI (sS R)), .int (nI (sL R)), .ref ak, .ref af, .ref ab, .ref aa])), (ak, aI G 10 (sK R)), (af, aI G 10 (sG R)), (ab, aI G 10 (sO R)), (aa, aI G 10 (sA R))]) s [(so, .inr (0, [.int (nI (sN (miF R d))), .int (nI mi), .int (nI (sF (miF R d))), .int (nI (sS (miF R d))), .int (nI (sL (miF R d))), .ref ak, .ref af, .ref ab, .ref aa])), (ak, aI G 10 (sK (miF R d))), (af, aI G 10 (sG (miF R d))), (ab, aI G 10 (sO (miF R d))), (aa, aI G 10 (sA (miF R d)))] H locs := by rw [mi_st, mi_ly, mi_aa]; exact hw
              refine lv_iload_n xx xb dX0_passMinute_136 rfl (lv_at hl 1 rfl) ?_
              exact rt_z C hw () (b01 _) rfl rfl dX0_passMinute_137
            · skip
              have c_90 := nle_c (tN (by omega)) (tN (by omega)) c_90
              obtain ⟨q1, q2, q3, q4, q5⟩ := hA i (by omega)
              refine lv_aload_n xx xb dX0_passMinute_93 rfl (lv_at hl 0 rfl) ?_
              refine lv_iload xx xb dX0_passMinute_94 (lv_at hl 3 rfl) ?_
              have hM := kX0_stands l G so ak af ab aa mi (air2 R d (R 0 0)) (nI i) ((i : Nat) : Int) (tN (by omega)) (OK_air2 d _ hR)
              refine cv_i C hw hM yvX0_stands ml_X0_47 0 rfl rfl rfl [0, 1, 2, 3, 4] rfl rfl (fun _ => (rfl : ([so, ak, af, ab, aa] : List Nat) = [so, ak, af, ab, aa])) (by decide) ⟨Nat.zero_le _, Nat.zero_le _⟩ hl.1 rfl (Nat.le_of_ble_eq_true rfl) dX0_passMinute_96 (fun r _ H locs hr hw => ?_)
              have hw : Wd G (fA [(so, .inr (0, [.int (nI (sN R)), .int (nI mi), .int (nI (sF R)), .int (nI (sS R)), .int (nI (sL R)), .ref ak, .ref af, .ref ab, .ref aa])), (ak, aI G 10 (sK R)), (af, aI G 10 (sG R)), (ab, aI G 10 (sO R)), (aa, aI G 10 (sA R))]) s [(so, .inr (0, [.int (nI (sN (air2 R d (R 0 0)))), .int (nI mi), .int (nI (sF (air2 R d (R 0 0)))), .int (nI (sS (air2 R d (R 0 0)))), .int (nI (sL (air2 R d (R 0 0)))), .ref ak, .ref af, .ref ab, .ref aa])), (ak, aI G 10 (sK (air2 R d (R 0 0)))), (af, aI G 10 (sG (air2 R d (R 0 0)))), (ab, aI G 10 (sO (air2 R d (R 0 0)))), (aa, aI G 10 (sA (air2 R d (R 0 0))))] H locs := hw
              subst hr
              refine re_i (if R 4 i = 0 then 1 else 0) (st_i (R := air2 R d (R 0 0)) (show i < R 0 0 by omega)) ?_
              refine lv_if_eq (tgt := 125) xx xb dX0_passMinute_99 (by decide) (fun c_99 => ?_) (fun c_99 => ?_)
              · skip
                have c_99 := b0_c c_99
                have hl : lv_has ls 5 [(0, .ref so), (2, .int (if mvB R d (R 0 0) = true then 1 else 0)), (3, .int (nI (bs (flB R d) (i + 1)))), (4, .int (nI i))] := by rw [← bs_orF (flB_f (fun q => by first | exact c_99 q.1 | (have z := q.2; omega))), Nat.or_zero]; exact hl
                refine lv_iinc (v := nI (i + 1)) (lv' := [(4, .int (nI (i + 1))), (0, .ref so), (2, .int (if mvB R d (R 0 0) = true then 1 else 0)), (3, .int (nI (bs (flB R d) (i + 1))))]) xx xb dX0_passMinute_125 hl (k := 3) rfl (nI_add _ 1) (by decide) rfl (fun ls hl => ?_)
                refine lv_goto (tgt := 84) xx xb dX0_passMinute_128 (by decide) ?_
                exact ih_84 (i + 1) H _ ls (by omega) (by omega) hw (lv_sub hl [1, 2, 3, 0] rfl)
              · skip
                have c_99 := b1_c c_99
                refine lv_aload_n xx xb dX0_passMinute_102 rfl (lv_at hl 0 rfl) ?_
                refine m_get C hw 0 rfl fk_X0_25 rfl dX0_passMinute_103 ?_
                refine lv_iload xx xb dX0_passMinute_106 (lv_at hl 3 rfl) ?_
                refine m_ald C hw 4 rfl i rfl (by omega) (by decide) dX0_passMinute_108 ?_
                refine re_i (nI ((air2 R d (R 0 0)) 5 i)) rfl ?_
                refine re_i (nI (airF R d i)) (congrArg nI (by unfold air2; rw [if_pos ⟨rfl, by omega⟩])) ?_
                refine lv_aload_n xx xb dX0_passMinute_109 rfl (lv_at hl 0 rfl) ?_
                refine lv_iload xx xb dX0_passMinute_110 (lv_at hl 3 rfl) ?_
                have hM := kX0_habitOf l G so ak af ab aa mi (air2 R d (R 0 0)) i (OK_air2 d _ hR) (by show i < R 0 0; omega)
                refine cv_i C hw hM yvX0_habitOf ml_X0_89 0 rfl rfl rfl [0, 1, 2, 3, 4] rfl rfl (fun _ => (rfl : ([so, ak, af, ab, aa] : List Nat) = [so, ak, af, ab, aa])) (by decide) ⟨Nat.zero_le _, Nat.zero_le _⟩ hl.1 rfl (Nat.le_of_ble_eq_true rfl) dX0_passMinute_112 (fun r _ H locs hr hw => ?_)
                have hw : Wd G (fA [(so, .inr (0, [.int (nI (sN R)), .int (nI mi), .int (nI (sF R)), .int (nI (sS R)), .int (nI (sL R)), .ref ak, .ref af, .ref ab, .ref aa])), (ak, aI G 10 (sK R)), (af, aI G 10 (sG R)), (ab, aI G 10 (sO R)), (aa, aI G 10 (sA R))]) s [(so, .inr (0, [.int (nI (sN (air2 R d (R 0 0)))), .int (nI mi), .int (nI (sF (air2 R d (R 0 0)))), .int (nI (sS (air2 R d (R 0 0)))), .int (nI (sL (air2 R d (R 0 0)))), .ref ak, .ref af, .ref ab, .ref aa])), (ak, aI G 10 (sK (air2 R d (R 0 0)))), (af, aI G 10 (sG (air2 R d (R 0 0)))), (ab, aI G 10 (sO (air2 R d (R 0 0)))), (aa, aI G 10 (sA (air2 R d (R 0 0))))] H locs := hw
                subst hr
                refine re_i (nI (habF R i (slF R))) (congrArg nI (congrArg (habF R i) (slX_st c_99))) ?_
                have ha9 := airF_le (S := R) (a := i) hd (hK i (by omega))
                have hh9 := habF_le (R := R) (a := i) (sl := slF R) (by omega)
                refine lv_icmp_le (tgt := 125) xx xb dX0_passMinute_115 (by decide) (fun c_115 => ?_) (fun c_115 => ?_)
                · skip
                  have c_115 := le_c (tN (by omega)) (tN (by omega)) c_115
                  have hl : lv_has ls 5 [(0, .ref so), (2, .int (if mvB R d (R 0 0) = true then 1 else 0)), (3, .int (nI (bs (flB R d) (i + 1)))), (4, .int (nI i))] := by rw [← bs_orF (flB_f (fun q => by first | exact c_99 q.1 | (have z := q.2; omega))), Nat.or_zero]; exact hl
                  refine lv_iinc (v := nI (i + 1)) (lv' := [(4, .int (nI (i + 1))), (0, .ref so), (2, .int (if mvB R d (R 0 0) = true then 1 else 0)), (3, .int (nI (bs (flB R d) (i + 1))))]) xx xb dX0_passMinute_125 hl (k := 3) rfl (nI_add _ 1) (by decide) rfl (fun ls hl => ?_)
                  refine lv_goto (tgt := 84) xx xb dX0_passMinute_128 (by decide) ?_
                  exact ih_84 (i + 1) H _ ls (by omega) (by omega) hw (lv_sub hl [1, 2, 3, 0] rfl)
                · skip
                  have c_115 := nle_c (tN (by omega)) (tN (by omega)) c_115
                  refine lv_iload_n xx xb dX0_passMinute_118 rfl (lv_at hl 2 rfl) ?_
                  refine lv_iconst (v := nI 1) xx xb dX0_passMinute_119 (by decide) ?_
                  refine lv_iload xx xb dX0_passMinute_120 (lv_at hl 3 rfl) ?_
                  refine lv_ishl xx xb dX0_passMinute_122 ?_
                  refine re_i (nI (2 ^ i)) (shl1 (by omega)) ?_
                  refine lv_ior xx xb dX0_passMinute_123 ?_
                  refine re_i (nI ((bs (flB R d) i) ||| (2 ^ i))) (or_N _ _) ?_
                  refine re_i (nI (bs (flB R d) (i + 1))) (congrArg nI (bs_orT (flB_t c_99 (by omega)))) ?_
                  refine lv_istore_n (lv' := [(3, .int (nI (bs (flB R d) (i + 1)))), (0, .ref so), (2, .int (if mvB R d (R 0 0) = true then 1 else 0)), (4, .int (nI i))]) xx xb dX0_passMinute_124 rfl hl (by decide) rfl (fun ls hl => ?_)
                  refine lv_iinc (v := nI (i + 1)) (lv' := [(4, .int (nI (i + 1))), (3, .int (nI (bs (flB R d) (i + 1)))), (0, .ref so), (2, .int (if mvB R d (R 0 0) = true then 1 else 0))]) xx xb dX0_passMinute_125 hl (k := 3) rfl (nI_add _ 1) (by decide) rfl (fun ls hl => ?_)
                  refine lv_goto (tgt := 84) xx xb dX0_passMinute_128 (by decide) ?_
                  exact ih_84 (i + 1) H _ ls (by omega) (by omega) hw (lv_sub hl [2, 3, 1, 0] rfl)
        exact L_84 (_ + 1) 0 H _ ls (Nat.lt_succ_self _) (by omega) hw (lv_sub hl [2, 4, 1, 0] rfl)
      · skip
        have c_9 := nle_c (tN (by omega)) (tN (by omega)) c_9
        obtain ⟨q1, q2, q3, q4, q5⟩ := hA i (by omega)
        refine lv_aload_n xx xb dX0_passMinute_12 rfl (lv_at hl 0 rfl) ?_
        refine lv_iload_n xx xb dX0_passMinute_13 rfl (lv_at hl 3 rfl) ?_
        have hM := kX0_stands l G so ak af ab aa mi (air2 R d i) (nI i) ((i : Nat) : Int) (tN (by omega)) (OK_air2 d i hR)
        refine cv_i C hw hM yvX0_stands ml_X0_47 0 rfl rfl rfl [0, 1, 2, 3, 4] rfl rfl (fun _ => (rfl : ([so, ak, af, ab, aa] : List Nat) = [so, ak, af, ab, aa])) (by decide) ⟨Nat.zero_le _, Nat.zero_le _⟩ hl.1 rfl (Nat.le_of_ble_eq_true rfl) dX0_passMinute_14 (fun r _ H locs hr hw => ?_)
        have hw : Wd G (fA [(so, .inr (0, [.int (nI (sN R)), .int (nI mi), .int (nI (sF R)), .int (nI (sS R)), .int (nI (sL R)), .ref ak, .ref af, .ref ab, .ref aa])), (ak, aI G 10 (sK R)), (af, aI G 10 (sG R)), (ab, aI G 10 (sO R)), (aa, aI G 10 (sA R))]) s [(so, .inr (0, [.int (nI (sN (air2 R d i))), .int (nI mi), .int (nI (sF (air2 R d i))), .int (nI (sS (air2 R d i))), .int (nI (sL (air2 R d i))), .ref ak, .ref af, .ref ab, .ref aa])), (ak, aI G 10 (sK (air2 R d i))), (af, aI G 10 (sG (air2 R d i))), (ab, aI G 10 (sO (air2 R d i))), (aa, aI G 10 (sA (air2 R d i)))] H locs := hw
        subst hr
        refine re_i (if R 4 i = 0 then 1 else 0) (st_i (R := air2 R d i) (show i < R 0 0 by omega)) ?_
        refine lv_if_eq (tgt := 73) xx xb dX0_passMinute_17 (by decide) (fun c_17 => ?_) (fun c_17 => ?_)
        · skip
          have c_17 := b0_c c_17
          have hw : Wd G (fA [(so, .inr (0, [.int (nI (sN R)), .int (nI mi), .int (nI (sF R)), .int (nI (sS R)), .int (nI (sL R)), .ref ak, .ref af, .ref ab, .ref aa])), (ak, aI G 10 (sK R)), (af, aI G 10 (sG R)), (ab, aI G 10 (sO R)), (aa, aI G 10 (sA R))]) s [(so, .inr (0, [.int (nI (sN (air2 R d (i + 1)))), .int (nI mi), .int (nI (sF (air2 R d (i + 1)))), .int (nI (sS (air2 R d (i + 1)))), .int (nI (sL (air2 R d (i + 1)))), .ref ak, .ref af, .ref ab, .ref aa])), (ak, aI G 10 (sK (air2 R d (i + 1)))), (af, aI G 10 (sG (air2 R d (i + 1)))), (ab, aI G 10 (sO (air2 R d (i + 1)))), (aa, aI G 10 (sA (air2 R d (i + 1))))] H locs := by rw [air2_nr c_17]; exact hw
          have hl : lv_has ls 5 [(0, .ref so), (1, .int (nI d)), (2, .int (if mvB R d (i + 1) = true then 1 else 0)), (3, .int (nI i))] := by rw [mv_n c_17]; exact hl
          refine lv_iinc (v := nI (i + 1)) (lv' := [(3, .int (nI (i + 1))), (0, .ref so), (1, .int (nI d)), (2, .int (if mvB R d (i + 1) = true then 1 else 0))]) xx xb dX0_passMinute_73 hl (k := 3) rfl (nI_add _ 1) (by decide) rfl (fun ls hl => ?_)
          refine lv_goto (tgt := 4) xx xb dX0_passMinute_76 (by decide) ?_
          exact ih_4 (i + 1) H _ ls (by omega) (by omega) hw (lv_sub hl [1, 2, 3, 0] rfl)
        · skip
          have c_17 := b1_c c_17
          refine lv_aload_n xx xb dX0_passMinute_20 rfl (lv_at hl 0 rfl) ?_
          refine lv_iload_n xx xb dX0_passMinute_21 rfl (lv_at hl 3 rfl) ?_
          have hM := kX0_hasGround l G so ak af ab aa mi (air2 R d i) i (OK_air2 d i hR) (by show i < R 0 0; omega)
          refine cv_i C hw hM yvX0_hasGround ml_X0_60 0 rfl rfl rfl [0, 1, 2, 3, 4] rfl rfl (fun _ => (rfl : ([so, ak, af, ab, aa] : List Nat) = [so, ak, af, ab, aa])) (by decide) ⟨Nat.zero_le _, Nat.zero_le _⟩ hl.1 rfl (Nat.le_of_ble_eq_true rfl) dX0_passMinute_22 (fun r _ H locs hr hw => ?_)
          have hw : Wd G (fA [(so, .inr (0, [.int (nI (sN R)), .int (nI mi), .int (nI (sF R)), .int (nI (sS R)), .int (nI (sL R)), .ref ak, .ref af, .ref ab, .ref aa])), (ak, aI G 10 (sK R)), (af, aI G 10 (sG R)), (ab, aI G 10 (sO R)), (aa, aI G 10 (sA R))]) s [(so, .inr (0, [.int (nI (sN (air2 R d i))), .int (nI mi), .int (nI (sF (air2 R d i))), .int (nI (sS (air2 R d i))), .int (nI (sL (air2 R d i))), .ref ak, .ref af, .ref ab, .ref aa])), (ak, aI G 10 (sK (air2 R d i))), (af, aI G 10 (sG (air2 R d i))), (ab, aI G 10 (sO (air2 R d i))), (aa, aI G 10 (sA (air2 R d i)))] H locs := hw
          subst hr
          refine re_i (if grdF R i = true then 1 else 0) rfl ?_
          refine lv_if_eq (tgt := 32) xx xb dX0_passMinute_25 (by decide) (fun c_25 => ?_) (fun c_25 => ?_)
          · skip
            have c_25 := b0_c c_25
            refine lv_aload_n xx xb dX0_passMinute_32 rfl (lv_at hl 0 rfl) ?_
            refine m_get C hw 0 rfl fk_X0_25 rfl dX0_passMinute_33 ?_
            refine lv_iload_n xx xb dX0_passMinute_36 rfl (lv_at hl 3 rfl) ?_
            refine m_ald C hw 4 rfl i rfl (by omega) (by decide) dX0_passMinute_37 ?_
            refine re_i (nI ((air2 R d i) 5 i)) rfl ?_
            refine re_i (nI (R 5 i)) (congrArg nI (by unfold air2; rw [if_neg (by omega)])) ?_
            refine lv_iconst (v := nI 1) xx xb dX0_passMinute_38 (by decide) ?_
            refine lv_iadd xx xb dX0_passMinute_39 ?_
            refine re_i (nI ((R 5 i) + 1)) (nI_add _ _) ?_
            refine lv_iload_n xx xb dX0_passMinute_40 rfl (lv_at hl 1 rfl) ?_
            refine lv_iadd xx xb dX0_passMinute_41 ?_
            refine re_i (nI (((R 5 i) + 1) + d)) (nI_add _ _) ?_
            refine re_i (nI (airF R d i)) (congrArg nI (by unfold airF; rw [if_pos c_17, held_0 hp]; first | (rw [if_pos c_25]; done) | (rw [if_neg c_25]; done))) ?_
            have ha9 := airF_le (S := R) (a := i) hd (hK i (by omega))
            have hk5 := (hK i (by omega)).1
            refine lv_istore (lv' := [(4, .int (nI (airF R d i))), (0, .ref so), (1, .int (nI d)), (2, .int (if mvB R d i = true then 1 else 0)), (3, .int (nI i))]) xx xb dX0_passMinute_42 hl (by decide) rfl (fun ls hl => ?_)
            refine lv_iload_n xx xb dX0_passMinute_44 rfl (lv_at hl 3 rfl) ?_
            refine lv_if_ne (tgt := 59) xx xb dX0_passMinute_45 (by decide) (fun c_45 => ?_) (fun c_45 => ?_)
            · skip
              have c_45 := b1_c c_45
              refine lv_iconst (v := nI 1) xx xb dX0_passMinute_59 (by decide) ?_
              refine lv_goto (tgt := 64) xx xb dX0_passMinute_60 (by decide) ?_
              refine re_i (if mvB R d (i + 1) = true then 1 else 0) (by first | exact mv_k c_45 | exact mv_1 c_17 (by omega) | exact mv_0 c_45 (by omega)) ?_
              refine lv_istore_n (lv' := [(2, .int (if mvB R d (i + 1) = true then 1 else 0)), (4, .int (nI (airF R d i))), (0, .ref so), (1, .int (nI d)), (3, .int (nI i))]) xx xb dX0_passMinute_64 rfl hl (by decide) rfl (fun ls hl => ?_)
              refine lv_aload_n xx xb dX0_passMinute_65 rfl (lv_at hl 2 rfl) ?_
              refine m_get C hw 0 rfl fk_X0_25 rfl dX0_passMinute_66 ?_
              refine lv_iload_n xx xb dX0_passMinute_69 rfl (lv_at hl 4 rfl) ?_
              refine lv_iload xx xb dX0_passMinute_70 (lv_at hl 1 rfl) ?_
              refine m_ast C hw 4 rfl i rfl (by omega) (by decide) (cN (upN ((air2 R d i) 5) i (airF R d i))) (cN_u _ _ _) dX0_passMinute_72 (fun H locs hw => ?_)
              have hw : Wd G (fA [(so, .inr (0, [.int (nI (sN R)), .int (nI mi), .int (nI (sF R)), .int (nI (sS R)), .int (nI (sL R)), .ref ak, .ref af, .ref ab, .ref aa])), (ak, aI G 10 (sK R)), (af, aI G 10 (sG R)), (ab, aI G 10 (sO R)), (aa, aI G 10 (sA R))]) s [(so, .inr (0, [.int (nI (sN (air2 R d i))), .int (nI mi), .int (nI (sF (air2 R d i))), .int (nI (sS (air2 R d i))), .int (nI (sL (air2 R d i))), .ref ak, .ref af, .ref ab, .ref aa])), (ak, aI G 10 (sK (air2 R d i))), (af, aI G 10 (sG (air2 R d i))), (ab, aI G 10 (sO (air2 R d i))), (aa, aI G 10 (cN (upN ((air2 R d i) 5) i (airF R d i))))] H locs := hw
              have hw : Wd G (fA [(so, .inr (0, [.int (nI (sN R)), .int (nI mi), .int (nI (sF R)), .int (nI (sS R)), .int (nI (sL R)), .ref ak, .ref af, .ref ab, .ref aa])), (ak, aI G 10 (sK R)), (af, aI G 10 (sG R)), (ab, aI G 10 (sO R)), (aa, aI G 10 (sA R))]) s [(so, .inr (0, [.int (nI (sN (air2 R d (i + 1)))), .int (nI mi), .int (nI (sF (air2 R d (i + 1)))), .int (nI (sS (air2 R d (i + 1)))), .int (nI (sL (air2 R d (i + 1)))), .ref ak, .ref af, .ref ab, .ref aa])), (ak, aI G 10 (sK (air2 R d (i + 1)))), (af, aI G 10 (sG (air2 R d (i + 1)))), (ab, aI G 10 (sO (air2 R d (i + 1)))), (aa, aI G 10 (sA (air2 R d (i + 1))))] H locs := by rw [air2_row]; exact hw
              refine lv_iinc (v := nI (i + 1)) (lv' := [(3, .int (nI (i + 1))), (2, .int (if mvB R d (i + 1) = true then 1 else 0)), (4, .int (nI (airF R d i))), (0, .ref so), (1, .int (nI d))]) xx xb dX0_passMinute_73 hl (k := 4) rfl (nI_add _ 1) (by decide) rfl (fun ls hl => ?_)
              refine lv_goto (tgt := 4) xx xb dX0_passMinute_76 (by decide) ?_
              exact ih_4 (i + 1) H _ ls (by omega) (by omega) hw (lv_sub hl [3, 4, 1, 0] rfl)
            · skip
              have c_45 := b0_c c_45
              refine lv_iload xx xb dX0_passMinute_48 (lv_at hl 0 rfl) ?_
              refine lv_aload_n xx xb dX0_passMinute_50 rfl (lv_at hl 1 rfl) ?_
              refine m_get C hw 0 rfl fk_X0_25 rfl dX0_passMinute_51 ?_
              refine lv_iload_n xx xb dX0_passMinute_54 rfl (lv_at hl 4 rfl) ?_
              refine m_ald C hw 4 rfl i rfl (by omega) (by decide) dX0_passMinute_55 ?_
              refine re_i (nI ((air2 R d i) 5 i)) rfl ?_
              refine re_i (nI (R 5 i)) (congrArg nI (by unfold air2; rw [if_neg (by omega)])) ?_
              refine lv_icmp_eq (tgt := 63) xx xb dX0_passMinute_56 (by decide) (fun c_56 => ?_) (fun c_56 => ?_)
              · skip
                have c_56 := eq_c (tN (by omega)) (tN (by omega)) c_56
                refine lv_iconst (v := nI 0) xx xb dX0_passMinute_63 (by decide) ?_
                refine re_i (if mvB R d (i + 1) = true then 1 else 0) (by first | exact mv_k c_45 | exact mv_1 c_17 (by omega) | exact mv_0 c_45 (by omega)) ?_
                refine lv_istore_n (lv' := [(2, .int (if mvB R d (i + 1) = true then 1 else 0)), (4, .int (nI (airF R d i))), (0, .ref so), (1, .int (nI d)), (3, .int (nI i))]) xx xb dX0_passMinute_64 rfl hl (by decide) rfl (fun ls hl => ?_)
                refine lv_aload_n xx xb dX0_passMinute_65 rfl (lv_at hl 2 rfl) ?_
                refine m_get C hw 0 rfl fk_X0_25 rfl dX0_passMinute_66 ?_
                refine lv_iload_n xx xb dX0_passMinute_69 rfl (lv_at hl 4 rfl) ?_
                refine lv_iload xx xb dX0_passMinute_70 (lv_at hl 1 rfl) ?_
                refine m_ast C hw 4 rfl i rfl (by omega) (by decide) (cN (upN ((air2 R d i) 5) i (airF R d i))) (cN_u _ _ _) dX0_passMinute_72 (fun H locs hw => ?_)
                have hw : Wd G (fA [(so, .inr (0, [.int (nI (sN R)), .int (nI mi), .int (nI (sF R)), .int (nI (sS R)), .int (nI (sL R)), .ref ak, .ref af, .ref ab, .ref aa])), (ak, aI G 10 (sK R)), (af, aI G 10 (sG R)), (ab, aI G 10 (sO R)), (aa, aI G 10 (sA R))]) s [(so, .inr (0, [.int (nI (sN (air2 R d i))), .int (nI mi), .int (nI (sF (air2 R d i))), .int (nI (sS (air2 R d i))), .int (nI (sL (air2 R d i))), .ref ak, .ref af, .ref ab, .ref aa])), (ak, aI G 10 (sK (air2 R d i))), (af, aI G 10 (sG (air2 R d i))), (ab, aI G 10 (sO (air2 R d i))), (aa, aI G 10 (cN (upN ((air2 R d i) 5) i (airF R d i))))] H locs := hw
                have hw : Wd G (fA [(so, .inr (0, [.int (nI (sN R)), .int (nI mi), .int (nI (sF R)), .int (nI (sS R)), .int (nI (sL R)), .ref ak, .ref af, .ref ab, .ref aa])), (ak, aI G 10 (sK R)), (af, aI G 10 (sG R)), (ab, aI G 10 (sO R)), (aa, aI G 10 (sA R))]) s [(so, .inr (0, [.int (nI (sN (air2 R d (i + 1)))), .int (nI mi), .int (nI (sF (air2 R d (i + 1)))), .int (nI (sS (air2 R d (i + 1)))), .int (nI (sL (air2 R d (i + 1)))), .ref ak, .ref af, .ref ab, .ref aa])), (ak, aI G 10 (sK (air2 R d (i + 1)))), (af, aI G 10 (sG (air2 R d (i + 1)))), (ab, aI G 10 (sO (air2 R d (i + 1)))), (aa, aI G 10 (sA (air2 R d (i + 1))))] H locs := by rw [air2_row]; exact hw
                refine lv_iinc (v := nI (i + 1)) (lv' := [(3, .int (nI (i + 1))), (2, .int (if mvB R d (i + 1) = true then 1 else 0)), (4, .int (nI (airF R d i))), (0, .ref so), (1, .int (nI d))]) xx xb dX0_passMinute_73 hl (k := 4) rfl (nI_add _ 1) (by decide) rfl (fun ls hl => ?_)
                refine lv_goto (tgt := 4) xx xb dX0_passMinute_76 (by decide) ?_
                exact ih_4 (i + 1) H _ ls (by omega) (by omega) hw (lv_sub hl [3, 4, 1, 0] rfl)
              · skip
                have c_56 := ne_c (tN (by omega)) (tN (by omega)) c_56
                refine lv_iconst (v := nI 1) xx xb dX0_passMinute_59 (by decide) ?_
                refine lv_goto (tgt := 64) xx xb dX0_passMinute_60 (by decide) ?_
                refine re_i (if mvB R d (i + 1) = true then 1 else 0) (by first | exact mv_k c_45 | exact mv_1 c_17 (by omega) | exact mv_0 c_45 (by omega)) ?_
                refine lv_istore_n (lv' := [(2, .int (if mvB R d (i + 1) = true then 1 else 0)), (4, .int (nI (airF R d i))), (0, .ref so), (1, .int (nI d)), (3, .int (nI i))]) xx xb dX0_passMinute_64 rfl hl (by decide) rfl (fun ls hl => ?_)
                refine lv_aload_n xx xb dX0_passMinute_65 rfl (lv_at hl 2 rfl) ?_
                refine m_get C hw 0 rfl fk_X0_25 rfl dX0_passMinute_66 ?_
                refine lv_iload_n xx xb dX0_passMinute_69 rfl (lv_at hl 4 rfl) ?_
                refine lv_iload xx xb dX0_passMinute_70 (lv_at hl 1 rfl) ?_
                refine m_ast C hw 4 rfl i rfl (by omega) (by decide) (cN (upN ((air2 R d i) 5) i (airF R d i))) (cN_u _ _ _) dX0_passMinute_72 (fun H locs hw => ?_)
                have hw : Wd G (fA [(so, .inr (0, [.int (nI (sN R)), .int (nI mi), .int (nI (sF R)), .int (nI (sS R)), .int (nI (sL R)), .ref ak, .ref af, .ref ab, .ref aa])), (ak, aI G 10 (sK R)), (af, aI G 10 (sG R)), (ab, aI G 10 (sO R)), (aa, aI G 10 (sA R))]) s [(so, .inr (0, [.int (nI (sN (air2 R d i))), .int (nI mi), .int (nI (sF (air2 R d i))), .int (nI (sS (air2 R d i))), .int (nI (sL (air2 R d i))), .ref ak, .ref af, .ref ab, .ref aa])), (ak, aI G 10 (sK (air2 R d i))), (af, aI G 10 (sG (air2 R d i))), (ab, aI G 10 (sO (air2 R d i))), (aa, aI G 10 (cN (upN ((air2 R d i) 5) i (airF R d i))))] H locs := hw
                have hw : Wd G (fA [(so, .inr (0, [.int (nI (sN R)), .int (nI mi), .int (nI (sF R)), .int (nI (sS R)), .int (nI (sL R)), .ref ak, .ref af, .ref ab, .ref aa])), (ak, aI G 10 (sK R)), (af, aI G 10 (sG R)), (ab, aI G 10 (sO R)), (aa, aI G 10 (sA R))]) s [(so, .inr (0, [.int (nI (sN (air2 R d (i + 1)))), .int (nI mi), .int (nI (sF (air2 R d (i + 1)))), .int (nI (sS (air2 R d (i + 1)))), .int (nI (sL (air2 R d (i + 1)))), .ref ak, .ref af, .ref ab, .ref aa])), (ak, aI G 10 (sK (air2 R d (i + 1)))), (af, aI G 10 (sG (air2 R d (i + 1)))), (ab, aI G 10 (sO (air2 R d (i + 1)))), (aa, aI G 10 (sA (air2 R d (i + 1))))] H locs := by rw [air2_row]; exact hw
                refine lv_iinc (v := nI (i + 1)) (lv' := [(3, .int (nI (i + 1))), (2, .int (if mvB R d (i + 1) = true then 1 else 0)), (4, .int (nI (airF R d i))), (0, .ref so), (1, .int (nI d))]) xx xb dX0_passMinute_73 hl (k := 4) rfl (nI_add _ 1) (by decide) rfl (fun ls hl => ?_)
                refine lv_goto (tgt := 4) xx xb dX0_passMinute_76 (by decide) ?_
                exact ih_4 (i + 1) H _ ls (by omega) (by omega) hw (lv_sub hl [3, 4, 1, 0] rfl)
          · skip
            have c_25 := b1_c c_25
            refine lv_iconst (v := nI 0) xx xb dX0_passMinute_28 (by decide) ?_
            refine lv_goto (tgt := 42) xx xb dX0_passMinute_29 (by decide) ?_
            refine re_i (nI (airF R d i)) (congrArg nI (by unfold airF; rw [if_pos c_17, held_0 hp]; first | (rw [if_pos c_25]; done) | (rw [if_neg c_25]; done))) ?_
            have ha9 := airF_le (S := R) (a := i) hd (hK i (by omega))
            have hk5 := (hK i (by omega)).1
            refine lv_istore (lv' := [(4, .int (nI (airF R d i))), (0, .ref so), (1, .int (nI d)), (2, .int (if mvB R d i = true then 1 else 0)), (3, .int (nI i))]) xx xb dX0_passMinute_42 hl (by decide) rfl (fun ls hl => ?_)
            refine lv_iload_n xx xb dX0_passMinute_44 rfl (lv_at hl 3 rfl) ?_
            refine lv_if_ne (tgt := 59) xx xb dX0_passMinute_45 (by decide) (fun c_45 => ?_) (fun c_45 => ?_)
            · skip
              have c_45 := b1_c c_45
              refine lv_iconst (v := nI 1) xx xb dX0_passMinute_59 (by decide) ?_
              refine lv_goto (tgt := 64) xx xb dX0_passMinute_60 (by decide) ?_
              refine re_i (if mvB R d (i + 1) = true then 1 else 0) (by first | exact mv_k c_45 | exact mv_1 c_17 (by omega) | exact mv_0 c_45 (by omega)) ?_
              refine lv_istore_n (lv' := [(2, .int (if mvB R d (i + 1) = true then 1 else 0)), (4, .int (nI (airF R d i))), (0, .ref so), (1, .int (nI d)), (3, .int (nI i))]) xx xb dX0_passMinute_64 rfl hl (by decide) rfl (fun ls hl => ?_)
              refine lv_aload_n xx xb dX0_passMinute_65 rfl (lv_at hl 2 rfl) ?_
              refine m_get C hw 0 rfl fk_X0_25 rfl dX0_passMinute_66 ?_
              refine lv_iload_n xx xb dX0_passMinute_69 rfl (lv_at hl 4 rfl) ?_
              refine lv_iload xx xb dX0_passMinute_70 (lv_at hl 1 rfl) ?_
              refine m_ast C hw 4 rfl i rfl (by omega) (by decide) (cN (upN ((air2 R d i) 5) i (airF R d i))) (cN_u _ _ _) dX0_passMinute_72 (fun H locs hw => ?_)
              have hw : Wd G (fA [(so, .inr (0, [.int (nI (sN R)), .int (nI mi), .int (nI (sF R)), .int (nI (sS R)), .int (nI (sL R)), .ref ak, .ref af, .ref ab, .ref aa])), (ak, aI G 10 (sK R)), (af, aI G 10 (sG R)), (ab, aI G 10 (sO R)), (aa, aI G 10 (sA R))]) s [(so, .inr (0, [.int (nI (sN (air2 R d i))), .int (nI mi), .int (nI (sF (air2 R d i))), .int (nI (sS (air2 R d i))), .int (nI (sL (air2 R d i))), .ref ak, .ref af, .ref ab, .ref aa])), (ak, aI G 10 (sK (air2 R d i))), (af, aI G 10 (sG (air2 R d i))), (ab, aI G 10 (sO (air2 R d i))), (aa, aI G 10 (cN (upN ((air2 R d i) 5) i (airF R d i))))] H locs := hw
              have hw : Wd G (fA [(so, .inr (0, [.int (nI (sN R)), .int (nI mi), .int (nI (sF R)), .int (nI (sS R)), .int (nI (sL R)), .ref ak, .ref af, .ref ab, .ref aa])), (ak, aI G 10 (sK R)), (af, aI G 10 (sG R)), (ab, aI G 10 (sO R)), (aa, aI G 10 (sA R))]) s [(so, .inr (0, [.int (nI (sN (air2 R d (i + 1)))), .int (nI mi), .int (nI (sF (air2 R d (i + 1)))), .int (nI (sS (air2 R d (i + 1)))), .int (nI (sL (air2 R d (i + 1)))), .ref ak, .ref af, .ref ab, .ref aa])), (ak, aI G 10 (sK (air2 R d (i + 1)))), (af, aI G 10 (sG (air2 R d (i + 1)))), (ab, aI G 10 (sO (air2 R d (i + 1)))), (aa, aI G 10 (sA (air2 R d (i + 1))))] H locs := by rw [air2_row]; exact hw
              refine lv_iinc (v := nI (i + 1)) (lv' := [(3, .int (nI (i + 1))), (2, .int (if mvB R d (i + 1) = true then 1 else 0)), (4, .int (nI (airF R d i))), (0, .ref so), (1, .int (nI d))]) xx xb dX0_passMinute_73 hl (k := 4) rfl (nI_add _ 1) (by decide) rfl (fun ls hl => ?_)
              refine lv_goto (tgt := 4) xx xb dX0_passMinute_76 (by decide) ?_
              exact ih_4 (i + 1) H _ ls (by omega) (by omega) hw (lv_sub hl [3, 4, 1, 0] rfl)
            · skip
              have c_45 := b0_c c_45
              refine lv_iload xx xb dX0_passMinute_48 (lv_at hl 0 rfl) ?_
              refine lv_aload_n xx xb dX0_passMinute_50 rfl (lv_at hl 1 rfl) ?_
              refine m_get C hw 0 rfl fk_X0_25 rfl dX0_passMinute_51 ?_
              refine lv_iload_n xx xb dX0_passMinute_54 rfl (lv_at hl 4 rfl) ?_
              refine m_ald C hw 4 rfl i rfl (by omega) (by decide) dX0_passMinute_55 ?_
              refine re_i (nI ((air2 R d i) 5 i)) rfl ?_
              refine re_i (nI (R 5 i)) (congrArg nI (by unfold air2; rw [if_neg (by omega)])) ?_
              refine lv_icmp_eq (tgt := 63) xx xb dX0_passMinute_56 (by decide) (fun c_56 => ?_) (fun c_56 => ?_)
              · skip
                have c_56 := eq_c (tN (by omega)) (tN (by omega)) c_56
                refine lv_iconst (v := nI 0) xx xb dX0_passMinute_63 (by decide) ?_
                refine re_i (if mvB R d (i + 1) = true then 1 else 0) (by first | exact mv_k c_45 | exact mv_1 c_17 (by omega) | exact mv_0 c_45 (by omega)) ?_
                refine lv_istore_n (lv' := [(2, .int (if mvB R d (i + 1) = true then 1 else 0)), (4, .int (nI (airF R d i))), (0, .ref so), (1, .int (nI d)), (3, .int (nI i))]) xx xb dX0_passMinute_64 rfl hl (by decide) rfl (fun ls hl => ?_)
                refine lv_aload_n xx xb dX0_passMinute_65 rfl (lv_at hl 2 rfl) ?_
                refine m_get C hw 0 rfl fk_X0_25 rfl dX0_passMinute_66 ?_
                refine lv_iload_n xx xb dX0_passMinute_69 rfl (lv_at hl 4 rfl) ?_
                refine lv_iload xx xb dX0_passMinute_70 (lv_at hl 1 rfl) ?_
                refine m_ast C hw 4 rfl i rfl (by omega) (by decide) (cN (upN ((air2 R d i) 5) i (airF R d i))) (cN_u _ _ _) dX0_passMinute_72 (fun H locs hw => ?_)
                have hw : Wd G (fA [(so, .inr (0, [.int (nI (sN R)), .int (nI mi), .int (nI (sF R)), .int (nI (sS R)), .int (nI (sL R)), .ref ak, .ref af, .ref ab, .ref aa])), (ak, aI G 10 (sK R)), (af, aI G 10 (sG R)), (ab, aI G 10 (sO R)), (aa, aI G 10 (sA R))]) s [(so, .inr (0, [.int (nI (sN (air2 R d i))), .int (nI mi), .int (nI (sF (air2 R d i))), .int (nI (sS (air2 R d i))), .int (nI (sL (air2 R d i))), .ref ak, .ref af, .ref ab, .ref aa])), (ak, aI G 10 (sK (air2 R d i))), (af, aI G 10 (sG (air2 R d i))), (ab, aI G 10 (sO (air2 R d i))), (aa, aI G 10 (cN (upN ((air2 R d i) 5) i (airF R d i))))] H locs := hw
                have hw : Wd G (fA [(so, .inr (0, [.int (nI (sN R)), .int (nI mi), .int (nI (sF R)), .int (nI (sS R)), .int (nI (sL R)), .ref ak, .ref af, .ref ab, .ref aa])), (ak, aI G 10 (sK R)), (af, aI G 10 (sG R)), (ab, aI G 10 (sO R)), (aa, aI G 10 (sA R))]) s [(so, .inr (0, [.int (nI (sN (air2 R d (i + 1)))), .int (nI mi), .int (nI (sF (air2 R d (i + 1)))), .int (nI (sS (air2 R d (i + 1)))), .int (nI (sL (air2 R d (i + 1)))), .ref ak, .ref af, .ref ab, .ref aa])), (ak, aI G 10 (sK (air2 R d (i + 1)))), (af, aI G 10 (sG (air2 R d (i + 1)))), (ab, aI G 10 (sO (air2 R d (i + 1)))), (aa, aI G 10 (sA (air2 R d (i + 1))))] H locs := by rw [air2_row]; exact hw
                refine lv_iinc (v := nI (i + 1)) (lv' := [(3, .int (nI (i + 1))), (2, .int (if mvB R d (i + 1) = true then 1 else 0)), (4, .int (nI (airF R d i))), (0, .ref so), (1, .int (nI d))]) xx xb dX0_passMinute_73 hl (k := 4) rfl (nI_add _ 1) (by decide) rfl (fun ls hl => ?_)
                refine lv_goto (tgt := 4) xx xb dX0_passMinute_76 (by decide) ?_
                exact ih_4 (i + 1) H _ ls (by omega) (by omega) hw (lv_sub hl [3, 4, 1, 0] rfl)
              · skip
                have c_56 := ne_c (tN (by omega)) (tN (by omega)) c_56
                refine lv_iconst (v := nI 1) xx xb dX0_passMinute_59 (by decide) ?_
                refine lv_goto (tgt := 64) xx xb dX0_passMinute_60 (by decide) ?_
                refine re_i (if mvB R d (i + 1) = true then 1 else 0) (by first | exact mv_k c_45 | exact mv_1 c_17 (by omega) | exact mv_0 c_45 (by omega)) ?_
                refine lv_istore_n (lv' := [(2, .int (if mvB R d (i + 1) = true then 1 else 0)), (4, .int (nI (airF R d i))), (0, .ref so), (1, .int (nI d)), (3, .int (nI i))]) xx xb dX0_passMinute_64 rfl hl (by decide) rfl (fun ls hl => ?_)
                refine lv_aload_n xx xb dX0_passMinute_65 rfl (lv_at hl 2 rfl) ?_
                refine m_get C hw 0 rfl fk_X0_25 rfl dX0_passMinute_66 ?_
                refine lv_iload_n xx xb dX0_passMinute_69 rfl (lv_at hl 4 rfl) ?_
                refine lv_iload xx xb dX0_passMinute_70 (lv_at hl 1 rfl) ?_
                refine m_ast C hw 4 rfl i rfl (by omega) (by decide) (cN (upN ((air2 R d i) 5) i (airF R d i))) (cN_u _ _ _) dX0_passMinute_72 (fun H locs hw => ?_)
                have hw : Wd G (fA [(so, .inr (0, [.int (nI (sN R)), .int (nI mi), .int (nI (sF R)), .int (nI (sS R)), .int (nI (sL R)), .ref ak, .ref af, .ref ab, .ref aa])), (ak, aI G 10 (sK R)), (af, aI G 10 (sG R)), (ab, aI G 10 (sO R)), (aa, aI G 10 (sA R))]) s [(so, .inr (0, [.int (nI (sN (air2 R d i))), .int (nI mi), .int (nI (sF (air2 R d i))), .int (nI (sS (air2 R d i))), .int (nI (sL (air2 R d i))), .ref ak, .ref af, .ref ab, .ref aa])), (ak, aI G 10 (sK (air2 R d i))), (af, aI G 10 (sG (air2 R d i))), (ab, aI G 10 (sO (air2 R d i))), (aa, aI G 10 (cN (upN ((air2 R d i) 5) i (airF R d i))))] H locs := hw
                have hw : Wd G (fA [(so, .inr (0, [.int (nI (sN R)), .int (nI mi), .int (nI (sF R)), .int (nI (sS R)), .int (nI (sL R)), .ref ak, .ref af, .ref ab, .ref aa])), (ak, aI G 10 (sK R)), (af, aI G 10 (sG R)), (ab, aI G 10 (sO R)), (aa, aI G 10 (sA R))]) s [(so, .inr (0, [.int (nI (sN (air2 R d (i + 1)))), .int (nI mi), .int (nI (sF (air2 R d (i + 1)))), .int (nI (sS (air2 R d (i + 1)))), .int (nI (sL (air2 R d (i + 1)))), .ref ak, .ref af, .ref ab, .ref aa])), (ak, aI G 10 (sK (air2 R d (i + 1)))), (af, aI G 10 (sG (air2 R d (i + 1)))), (ab, aI G 10 (sO (air2 R d (i + 1)))), (aa, aI G 10 (sA (air2 R d (i + 1))))] H locs := by rw [air2_row]; exact hw
                refine lv_iinc (v := nI (i + 1)) (lv' := [(3, .int (nI (i + 1))), (2, .int (if mvB R d (i + 1) = true then 1 else 0)), (4, .int (nI (airF R d i))), (0, .ref so), (1, .int (nI d))]) xx xb dX0_passMinute_73 hl (k := 4) rfl (nI_add _ 1) (by decide) rfl (fun ls hl => ?_)
                refine lv_goto (tgt := 4) xx xb dX0_passMinute_76 (by decide) ?_
                exact ih_4 (i + 1) H _ ls (by omega) (by omega) hw (lv_sub hl [3, 4, 1, 0] rfl)
  exact L_4 (_ + 1) 0 H _ ls (Nat.lt_succ_self _) (by omega) hw (lv_sub hl [2, 3, 1, 0] rfl)
set_option maxRecDepth 100000 in
set_option maxHeartbeats 4000000 in
theorem kX0_passMinutes (l : Launch) (G : GT) (so : Nat) (ak : Nat) (af : Nat) (ab : Nat) (aa : Nat) (mi : Nat) (R : RT) (n : Nat) (hR : OK R) (hK : AK R) (hp : R 0 3 = 0) (hn9 : n < 1000) : Ct l yX0_passMinutes cX0_passMinutes 3 (none) 3 78 [.ref so, .int (nI n)] G [(so, .inr (0, [.int (nI (sN R)), .int (nI mi), .int (nI (sF R)), .int (nI (sS R)), .int (nI (sL R)), .ref ak, .ref af, .ref ab, .ref aa])), (ak, aI G 10 (sK R)), (af, aI G 10 (sG R)), (ab, aI G 10 (sO R)), (aa, aI G 10 (sA R))] (QV G [(so, .inr (0, [.int (nI (sN R)), .int (nI mi), .int (nI (sF R)), .int (nI (sS R)), .int (nI (sL R)), .ref ak, .ref af, .ref ab, .ref aa])), (ak, aI G 10 (sK R)), (af, aI G 10 (sG R)), (ab, aI G 10 (sO R)), (aa, aI G 10 (sA R))] (fun u : Unit => True) (fun u => [(so, .inr (0, [.int (nI (sN (itF R n))), .int (nI (mi + n)), .int (nI (sF (itF R n))), .int (nI (sS (itF R n))), .int (nI (sL (itF R n))), .ref ak, .ref af, .ref ab, .ref aa])), (ak, aI G 10 (sK (itF R n))), (af, aI G 10 (sG (itF R n))), (ab, aI G 10 (sO (itF R n))), (aa, aI G 10 (sA (itF R n)))])) := by
  refine en (by decide +kernel) (Nat.le_of_ble_eq_true rfl) ?_
  intro p e s m below meth c ls H locs C hl hw
  have xx := C.1
  have xb := C.2.1
  have hw : Wd G (fA [(so, .inr (0, [.int (nI (sN R)), .int (nI mi), .int (nI (sF R)), .int (nI (sS R)), .int (nI (sL R)), .ref ak, .ref af, .ref ab, .ref aa])), (ak, aI G 10 (sK R)), (af, aI G 10 (sG R)), (ab, aI G 10 (sO R)), (aa, aI G 10 (sA R))]) s [(so, .inr (0, [.int (nI (sN R)), .int (nI mi), .int (nI (sF R)), .int (nI (sS R)), .int (nI (sL R)), .ref ak, .ref af, .ref ab, .ref aa])), (ak, aI G 10 (sK R)), (af, aI G 10 (sG R)), (ab, aI G 10 (sO R)), (aa, aI G 10 (sA R))] H locs := hw
  have hl : lv_has ls 3 [(0, .ref so), (1, .int (nI n))] := hl
  obtain ⟨hn, hf0, hpr, hA⟩ := id hR
  refine lv_aload_n xx xb dX0_passMinutes_0 rfl (lv_at hl 0 rfl) ?_
  refine lv_dup xx xb dX0_passMinutes_1 rfl ?_
  refine m_get C hw 0 rfl fk_X0_32 rfl dX0_passMinutes_2 ?_
  refine lv_iload_n xx xb dX0_passMinutes_5 rfl (lv_at hl 1 rfl) ?_
  refine lv_iadd xx xb dX0_passMinutes_6 ?_
  refine re_i (nI (mi + n)) (nI_add _ _) ?_
  refine m_put C hw 0 rfl rfl tyX0 tyX0_ok nmX0 fk_X0_32 rfl rfl rfl rfl (Nat.le_of_ble_eq_true rfl) dX0_passMinutes_7 (fun H locs hw => ?_)
  have hw : Wd G (fA [(so, .inr (0, [.int (nI (sN R)), .int (nI mi), .int (nI (sF R)), .int (nI (sS R)), .int (nI (sL R)), .ref ak, .ref af, .ref ab, .ref aa])), (ak, aI G 10 (sK R)), (af, aI G 10 (sG R)), (ab, aI G 10 (sO R)), (aa, aI G 10 (sA R))]) s [(so, .inr (0, [.int (nI (sN R)), .int (nI (mi + n)), .int (nI (sF R)), .int (nI (sS R)), .int (nI (sL R)), .ref ak, .ref af, .ref ab, .ref aa])), (ak, aI G 10 (sK R)), (af, aI G 10 (sG R)), (ab, aI G 10 (sO R)), (aa, aI G 10 (sA R))] H locs := hw
  refine lv_iconst (v := nI 0) xx xb dX0_passMinutes_10 (by decide) ?_
  refine lv_istore_n (lv' := [(2, .int (nI 0)), (0, .ref so), (1, .int (nI n))]) xx xb dX0_passMinutes_11 rfl hl (by decide) rfl (fun ls hl => ?_)
  have hw : Wd G (fA [(so, .inr (0, [.int (nI (sN R)), .int (nI mi), .int (nI (sF R)), .int (nI (sS R)), .int (nI (sL R)), .ref ak, .ref af, .ref ab, .ref aa])), (ak, aI G 10 (sK R)), (af, aI G 10 (sG R)), (ab, aI G 10 (sO R)), (aa, aI G 10 (sA R))]) s [(so, .inr (0, [.int (nI (sN (itF R 0))), .int (nI (mi + n)), .int (nI (sF (itF R 0))), .int (nI (sS (itF R 0))), .int (nI (sL (itF R 0))), .ref ak, .ref af, .ref ab, .ref aa])), (ak, aI G 10 (sK (itF R 0))), (af, aI G 10 (sG (itF R 0))), (ab, aI G 10 (sO (itF R 0))), (aa, aI G 10 (sA (itF R 0)))] H locs := hw
  have L_12 : ∀ (fu : Nat) (i : Nat) (H : Heap) (locs : List Loc) (ls : Array Slot), n - i < fu → (i ≤ n) → Wd G (fA [(so, .inr (0, [.int (nI (sN R)), .int (nI mi), .int (nI (sF R)), .int (nI (sS R)), .int (nI (sL R)), .ref ak, .ref af, .ref ab, .ref aa])), (ak, aI G 10 (sK R)), (af, aI G 10 (sG R)), (ab, aI G 10 (sO R)), (aa, aI G 10 (sA R))]) s [(so, .inr (0, [.int (nI (sN (itF R i))), .int (nI (mi + n)), .int (nI (sF (itF R i))), .int (nI (sS (itF R i))), .int (nI (sL (itF R i))), .ref ak, .ref af, .ref ab, .ref aa])), (ak, aI G 10 (sK (itF R i))), (af, aI G 10 (sG (itF R i))), (ab, aI G 10 (sO (itF R i))), (aa, aI G 10 (sA (itF R i)))] H locs → lv_has ls 3 [(0, .ref so), (1, .int (nI n)), (2, .int (nI i))] → W p l e ({ frames := 3, cells := 0, slots := 0, locals := 78 }) s m (([.ref so, .int (nI n)] : List Value).toArray) below meth c H locs 0 0 (MQ below (QV G [(so, .inr (0, [.int (nI (sN R)), .int (nI mi), .int (nI (sF R)), .int (nI (sS R)), .int (nI (sL R)), .ref ak, .ref af, .ref ab, .ref aa])), (ak, aI G 10 (sK R)), (af, aI G 10 (sG R)), (ab, aI G 10 (sO R)), (aa, aI G 10 (sA R))] (fun u : Unit => True) (fun u => [(so, .inr (0, [.int (nI (sN (itF R n))), .int (nI (mi + n)), .int (nI (sF (itF R n))), .int (nI (sS (itF R n))), .int (nI (sL (itF R n))), .ref ak, .ref af, .ref ab, .ref aa])), (ak, aI G 10 (sK (itF R n))), (af, aI G 10 (sG (itF R n))), (ab, aI G 10 (sO (itF R n))), (aa, aI G 10 (sA (itF R n)))])) (([.ref so, .int (nI n)] : List Value).toArray) s 0 0 (fA [(so, .inr (0, [.int (nI (sN R)), .int (nI mi), .int (nI (sF R)), .int (nI (sS R)), .int (nI (sL R)), .ref ak, .ref af, .ref ab, .ref aa])), (ak, aI G 10 (sK R)), (af, aI G 10 (sG R)), (ab, aI G 10 (sO R)), (aa, aI G 10 (sA R))])) (F0 m 12 ls []) := by
    intro fu
    induction fu with
    | zero => intro i H locs ls hfu; exact absurd hfu (Nat.not_lt_zero _)
    | succ fu ih_12 =>
      intro i H locs ls hfu hi hw hl
      refine lv_iload_n xx xb dX0_passMinutes_12 rfl (lv_at hl 2 rfl) ?_
      refine lv_iload_n xx xb dX0_passMinutes_13 rfl (lv_at hl 1 rfl) ?_
      refine lv_icmp_ge (tgt := 32) xx xb dX0_passMinutes_14 (by decide) (fun c_14 => ?_) (fun c_14 => ?_)
      · skip
        have c_14 := le_c (tN (by omega)) (tN (by omega)) c_14
        have hw : Wd G (fA [(so, .inr (0, [.int (nI (sN R)), .int (nI mi), .int (nI (sF R)), .int (nI (sS R)), .int (nI (sL R)), .ref ak, .ref af, .ref ab, .ref aa])), (ak, aI G 10 (sK R)), (af, aI G 10 (sG R)), (ab, aI G 10 (sO R)), (aa, aI G 10 (sA R))]) s [(so, .inr (0, [.int (nI (sN (itF R n))), .int (nI (mi + n)), .int (nI (sF (itF R n))), .int (nI (sS (itF R n))), .int (nI (sL (itF R n))), .ref ak, .ref af, .ref ab, .ref aa])), (ak, aI G 10 (sK (itF R n))), (af, aI G 10 (sG (itF R n))), (ab, aI G 10 (sO (itF R n))), (aa, aI G 10 (sA (itF R n)))] H locs := by rw [show n = i by omega] at hw ⊢; exact hw
        exact rt_v C hw () trivial rfl dX0_passMinutes_32
      · skip
        have c_14 := nle_c (tN (by omega)) (tN (by omega)) c_14
        refine lv_aload_n xx xb dX0_passMinutes_17 rfl (lv_at hl 0 rfl) ?_
        refine lv_iconst (v := nI 0) xx xb dX0_passMinutes_18 (by decide) ?_
        have hM := kX0_passMinute l G so ak af ab aa (mi + n) (itF R i) 0 (OK_itF hR i) (AK_itF hR hK i) (by rw [itF_n R i 0 3 (by omega) (by omega)]; exact hp) (by first | assumption | omega)
        refine cv_i C hw hM yvX0_passMinute ml_X0_86 0 rfl rfl rfl [0, 1, 2, 3, 4] rfl rfl (fun _ => (rfl : ([so, ak, af, ab, aa] : List Nat) = [so, ak, af, ab, aa])) (by decide) ⟨Nat.zero_le _, Nat.zero_le _⟩ hl.1 rfl (Nat.le_of_ble_eq_true rfl) dX0_passMinutes_19 (fun r _ H locs hr hw => ?_)
        have hw : Wd G (fA [(so, .inr (0, [.int (nI (sN R)), .int (nI mi), .int (nI (sF R)), .int (nI (sS R)), .int (nI (sL R)), .ref ak, .ref af, .ref ab, .ref aa])), (ak, aI G 10 (sK R)), (af, aI G 10 (sG R)), (ab, aI G 10 (sO R)), (aa, aI G 10 (sA R))]) s [(so, .inr (0, [.int (nI (sN (miF (itF R i) 0))), .int (nI (mi + n)), .int (nI (sF (miF (itF R i) 0))), .int (nI (sS (miF (itF R i) 0))), .int (nI (sL (miF (itF R i) 0))), .ref ak, .ref af, .ref ab, .ref aa])), (ak, aI G 10 (sK (miF (itF R i) 0))), (af, aI G 10 (sG (miF (itF R i) 0))), (ab, aI G 10 (sO (miF (itF R i) 0))), (aa, aI G 10 (sA (miF (itF R i) 0)))] H locs := hw
        subst hr
        have hw : Wd G (fA [(so, .inr (0, [.int (nI (sN R)), .int (nI mi), .int (nI (sF R)), .int (nI (sS R)), .int (nI (sL R)), .ref ak, .ref af, .ref ab, .ref aa])), (ak, aI G 10 (sK R)), (af, aI G 10 (sG R)), (ab, aI G 10 (sO R)), (aa, aI G 10 (sA R))]) s [(so, .inr (0, [.int (nI (sN (itF R (i + 1)))), .int (nI (mi + n)), .int (nI (sF (itF R (i + 1)))), .int (nI (sS (itF R (i + 1)))), .int (nI (sL (itF R (i + 1)))), .ref ak, .ref af, .ref ab, .ref aa])), (ak, aI G 10 (sK (itF R (i + 1)))), (af, aI G 10 (sG (itF R (i + 1)))), (ab, aI G 10 (sO (itF R (i + 1)))), (aa, aI G 10 (sA (itF R (i + 1))))] H locs := hw
        refine lv_if_ne (tgt := 26) xx xb dX0_passMinutes_22 (by decide) (fun c_22 => ?_) (fun c_22 => ?_)
        · skip
          have c_22 := b1_c c_22
          refine lv_iinc (v := nI (i + 1)) (lv' := [(2, .int (nI (i + 1))), (0, .ref so), (1, .int (nI n))]) xx xb dX0_passMinutes_26 hl (k := 2) rfl (nI_add _ 1) (by decide) rfl (fun ls hl => ?_)
          refine lv_goto (tgt := 12) xx xb dX0_passMinutes_29 (by decide) ?_
          exact ih_12 (i + 1) H _ ls (by omega) (by omega) hw (lv_sub hl [1, 2, 0] rfl)
        · skip
          have c_22 := b0_c c_22
          have hfx : nz (itF R (i + 1)) = nz (itF R i) := mv_fix (OK_itF hR i) (Bool.eq_false_iff.mpr c_22)
          have e := nz_it hfx (n - i)
          have e2 := e.trans hfx.symm
          rw [show i + (n - i) = n by omega] at e2
          have hw : Wd G (fA [(so, .inr (0, [.int (nI (sN R)), .int (nI mi), .int (nI (sF R)), .int (nI (sS R)), .int (nI (sL R)), .ref ak, .ref af, .ref ab, .ref aa])), (ak, aI G 10 (sK R)), (af, aI G 10 (sG R)), (ab, aI G 10 (sO R)), (aa, aI G 10 (sA R))]) s [(so, .inr (0, [.int (nI (sN (itF R n))), .int (nI (mi + n)), .int (nI (sF (itF R n))), .int (nI (sS (itF R n))), .int (nI (sL (itF R n))), .ref ak, .ref af, .ref ab, .ref aa])), (ak, aI G 10 (sK (itF R n))), (af, aI G 10 (sG (itF R n))), (ab, aI G 10 (sO (itF R n))), (aa, aI G 10 (sA (itF R n)))] H locs := by obtain ⟨w1, w2, w3, w4, w5, w6, w7, w8⟩ := nz_w e2; rw [w1, w2, w3, w4, w5, w6, w7, w8]; exact hw
          exact rt_v C hw () trivial rfl dX0_passMinutes_25
  exact L_12 (_ + 1) 0 H _ ls (Nat.lt_succ_self _) (by omega) hw (lv_sub hl [1, 2, 0] rfl)
