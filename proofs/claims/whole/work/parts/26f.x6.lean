theorem ftI_m9 {t : Nat} (h : t ≤ 100) (h2 : ftI t = -9) : 100 ≤ t := by
  have : ∀ t, t ≤ 100 → ftI t = -9 → 100 ≤ t := by decide +kernel
  exact this t h h2
theorem ftI_n9 {t : Nat} (h2 : ¬ ftI t = -9) : t < 100 := by
  apply Classical.byContradiction
  intro q
  exact h2 (if_neg q)
def cF (g : Nat → Nat) : Nat → Int32 := fun j => ftI (g j)
theorem cF_u (g : Nat → Nat) (k v : Nat) : upd (cF g) k (ftI v) = cF (upN g k v) := by
  funext j
  unfold upd cF upN
  by_cases h : j = k
  · rw [if_pos h, if_pos h]
  · rw [if_neg h, if_neg h]
/-- when each LIES first, as far as q MINUTES show; 100: not so far -/
noncomputable def ftQ (M : RT) (q a : Nat) : Nat := if a < M 0 0 ∧ ftN M a < q then ftN M a else 100
/-- while they are looked at -/
noncomputable def ftM (M : RT) (q i : Nat) : Nat → Nat := fun a => if a < i then ftQ M (q + 1) a else ftQ M q a
theorem ftQ_le (M : RT) (q a : Nat) : ftQ M q a ≤ 100 := by
  have := ftN_le M a
  unfold ftQ
  split <;> omega
theorem ftQ_e {M : RT} {a : Nat} (h : a < M 0 0) : ftQ M 100 a = ftN M a := by
  have := ftN_le M a
  unfold ftQ
  by_cases q : ftN M a < 100
  · rw [if_pos ⟨h, q⟩]
  · rw [if_neg (fun z => q z.2)]; omega
theorem ftM_0 (M : RT) (q : Nat) : ftM M q 0 = ftQ M q := by
  funext a
  unfold ftM
  rw [if_neg (Nat.not_lt_zero _)]
theorem ftM_n (M : RT) (q : Nat) : ftM M q (M 0 0) = ftQ M (q + 1) := by
  funext a
  unfold ftM
  by_cases h : a < M 0 0
  · rw [if_pos h]
  · rw [if_neg h]
    unfold ftQ
    rw [if_neg (fun z => h z.1), if_neg (fun z => h z.1)]
theorem ftQ_y {M : RT} {q i : Nat} (hi : i < M 0 0) (h1 : 100 ≤ ftQ M q i) (h2 : itF M q 4 i = 1) (hq : q < 100) : ftQ M (q + 1) i = q := by
  have hn : ¬ ftN M i < q := fun z => by
    unfold ftQ at h1
    rw [if_pos ⟨hi, z⟩] at h1
    omega
  have e : ftN M i = q := lf_eq _ _ _ (by omega) (fun j hj => lf_bf _ 100 j (by unfold ftN at hn; omega)) (fun _ => by unfold lieP; rw [h2]; rfl)
  unfold ftQ
  rw [if_pos ⟨hi, by omega⟩, e]
theorem ftQ_l {M : RT} {q a : Nat} (ha : a < M 0 0) (h : ftN M a < q) : ftQ M q a = ftN M a := if_pos ⟨ha, h⟩
theorem ftQ_g {M : RT} {q a : Nat} (h : ¬ ftN M a < q) : ftQ M q a = 100 := if_neg (fun y => h y.2)
theorem ftQ_n {M : RT} {q i : Nat} (hi : i < M 0 0) (h : ftQ M q i < 100 ∨ ¬ itF M q 4 i = 1) (hq : q < 100) : ftQ M (q + 1) i = ftQ M q i := by
  by_cases z : ftN M i < q
  · rw [ftQ_l hi z, ftQ_l hi (by omega)]
  · rw [ftQ_g z] at h
    have h2 : ¬ itF M q 4 i = 1 := h.resolve_left (by omega)
    rw [ftQ_g z]
    by_cases z2 : ftN M i < q + 1
    · have e : ftN M i = q := by omega
      have h3 := lf_at (lieP M i) 100 (by unfold ftN at e; omega)
      rw [show lf (lieP M i) 100 = q from e] at h3
      unfold lieP at h3
      rw [decide_eq_true_eq] at h3
      exact absurd h3 h2
    · exact ftQ_g z2
theorem ftM_y {M : RT} {q i : Nat} (hi : i < M 0 0) (h1 : 100 ≤ ftM M q i i) (h2 : itF M q 4 i = 1) (hq : q < 100) : upd (cF (ftM M q i)) i (nI q) = cF (ftM M q (i + 1)) := by
  have h1 : 100 ≤ ftQ M q i := by unfold ftM at h1; rw [if_neg (Nat.lt_irrefl _)] at h1; exact h1
  rw [← ftI_lt hq, cF_u]
  congr 1
  funext a
  unfold upN ftM
  by_cases e : a = i
  · rw [if_pos e, if_pos (by omega), e, ftQ_y hi h1 h2 hq]
  · rw [if_neg e]
    by_cases z : a < i
    · rw [if_pos z, if_pos (by omega)]
    · rw [if_neg z, if_neg (by omega)]
theorem ftM_k {M : RT} {q i : Nat} (hi : i < M 0 0) (h : ftM M q i i < 100 ∨ ¬ itF M q 4 i = 1) (hq : q < 100) : ftM M q (i + 1) = ftM M q i := by
  have h : ftQ M q i < 100 ∨ ¬ itF M q 4 i = 1 := by unfold ftM at h; rw [if_neg (Nat.lt_irrefl _)] at h; exact h
  funext a
  unfold ftM
  by_cases e : a = i
  · rw [if_pos (by omega), if_neg (by omega), e, ftQ_n hi h hq]
  · by_cases z : a < i
    · rw [if_pos z, if_pos (by omega)]
    · rw [if_neg z, if_neg (by omega)]
theorem ft_fix {M : RT} {q : Nat} (hq : q < 100) (h : nz (itF M (q + 1)) = nz (itF M q)) : ftQ M (q + 1) = ftQ M 100 := by
  funext a
  unfold ftQ
  by_cases ha : a < M 0 0
  · by_cases z : ftN M a < q + 1
    · rw [if_pos ⟨ha, z⟩, if_pos ⟨ha, by omega⟩]
    · by_cases z2 : ftN M a < 100
      · exfalso
        have h1 := lf_at (lieP M a) 100 z2
        have h2 : lieP M a q = false := lf_bf _ 100 q (by unfold ftN at z; omega)
        unfold lieP at h1 h2
        rw [decide_eq_true_eq] at h1
        rw [decide_eq_false_iff_not] at h2
        have e := nz_it h (lf (lieP M a) 100 - q)
        rw [show q + (lf (lieP M a) 100 - q) = lf (lieP M a) 100 by unfold ftN at z; omega] at e
        have e4 := congrFun (congrFun e 4) a
        unfold nz at e4
        rw [upR_n (by omega), upR_n (by omega)] at e4
        exact h2 (e4.symm.trans h1)
      · rw [if_neg (fun y => z y.2), if_neg (fun y => z2 y.2)]
  · rw [if_neg (fun y => ha y.1), if_neg (fun y => ha y.1)]
theorem ftQ_0 (M : RT) : cF (ftQ M 0) = fun _ => (-9) := by
  funext a
  unfold cF ftQ
  rw [if_neg (fun z => Nat.not_lt_zero _ z.2)]
  rfl
theorem it03 {R : RT} (hp : R 0 3 = 0) (n : Nat) : itF R n 0 3 = 0 := (itF_n R n 0 3 (by omega) (by omega)).trans hp
theorem cWhat_le (w : Int) : cWhat w ≤ 2 := by unfold cWhat; split <;> omega
theorem cWhat_0 {w : Int} (h : cWhat w = 0) : 0 ≤ w ∧ w ≤ 1 := by
  unfold cWhat at h
  by_cases q : 0 ≤ w ∧ w ≤ 1
  · exact q
  · rw [if_neg q] at h; omega
theorem cThg_0 {R : RT} {x : Int} (h : cThg R x = 0) : 0 ≤ x ∧ x < ((R 0 0 : Nat) : Int) := by
  unfold cThg at h
  by_cases q : 0 ≤ x ∧ x < ((R 0 0 : Nat) : Int)
  · exact q
  · rw [if_neg q] at h; omega
theorem cThg_le (R : RT) (x : Int) : cThg R x ≤ 6 := by unfold cThg; split <;> omega
set_option maxRecDepth 100000 in
set_option maxHeartbeats 4000000 in
theorem kX1_findFallTimes (l : Launch) (G : GT) (h0 : Nat) (so : Nat) (to : Nat) (uo : Nat) (x5 : Nat) (x6 : Nat) (x7 : Nat) (x8 : Nat) (im : Nat) (lm : Nat) (rm : Nat) (sd : Int32) (tk : Nat) (tf : Nat) (tb : Nat) (ta : Nat) (m0 : Nat) (M : RT) (ft : Nat → Int32) (hR : OK M) (hK : AK M) (hp : M 0 3 = 0) : Ct l yX1_findFallTimes cX1_findFallTimes 3 (none) 3 78 [.ref h0] G [(h0, .inr (1, [.ref so, .ref to, .ref uo, .int (nI im), .ref x5, .int (nI lm), .ref x6, .int (nI rm), .ref x7, .ref x8, .int sd])), (to, .inr (0, [.int (nI (sN M)), .int (nI m0), .int (nI (sF M)), .int (nI (sS M)), .int (nI (sL M)), .ref tk, .ref tf, .ref tb, .ref ta])), (tk, aI G 10 (sK M)), (tf, aI G 10 (sG M)), (tb, aI G 10 (sO M)), (ta, aI G 10 (sA M)), (x8, aI G 10 ft)] (QV G [(h0, .inr (1, [.ref so, .ref to, .ref uo, .int (nI im), .ref x5, .int (nI lm), .ref x6, .int (nI rm), .ref x7, .ref x8, .int sd])), (to, .inr (0, [.int (nI (sN M)), .int (nI m0), .int (nI (sF M)), .int (nI (sS M)), .int (nI (sL M)), .ref tk, .ref tf, .ref tb, .ref ta])), (tk, aI G 10 (sK M)), (tf, aI G 10 (sG M)), (tb, aI G 10 (sO M)), (ta, aI G 10 (sA M)), (x8, aI G 10 ft)] (fun u : RT => True) (fun u => [(h0, .inr (1, [.ref so, .ref to, .ref uo, .int (nI im), .ref x5, .int (nI lm), .ref x6, .int (nI rm), .ref x7, .ref x8, .int sd])), (to, .inr (0, [.int (nI (sN u)), .int (nI m0), .int (nI (sF u)), .int (nI (sS u)), .int (nI (sL u)), .ref tk, .ref tf, .ref tb, .ref ta])), (tk, aI G 10 (sK u)), (tf, aI G 10 (sG u)), (tb, aI G 10 (sO u)), (ta, aI G 10 (sA u)), (x8, aI G 10 (cF (ftQ M 100)))])) := by
  refine en (by decide +kernel) (Nat.le_of_ble_eq_true rfl) ?_
  intro p e s m below meth c ls H locs C hl hw
  have xx := C.1
  have xb := C.2.1
  have hw : Wd G (fA [(h0, .inr (1, [.ref so, .ref to, .ref uo, .int (nI im), .ref x5, .int (nI lm), .ref x6, .int (nI rm), .ref x7, .ref x8, .int sd])), (to, .inr (0, [.int (nI (sN M)), .int (nI m0), .int (nI (sF M)), .int (nI (sS M)), .int (nI (sL M)), .ref tk, .ref tf, .ref tb, .ref ta])), (tk, aI G 10 (sK M)), (tf, aI G 10 (sG M)), (tb, aI G 10 (sO M)), (ta, aI G 10 (sA M)), (x8, aI G 10 ft)]) s [(h0, .inr (1, [.ref so, .ref to, .ref uo, .int (nI im), .ref x5, .int (nI lm), .ref x6, .int (nI rm), .ref x7, .ref x8, .int sd])), (to, .inr (0, [.int (nI (sN M)), .int (nI m0), .int (nI (sF M)), .int (nI (sS M)), .int (nI (sL M)), .ref tk, .ref tf, .ref tb, .ref ta])), (tk, aI G 10 (sK M)), (tf, aI G 10 (sG M)), (tb, aI G 10 (sO M)), (ta, aI G 10 (sA M)), (x8, aI G 10 ft)] H locs := hw
  have hl : lv_has ls 3 [(0, .ref h0)] := hl
  obtain ⟨hn, hf0, hpr, hA⟩ := id hR
  refine lv_iconst (v := nI 0) xx xb dX1_findFallTimes_0 (by decide) ?_
  refine lv_istore_n (lv' := [(1, .int (nI 0)), (0, .ref h0)]) xx xb dX1_findFallTimes_1 rfl hl (by decide) rfl (fun ls hl => ?_)
  have hw : Wd G (fA [(h0, .inr (1, [.ref so, .ref to, .ref uo, .int (nI im), .ref x5, .int (nI lm), .ref x6, .int (nI rm), .ref x7, .ref x8, .int sd])), (to, .inr (0, [.int (nI (sN M)), .int (nI m0), .int (nI (sF M)), .int (nI (sS M)), .int (nI (sL M)), .ref tk, .ref tf, .ref tb, .ref ta])), (tk, aI G 10 (sK M)), (tf, aI G 10 (sG M)), (tb, aI G 10 (sO M)), (ta, aI G 10 (sA M)), (x8, aI G 10 ft)]) s [(h0, .inr (1, [.ref so, .ref to, .ref uo, .int (nI im), .ref x5, .int (nI lm), .ref x6, .int (nI rm), .ref x7, .ref x8, .int sd])), (to, .inr (0, [.int (nI (sN M)), .int (nI m0), .int (nI (sF M)), .int (nI (sS M)), .int (nI (sL M)), .ref tk, .ref tf, .ref tb, .ref ta])), (tk, aI G 10 (sK M)), (tf, aI G 10 (sG M)), (tb, aI G 10 (sO M)), (ta, aI G 10 (sA M)), (x8, aI G 10 (mixF (fun _ => (-9)) ft 0))] H locs := by rw [← mix_0]; exact hw
  have L_2 : ∀ (fu : Nat) (i : Nat) (H : Heap) (locs : List Loc) (ls : Array Slot), 10 - i < fu → (i ≤ 10) → Wd G (fA [(h0, .inr (1, [.ref so, .ref to, .ref uo, .int (nI im), .ref x5, .int (nI lm), .ref x6, .int (nI rm), .ref x7, .ref x8, .int sd])), (to, .inr (0, [.int (nI (sN M)), .int (nI m0), .int (nI (sF M)), .int (nI (sS M)), .int (nI (sL M)), .ref tk, .ref tf, .ref tb, .ref ta])), (tk, aI G 10 (sK M)), (tf, aI G 10 (sG M)), (tb, aI G 10 (sO M)), (ta, aI G 10 (sA M)), (x8, aI G 10 ft)]) s [(h0, .inr (1, [.ref so, .ref to, .ref uo, .int (nI im), .ref x5, .int (nI lm), .ref x6, .int (nI rm), .ref x7, .ref x8, .int sd])), (to, .inr (0, [.int (nI (sN M)), .int (nI m0), .int (nI (sF M)), .int (nI (sS M)), .int (nI (sL M)), .ref tk, .ref tf, .ref tb, .ref ta])), (tk, aI G 10 (sK M)), (tf, aI G 10 (sG M)), (tb, aI G 10 (sO M)), (ta, aI G 10 (sA M)), (x8, aI G 10 (mixF (fun _ => (-9)) ft i))] H locs → lv_has ls 3 [(0, .ref h0), (1, .int (nI i))] → W p l e ({ frames := 3, cells := 0, slots := 0, locals := 78 }) s m (([.ref h0] : List Value).toArray) below meth c H locs 0 0 (MQ below (QV G [(h0, .inr (1, [.ref so, .ref to, .ref uo, .int (nI im), .ref x5, .int (nI lm), .ref x6, .int (nI rm), .ref x7, .ref x8, .int sd])), (to, .inr (0, [.int (nI (sN M)), .int (nI m0), .int (nI (sF M)), .int (nI (sS M)), .int (nI (sL M)), .ref tk, .ref tf, .ref tb, .ref ta])), (tk, aI G 10 (sK M)), (tf, aI G 10 (sG M)), (tb, aI G 10 (sO M)), (ta, aI G 10 (sA M)), (x8, aI G 10 ft)] (fun u : RT => True) (fun u => [(h0, .inr (1, [.ref so, .ref to, .ref uo, .int (nI im), .ref x5, .int (nI lm), .ref x6, .int (nI rm), .ref x7, .ref x8, .int sd])), (to, .inr (0, [.int (nI (sN u)), .int (nI m0), .int (nI (sF u)), .int (nI (sS u)), .int (nI (sL u)), .ref tk, .ref tf, .ref tb, .ref ta])), (tk, aI G 10 (sK u)), (tf, aI G 10 (sG u)), (tb, aI G 10 (sO u)), (ta, aI G 10 (sA u)), (x8, aI G 10 (cF (ftQ M 100)))])) (([.ref h0] : List Value).toArray) s 0 0 (fA [(h0, .inr (1, [.ref so, .ref to, .ref uo, .int (nI im), .ref x5, .int (nI lm), .ref x6, .int (nI rm), .ref x7, .ref x8, .int sd])), (to, .inr (0, [.int (nI (sN M)), .int (nI m0), .int (nI (sF M)), .int (nI (sS M)), .int (nI (sL M)), .ref tk, .ref tf, .ref tb, .ref ta])), (tk, aI G 10 (sK M)), (tf, aI G 10 (sG M)), (tb, aI G 10 (sO M)), (ta, aI G 10 (sA M)), (x8, aI G 10 ft)])) (F0 m 2 ls []) := by
    intro fu
    induction fu with
    | zero => intro i H locs ls hfu; exact absurd hfu (Nat.not_lt_zero _)
    | succ fu ih_2 =>
      intro i H locs ls hfu hi hw hl
      refine lv_iload_n xx xb dX1_findFallTimes_2 rfl (lv_at hl 1 rfl) ?_
      refine lv_bipush (v := nI 10) xx xb dX1_findFallTimes_3 (by decide) ?_
      refine lv_icmp_ge (tgt := 22) xx xb dX1_findFallTimes_5 (by decide) (fun c_5 => ?_) (fun c_5 => ?_)
      · skip
        have c_5 := le_c (tN (by omega)) (tN (by omega)) c_5
        have hw : Wd G (fA [(h0, .inr (1, [.ref so, .ref to, .ref uo, .int (nI im), .ref x5, .int (nI lm), .ref x6, .int (nI rm), .ref x7, .ref x8, .int sd])), (to, .inr (0, [.int (nI (sN M)), .int (nI m0), .int (nI (sF M)), .int (nI (sS M)), .int (nI (sL M)), .ref tk, .ref tf, .ref tb, .ref ta])), (tk, aI G 10 (sK M)), (tf, aI G 10 (sG M)), (tb, aI G 10 (sO M)), (ta, aI G 10 (sA M)), (x8, aI G 10 ft)]) s [(h0, .inr (1, [.ref so, .ref to, .ref uo, .int (nI im), .ref x5, .int (nI lm), .ref x6, .int (nI rm), .ref x7, .ref x8, .int sd])), (to, .inr (0, [.int (nI (sN M)), .int (nI m0), .int (nI (sF M)), .int (nI (sS M)), .int (nI (sL M)), .ref tk, .ref tf, .ref tb, .ref ta])), (tk, aI G 10 (sK M)), (tf, aI G 10 (sG M)), (tb, aI G 10 (sO M)), (ta, aI G 10 (sA M)), (x8, aI G 10 (cF (ftQ M 0)))] H locs := by rw [ftQ_0]; exact wd_arr hw 6 rfl (fun _ => (-9)) (fun j hj => by unfold mixF; rw [if_pos (by omega)])
        refine lv_iconst (v := nI 0) xx xb dX1_findFallTimes_22 (by decide) ?_
        refine lv_istore_n (lv' := [(1, .int (nI 0)), (0, .ref h0)]) xx xb dX1_findFallTimes_23 rfl hl (by decide) rfl (fun ls hl => ?_)
        have hw : Wd G (fA [(h0, .inr (1, [.ref so, .ref to, .ref uo, .int (nI im), .ref x5, .int (nI lm), .ref x6, .int (nI rm), .ref x7, .ref x8, .int sd])), (to, .inr (0, [.int (nI (sN M)), .int (nI m0), .int (nI (sF M)), .int (nI (sS M)), .int (nI (sL M)), .ref tk, .ref tf, .ref tb, .ref ta])), (tk, aI G 10 (sK M)), (tf, aI G 10 (sG M)), (tb, aI G 10 (sO M)), (ta, aI G 10 (sA M)), (x8, aI G 10 ft)]) s [(h0, .inr (1, [.ref so, .ref to, .ref uo, .int (nI im), .ref x5, .int (nI lm), .ref x6, .int (nI rm), .ref x7, .ref x8, .int sd])), (to, .inr (0, [.int (nI (sN (itF M 0))), .int (nI m0), .int (nI (sF (itF M 0))), .int (nI (sS (itF M 0))), .int (nI (sL (itF M 0))), .ref tk, .ref tf, .ref tb, .ref ta])), (tk, aI G 10 (sK (itF M 0))), (tf, aI G 10 (sG (itF M 0))), (tb, aI G 10 (sO (itF M 0))), (ta, aI G 10 (sA (itF M 0))), (x8, aI G 10 (cF (ftQ M 0)))] H locs := hw
        have L_24 : ∀ (fu : Nat) (q : Nat) (H : Heap) (locs : List Loc) (ls : Array Slot), 100 - q < fu → (q ≤ 100) → Wd G (fA [(h0, .inr (1, [.ref so, .ref to, .ref uo, .int (nI im), .ref x5, .int (nI lm), .ref x6, .int (nI rm), .ref x7, .ref x8, .int sd])), (to, .inr (0, [.int (nI (sN M)), .int (nI m0), .int (nI (sF M)), .int (nI (sS M)), .int (nI (sL M)), .ref tk, .ref tf, .ref tb, .ref ta])), (tk, aI G 10 (sK M)), (tf, aI G 10 (sG M)), (tb, aI G 10 (sO M)), (ta, aI G 10 (sA M)), (x8, aI G 10 ft)]) s [(h0, .inr (1, [.ref so, .ref to, .ref uo, .int (nI im), .ref x5, .int (nI lm), .ref x6, .int (nI rm), .ref x7, .ref x8, .int sd])), (to, .inr (0, [.int (nI (sN (itF M q))), .int (nI m0), .int (nI (sF (itF M q))), .int (nI (sS (itF M q))), .int (nI (sL (itF M q))), .ref tk, .ref tf, .ref tb, .ref ta])), (tk, aI G 10 (sK (itF M q))), (tf, aI G 10 (sG (itF M q))), (tb, aI G 10 (sO (itF M q))), (ta, aI G 10 (sA (itF M q))), (x8, aI G 10 (cF (ftQ M q)))] H locs → lv_has ls 3 [(0, .ref h0), (1, .int (nI q))] → W p l e ({ frames := 3, cells := 0, slots := 0, locals := 78 }) s m (([.ref h0] : List Value).toArray) below meth c H locs 0 0 (MQ below (QV G [(h0, .inr (1, [.ref so, .ref to, .ref uo, .int (nI im), .ref x5, .int (nI lm), .ref x6, .int (nI rm), .ref x7, .ref x8, .int sd])), (to, .inr (0, [.int (nI (sN M)), .int (nI m0), .int (nI (sF M)), .int (nI (sS M)), .int (nI (sL M)), .ref tk, .ref tf, .ref tb, .ref ta])), (tk, aI G 10 (sK M)), (tf, aI G 10 (sG M)), (tb, aI G 10 (sO M)), (ta, aI G 10 (sA M)), (x8, aI G 10 ft)] (fun u : RT => True) (fun u => [(h0, .inr (1, [.ref so, .ref to, .ref uo, .int (nI im), .ref x5, .int (nI lm), .ref x6, .int (nI rm), .ref x7, .ref x8, .int sd])), (to, .inr (0, [.int (nI (sN u)), .int (nI m0), .int (nI (sF u)), .int (nI (sS u)), .int (nI (sL u)), .ref tk, .ref tf, .ref tb, .ref ta])), (tk, aI G 10 (sK u)), (tf, aI G 10 (sG u)), (tb, aI G 10 (sO u)), (ta, aI G 10 (sA u)), (x8, aI G 10 (cF (ftQ M 100)))])) (([.ref h0] : List Value).toArray) s 0 0 (fA [(h0, .inr (1, [.ref so, .ref to, .ref uo, .int (nI im), .ref x5, .int (nI lm), .ref x6, .int (nI rm), .ref x7, .ref x8, .int sd])), (to, .inr (0, [.int (nI (sN M)), .int (nI m0), .int (nI (sF M)), .int (nI (sS M)), .int (nI (sL M)), .ref tk, .ref tf, .ref tb, .ref ta])), (tk, aI G 10 (sK M)), (tf, aI G 10 (sG M)), (tb, aI G 10 (sO M)), (ta, aI G 10 (sA M)), (x8, aI G 10 ft)])) (F0 m 24 ls []) := by
          intro fu
          induction fu with
          | zero => intro q H locs ls hfu; exact absurd hfu (Nat.not_lt_zero _)
          | succ fu ih_24 =>
            intro q H locs ls hfu hq hw hl
            refine lv_iload_n xx xb dX1_findFallTimes_24 rfl (lv_at hl 1 rfl) ?_
            refine lv_bipush (v := nI 99) xx xb dX1_findFallTimes_25 (by decide) ?_
            refine lv_icmp_gt (tgt := 96) xx xb dX1_findFallTimes_27 (by decide) (fun c_27 => ?_) (fun c_27 => ?_)
            · skip
              have c_27 := lt_c (tN (by omega)) (tN (by omega)) c_27
              have hw : Wd G (fA [(h0, .inr (1, [.ref so, .ref to, .ref uo, .int (nI im), .ref x5, .int (nI lm), .ref x6, .int (nI rm), .ref x7, .ref x8, .int sd])), (to, .inr (0, [.int (nI (sN M)), .int (nI m0), .int (nI (sF M)), .int (nI (sS M)), .int (nI (sL M)), .ref tk, .ref tf, .ref tb, .ref ta])), (tk, aI G 10 (sK M)), (tf, aI G 10 (sG M)), (tb, aI G 10 (sO M)), (ta, aI G 10 (sA M)), (x8, aI G 10 ft)]) s [(h0, .inr (1, [.ref so, .ref to, .ref uo, .int (nI im), .ref x5, .int (nI lm), .ref x6, .int (nI rm), .ref x7, .ref x8, .int sd])), (to, .inr (0, [.int (nI (sN (itF M q))), .int (nI m0), .int (nI (sF (itF M q))), .int (nI (sS (itF M q))), .int (nI (sL (itF M q))), .ref tk, .ref tf, .ref tb, .ref ta])), (tk, aI G 10 (sK (itF M q))), (tf, aI G 10 (sG (itF M q))), (tb, aI G 10 (sO (itF M q))), (ta, aI G 10 (sA (itF M q))), (x8, aI G 10 (cF (ftQ M 100)))] H locs := by rw [show 100 = q by omega]; exact hw
              exact rt_v C hw (itF M q) trivial rfl dX1_findFallTimes_96
            · skip
              have c_27 := nlt_c (tN (by omega)) (tN (by omega)) c_27
              refine lv_iconst (v := nI 0) xx xb dX1_findFallTimes_30 (by decide) ?_
              refine lv_istore_n (lv' := [(2, .int (nI 0)), (0, .ref h0), (1, .int (nI q))]) xx xb dX1_findFallTimes_31 rfl hl (by decide) rfl (fun ls hl => ?_)
              have hw : Wd G (fA [(h0, .inr (1, [.ref so, .ref to, .ref uo, .int (nI im), .ref x5, .int (nI lm), .ref x6, .int (nI rm), .ref x7, .ref x8, .int sd])), (to, .inr (0, [.int (nI (sN M)), .int (nI m0), .int (nI (sF M)), .int (nI (sS M)), .int (nI (sL M)), .ref tk, .ref tf, .ref tb, .ref ta])), (tk, aI G 10 (sK M)), (tf, aI G 10 (sG M)), (tb, aI G 10 (sO M)), (ta, aI G 10 (sA M)), (x8, aI G 10 ft)]) s [(h0, .inr (1, [.ref so, .ref to, .ref uo, .int (nI im), .ref x5, .int (nI lm), .ref x6, .int (nI rm), .ref x7, .ref x8, .int sd])), (to, .inr (0, [.int (nI (sN (itF M q))), .int (nI m0), .int (nI (sF (itF M q))), .int (nI (sS (itF M q))), .int (nI (sL (itF M q))), .ref tk, .ref tf, .ref tb, .ref ta])), (tk, aI G 10 (sK (itF M q))), (tf, aI G 10 (sG (itF M q))), (tb, aI G 10 (sO (itF M q))), (ta, aI G 10 (sA (itF M q))), (x8, aI G 10 (cF (ftM M q 0)))] H locs := by rw [ftM_0]; exact hw
              have L_32 : ∀ (fu : Nat) (i : Nat) (H : Heap) (locs : List Loc) (ls : Array Slot), 10 - i < fu → (i ≤ M 0 0) → Wd G (fA [(h0, .inr (1, [.ref so, .ref to, .ref uo, .int (nI im), .ref x5, .int (nI lm), .ref x6, .int (nI rm), .ref x7, .ref x8, .int sd])), (to, .inr (0, [.int (nI (sN M)), .int (nI m0), .int (nI (sF M)), .int (nI (sS M)), .int (nI (sL M)), .ref tk, .ref tf, .ref tb, .ref ta])), (tk, aI G 10 (sK M)), (tf, aI G 10 (sG M)), (tb, aI G 10 (sO M)), (ta, aI G 10 (sA M)), (x8, aI G 10 ft)]) s [(h0, .inr (1, [.ref so, .ref to, .ref uo, .int (nI im), .ref x5, .int (nI lm), .ref x6, .int (nI rm), .ref x7, .ref x8, .int sd])), (to, .inr (0, [.int (nI (sN (itF M q))), .int (nI m0), .int (nI (sF (itF M q))), .int (nI (sS (itF M q))), .int (nI (sL (itF M q))), .ref tk, .ref tf, .ref tb, .ref ta])), (tk, aI G 10 (sK (itF M q))), (tf, aI G 10 (sG (itF M q))), (tb, aI G 10 (sO (itF M q))), (ta, aI G 10 (sA (itF M q))), (x8, aI G 10 (cF (ftM M q i)))] H locs → lv_has ls 3 [(0, .ref h0), (1, .int (nI q)), (2, .int (nI i))] → W p l e ({ frames := 3, cells := 0, slots := 0, locals := 78 }) s m (([.ref h0] : List Value).toArray) below meth c H locs 0 0 (MQ below (QV G [(h0, .inr (1, [.ref so, .ref to, .ref uo, .int (nI im), .ref x5, .int (nI lm), .ref x6, .int (nI rm), .ref x7, .ref x8, .int sd])), (to, .inr (0, [.int (nI (sN M)), .int (nI m0), .int (nI (sF M)), .int (nI (sS M)), .int (nI (sL M)), .ref tk, .ref tf, .ref tb, .ref ta])), (tk, aI G 10 (sK M)), (tf, aI G 10 (sG M)), (tb, aI G 10 (sO M)), (ta, aI G 10 (sA M)), (x8, aI G 10 ft)] (fun u : RT => True) (fun u => [(h0, .inr (1, [.ref so, .ref to, .ref uo, .int (nI im), .ref x5, .int (nI lm), .ref x6, .int (nI rm), .ref x7, .ref x8, .int sd])), (to, .inr (0, [.int (nI (sN u)), .int (nI m0), .int (nI (sF u)), .int (nI (sS u)), .int (nI (sL u)), .ref tk, .ref tf, .ref tb, .ref ta])), (tk, aI G 10 (sK u)), (tf, aI G 10 (sG u)), (tb, aI G 10 (sO u)), (ta, aI G 10 (sA u)), (x8, aI G 10 (cF (ftQ M 100)))])) (([.ref h0] : List Value).toArray) s 0 0 (fA [(h0, .inr (1, [.ref so, .ref to, .ref uo, .int (nI im), .ref x5, .int (nI lm), .ref x6, .int (nI rm), .ref x7, .ref x8, .int sd])), (to, .inr (0, [.int (nI (sN M)), .int (nI m0), .int (nI (sF M)), .int (nI (sS M)), .int (nI (sL M)), .ref tk, .ref tf, .ref tb, .ref ta])), (tk, aI G 10 (sK M)), (tf, aI G 10 (sG M)), (tb, aI G 10 (sO M)), (ta, aI G 10 (sA M)), (x8, aI G 10 ft)])) (F0 m 32 ls []) := by
                intro fu
                induction fu with
                | zero => intro i H locs ls hfu; exact absurd hfu (Nat.not_lt_zero _)
                | succ fu ih_32 =>
                  intro i H locs ls hfu hi hw hl
                  refine lv_iload_n xx xb dX1_findFallTimes_32 rfl (lv_at hl 2 rfl) ?_
                  refine lv_aload_n xx xb dX1_findFallTimes_33 rfl (lv_at hl 0 rfl) ?_
                  refine m_get C hw 0 rfl fk_X1_16 rfl dX1_findFallTimes_34 ?_
                  refine m_get C hw 1 rfl fk_X1_163 rfl dX1_findFallTimes_37 ?_
                  refine re_i (nI ((itF M q) 0 0)) rfl ?_
                  refine re_i (nI (M 0 0)) (congrArg nI (itF_00 M q)) ?_
                  refine lv_icmp_ge (tgt := 78) xx xb dX1_findFallTimes_40 (by decide) (fun c_40 => ?_) (fun c_40 => ?_)
                  · skip
                    have c_40 := le_c (tN (by omega)) (tN (by omega)) c_40
                    have hw : Wd G (fA [(h0, .inr (1, [.ref so, .ref to, .ref uo, .int (nI im), .ref x5, .int (nI lm), .ref x6, .int (nI rm), .ref x7, .ref x8, .int sd])), (to, .inr (0, [.int (nI (sN M)), .int (nI m0), .int (nI (sF M)), .int (nI (sS M)), .int (nI (sL M)), .ref tk, .ref tf, .ref tb, .ref ta])), (tk, aI G 10 (sK M)), (tf, aI G 10 (sG M)), (tb, aI G 10 (sO M)), (ta, aI G 10 (sA M)), (x8, aI G 10 ft)]) s [(h0, .inr (1, [.ref so, .ref to, .ref uo, .int (nI im), .ref x5, .int (nI lm), .ref x6, .int (nI rm), .ref x7, .ref x8, .int sd])), (to, .inr (0, [.int (nI (sN (itF M q))), .int (nI m0), .int (nI (sF (itF M q))), .int (nI (sS (itF M q))), .int (nI (sL (itF M q))), .ref tk, .ref tf, .ref tb, .ref ta])), (tk, aI G 10 (sK (itF M q))), (tf, aI G 10 (sG (itF M q))), (tb, aI G 10 (sO (itF M q))), (ta, aI G 10 (sA (itF M q))), (x8, aI G 10 (cF (ftQ M (q + 1))))] H locs := by rw [← ftM_n, show M 0 0 = i by omega]; exact hw
                    refine lv_aload_n xx xb dX1_findFallTimes_78 rfl (lv_at hl 0 rfl) ?_
                    refine m_get C hw 0 rfl fk_X1_16 rfl dX1_findFallTimes_79 ?_
                    refine lv_iconst (v := nI 0) xx xb dX1_findFallTimes_82 (by decide) ?_
                    have hM := kX0_passMinute l G to tk tf tb ta m0 (itF M q) 0 (OK_itF hR q) (AK_itF hR hK q) (it03 hp q) (by first | assumption | omega)
                    refine cv_i C hw hM yvX0_passMinute ml_X1_296 1 rfl rfl rfl [1, 2, 3, 4, 5] rfl rfl (fun _ => (rfl : ([to, tk, tf, tb, ta] : List Nat) = [to, tk, tf, tb, ta])) (by decide) ⟨Nat.zero_le _, Nat.zero_le _⟩ hl.1 rfl (Nat.le_of_ble_eq_true rfl) dX1_findFallTimes_83 (fun r _ H locs hr hw => ?_)
                    have hw : Wd G (fA [(h0, .inr (1, [.ref so, .ref to, .ref uo, .int (nI im), .ref x5, .int (nI lm), .ref x6, .int (nI rm), .ref x7, .ref x8, .int sd])), (to, .inr (0, [.int (nI (sN M)), .int (nI m0), .int (nI (sF M)), .int (nI (sS M)), .int (nI (sL M)), .ref tk, .ref tf, .ref tb, .ref ta])), (tk, aI G 10 (sK M)), (tf, aI G 10 (sG M)), (tb, aI G 10 (sO M)), (ta, aI G 10 (sA M)), (x8, aI G 10 ft)]) s [(h0, .inr (1, [.ref so, .ref to, .ref uo, .int (nI im), .ref x5, .int (nI lm), .ref x6, .int (nI rm), .ref x7, .ref x8, .int sd])), (to, .inr (0, [.int (nI (sN (miF (itF M q) 0))), .int (nI m0), .int (nI (sF (miF (itF M q) 0))), .int (nI (sS (miF (itF M q) 0))), .int (nI (sL (miF (itF M q) 0))), .ref tk, .ref tf, .ref tb, .ref ta])), (tk, aI G 10 (sK (miF (itF M q) 0))), (tf, aI G 10 (sG (miF (itF M q) 0))), (tb, aI G 10 (sO (miF (itF M q) 0))), (ta, aI G 10 (sA (miF (itF M q) 0))), (x8, aI G 10 (cF (ftQ M (q + 1))))] H locs := hw
                    subst hr
                    have hw : Wd G (fA [(h0, .inr (1, [.ref so, .ref to, .ref uo, .int (nI im), .ref x5, .int (nI lm), .ref x6, .int (nI rm), .ref x7, .ref x8, .int sd])), (to, .inr (0, [.int (nI (sN M)), .int (nI m0), .int (nI (sF M)), .int (nI (sS M)), .int (nI (sL M)), .ref tk, .ref tf, .ref tb, .ref ta])), (tk, aI G 10 (sK M)), (tf, aI G 10 (sG M)), (tb, aI G 10 (sO M)), (ta, aI G 10 (sA M)), (x8, aI G 10 ft)]) s [(h0, .inr (1, [.ref so, .ref to, .ref uo, .int (nI im), .ref x5, .int (nI lm), .ref x6, .int (nI rm), .ref x7, .ref x8, .int sd])), (to, .inr (0, [.int (nI (sN (itF M (q + 1)))), .int (nI m0), .int (nI (sF (itF M (q + 1)))), .int (nI (sS (itF M (q + 1)))), .int (nI (sL (itF M (q + 1)))), .ref tk, .ref tf, .ref tb, .ref ta])), (tk, aI G 10 (sK (itF M (q + 1)))), (tf, aI G 10 (sG (itF M (q + 1)))), (tb, aI G 10 (sO (itF M (q + 1)))), (ta, aI G 10 (sA (itF M (q + 1)))), (x8, aI G 10 (cF (ftQ M (q + 1))))] H locs := hw
                    refine lv_if_ne (tgt := 90) xx xb dX1_findFallTimes_86 (by decide) (fun c_86 => ?_) (fun c_86 => ?_)
                    · skip
                      have c_86 := b1_c c_86
                      refine lv_iinc (v := nI (q + 1)) (lv' := [(1, .int (nI (q + 1))), (0, .ref h0), (2, .int (nI i))]) xx xb dX1_findFallTimes_90 hl (k := 1) rfl (nI_add _ 1) (by decide) rfl (fun ls hl => ?_)
                      refine lv_goto (tgt := 24) xx xb dX1_findFallTimes_93 (by decide) ?_
                      exact ih_24 (q + 1) H _ ls (by omega) (by omega) hw (lv_sub hl [1, 0] rfl)
                    · skip
                      have c_86 := b0_c c_86
                      have hw : Wd G (fA [(h0, .inr (1, [.ref so, .ref to, .ref uo, .int (nI im), .ref x5, .int (nI lm), .ref x6, .int (nI rm), .ref x7, .ref x8, .int sd])), (to, .inr (0, [.int (nI (sN M)), .int (nI m0), .int (nI (sF M)), .int (nI (sS M)), .int (nI (sL M)), .ref tk, .ref tf, .ref tb, .ref ta])), (tk, aI G 10 (sK M)), (tf, aI G 10 (sG M)), (tb, aI G 10 (sO M)), (ta, aI G 10 (sA M)), (x8, aI G 10 ft)]) s [(h0, .inr (1, [.ref so, .ref to, .ref uo, .int (nI im), .ref x5, .int (nI lm), .ref x6, .int (nI rm), .ref x7, .ref x8, .int sd])), (to, .inr (0, [.int (nI (sN (itF M (q + 1)))), .int (nI m0), .int (nI (sF (itF M (q + 1)))), .int (nI (sS (itF M (q + 1)))), .int (nI (sL (itF M (q + 1)))), .ref tk, .ref tf, .ref tb, .ref ta])), (tk, aI G 10 (sK (itF M (q + 1)))), (tf, aI G 10 (sG (itF M (q + 1)))), (tb, aI G 10 (sO (itF M (q + 1)))), (ta, aI G 10 (sA (itF M (q + 1)))), (x8, aI G 10 (cF (ftQ M 100)))] H locs := by rw [← ft_fix (by omega) (mv_fix (OK_itF hR q) (Bool.eq_false_iff.mpr c_86))]; exact hw
                      exact rt_v C hw (itF M (q + 1)) trivial rfl dX1_findFallTimes_89
                  · skip
                    have c_40 := nle_c (tN (by omega)) (tN (by omega)) c_40
                    refine lv_aload_n xx xb dX1_findFallTimes_43 rfl (lv_at hl 0 rfl) ?_
                    refine m_get C hw 0 rfl fk_X1_32 rfl dX1_findFallTimes_44 ?_
                    refine lv_iload_n xx xb dX1_findFallTimes_47 rfl (lv_at hl 2 rfl) ?_
                    refine m_ald C hw 6 rfl i rfl (by omega) (by decide) dX1_findFallTimes_48 ?_
                    refine re_i (ftI ((ftM M q i) i)) rfl ?_
                    have hle := ftQ_le M q i
                    have hlm : ftM M q i i ≤ 100 := by unfold ftM; split <;> exact ftQ_le _ _ _
                    refine lv_bipush (v := (-9)) xx xb dX1_findFallTimes_49 (by decide) ?_
                    refine lv_icmp_ne (tgt := 72) xx xb dX1_findFallTimes_51 (by decide) (fun c_51 => ?_) (fun c_51 => ?_)
                    · skip
                      have c_51 := ftI_n9 c_51
                      have hw : Wd G (fA [(h0, .inr (1, [.ref so, .ref to, .ref uo, .int (nI im), .ref x5, .int (nI lm), .ref x6, .int (nI rm), .ref x7, .ref x8, .int sd])), (to, .inr (0, [.int (nI (sN M)), .int (nI m0), .int (nI (sF M)), .int (nI (sS M)), .int (nI (sL M)), .ref tk, .ref tf, .ref tb, .ref ta])), (tk, aI G 10 (sK M)), (tf, aI G 10 (sG M)), (tb, aI G 10 (sO M)), (ta, aI G 10 (sA M)), (x8, aI G 10 ft)]) s [(h0, .inr (1, [.ref so, .ref to, .ref uo, .int (nI im), .ref x5, .int (nI lm), .ref x6, .int (nI rm), .ref x7, .ref x8, .int sd])), (to, .inr (0, [.int (nI (sN (itF M q))), .int (nI m0), .int (nI (sF (itF M q))), .int (nI (sS (itF M q))), .int (nI (sL (itF M q))), .ref tk, .ref tf, .ref tb, .ref ta])), (tk, aI G 10 (sK (itF M q))), (tf, aI G 10 (sG (itF M q))), (tb, aI G 10 (sO (itF M q))), (ta, aI G 10 (sA (itF M q))), (x8, aI G 10 (cF (ftM M q (i + 1))))] H locs := by rw [ftM_k (by omega) (by first | exact Or.inl c_51 | exact Or.inr c_62) (by omega)]; exact hw
                      refine lv_iinc (v := nI (i + 1)) (lv' := [(2, .int (nI (i + 1))), (0, .ref h0), (1, .int (nI q))]) xx xb dX1_findFallTimes_72 hl (k := 2) rfl (nI_add _ 1) (by decide) rfl (fun ls hl => ?_)
                      refine lv_goto (tgt := 32) xx xb dX1_findFallTimes_75 (by decide) ?_
                      exact ih_32 (i + 1) H _ ls (by omega) (by omega) hw (lv_sub hl [1, 2, 0] rfl)
                    · skip
                      have c_51 := ftI_m9 (by omega) c_51
                      refine lv_aload_n xx xb dX1_findFallTimes_54 rfl (lv_at hl 0 rfl) ?_
                      refine m_get C hw 0 rfl fk_X1_16 rfl dX1_findFallTimes_55 ?_
                      refine lv_iload_n xx xb dX1_findFallTimes_58 rfl (lv_at hl 2 rfl) ?_
                      have hM := kX0_lies l G to tk tf tb ta m0 (itF M q) (nI i) ((i : Nat) : Int) (tN (by omega)) (OK_itF hR q)
                      refine cv_i C hw hM yvX0_lies ml_X1_108 1 rfl rfl rfl [1, 2, 3, 4, 5] rfl rfl (fun _ => (rfl : ([to, tk, tf, tb, ta] : List Nat) = [to, tk, tf, tb, ta])) (by decide) ⟨Nat.zero_le _, Nat.zero_le _⟩ hl.1 rfl (Nat.le_of_ble_eq_true rfl) dX1_findFallTimes_59 (fun r _ H locs hr hw => ?_)
                      have hw : Wd G (fA [(h0, .inr (1, [.ref so, .ref to, .ref uo, .int (nI im), .ref x5, .int (nI lm), .ref x6, .int (nI rm), .ref x7, .ref x8, .int sd])), (to, .inr (0, [.int (nI (sN M)), .int (nI m0), .int (nI (sF M)), .int (nI (sS M)), .int (nI (sL M)), .ref tk, .ref tf, .ref tb, .ref ta])), (tk, aI G 10 (sK M)), (tf, aI G 10 (sG M)), (tb, aI G 10 (sO M)), (ta, aI G 10 (sA M)), (x8, aI G 10 ft)]) s [(h0, .inr (1, [.ref so, .ref to, .ref uo, .int (nI im), .ref x5, .int (nI lm), .ref x6, .int (nI rm), .ref x7, .ref x8, .int sd])), (to, .inr (0, [.int (nI (sN (itF M q))), .int (nI m0), .int (nI (sF (itF M q))), .int (nI (sS (itF M q))), .int (nI (sL (itF M q))), .ref tk, .ref tf, .ref tb, .ref ta])), (tk, aI G 10 (sK (itF M q))), (tf, aI G 10 (sG (itF M q))), (tb, aI G 10 (sO (itF M q))), (ta, aI G 10 (sA (itF M q))), (x8, aI G 10 (cF (ftM M q i)))] H locs := hw
                      subst hr
                      refine re_i (if itF M q 4 i = 1 then 1 else 0) (st_i (R := itF M q) (by rw [itF_00]; omega)) ?_
                      refine lv_if_eq (tgt := 72) xx xb dX1_findFallTimes_62 (by decide) (fun c_62 => ?_) (fun c_62 => ?_)
                      · skip
                        have c_62 := b0_c c_62
                        have hw : Wd G (fA [(h0, .inr (1, [.ref so, .ref to, .ref uo, .int (nI im), .ref x5, .int (nI lm), .ref x6, .int (nI rm), .ref x7, .ref x8, .int sd])), (to, .inr (0, [.int (nI (sN M)), .int (nI m0), .int (nI (sF M)), .int (nI (sS M)), .int (nI (sL M)), .ref tk, .ref tf, .ref tb, .ref ta])), (tk, aI G 10 (sK M)), (tf, aI G 10 (sG M)), (tb, aI G 10 (sO M)), (ta, aI G 10 (sA M)), (x8, aI G 10 ft)]) s [(h0, .inr (1, [.ref so, .ref to, .ref uo, .int (nI im), .ref x5, .int (nI lm), .ref x6, .int (nI rm), .ref x7, .ref x8, .int sd])), (to, .inr (0, [.int (nI (sN (itF M q))), .int (nI m0), .int (nI (sF (itF M q))), .int (nI (sS (itF M q))), .int (nI (sL (itF M q))), .ref tk, .ref tf, .ref tb, .ref ta])), (tk, aI G 10 (sK (itF M q))), (tf, aI G 10 (sG (itF M q))), (tb, aI G 10 (sO (itF M q))), (ta, aI G 10 (sA (itF M q))), (x8, aI G 10 (cF (ftM M q (i + 1))))] H locs := by rw [ftM_k (by omega) (by first | exact Or.inl c_51 | exact Or.inr c_62) (by omega)]; exact hw
                        refine lv_iinc (v := nI (i + 1)) (lv' := [(2, .int (nI (i + 1))), (0, .ref h0), (1, .int (nI q))]) xx xb dX1_findFallTimes_72 hl (k := 2) rfl (nI_add _ 1) (by decide) rfl (fun ls hl => ?_)
                        refine lv_goto (tgt := 32) xx xb dX1_findFallTimes_75 (by decide) ?_
                        exact ih_32 (i + 1) H _ ls (by omega) (by omega) hw (lv_sub hl [1, 2, 0] rfl)
                      · skip
                        have c_62 := b1_c c_62
                        refine lv_aload_n xx xb dX1_findFallTimes_65 rfl (lv_at hl 0 rfl) ?_
                        refine m_get C hw 0 rfl fk_X1_32 rfl dX1_findFallTimes_66 ?_
                        refine lv_iload_n xx xb dX1_findFallTimes_69 rfl (lv_at hl 2 rfl) ?_
                        refine lv_iload_n xx xb dX1_findFallTimes_70 rfl (lv_at hl 1 rfl) ?_
                        refine m_ast C hw 6 rfl i rfl (by omega) (by decide) (cF (ftM M q (i + 1))) (ftM_y (by omega) c_51 c_62 (by omega)) dX1_findFallTimes_71 (fun H locs hw => ?_)
                        have hw : Wd G (fA [(h0, .inr (1, [.ref so, .ref to, .ref uo, .int (nI im), .ref x5, .int (nI lm), .ref x6, .int (nI rm), .ref x7, .ref x8, .int sd])), (to, .inr (0, [.int (nI (sN M)), .int (nI m0), .int (nI (sF M)), .int (nI (sS M)), .int (nI (sL M)), .ref tk, .ref tf, .ref tb, .ref ta])), (tk, aI G 10 (sK M)), (tf, aI G 10 (sG M)), (tb, aI G 10 (sO M)), (ta, aI G 10 (sA M)), (x8, aI G 10 ft)]) s [(h0, .inr (1, [.ref so, .ref to, .ref uo, .int (nI im), .ref x5, .int (nI lm), .ref x6, .int (nI rm), .ref x7, .ref x8, .int sd])), (to, .inr (0, [.int (nI (sN (itF M q))), .int (nI m0), .int (nI (sF (itF M q))), .int (nI (sS (itF M q))), .int (nI (sL (itF M q))), .ref tk, .ref tf, .ref tb, .ref ta])), (tk, aI G 10 (sK (itF M q))), (tf, aI G 10 (sG (itF M q))), (tb, aI G 10 (sO (itF M q))), (ta, aI G 10 (sA (itF M q))), (x8, aI G 10 (cF (ftM M q (i + 1))))] H locs := hw
                        refine lv_iinc (v := nI (i + 1)) (lv' := [(2, .int (nI (i + 1))), (0, .ref h0), (1, .int (nI q))]) xx xb dX1_findFallTimes_72 hl (k := 2) rfl (nI_add _ 1) (by decide) rfl (fun ls hl => ?_)
                        refine lv_goto (tgt := 32) xx xb dX1_findFallTimes_75 (by decide) ?_
                        exact ih_32 (i + 1) H _ ls (by omega) (by omega) hw (lv_sub hl [1, 2, 0] rfl)
              exact L_32 (_ + 1) 0 H _ ls (Nat.lt_succ_self _) (by omega) hw (lv_sub hl [1, 2, 0] rfl)
        exact L_24 (_ + 1) 0 H _ ls (Nat.lt_succ_self _) (by omega) hw (lv_sub hl [1, 0] rfl)
      · skip
        have c_5 := nle_c (tN (by omega)) (tN (by omega)) c_5
        refine lv_aload_n xx xb dX1_findFallTimes_8 rfl (lv_at hl 0 rfl) ?_
        refine m_get C hw 0 rfl fk_X1_32 rfl dX1_findFallTimes_9 ?_
        refine lv_iload_n xx xb dX1_findFallTimes_12 rfl (lv_at hl 1 rfl) ?_
        refine lv_bipush (v := (-9)) xx xb dX1_findFallTimes_13 (by decide) ?_
        refine m_ast C hw 6 rfl i rfl (by omega) (by decide) (mixF (fun _ => (-9)) ft (i + 1)) (mix_s (fun _ => (-9)) ft i) dX1_findFallTimes_15 (fun H locs hw => ?_)
        have hw : Wd G (fA [(h0, .inr (1, [.ref so, .ref to, .ref uo, .int (nI im), .ref x5, .int (nI lm), .ref x6, .int (nI rm), .ref x7, .ref x8, .int sd])), (to, .inr (0, [.int (nI (sN M)), .int (nI m0), .int (nI (sF M)), .int (nI (sS M)), .int (nI (sL M)), .ref tk, .ref tf, .ref tb, .ref ta])), (tk, aI G 10 (sK M)), (tf, aI G 10 (sG M)), (tb, aI G 10 (sO M)), (ta, aI G 10 (sA M)), (x8, aI G 10 ft)]) s [(h0, .inr (1, [.ref so, .ref to, .ref uo, .int (nI im), .ref x5, .int (nI lm), .ref x6, .int (nI rm), .ref x7, .ref x8, .int sd])), (to, .inr (0, [.int (nI (sN M)), .int (nI m0), .int (nI (sF M)), .int (nI (sS M)), .int (nI (sL M)), .ref tk, .ref tf, .ref tb, .ref ta])), (tk, aI G 10 (sK M)), (tf, aI G 10 (sG M)), (tb, aI G 10 (sO M)), (ta, aI G 10 (sA M)), (x8, aI G 10 (mixF (fun _ => (-9)) ft (i + 1)))] H locs := hw
        refine lv_iinc (v := nI (i + 1)) (lv' := [(1, .int (nI (i + 1))), (0, .ref h0)]) xx xb dX1_findFallTimes_16 hl (k := 1) rfl (nI_add _ 1) (by decide) rfl (fun ls hl => ?_)
        refine lv_goto (tgt := 2) xx xb dX1_findFallTimes_19 (by decide) ?_
        exact ih_2 (i + 1) H _ ls (by omega) (by omega) hw (lv_sub hl [1, 0] rfl)
  exact L_2 (_ + 1) 0 H _ ls (Nat.lt_succ_self _) (by omega) hw (lv_sub hl [1, 0] rfl)
set_option maxRecDepth 100000 in
set_option maxHeartbeats 4000000 in
theorem kX1_falls (l : Launch) (G : GT) (h0 : Nat) (so : Nat) (to : Nat) (uo : Nat) (x5 : Nat) (x6 : Nat) (x7 : Nat) (x8 : Nat) (im : Nat) (lm : Nat) (rm : Nat) (sd : Int32) (rf : Nat → Nat) (ak : Nat) (af : Nat) (ab : Nat) (aa : Nat) (R : RT) (tk : Nat) (tf : Nat) (tb : Nat) (ta : Nat) (m0 : Nat) (S : RT) (ft : Nat → Int32) (x : Int32) (xz : Int) (h_x : x.toInt = xz) (hR : OK R) (hK : AK R) (hp : R 0 3 = 0) : Ct l yX1_falls cX1_falls 3 (some .int) 4 100 [.ref h0, .int x] G [(h0, .inr (1, [.ref so, .ref to, .ref uo, .int (nI im), .ref x5, .int (nI lm), .ref x6, .int (nI rm), .ref x7, .ref x8, .int sd])), (so, .inr (0, [.int (nI (sN R)), .int (nI (R 0 1)), .int (nI (sF R)), .int (nI (sS R)), .int (nI (sL R)), .ref ak, .ref af, .ref ab, .ref aa])), (ak, aI G 10 (sK R)), (af, aI G 10 (sG R)), (ab, aI G 10 (sO R)), (aa, aI G 10 (sA R)), (to, .inr (0, [.int (nI (sN S)), .int (nI m0), .int (nI (sF S)), .int (nI (sS S)), .int (nI (sL S)), .ref tk, .ref tf, .ref tb, .ref ta])), (tk, aI G 10 (sK S)), (tf, aI G 10 (sG S)), (tb, aI G 10 (sO S)), (ta, aI G 10 (sA S)), (x8, aI G 10 ft), (x7, aI G 7 (cN rf))] (QI G [(h0, .inr (1, [.ref so, .ref to, .ref uo, .int (nI im), .ref x5, .int (nI lm), .ref x6, .int (nI rm), .ref x7, .ref x8, .int sd])), (so, .inr (0, [.int (nI (sN R)), .int (nI (R 0 1)), .int (nI (sF R)), .int (nI (sS R)), .int (nI (sL R)), .ref ak, .ref af, .ref ab, .ref aa])), (ak, aI G 10 (sK R)), (af, aI G 10 (sG R)), (ab, aI G 10 (sO R)), (aa, aI G 10 (sA R)), (to, .inr (0, [.int (nI (sN S)), .int (nI m0), .int (nI (sF S)), .int (nI (sS S)), .int (nI (sL S)), .ref tk, .ref tf, .ref tb, .ref ta])), (tk, aI G 10 (sK S)), (tf, aI G 10 (sG S)), (tb, aI G 10 (sO S)), (ta, aI G 10 (sA S)), (x8, aI G 10 ft), (x7, aI G 7 (cN rf))] (fun (r : Int32) (u : Nat × RT × (Nat → Int32)) => r = anI (cThg R xz) (ftI (ftN R xz.toNat))) (fun u => [(h0, .inr (1, [.ref so, .ref to, .ref uo, .int (nI im), .ref x5, .int (nI lm), .ref x6, .int (nI rm), .ref x7, .ref x8, .int sd])), (so, .inr (0, [.int (nI (sN R)), .int (nI (R 0 1)), .int (nI (sF R)), .int (nI (sS R)), .int (nI (sL R)), .ref ak, .ref af, .ref ab, .ref aa])), (ak, aI G 10 (sK R)), (af, aI G 10 (sG R)), (ab, aI G 10 (sO R)), (aa, aI G 10 (sA R)), (to, .inr (0, [.int (nI (sN u.2.1)), .int (nI u.1), .int (nI (sF u.2.1)), .int (nI (sS u.2.1)), .int (nI (sL u.2.1)), .ref tk, .ref tf, .ref tb, .ref ta])), (tk, aI G 10 (sK u.2.1)), (tf, aI G 10 (sG u.2.1)), (tb, aI G 10 (sO u.2.1)), (ta, aI G 10 (sA u.2.1)), (x8, aI G 10 u.2.2), (x7, aI G 7 (cN (rfU rf (cThg R xz))))])) := by
  refine en (by decide +kernel) (Nat.le_of_ble_eq_true rfl) ?_
  intro p e s m below meth c ls H locs C hl hw
  have xx := C.1
  have xb := C.2.1
  have hw : Wd G (fA [(h0, .inr (1, [.ref so, .ref to, .ref uo, .int (nI im), .ref x5, .int (nI lm), .ref x6, .int (nI rm), .ref x7, .ref x8, .int sd])), (so, .inr (0, [.int (nI (sN R)), .int (nI (R 0 1)), .int (nI (sF R)), .int (nI (sS R)), .int (nI (sL R)), .ref ak, .ref af, .ref ab, .ref aa])), (ak, aI G 10 (sK R)), (af, aI G 10 (sG R)), (ab, aI G 10 (sO R)), (aa, aI G 10 (sA R)), (to, .inr (0, [.int (nI (sN S)), .int (nI m0), .int (nI (sF S)), .int (nI (sS S)), .int (nI (sL S)), .ref tk, .ref tf, .ref tb, .ref ta])), (tk, aI G 10 (sK S)), (tf, aI G 10 (sG S)), (tb, aI G 10 (sO S)), (ta, aI G 10 (sA S)), (x8, aI G 10 ft), (x7, aI G 7 (cN rf))]) s [(h0, .inr (1, [.ref so, .ref to, .ref uo, .int (nI im), .ref x5, .int (nI lm), .ref x6, .int (nI rm), .ref x7, .ref x8, .int sd])), (so, .inr (0, [.int (nI (sN R)), .int (nI (R 0 1)), .int (nI (sF R)), .int (nI (sS R)), .int (nI (sL R)), .ref ak, .ref af, .ref ab, .ref aa])), (ak, aI G 10 (sK R)), (af, aI G 10 (sG R)), (ab, aI G 10 (sO R)), (aa, aI G 10 (sA R)), (to, .inr (0, [.int (nI (sN S)), .int (nI m0), .int (nI (sF S)), .int (nI (sS S)), .int (nI (sL S)), .ref tk, .ref tf, .ref tb, .ref ta])), (tk, aI G 10 (sK S)), (tf, aI G 10 (sG S)), (tb, aI G 10 (sO S)), (ta, aI G 10 (sA S)), (x8, aI G 10 ft), (x7, aI G 7 (cN rf))] H locs := hw
  have hl : lv_has ls 3 [(0, .ref h0), (1, .int x)] := hl
  obtain ⟨hn, hf0, hpr, hA⟩ := id hR
  have hc6 := cThg_le R xz
  refine lv_aload_n xx xb dX1_falls_0 rfl (lv_at hl 0 rfl) ?_
  refine lv_iload_n xx xb dX1_falls_1 rfl (lv_at hl 1 rfl) ?_
  refine lv_iconst (v := nI 0) xx xb dX1_falls_2 (by decide) ?_
  refine re_i (nG 0) (by decide +kernel) ?_
  have hM := kX1_refusalOfThing l G h0 so to uo x5 x6 x7 x8 im lm rm sd ak af ab aa (R 0 1) R 0 x xz h_x (by first | assumption | omega)
  refine cv_i C hw hM yvX1_refusalOfThing ml_X1_55 0 rfl rfl rfl [0, 1, 2, 3, 4, 5] rfl rfl (fun _ => (rfl : ([h0, so, ak, af, ab, aa] : List Nat) = [h0, so, ak, af, ab, aa])) (by decide) ⟨Nat.zero_le _, Nat.zero_le _⟩ hl.1 rfl (Nat.le_of_ble_eq_true rfl) dX1_falls_3 (fun r _ H locs hr hw => ?_)
  have hw : Wd G (fA [(h0, .inr (1, [.ref so, .ref to, .ref uo, .int (nI im), .ref x5, .int (nI lm), .ref x6, .int (nI rm), .ref x7, .ref x8, .int sd])), (so, .inr (0, [.int (nI (sN R)), .int (nI (R 0 1)), .int (nI (sF R)), .int (nI (sS R)), .int (nI (sL R)), .ref ak, .ref af, .ref ab, .ref aa])), (ak, aI G 10 (sK R)), (af, aI G 10 (sG R)), (ab, aI G 10 (sO R)), (aa, aI G 10 (sA R)), (to, .inr (0, [.int (nI (sN S)), .int (nI m0), .int (nI (sF S)), .int (nI (sS S)), .int (nI (sL S)), .ref tk, .ref tf, .ref tb, .ref ta])), (tk, aI G 10 (sK S)), (tf, aI G 10 (sG S)), (tb, aI G 10 (sO S)), (ta, aI G 10 (sA S)), (x8, aI G 10 ft), (x7, aI G 7 (cN rf))]) s [(h0, .inr (1, [.ref so, .ref to, .ref uo, .int (nI im), .ref x5, .int (nI lm), .ref x6, .int (nI rm), .ref x7, .ref x8, .int sd])), (so, .inr (0, [.int (nI (sN R)), .int (nI (R 0 1)), .int (nI (sF R)), .int (nI (sS R)), .int (nI (sL R)), .ref ak, .ref af, .ref ab, .ref aa])), (ak, aI G 10 (sK R)), (af, aI G 10 (sG R)), (ab, aI G 10 (sO R)), (aa, aI G 10 (sA R)), (to, .inr (0, [.int (nI (sN S)), .int (nI m0), .int (nI (sF S)), .int (nI (sS S)), .int (nI (sL S)), .ref tk, .ref tf, .ref tb, .ref ta])), (tk, aI G 10 (sK S)), (tf, aI G 10 (sG S)), (tb, aI G 10 (sO S)), (ta, aI G 10 (sA S)), (x8, aI G 10 ft), (x7, aI G 7 (cN rf))] H locs := hw
  subst hr
  refine re_i (nG (cThg R xz)) (congrArg nG rfl) ?_
  refine lv_istore_n (lv' := [(2, .int (nG (cThg R xz))), (0, .ref h0), (1, .int x)]) xx xb dX1_falls_6 rfl hl (by decide) rfl (fun ls hl => ?_)
  refine lv_iload_n xx xb dX1_falls_7 rfl (lv_at hl 0 rfl) ?_
  refine lv_if_eq (tgt := 17) xx xb dX1_falls_8 (by decide) (fun c_8 => ?_) (fun c_8 => ?_)
  · skip
    have c_8 := g0_c (by omega) c_8
    have g1 := cThg_0 c_8
    refine lv_aload_n xx xb dX1_falls_17 rfl (lv_at hl 1 rfl) ?_
    refine m_get C hw 0 rfl fk_X1_16 rfl dX1_falls_18 ?_
    refine lv_aload_n xx xb dX1_falls_21 rfl (lv_at hl 1 rfl) ?_
    refine m_get C hw 0 rfl fk_X1_10 rfl dX1_falls_22 ?_
    have hM := kX0_copyFrom l G to tk tf tb ta m0 S so ak af ab aa (R 0 1) R (by first | assumption | omega)
    refine cv_v C hw hM yvX0_copyFrom ml_X1_131 6 rfl rfl rfl [6, 7, 8, 9, 10, 1, 2, 3, 4, 5] rfl rfl (fun _ => (rfl : ([to, tk, tf, tb, ta, so, ak, af, ab, aa] : List Nat) = [to, tk, tf, tb, ta, so, ak, af, ab, aa])) (by decide) ⟨Nat.zero_le _, Nat.zero_le _⟩ hl.1 rfl (Nat.le_of_ble_eq_true rfl) dX1_falls_25 (fun _ H locs hr hw => ?_)
    have hw : Wd G (fA [(h0, .inr (1, [.ref so, .ref to, .ref uo, .int (nI im), .ref x5, .int (nI lm), .ref x6, .int (nI rm), .ref x7, .ref x8, .int sd])), (so, .inr (0, [.int (nI (sN R)), .int (nI (R 0 1)), .int (nI (sF R)), .int (nI (sS R)), .int (nI (sL R)), .ref ak, .ref af, .ref ab, .ref aa])), (ak, aI G 10 (sK R)), (af, aI G 10 (sG R)), (ab, aI G 10 (sO R)), (aa, aI G 10 (sA R)), (to, .inr (0, [.int (nI (sN S)), .int (nI m0), .int (nI (sF S)), .int (nI (sS S)), .int (nI (sL S)), .ref tk, .ref tf, .ref tb, .ref ta])), (tk, aI G 10 (sK S)), (tf, aI G 10 (sG S)), (tb, aI G 10 (sO S)), (ta, aI G 10 (sA S)), (x8, aI G 10 ft), (x7, aI G 7 (cN rf))]) s [(h0, .inr (1, [.ref so, .ref to, .ref uo, .int (nI im), .ref x5, .int (nI lm), .ref x6, .int (nI rm), .ref x7, .ref x8, .int sd])), (so, .inr (0, [.int (nI (sN R)), .int (nI (R 0 1)), .int (nI (sF R)), .int (nI (sS R)), .int (nI (sL R)), .ref ak, .ref af, .ref ab, .ref aa])), (ak, aI G 10 (sK R)), (af, aI G 10 (sG R)), (ab, aI G 10 (sO R)), (aa, aI G 10 (sA R)), (to, .inr (0, [.int (nI (sN R)), .int (nI (R 0 1)), .int (nI (sF R)), .int (nI (sS R)), .int (nI (sL R)), .ref tk, .ref tf, .ref tb, .ref ta])), (tk, aI G 10 (sK R)), (tf, aI G 10 (sG R)), (tb, aI G 10 (sO R)), (ta, aI G 10 (sA R)), (x8, aI G 10 ft), (x7, aI G 7 (cN rf))] H locs := hw
    refine lv_aload_n xx xb dX1_falls_28 rfl (lv_at hl 1 rfl) ?_
    have hM := kX1_findFallTimes l G h0 so to uo x5 x6 x7 x8 im lm rm sd tk tf tb ta (R 0 1) R ft (by first | assumption | omega) (by first | assumption | omega) (by first | assumption | omega)
    refine cv_v C hw hM yvX1_findFallTimes ml_X1_135 0 rfl rfl rfl [0, 6, 7, 8, 9, 10, 11] rfl rfl (fun _ => (rfl : ([h0, to, tk, tf, tb, ta, x8] : List Nat) = [h0, to, tk, tf, tb, ta, x8])) (by decide) ⟨Nat.zero_le _, Nat.zero_le _⟩ hl.1 rfl (Nat.le_of_ble_eq_true rfl) dX1_falls_29 (fun u H locs hr hw => ?_)
    obtain ⟨u1, hu1⟩ : ∃ z, z = u := ⟨_, rfl⟩
    subst hu1
    have hw : Wd G (fA [(h0, .inr (1, [.ref so, .ref to, .ref uo, .int (nI im), .ref x5, .int (nI lm), .ref x6, .int (nI rm), .ref x7, .ref x8, .int sd])), (so, .inr (0, [.int (nI (sN R)), .int (nI (R 0 1)), .int (nI (sF R)), .int (nI (sS R)), .int (nI (sL R)), .ref ak, .ref af, .ref ab, .ref aa])), (ak, aI G 10 (sK R)), (af, aI G 10 (sG R)), (ab, aI G 10 (sO R)), (aa, aI G 10 (sA R)), (to, .inr (0, [.int (nI (sN S)), .int (nI m0), .int (nI (sF S)), .int (nI (sS S)), .int (nI (sL S)), .ref tk, .ref tf, .ref tb, .ref ta])), (tk, aI G 10 (sK S)), (tf, aI G 10 (sG S)), (tb, aI G 10 (sO S)), (ta, aI G 10 (sA S)), (x8, aI G 10 ft), (x7, aI G 7 (cN rf))]) s [(h0, .inr (1, [.ref so, .ref to, .ref uo, .int (nI im), .ref x5, .int (nI lm), .ref x6, .int (nI rm), .ref x7, .ref x8, .int sd])), (so, .inr (0, [.int (nI (sN R)), .int (nI (R 0 1)), .int (nI (sF R)), .int (nI (sS R)), .int (nI (sL R)), .ref ak, .ref af, .ref ab, .ref aa])), (ak, aI G 10 (sK R)), (af, aI G 10 (sG R)), (ab, aI G 10 (sO R)), (aa, aI G 10 (sA R)), (to, .inr (0, [.int (nI (sN u1)), .int (nI (R 0 1)), .int (nI (sF u1)), .int (nI (sS u1)), .int (nI (sL u1)), .ref tk, .ref tf, .ref tb, .ref ta])), (tk, aI G 10 (sK u1)), (tf, aI G 10 (sG u1)), (tb, aI G 10 (sO u1)), (ta, aI G 10 (sA u1)), (x8, aI G 10 (cF (ftQ R 100))), (x7, aI G 7 (cN rf))] H locs := hw
    refine lv_aload_n xx xb dX1_falls_32 rfl (lv_at hl 1 rfl) ?_
    refine m_get C hw 0 rfl fk_X1_32 rfl dX1_falls_33 ?_
    refine lv_iload_n xx xb dX1_falls_36 rfl (lv_at hl 2 rfl) ?_
    refine re_i (nI xz.toNat) (ofT h_x (by omega) (by omega)) ?_
    refine m_ald C hw 11 rfl xz.toNat rfl (by omega) (by decide) dX1_falls_37 ?_
    refine re_i (ftI ((ftQ R 100) xz.toNat)) rfl ?_
    refine re_i (ftI (ftN R xz.toNat)) (congrArg ftI (ftQ_e (by omega))) ?_
    have hc : cThg R xz = 0 := by first | assumption | rfl
    exact rt_i C hw ((R 0 1), u1, cF (ftQ R 100)) (by exact (anI_0 hc _).symm) (by rw [rfU_0 hc]) dX1_falls_38
  · skip
    have c_8 := g0_n c_8
    refine lv_aload_n xx xb dX1_falls_11 rfl (lv_at hl 1 rfl) ?_
    refine lv_iload_n xx xb dX1_falls_12 rfl (lv_at hl 0 rfl) ?_
    have hM := kX1_refuse l G h0 so to uo x5 x6 x7 x8 im lm rm sd rf (cThg R xz) (by first | assumption | omega)
    refine cv_i C hw hM yvX1_refuse ml_X1_43 0 rfl rfl rfl [0, 12] rfl rfl (fun _ => (rfl : ([h0, x7] : List Nat) = [h0, x7])) (by decide) ⟨Nat.zero_le _, Nat.zero_le _⟩ hl.1 rfl (Nat.le_of_ble_eq_true rfl) dX1_falls_13 (fun r _ H locs hr hw => ?_)
    have hw : Wd G (fA [(h0, .inr (1, [.ref so, .ref to, .ref uo, .int (nI im), .ref x5, .int (nI lm), .ref x6, .int (nI rm), .ref x7, .ref x8, .int sd])), (so, .inr (0, [.int (nI (sN R)), .int (nI (R 0 1)), .int (nI (sF R)), .int (nI (sS R)), .int (nI (sL R)), .ref ak, .ref af, .ref ab, .ref aa])), (ak, aI G 10 (sK R)), (af, aI G 10 (sG R)), (ab, aI G 10 (sO R)), (aa, aI G 10 (sA R)), (to, .inr (0, [.int (nI (sN S)), .int (nI m0), .int (nI (sF S)), .int (nI (sS S)), .int (nI (sL S)), .ref tk, .ref tf, .ref tb, .ref ta])), (tk, aI G 10 (sK S)), (tf, aI G 10 (sG S)), (tb, aI G 10 (sO S)), (ta, aI G 10 (sA S)), (x8, aI G 10 ft), (x7, aI G 7 (cN rf))]) s [(h0, .inr (1, [.ref so, .ref to, .ref uo, .int (nI im), .ref x5, .int (nI lm), .ref x6, .int (nI rm), .ref x7, .ref x8, .int sd])), (so, .inr (0, [.int (nI (sN R)), .int (nI (R 0 1)), .int (nI (sF R)), .int (nI (sS R)), .int (nI (sL R)), .ref ak, .ref af, .ref ab, .ref aa])), (ak, aI G 10 (sK R)), (af, aI G 10 (sG R)), (ab, aI G 10 (sO R)), (aa, aI G 10 (sA R)), (to, .inr (0, [.int (nI (sN S)), .int (nI m0), .int (nI (sF S)), .int (nI (sS S)), .int (nI (sL S)), .ref tk, .ref tf, .ref tb, .ref ta])), (tk, aI G 10 (sK S)), (tf, aI G 10 (sG S)), (tb, aI G 10 (sO S)), (ta, aI G 10 (sA S)), (x8, aI G 10 ft), (x7, aI G 7 (cN (upN rf (cThg R xz) (rf (cThg R xz) + 1))))] H locs := hw
    subst hr
    have hc : cThg R xz = (cThg R xz) := by first | assumption | rfl
    have hj : (cThg R xz) ≠ 0 := by omega
    exact rt_i C hw (m0, S, ft) (by exact (anI_r hc hj _).symm) (by rw [rfU_r hc hj]) dX1_falls_16
set_option maxRecDepth 100000 in
set_option maxHeartbeats 4000000 in
theorem kX1_firstFaller (l : Launch) (G : GT) (h0 : Nat) (so : Nat) (to : Nat) (uo : Nat) (x5 : Nat) (x6 : Nat) (x7 : Nat) (x8 : Nat) (im : Nat) (lm : Nat) (rm : Nat) (sd : Int32) (ak : Nat) (af : Nat) (ab : Nat) (aa : Nat) (R : RT) (tk : Nat) (tf : Nat) (tb : Nat) (ta : Nat) (m0 : Nat) (S : RT) (ft : Nat → Int32) (hR : OK R) (hK : AK R) (hp : R 0 3 = 0) : Ct l yX1_firstFaller cX1_firstFaller 5 (some .int) 4 100 [.ref h0] G [(h0, .inr (1, [.ref so, .ref to, .ref uo, .int (nI im), .ref x5, .int (nI lm), .ref x6, .int (nI rm), .ref x7, .ref x8, .int sd])), (so, .inr (0, [.int (nI (sN R)), .int (nI (R 0 1)), .int (nI (sF R)), .int (nI (sS R)), .int (nI (sL R)), .ref ak, .ref af, .ref ab, .ref aa])), (ak, aI G 10 (sK R)), (af, aI G 10 (sG R)), (ab, aI G 10 (sO R)), (aa, aI G 10 (sA R)), (to, .inr (0, [.int (nI (sN S)), .int (nI m0), .int (nI (sF S)), .int (nI (sS S)), .int (nI (sL S)), .ref tk, .ref tf, .ref tb, .ref ta])), (tk, aI G 10 (sK S)), (tf, aI G 10 (sG S)), (tb, aI G 10 (sO S)), (ta, aI G 10 (sA S)), (x8, aI G 10 ft)] (QI G [(h0, .inr (1, [.ref so, .ref to, .ref uo, .int (nI im), .ref x5, .int (nI lm), .ref x6, .int (nI rm), .ref x7, .ref x8, .int sd])), (so, .inr (0, [.int (nI (sN R)), .int (nI (R 0 1)), .int (nI (sF R)), .int (nI (sS R)), .int (nI (sL R)), .ref ak, .ref af, .ref ab, .ref aa])), (ak, aI G 10 (sK R)), (af, aI G 10 (sG R)), (ab, aI G 10 (sO R)), (aa, aI G 10 (sA R)), (to, .inr (0, [.int (nI (sN S)), .int (nI m0), .int (nI (sF S)), .int (nI (sS S)), .int (nI (sL S)), .ref tk, .ref tf, .ref tb, .ref ta])), (tk, aI G 10 (sK S)), (tf, aI G 10 (sG S)), (tb, aI G 10 (sO S)), (ta, aI G 10 (sA S)), (x8, aI G 10 ft)] (fun (r : Int32) (u : RT) => r = onI (bsI R (R 0 0)) ∧ True) (fun u => [(h0, .inr (1, [.ref so, .ref to, .ref uo, .int (nI im), .ref x5, .int (nI lm), .ref x6, .int (nI rm), .ref x7, .ref x8, .int sd])), (so, .inr (0, [.int (nI (sN R)), .int (nI (R 0 1)), .int (nI (sF R)), .int (nI (sS R)), .int (nI (sL R)), .ref ak, .ref af, .ref ab, .ref aa])), (ak, aI G 10 (sK R)), (af, aI G 10 (sG R)), (ab, aI G 10 (sO R)), (aa, aI G 10 (sA R)), (to, .inr (0, [.int (nI (sN u)), .int (nI (R 0 1)), .int (nI (sF u)), .int (nI (sS u)), .int (nI (sL u)), .ref tk, .ref tf, .ref tb, .ref ta])), (tk, aI G 10 (sK u)), (tf, aI G 10 (sG u)), (tb, aI G 10 (sO u)), (ta, aI G 10 (sA u)), (x8, aI G 10 (cF (ftQ R 100)))])) := by
  refine en (by decide +kernel) (Nat.le_of_ble_eq_true rfl) ?_
  intro p e s m below meth c ls H locs C hl hw
  have xx := C.1
  have xb := C.2.1
  have hw : Wd G (fA [(h0, .inr (1, [.ref so, .ref to, .ref uo, .int (nI im), .ref x5, .int (nI lm), .ref x6, .int (nI rm), .ref x7, .ref x8, .int sd])), (so, .inr (0, [.int (nI (sN R)), .int (nI (R 0 1)), .int (nI (sF R)), .int (nI (sS R)), .int (nI (sL R)), .ref ak, .ref af, .ref ab, .ref aa])), (ak, aI G 10 (sK R)), (af, aI G 10 (sG R)), (ab, aI G 10 (sO R)), (aa, aI G 10 (sA R)), (to, .inr (0, [.int (nI (sN S)), .int (nI m0), .int (nI (sF S)), .int (nI (sS S)), .int (nI (sL S)), .ref tk, .ref tf, .ref tb, .ref ta])), (tk, aI G 10 (sK S)), (tf, aI G 10 (sG S)), (tb, aI G 10 (sO S)), (ta, aI G 10 (sA S)), (x8, aI G 10 ft)]) s [(h0, .inr (1, [.ref so, .ref to, .ref uo, .int (nI im), .ref x5, .int (nI lm), .ref x6, .int (nI rm), .ref x7, .ref x8, .int sd])), (so, .inr (0, [.int (nI (sN R)), .int (nI (R 0 1)), .int (nI (sF R)), .int (nI (sS R)), .int (nI (sL R)), .ref ak, .ref af, .ref ab, .ref aa])), (ak, aI G 10 (sK R)), (af, aI G 10 (sG R)), (ab, aI G 10 (sO R)), (aa, aI G 10 (sA R)), (to, .inr (0, [.int (nI (sN S)), .int (nI m0), .int (nI (sF S)), .int (nI (sS S)), .int (nI (sL S)), .ref tk, .ref tf, .ref tb, .ref ta])), (tk, aI G 10 (sK S)), (tf, aI G 10 (sG S)), (tb, aI G 10 (sO S)), (ta, aI G 10 (sA S)), (x8, aI G 10 ft)] H locs := hw
  have hl : lv_has ls 5 [(0, .ref h0)] := hl
  obtain ⟨hn, hf0, hpr, hA⟩ := id hR
  refine lv_aload_n xx xb dX1_firstFaller_0 rfl (lv_at hl 0 rfl) ?_
  refine m_get C hw 0 rfl fk_X1_16 rfl dX1_firstFaller_1 ?_
  refine lv_aload_n xx xb dX1_firstFaller_4 rfl (lv_at hl 0 rfl) ?_
  refine m_get C hw 0 rfl fk_X1_10 rfl dX1_firstFaller_5 ?_
  have hM := kX0_copyFrom l G to tk tf tb ta m0 S so ak af ab aa (R 0 1) R (by first | assumption | omega)
  refine cv_v C hw hM yvX0_copyFrom ml_X1_131 6 rfl rfl rfl [6, 7, 8, 9, 10, 1, 2, 3, 4, 5] rfl rfl (fun _ => (rfl : ([to, tk, tf, tb, ta, so, ak, af, ab, aa] : List Nat) = [to, tk, tf, tb, ta, so, ak, af, ab, aa])) (by decide) ⟨Nat.zero_le _, Nat.zero_le _⟩ hl.1 rfl (Nat.le_of_ble_eq_true rfl) dX1_firstFaller_8 (fun _ H locs hr hw => ?_)
  have hw : Wd G (fA [(h0, .inr (1, [.ref so, .ref to, .ref uo, .int (nI im), .ref x5, .int (nI lm), .ref x6, .int (nI rm), .ref x7, .ref x8, .int sd])), (so, .inr (0, [.int (nI (sN R)), .int (nI (R 0 1)), .int (nI (sF R)), .int (nI (sS R)), .int (nI (sL R)), .ref ak, .ref af, .ref ab, .ref aa])), (ak, aI G 10 (sK R)), (af, aI G 10 (sG R)), (ab, aI G 10 (sO R)), (aa, aI G 10 (sA R)), (to, .inr (0, [.int (nI (sN S)), .int (nI m0), .int (nI (sF S)), .int (nI (sS S)), .int (nI (sL S)), .ref tk, .ref tf, .ref tb, .ref ta])), (tk, aI G 10 (sK S)), (tf, aI G 10 (sG S)), (tb, aI G 10 (sO S)), (ta, aI G 10 (sA S)), (x8, aI G 10 ft)]) s [(h0, .inr (1, [.ref so, .ref to, .ref uo, .int (nI im), .ref x5, .int (nI lm), .ref x6, .int (nI rm), .ref x7, .ref x8, .int sd])), (so, .inr (0, [.int (nI (sN R)), .int (nI (R 0 1)), .int (nI (sF R)), .int (nI (sS R)), .int (nI (sL R)), .ref ak, .ref af, .ref ab, .ref aa])), (ak, aI G 10 (sK R)), (af, aI G 10 (sG R)), (ab, aI G 10 (sO R)), (aa, aI G 10 (sA R)), (to, .inr (0, [.int (nI (sN R)), .int (nI (R 0 1)), .int (nI (sF R)), .int (nI (sS R)), .int (nI (sL R)), .ref tk, .ref tf, .ref tb, .ref ta])), (tk, aI G 10 (sK R)), (tf, aI G 10 (sG R)), (tb, aI G 10 (sO R)), (ta, aI G 10 (sA R)), (x8, aI G 10 ft)] H locs := hw
  refine lv_aload_n xx xb dX1_firstFaller_11 rfl (lv_at hl 0 rfl) ?_
  have hM := kX1_findFallTimes l G h0 so to uo x5 x6 x7 x8 im lm rm sd tk tf tb ta (R 0 1) R ft (by first | assumption | omega) (by first | assumption | omega) (by first | assumption | omega)
  refine cv_v C hw hM yvX1_findFallTimes ml_X1_135 0 rfl rfl rfl [0, 6, 7, 8, 9, 10, 11] rfl rfl (fun _ => (rfl : ([h0, to, tk, tf, tb, ta, x8] : List Nat) = [h0, to, tk, tf, tb, ta, x8])) (by decide) ⟨Nat.zero_le _, Nat.zero_le _⟩ hl.1 rfl (Nat.le_of_ble_eq_true rfl) dX1_firstFaller_12 (fun u H locs hr hw => ?_)
  obtain ⟨u1, hu1⟩ : ∃ z, z = u := ⟨_, rfl⟩
  subst hu1
  have hw : Wd G (fA [(h0, .inr (1, [.ref so, .ref to, .ref uo, .int (nI im), .ref x5, .int (nI lm), .ref x6, .int (nI rm), .ref x7, .ref x8, .int sd])), (so, .inr (0, [.int (nI (sN R)), .int (nI (R 0 1)), .int (nI (sF R)), .int (nI (sS R)), .int (nI (sL R)), .ref ak, .ref af, .ref ab, .ref aa])), (ak, aI G 10 (sK R)), (af, aI G 10 (sG R)), (ab, aI G 10 (sO R)), (aa, aI G 10 (sA R)), (to, .inr (0, [.int (nI (sN S)), .int (nI m0), .int (nI (sF S)), .int (nI (sS S)), .int (nI (sL S)), .ref tk, .ref tf, .ref tb, .ref ta])), (tk, aI G 10 (sK S)), (tf, aI G 10 (sG S)), (tb, aI G 10 (sO S)), (ta, aI G 10 (sA S)), (x8, aI G 10 ft)]) s [(h0, .inr (1, [.ref so, .ref to, .ref uo, .int (nI im), .ref x5, .int (nI lm), .ref x6, .int (nI rm), .ref x7, .ref x8, .int sd])), (so, .inr (0, [.int (nI (sN R)), .int (nI (R 0 1)), .int (nI (sF R)), .int (nI (sS R)), .int (nI (sL R)), .ref ak, .ref af, .ref ab, .ref aa])), (ak, aI G 10 (sK R)), (af, aI G 10 (sG R)), (ab, aI G 10 (sO R)), (aa, aI G 10 (sA R)), (to, .inr (0, [.int (nI (sN u1)), .int (nI (R 0 1)), .int (nI (sF u1)), .int (nI (sS u1)), .int (nI (sL u1)), .ref tk, .ref tf, .ref tb, .ref ta])), (tk, aI G 10 (sK u1)), (tf, aI G 10 (sG u1)), (tb, aI G 10 (sO u1)), (ta, aI G 10 (sA u1)), (x8, aI G 10 (cF (ftQ R 100)))] H locs := hw
  refine lv_bipush (v := (-9)) xx xb dX1_firstFaller_15 (by decide) ?_
  refine lv_istore_n (lv' := [(1, .int (-9)), (0, .ref h0)]) xx xb dX1_firstFaller_17 rfl hl (by decide) rfl (fun ls hl => ?_)
  refine lv_bipush (v := nI 100) xx xb dX1_firstFaller_18 (by decide) ?_
  refine lv_istore_n (lv' := [(2, .int (nI 100)), (1, .int (-9)), (0, .ref h0)]) xx xb dX1_firstFaller_20 rfl hl (by decide) rfl (fun ls hl => ?_)
  refine lv_iconst (v := nI 0) xx xb dX1_firstFaller_21 (by decide) ?_
  refine lv_istore_n (lv' := [(3, .int (nI 0)), (2, .int (nI 100)), (1, .int (-9)), (0, .ref h0)]) xx xb dX1_firstFaller_22 rfl hl (by decide) rfl (fun ls hl => ?_)
  have hl : lv_has ls 5 [(3, .int (nI 0)), (2, .int (nI 100)), (1, .int (onI (bsI R 0))), (0, .ref h0)] := hl
  have hl : lv_has ls 5 [(3, .int (nI 0)), (2, .int (nI (bsT R 0))), (1, .int (onI (bsI R 0))), (0, .ref h0)] := hl
  have L_23 : ∀ (fu : Nat) (i : Nat) (H : Heap) (locs : List Loc) (ls : Array Slot), 10 - i < fu → (i ≤ R 0 0) → Wd G (fA [(h0, .inr (1, [.ref so, .ref to, .ref uo, .int (nI im), .ref x5, .int (nI lm), .ref x6, .int (nI rm), .ref x7, .ref x8, .int sd])), (so, .inr (0, [.int (nI (sN R)), .int (nI (R 0 1)), .int (nI (sF R)), .int (nI (sS R)), .int (nI (sL R)), .ref ak, .ref af, .ref ab, .ref aa])), (ak, aI G 10 (sK R)), (af, aI G 10 (sG R)), (ab, aI G 10 (sO R)), (aa, aI G 10 (sA R)), (to, .inr (0, [.int (nI (sN S)), .int (nI m0), .int (nI (sF S)), .int (nI (sS S)), .int (nI (sL S)), .ref tk, .ref tf, .ref tb, .ref ta])), (tk, aI G 10 (sK S)), (tf, aI G 10 (sG S)), (tb, aI G 10 (sO S)), (ta, aI G 10 (sA S)), (x8, aI G 10 ft)]) s [(h0, .inr (1, [.ref so, .ref to, .ref uo, .int (nI im), .ref x5, .int (nI lm), .ref x6, .int (nI rm), .ref x7, .ref x8, .int sd])), (so, .inr (0, [.int (nI (sN R)), .int (nI (R 0 1)), .int (nI (sF R)), .int (nI (sS R)), .int (nI (sL R)), .ref ak, .ref af, .ref ab, .ref aa])), (ak, aI G 10 (sK R)), (af, aI G 10 (sG R)), (ab, aI G 10 (sO R)), (aa, aI G 10 (sA R)), (to, .inr (0, [.int (nI (sN u1)), .int (nI (R 0 1)), .int (nI (sF u1)), .int (nI (sS u1)), .int (nI (sL u1)), .ref tk, .ref tf, .ref tb, .ref ta])), (tk, aI G 10 (sK u1)), (tf, aI G 10 (sG u1)), (tb, aI G 10 (sO u1)), (ta, aI G 10 (sA u1)), (x8, aI G 10 (cF (ftQ R 100)))] H locs → lv_has ls 5 [(0, .ref h0), (1, .int (onI (bsI R i))), (2, .int (nI (bsT R i))), (3, .int (nI i))] → W p l e ({ frames := 4, cells := 0, slots := 0, locals := 100 }) s m (([.ref h0] : List Value).toArray) below meth c H locs 0 0 (MQ below (QI G [(h0, .inr (1, [.ref so, .ref to, .ref uo, .int (nI im), .ref x5, .int (nI lm), .ref x6, .int (nI rm), .ref x7, .ref x8, .int sd])), (so, .inr (0, [.int (nI (sN R)), .int (nI (R 0 1)), .int (nI (sF R)), .int (nI (sS R)), .int (nI (sL R)), .ref ak, .ref af, .ref ab, .ref aa])), (ak, aI G 10 (sK R)), (af, aI G 10 (sG R)), (ab, aI G 10 (sO R)), (aa, aI G 10 (sA R)), (to, .inr (0, [.int (nI (sN S)), .int (nI m0), .int (nI (sF S)), .int (nI (sS S)), .int (nI (sL S)), .ref tk, .ref tf, .ref tb, .ref ta])), (tk, aI G 10 (sK S)), (tf, aI G 10 (sG S)), (tb, aI G 10 (sO S)), (ta, aI G 10 (sA S)), (x8, aI G 10 ft)] (fun (r : Int32) (u : RT) => r = onI (bsI R (R 0 0)) ∧ True) (fun u => [(h0, .inr (1, [.ref so, .ref to, .ref uo, .int (nI im), .ref x5, .int (nI lm), .ref x6, .int (nI rm), .ref x7, .ref x8, .int sd])), (so, .inr (0, [.int (nI (sN R)), .int (nI (R 0 1)), .int (nI (sF R)), .int (nI (sS R)), .int (nI (sL R)), .ref ak, .ref af, .ref ab, .ref aa])), (ak, aI G 10 (sK R)), (af, aI G 10 (sG R)), (ab, aI G 10 (sO R)), (aa, aI G 10 (sA R)), (to, .inr (0, [.int (nI (sN u)), .int (nI (R 0 1)), .int (nI (sF u)), .int (nI (sS u)), .int (nI (sL u)), .ref tk, .ref tf, .ref tb, .ref ta])), (tk, aI G 10 (sK u)), (tf, aI G 10 (sG u)), (tb, aI G 10 (sO u)), (ta, aI G 10 (sA u)), (x8, aI G 10 (cF (ftQ R 100)))])) (([.ref h0] : List Value).toArray) s 0 0 (fA [(h0, .inr (1, [.ref so, .ref to, .ref uo, .int (nI im), .ref x5, .int (nI lm), .ref x6, .int (nI rm), .ref x7, .ref x8, .int sd])), (so, .inr (0, [.int (nI (sN R)), .int (nI (R 0 1)), .int (nI (sF R)), .int (nI (sS R)), .int (nI (sL R)), .ref ak, .ref af, .ref ab, .ref aa])), (ak, aI G 10 (sK R)), (af, aI G 10 (sG R)), (ab, aI G 10 (sO R)), (aa, aI G 10 (sA R)), (to, .inr (0, [.int (nI (sN S)), .int (nI m0), .int (nI (sF S)), .int (nI (sS S)), .int (nI (sL S)), .ref tk, .ref tf, .ref tb, .ref ta])), (tk, aI G 10 (sK S)), (tf, aI G 10 (sG S)), (tb, aI G 10 (sO S)), (ta, aI G 10 (sA S)), (x8, aI G 10 ft)])) (F0 m 23 ls []) := by
    intro fu
    induction fu with
    | zero => intro i H locs ls hfu; exact absurd hfu (Nat.not_lt_zero _)
    | succ fu ih_23 =>
      intro i H locs ls hfu hi hw hl
      refine lv_iload_n xx xb dX1_firstFaller_23 rfl (lv_at hl 3 rfl) ?_
      refine lv_aload_n xx xb dX1_firstFaller_24 rfl (lv_at hl 0 rfl) ?_
      refine m_get C hw 0 rfl fk_X1_10 rfl dX1_firstFaller_25 ?_
      refine m_get C hw 1 rfl fk_X1_163 rfl dX1_firstFaller_28 ?_
      refine re_i (nI (R 0 0)) rfl ?_
      refine lv_icmp_ge (tgt := 93) xx xb dX1_firstFaller_31 (by decide) (fun c_31 => ?_) (fun c_31 => ?_)
      · skip
        have c_31 := le_c (tN (by omega)) (tN (by omega)) c_31
        refine lv_iload_n xx xb dX1_firstFaller_93 rfl (lv_at hl 1 rfl) ?_
        exact rt_i C hw u1 (⟨by rw [show R 0 0 = i by omega], trivial⟩) rfl dX1_firstFaller_94
      · skip
        have c_31 := nle_c (tN (by omega)) (tN (by omega)) c_31
        obtain ⟨q1, q2, q3, q4, q5⟩ := hA i (by omega)
        have hbl := bsT_le R i
        have hfl := ftN_le R i
        have hbI := bsI_le R i (by omega)
        refine lv_aload_n xx xb dX1_firstFaller_34 rfl (lv_at hl 0 rfl) ?_
        refine m_get C hw 0 rfl fk_X1_10 rfl dX1_firstFaller_35 ?_
        refine lv_iload_n xx xb dX1_firstFaller_38 rfl (lv_at hl 3 rfl) ?_
        have hM := kX0_stands l G so ak af ab aa (R 0 1) R (nI i) ((i : Nat) : Int) (tN (by omega)) (by first | assumption | omega)
        refine cv_i C hw hM yvX0_stands ml_X1_166 1 rfl rfl rfl [1, 2, 3, 4, 5] rfl rfl (fun _ => (rfl : ([so, ak, af, ab, aa] : List Nat) = [so, ak, af, ab, aa])) (by decide) ⟨Nat.zero_le _, Nat.zero_le _⟩ hl.1 rfl (Nat.le_of_ble_eq_true rfl) dX1_firstFaller_39 (fun r _ H locs hr hw => ?_)
        have hw : Wd G (fA [(h0, .inr (1, [.ref so, .ref to, .ref uo, .int (nI im), .ref x5, .int (nI lm), .ref x6, .int (nI rm), .ref x7, .ref x8, .int sd])), (so, .inr (0, [.int (nI (sN R)), .int (nI (R 0 1)), .int (nI (sF R)), .int (nI (sS R)), .int (nI (sL R)), .ref ak, .ref af, .ref ab, .ref aa])), (ak, aI G 10 (sK R)), (af, aI G 10 (sG R)), (ab, aI G 10 (sO R)), (aa, aI G 10 (sA R)), (to, .inr (0, [.int (nI (sN S)), .int (nI m0), .int (nI (sF S)), .int (nI (sS S)), .int (nI (sL S)), .ref tk, .ref tf, .ref tb, .ref ta])), (tk, aI G 10 (sK S)), (tf, aI G 10 (sG S)), (tb, aI G 10 (sO S)), (ta, aI G 10 (sA S)), (x8, aI G 10 ft)]) s [(h0, .inr (1, [.ref so, .ref to, .ref uo, .int (nI im), .ref x5, .int (nI lm), .ref x6, .int (nI rm), .ref x7, .ref x8, .int sd])), (so, .inr (0, [.int (nI (sN R)), .int (nI (R 0 1)), .int (nI (sF R)), .int (nI (sS R)), .int (nI (sL R)), .ref ak, .ref af, .ref ab, .ref aa])), (ak, aI G 10 (sK R)), (af, aI G 10 (sG R)), (ab, aI G 10 (sO R)), (aa, aI G 10 (sA R)), (to, .inr (0, [.int (nI (sN u1)), .int (nI (R 0 1)), .int (nI (sF u1)), .int (nI (sS u1)), .int (nI (sL u1)), .ref tk, .ref tf, .ref tb, .ref ta])), (tk, aI G 10 (sK u1)), (tf, aI G 10 (sG u1)), (tb, aI G 10 (sO u1)), (ta, aI G 10 (sA u1)), (x8, aI G 10 (cF (ftQ R 100)))] H locs := hw
        subst hr
        refine re_i (if R 4 i = 0 then 1 else 0) (st_i (by omega)) ?_
        refine lv_if_eq (tgt := 60) xx xb dX1_firstFaller_42 (by decide) (fun c_42 => ?_) (fun c_42 => ?_)
        · skip
          have c_42 := b0_c c_42
          refine lv_iconst (v := nI 0) xx xb dX1_firstFaller_60 (by decide) ?_
          refine lv_istore (lv' := [(4, .int (nI 0)), (0, .ref h0), (1, .int (onI (bsI R i))), (2, .int (nI (bsT R i))), (3, .int (nI i))]) xx xb dX1_firstFaller_61 hl (by decide) rfl (fun ls hl => ?_)
          refine lv_iload xx xb dX1_firstFaller_63 (lv_at hl 0 rfl) ?_
          refine lv_if_eq (tgt := 87) xx xb dX1_firstFaller_65 (by decide) (fun c_65 => ?_) (fun c_65 => ?_)
          · skip
            have hy : ¬ (R 4 i = 0 ∧ ftN R i < bsT R i) := fun q => by first | exact c_42 q.1 | (have z := q.2; omega)
            have e1 : bsI R (i + 1) = bsI R i := if_neg hy
            have e2 : bsT R (i + 1) = bsT R i := if_neg hy
            have hl : lv_has ls 5 [(4, .int (nI 0)), (0, .ref h0), (1, .int (onI (bsI R (i + 1)))), (2, .int (nI (bsT R i))), (3, .int (nI i))] := by rw [e1]; exact hl
            have hl : lv_has ls 5 [(4, .int (nI 0)), (0, .ref h0), (1, .int (onI (bsI R (i + 1)))), (2, .int (nI (bsT R (i + 1)))), (3, .int (nI i))] := by rw [e2]; exact hl
            refine lv_iinc (v := nI (i + 1)) (lv' := [(3, .int (nI (i + 1))), (4, .int (nI 0)), (0, .ref h0), (1, .int (onI (bsI R (i + 1)))), (2, .int (nI (bsT R (i + 1))))]) xx xb dX1_firstFaller_87 hl (k := 4) rfl (nI_add _ 1) (by decide) rfl (fun ls hl => ?_)
            refine lv_goto (tgt := 23) xx xb dX1_firstFaller_90 (by decide) ?_
            exact ih_23 (i + 1) H _ ls (by omega) (by omega) hw (lv_sub hl [2, 3, 4, 0] rfl)
          · skip
            exact absurd (by decide) c_65
        · skip
          have c_42 := b1_c c_42
          refine lv_aload_n xx xb dX1_firstFaller_45 rfl (lv_at hl 0 rfl) ?_
          refine m_get C hw 0 rfl fk_X1_32 rfl dX1_firstFaller_46 ?_
          refine lv_iload_n xx xb dX1_firstFaller_49 rfl (lv_at hl 3 rfl) ?_
          refine m_ald C hw 11 rfl i rfl (by omega) (by decide) dX1_firstFaller_50 ?_
          refine re_i (ftI ((ftQ R 100) i)) rfl ?_
          refine re_i (ftI (ftN R i)) (congrArg ftI (ftQ_e (by omega))) ?_
          refine lv_bipush (v := (-9)) xx xb dX1_firstFaller_51 (by decide) ?_
          refine lv_icmp_eq (tgt := 60) xx xb dX1_firstFaller_53 (by decide) (fun c_53 => ?_) (fun c_53 => ?_)
          · skip
            have c_53 := ftI_m9 (by omega) c_53
            refine lv_iconst (v := nI 0) xx xb dX1_firstFaller_60 (by decide) ?_
            refine lv_istore (lv' := [(4, .int (nI 0)), (0, .ref h0), (1, .int (onI (bsI R i))), (2, .int (nI (bsT R i))), (3, .int (nI i))]) xx xb dX1_firstFaller_61 hl (by decide) rfl (fun ls hl => ?_)
            refine lv_iload xx xb dX1_firstFaller_63 (lv_at hl 0 rfl) ?_
            refine lv_if_eq (tgt := 87) xx xb dX1_firstFaller_65 (by decide) (fun c_65 => ?_) (fun c_65 => ?_)
            · skip
              have hy : ¬ (R 4 i = 0 ∧ ftN R i < bsT R i) := fun q => by first | exact c_42 q.1 | (have z := q.2; omega)
              have e1 : bsI R (i + 1) = bsI R i := if_neg hy
              have e2 : bsT R (i + 1) = bsT R i := if_neg hy
              have hl : lv_has ls 5 [(4, .int (nI 0)), (0, .ref h0), (1, .int (onI (bsI R (i + 1)))), (2, .int (nI (bsT R i))), (3, .int (nI i))] := by rw [e1]; exact hl
              have hl : lv_has ls 5 [(4, .int (nI 0)), (0, .ref h0), (1, .int (onI (bsI R (i + 1)))), (2, .int (nI (bsT R (i + 1)))), (3, .int (nI i))] := by rw [e2]; exact hl
              refine lv_iinc (v := nI (i + 1)) (lv' := [(3, .int (nI (i + 1))), (4, .int (nI 0)), (0, .ref h0), (1, .int (onI (bsI R (i + 1)))), (2, .int (nI (bsT R (i + 1))))]) xx xb dX1_firstFaller_87 hl (k := 4) rfl (nI_add _ 1) (by decide) rfl (fun ls hl => ?_)
              refine lv_goto (tgt := 23) xx xb dX1_firstFaller_90 (by decide) ?_
              exact ih_23 (i + 1) H _ ls (by omega) (by omega) hw (lv_sub hl [2, 3, 4, 0] rfl)
            · skip
              exact absurd (by decide) c_65
          · skip
            have c_53 := ftI_n9 c_53
            refine lv_iconst (v := nI 1) xx xb dX1_firstFaller_56 (by decide) ?_
            refine lv_goto (tgt := 61) xx xb dX1_firstFaller_57 (by decide) ?_
            refine lv_istore (lv' := [(4, .int (nI 1)), (0, .ref h0), (1, .int (onI (bsI R i))), (2, .int (nI (bsT R i))), (3, .int (nI i))]) xx xb dX1_firstFaller_61 hl (by decide) rfl (fun ls hl => ?_)
            refine lv_iload xx xb dX1_firstFaller_63 (lv_at hl 0 rfl) ?_
            refine lv_if_eq (tgt := 87) xx xb dX1_firstFaller_65 (by decide) (fun c_65 => ?_) (fun c_65 => ?_)
            · skip
              exact absurd c_65 (by decide)
            · skip
              refine lv_aload_n xx xb dX1_firstFaller_68 rfl (lv_at hl 1 rfl) ?_
              refine m_get C hw 0 rfl fk_X1_32 rfl dX1_firstFaller_69 ?_
              refine lv_iload_n xx xb dX1_firstFaller_72 rfl (lv_at hl 4 rfl) ?_
              refine m_ald C hw 11 rfl i rfl (by omega) (by decide) dX1_firstFaller_73 ?_
              refine re_i (ftI ((ftQ R 100) i)) rfl ?_
              refine re_i (nI (ftN R i)) ((congrArg ftI (ftQ_e (by omega))).trans (ftI_lt (by omega))) ?_
              refine lv_iload_n xx xb dX1_firstFaller_74 rfl (lv_at hl 3 rfl) ?_
              refine lv_icmp_ge (tgt := 87) xx xb dX1_firstFaller_75 (by decide) (fun c_75 => ?_) (fun c_75 => ?_)
              · skip
                have c_75 := le_c (tN (by omega)) (tN (by omega)) c_75
                have hy : ¬ (R 4 i = 0 ∧ ftN R i < bsT R i) := fun q => by first | exact c_42 q.1 | (have z := q.2; omega)
                have e1 : bsI R (i + 1) = bsI R i := if_neg hy
                have e2 : bsT R (i + 1) = bsT R i := if_neg hy
                have hl : lv_has ls 5 [(4, .int (nI 1)), (0, .ref h0), (1, .int (onI (bsI R (i + 1)))), (2, .int (nI (bsT R i))), (3, .int (nI i))] := by rw [e1]; exact hl
                have hl : lv_has ls 5 [(4, .int (nI 1)), (0, .ref h0), (1, .int (onI (bsI R (i + 1)))), (2, .int (nI (bsT R (i + 1)))), (3, .int (nI i))] := by rw [e2]; exact hl
                refine lv_iinc (v := nI (i + 1)) (lv' := [(3, .int (nI (i + 1))), (4, .int (nI 1)), (0, .ref h0), (1, .int (onI (bsI R (i + 1)))), (2, .int (nI (bsT R (i + 1))))]) xx xb dX1_firstFaller_87 hl (k := 4) rfl (nI_add _ 1) (by decide) rfl (fun ls hl => ?_)
                refine lv_goto (tgt := 23) xx xb dX1_firstFaller_90 (by decide) ?_
                exact ih_23 (i + 1) H _ ls (by omega) (by omega) hw (lv_sub hl [2, 3, 4, 0] rfl)
              · skip
                have c_75 := nle_c (tN (by omega)) (tN (by omega)) c_75
                refine lv_aload_n xx xb dX1_firstFaller_78 rfl (lv_at hl 1 rfl) ?_
                refine m_get C hw 0 rfl fk_X1_32 rfl dX1_firstFaller_79 ?_
                refine lv_iload_n xx xb dX1_firstFaller_82 rfl (lv_at hl 4 rfl) ?_
                refine m_ald C hw 11 rfl i rfl (by omega) (by decide) dX1_firstFaller_83 ?_
                refine re_i (ftI ((ftQ R 100) i)) rfl ?_
                refine re_i (nI (ftN R i)) ((congrArg ftI (ftQ_e (by omega))).trans (ftI_lt (by omega))) ?_
                refine lv_istore_n (lv' := [(2, .int (nI (ftN R i))), (4, .int (nI 1)), (0, .ref h0), (1, .int (onI (bsI R i))), (3, .int (nI i))]) xx xb dX1_firstFaller_84 rfl hl (by decide) rfl (fun ls hl => ?_)
                refine lv_iload_n xx xb dX1_firstFaller_85 rfl (lv_at hl 4 rfl) ?_
                refine lv_istore_n (lv' := [(1, .int (nI i)), (2, .int (nI (ftN R i))), (4, .int (nI 1)), (0, .ref h0), (3, .int (nI i))]) xx xb dX1_firstFaller_86 rfl hl (by decide) rfl (fun ls hl => ?_)
                have hy : R 4 i = 0 ∧ ftN R i < bsT R i := ⟨c_42, by omega⟩
                have e1 : bsI R (i + 1) = i := if_pos hy
                have e2 : bsT R (i + 1) = ftN R i := if_pos hy
                have hl : lv_has ls 5 [(1, .int (onI (bsI R (i + 1)))), (2, .int (nI (ftN R i))), (4, .int (nI 1)), (0, .ref h0), (3, .int (nI i))] := by rw [e1, onI_lt (by omega)]; exact hl
                have hl : lv_has ls 5 [(1, .int (onI (bsI R (i + 1)))), (2, .int (nI (bsT R (i + 1)))), (4, .int (nI 1)), (0, .ref h0), (3, .int (nI i))] := by rw [e2]; exact hl
                refine lv_iinc (v := nI (i + 1)) (lv' := [(3, .int (nI (i + 1))), (1, .int (onI (bsI R (i + 1)))), (2, .int (nI (bsT R (i + 1)))), (4, .int (nI 1)), (0, .ref h0)]) xx xb dX1_firstFaller_87 hl (k := 4) rfl (nI_add _ 1) (by decide) rfl (fun ls hl => ?_)
                refine lv_goto (tgt := 23) xx xb dX1_firstFaller_90 (by decide) ?_
                exact ih_23 (i + 1) H _ ls (by omega) (by omega) hw (lv_sub hl [4, 1, 2, 0] rfl)
  exact L_23 (_ + 1) 0 H _ ls (Nat.lt_succ_self _) (by omega) hw (lv_sub hl [3, 2, 1, 0] rfl)
set_option maxRecDepth 100000 in
set_option maxHeartbeats 4000000 in
theorem kX1_first (l : Launch) (G : GT) (h0 : Nat) (so : Nat) (to : Nat) (uo : Nat) (x5 : Nat) (x6 : Nat) (x7 : Nat) (x8 : Nat) (im : Nat) (lm : Nat) (rm : Nat) (sd : Int32) (rf : Nat → Nat) (ak : Nat) (af : Nat) (ab : Nat) (aa : Nat) (R : RT) (tk : Nat) (tf : Nat) (tb : Nat) (ta : Nat) (m0 : Nat) (S : RT) (ft : Nat → Int32) (ww : Int32) (wwz : Int) (h_ww : ww.toInt = wwz) (hR : OK R) (hK : AK R) (hp : R 0 3 = 0) : Ct l yX1_first cX1_first 4 (some .int) 5 124 [.ref h0, .int ww] G [(h0, .inr (1, [.ref so, .ref to, .ref uo, .int (nI im), .ref x5, .int (nI lm), .ref x6, .int (nI rm), .ref x7, .ref x8, .int sd])), (so, .inr (0, [.int (nI (sN R)), .int (nI (R 0 1)), .int (nI (sF R)), .int (nI (sS R)), .int (nI (sL R)), .ref ak, .ref af, .ref ab, .ref aa])), (ak, aI G 10 (sK R)), (af, aI G 10 (sG R)), (ab, aI G 10 (sO R)), (aa, aI G 10 (sA R)), (to, .inr (0, [.int (nI (sN S)), .int (nI m0), .int (nI (sF S)), .int (nI (sS S)), .int (nI (sL S)), .ref tk, .ref tf, .ref tb, .ref ta])), (tk, aI G 10 (sK S)), (tf, aI G 10 (sG S)), (tb, aI G 10 (sO S)), (ta, aI G 10 (sA S)), (x8, aI G 10 ft), (x7, aI G 7 (cN rf))] (QI G [(h0, .inr (1, [.ref so, .ref to, .ref uo, .int (nI im), .ref x5, .int (nI lm), .ref x6, .int (nI rm), .ref x7, .ref x8, .int sd])), (so, .inr (0, [.int (nI (sN R)), .int (nI (R 0 1)), .int (nI (sF R)), .int (nI (sS R)), .int (nI (sL R)), .ref ak, .ref af, .ref ab, .ref aa])), (ak, aI G 10 (sK R)), (af, aI G 10 (sG R)), (ab, aI G 10 (sO R)), (aa, aI G 10 (sA R)), (to, .inr (0, [.int (nI (sN S)), .int (nI m0), .int (nI (sF S)), .int (nI (sS S)), .int (nI (sL S)), .ref tk, .ref tf, .ref tb, .ref ta])), (tk, aI G 10 (sK S)), (tf, aI G 10 (sG S)), (tb, aI G 10 (sO S)), (ta, aI G 10 (sA S)), (x8, aI G 10 ft), (x7, aI G 7 (cN rf))] (fun (r : Int32) (u : Nat × RT × (Nat → Int32)) => r = anI (cWhat wwz) (vFirst R wwz)) (fun u => [(h0, .inr (1, [.ref so, .ref to, .ref uo, .int (nI im), .ref x5, .int (nI lm), .ref x6, .int (nI rm), .ref x7, .ref x8, .int sd])), (so, .inr (0, [.int (nI (sN R)), .int (nI (R 0 1)), .int (nI (sF R)), .int (nI (sS R)), .int (nI (sL R)), .ref ak, .ref af, .ref ab, .ref aa])), (ak, aI G 10 (sK R)), (af, aI G 10 (sG R)), (ab, aI G 10 (sO R)), (aa, aI G 10 (sA R)), (to, .inr (0, [.int (nI (sN u.2.1)), .int (nI u.1), .int (nI (sF u.2.1)), .int (nI (sS u.2.1)), .int (nI (sL u.2.1)), .ref tk, .ref tf, .ref tb, .ref ta])), (tk, aI G 10 (sK u.2.1)), (tf, aI G 10 (sG u.2.1)), (tb, aI G 10 (sO u.2.1)), (ta, aI G 10 (sA u.2.1)), (x8, aI G 10 u.2.2), (x7, aI G 7 (cN (rfU rf (cWhat wwz))))])) := by
  refine en (by decide +kernel) (Nat.le_of_ble_eq_true rfl) ?_
  intro p e s m below meth c ls H locs C hl hw
  have xx := C.1
  have xb := C.2.1
  have hw : Wd G (fA [(h0, .inr (1, [.ref so, .ref to, .ref uo, .int (nI im), .ref x5, .int (nI lm), .ref x6, .int (nI rm), .ref x7, .ref x8, .int sd])), (so, .inr (0, [.int (nI (sN R)), .int (nI (R 0 1)), .int (nI (sF R)), .int (nI (sS R)), .int (nI (sL R)), .ref ak, .ref af, .ref ab, .ref aa])), (ak, aI G 10 (sK R)), (af, aI G 10 (sG R)), (ab, aI G 10 (sO R)), (aa, aI G 10 (sA R)), (to, .inr (0, [.int (nI (sN S)), .int (nI m0), .int (nI (sF S)), .int (nI (sS S)), .int (nI (sL S)), .ref tk, .ref tf, .ref tb, .ref ta])), (tk, aI G 10 (sK S)), (tf, aI G 10 (sG S)), (tb, aI G 10 (sO S)), (ta, aI G 10 (sA S)), (x8, aI G 10 ft), (x7, aI G 7 (cN rf))]) s [(h0, .inr (1, [.ref so, .ref to, .ref uo, .int (nI im), .ref x5, .int (nI lm), .ref x6, .int (nI rm), .ref x7, .ref x8, .int sd])), (so, .inr (0, [.int (nI (sN R)), .int (nI (R 0 1)), .int (nI (sF R)), .int (nI (sS R)), .int (nI (sL R)), .ref ak, .ref af, .ref ab, .ref aa])), (ak, aI G 10 (sK R)), (af, aI G 10 (sG R)), (ab, aI G 10 (sO R)), (aa, aI G 10 (sA R)), (to, .inr (0, [.int (nI (sN S)), .int (nI m0), .int (nI (sF S)), .int (nI (sS S)), .int (nI (sL S)), .ref tk, .ref tf, .ref tb, .ref ta])), (tk, aI G 10 (sK S)), (tf, aI G 10 (sG S)), (tb, aI G 10 (sO S)), (ta, aI G 10 (sA S)), (x8, aI G 10 ft), (x7, aI G 7 (cN rf))] H locs := hw
  have hl : lv_has ls 4 [(0, .ref h0), (1, .int ww)] := hl
  obtain ⟨hn, hf0, hpr, hA⟩ := id hR
  have hc2 := cWhat_le wwz
  have hbT := bsI_T R (R 0 0) hn
  refine lv_iload_n xx xb dX1_first_0 rfl (lv_at hl 1 rfl) ?_
  refine lv_iconst (v := nI 1) xx xb dX1_first_1 (by decide) ?_
  have hM := kX1_otherThan l G ww wwz (nI 1) 1 h_ww (tN (by omega))
  refine cs_i C hw hM ysX1_otherThan ml_X1_51 rfl [] rfl rfl (fun _ => (rfl : ([] : List Nat) = [])) (by decide) ⟨Nat.zero_le _, Nat.zero_le _⟩ hl.1 rfl (Nat.le_of_ble_eq_true rfl) dX1_first_2 (fun r _ H locs hr hw => ?_)
  have hw : Wd G (fA [(h0, .inr (1, [.ref so, .ref to, .ref uo, .int (nI im), .ref x5, .int (nI lm), .ref x6, .int (nI rm), .ref x7, .ref x8, .int sd])), (so, .inr (0, [.int (nI (sN R)), .int (nI (R 0 1)), .int (nI (sF R)), .int (nI (sS R)), .int (nI (sL R)), .ref ak, .ref af, .ref ab, .ref aa])), (ak, aI G 10 (sK R)), (af, aI G 10 (sG R)), (ab, aI G 10 (sO R)), (aa, aI G 10 (sA R)), (to, .inr (0, [.int (nI (sN S)), .int (nI m0), .int (nI (sF S)), .int (nI (sS S)), .int (nI (sL S)), .ref tk, .ref tf, .ref tb, .ref ta])), (tk, aI G 10 (sK S)), (tf, aI G 10 (sG S)), (tb, aI G 10 (sO S)), (ta, aI G 10 (sA S)), (x8, aI G 10 ft), (x7, aI G 7 (cN rf))]) s [(h0, .inr (1, [.ref so, .ref to, .ref uo, .int (nI im), .ref x5, .int (nI lm), .ref x6, .int (nI rm), .ref x7, .ref x8, .int sd])), (so, .inr (0, [.int (nI (sN R)), .int (nI (R 0 1)), .int (nI (sF R)), .int (nI (sS R)), .int (nI (sL R)), .ref ak, .ref af, .ref ab, .ref aa])), (ak, aI G 10 (sK R)), (af, aI G 10 (sG R)), (ab, aI G 10 (sO R)), (aa, aI G 10 (sA R)), (to, .inr (0, [.int (nI (sN S)), .int (nI m0), .int (nI (sF S)), .int (nI (sS S)), .int (nI (sL S)), .ref tk, .ref tf, .ref tb, .ref ta])), (tk, aI G 10 (sK S)), (tf, aI G 10 (sG S)), (tb, aI G 10 (sO S)), (ta, aI G 10 (sA S)), (x8, aI G 10 ft), (x7, aI G 7 (cN rf))] H locs := hw
  subst hr
  refine re_i (nG (cWhat wwz)) (congrArg nG rfl) ?_
  refine lv_istore_n (lv' := [(2, .int (nG (cWhat wwz))), (0, .ref h0), (1, .int ww)]) xx xb dX1_first_5 rfl hl (by decide) rfl (fun ls hl => ?_)
  refine lv_iload_n xx xb dX1_first_6 rfl (lv_at hl 0 rfl) ?_
  refine lv_if_eq (tgt := 16) xx xb dX1_first_7 (by decide) (fun c_7 => ?_) (fun c_7 => ?_)
  · skip
    have c_7 := g0_c (by omega) c_7
    have g1 := cWhat_0 c_7
    refine lv_aload_n xx xb dX1_first_16 rfl (lv_at hl 1 rfl) ?_
    have hM := kX1_firstFaller l G h0 so to uo x5 x6 x7 x8 im lm rm sd ak af ab aa R tk tf tb ta m0 S ft (by first | assumption | omega) (by first | assumption | omega) (by first | assumption | omega)
    refine cv_i C hw hM yvX1_firstFaller ml_X1_138 0 rfl rfl rfl [0, 1, 2, 3, 4, 5, 6, 7, 8, 9, 10, 11] rfl rfl (fun _ => (rfl : ([h0, so, ak, af, ab, aa, to, tk, tf, tb, ta, x8] : List Nat) = [h0, so, ak, af, ab, aa, to, tk, tf, tb, ta, x8])) (by decide) ⟨Nat.zero_le _, Nat.zero_le _⟩ hl.1 rfl (Nat.le_of_ble_eq_true rfl) dX1_first_17 (fun r u H locs hr hw => ?_)
    obtain ⟨u1, hu1⟩ : ∃ z, z = u := ⟨_, rfl⟩
    subst hu1
    have hw : Wd G (fA [(h0, .inr (1, [.ref so, .ref to, .ref uo, .int (nI im), .ref x5, .int (nI lm), .ref x6, .int (nI rm), .ref x7, .ref x8, .int sd])), (so, .inr (0, [.int (nI (sN R)), .int (nI (R 0 1)), .int (nI (sF R)), .int (nI (sS R)), .int (nI (sL R)), .ref ak, .ref af, .ref ab, .ref aa])), (ak, aI G 10 (sK R)), (af, aI G 10 (sG R)), (ab, aI G 10 (sO R)), (aa, aI G 10 (sA R)), (to, .inr (0, [.int (nI (sN S)), .int (nI m0), .int (nI (sF S)), .int (nI (sS S)), .int (nI (sL S)), .ref tk, .ref tf, .ref tb, .ref ta])), (tk, aI G 10 (sK S)), (tf, aI G 10 (sG S)), (tb, aI G 10 (sO S)), (ta, aI G 10 (sA S)), (x8, aI G 10 ft), (x7, aI G 7 (cN rf))]) s [(h0, .inr (1, [.ref so, .ref to, .ref uo, .int (nI im), .ref x5, .int (nI lm), .ref x6, .int (nI rm), .ref x7, .ref x8, .int sd])), (so, .inr (0, [.int (nI (sN R)), .int (nI (R 0 1)), .int (nI (sF R)), .int (nI (sS R)), .int (nI (sL R)), .ref ak, .ref af, .ref ab, .ref aa])), (ak, aI G 10 (sK R)), (af, aI G 10 (sG R)), (ab, aI G 10 (sO R)), (aa, aI G 10 (sA R)), (to, .inr (0, [.int (nI (sN u1)), .int (nI (R 0 1)), .int (nI (sF u1)), .int (nI (sS u1)), .int (nI (sL u1)), .ref tk, .ref tf, .ref tb, .ref ta])), (tk, aI G 10 (sK u1)), (tf, aI G 10 (sG u1)), (tb, aI G 10 (sO u1)), (ta, aI G 10 (sA u1)), (x8, aI G 10 (cF (ftQ R 100))), (x7, aI G 7 (cN rf))] H locs := hw
    obtain ⟨hr, hq1⟩ := hr
    subst hr
    refine lv_istore_n (lv' := [(3, .int (onI (bsI R (R 0 0)))), (2, .int (nG (cWhat wwz))), (0, .ref h0), (1, .int ww)]) xx xb dX1_first_20 rfl hl (by decide) rfl (fun ls hl => ?_)
    refine lv_iload_n xx xb dX1_first_21 rfl (lv_at hl 0 rfl) ?_
    refine lv_bipush (v := (-9)) xx xb dX1_first_22 (by decide) ?_
    refine lv_icmp_eq (tgt := 31) xx xb dX1_first_24 (by decide) (fun c_24 => ?_) (fun c_24 => ?_)
    · skip
      have c_24 := (onI_inj (f := 10) (by omega) (by omega)).mp c_24
      refine lv_iload_n xx xb dX1_first_31 rfl (lv_at hl 0 rfl) ?_
      refine lv_goto (tgt := 41) xx xb dX1_first_32 (by decide) ?_
      refine re_i (vFirst R wwz) (by unfold vFirst; first | (rw [if_pos (Or.inl c_24)]; done) | (rw [if_pos (Or.inr (by omega))]; done)) ?_
      have hc : cWhat wwz = 0 := by first | assumption | rfl
      exact rt_i C hw ((R 0 1), u1, cF (ftQ R 100)) (by exact (anI_0 hc _).symm) (by rw [rfU_0 hc]) dX1_first_41
    · skip
      have c_24 := (mt (onI_inj (f := 10) (by omega) (by omega)).mpr c_24)
      refine lv_iload_n xx xb dX1_first_27 rfl (lv_at hl 3 rfl) ?_
      refine lv_if_ne (tgt := 35) xx xb dX1_first_28 (by decide) (fun c_28 => ?_) (fun c_28 => ?_)
      · skip
        have c_28 := ne_c h_ww Int32.toInt_zero c_28
        refine lv_aload_n xx xb dX1_first_35 rfl (lv_at hl 2 rfl) ?_
        refine m_get C hw 0 rfl fk_X1_32 rfl dX1_first_36 ?_
        refine lv_iload_n xx xb dX1_first_39 rfl (lv_at hl 0 rfl) ?_
        refine m_ald C hw 11 rfl (bsI R (R 0 0)) (onI_lt (by omega)) (by omega) (by decide) dX1_first_40 ?_
        refine re_i (ftI ((ftQ R 100) (bsI R (R 0 0)))) rfl ?_
        refine re_i (vFirst R wwz) (by unfold vFirst; rw [if_neg (by omega)]; exact (congrArg ftI ((ftQ_e (by omega)).trans (show ftN R (bsI R (R 0 0)) = bsT R (R 0 0) by omega))).trans (ftI_lt (by omega))) ?_
        have hc : cWhat wwz = 0 := by first | assumption | rfl
        exact rt_i C hw ((R 0 1), u1, cF (ftQ R 100)) (by exact (anI_0 hc _).symm) (by rw [rfU_0 hc]) dX1_first_41
      · skip
        have c_28 := eq_c h_ww Int32.toInt_zero c_28
        refine lv_iload_n xx xb dX1_first_31 rfl (lv_at hl 0 rfl) ?_
        refine lv_goto (tgt := 41) xx xb dX1_first_32 (by decide) ?_
        refine re_i (vFirst R wwz) (by unfold vFirst; first | (rw [if_pos (Or.inl c_24)]; done) | (rw [if_pos (Or.inr (by omega))]; done)) ?_
        have hc : cWhat wwz = 0 := by first | assumption | rfl
        exact rt_i C hw ((R 0 1), u1, cF (ftQ R 100)) (by exact (anI_0 hc _).symm) (by rw [rfU_0 hc]) dX1_first_41
  · skip
    have c_7 := g0_n c_7
    refine lv_aload_n xx xb dX1_first_10 rfl (lv_at hl 1 rfl) ?_
    refine lv_iload_n xx xb dX1_first_11 rfl (lv_at hl 0 rfl) ?_
    have hM := kX1_refuse l G h0 so to uo x5 x6 x7 x8 im lm rm sd rf (cWhat wwz) (by first | assumption | omega)
    refine cv_i C hw hM yvX1_refuse ml_X1_43 0 rfl rfl rfl [0, 12] rfl rfl (fun _ => (rfl : ([h0, x7] : List Nat) = [h0, x7])) (by decide) ⟨Nat.zero_le _, Nat.zero_le _⟩ hl.1 rfl (Nat.le_of_ble_eq_true rfl) dX1_first_12 (fun r _ H locs hr hw => ?_)
    have hw : Wd G (fA [(h0, .inr (1, [.ref so, .ref to, .ref uo, .int (nI im), .ref x5, .int (nI lm), .ref x6, .int (nI rm), .ref x7, .ref x8, .int sd])), (so, .inr (0, [.int (nI (sN R)), .int (nI (R 0 1)), .int (nI (sF R)), .int (nI (sS R)), .int (nI (sL R)), .ref ak, .ref af, .ref ab, .ref aa])), (ak, aI G 10 (sK R)), (af, aI G 10 (sG R)), (ab, aI G 10 (sO R)), (aa, aI G 10 (sA R)), (to, .inr (0, [.int (nI (sN S)), .int (nI m0), .int (nI (sF S)), .int (nI (sS S)), .int (nI (sL S)), .ref tk, .ref tf, .ref tb, .ref ta])), (tk, aI G 10 (sK S)), (tf, aI G 10 (sG S)), (tb, aI G 10 (sO S)), (ta, aI G 10 (sA S)), (x8, aI G 10 ft), (x7, aI G 7 (cN rf))]) s [(h0, .inr (1, [.ref so, .ref to, .ref uo, .int (nI im), .ref x5, .int (nI lm), .ref x6, .int (nI rm), .ref x7, .ref x8, .int sd])), (so, .inr (0, [.int (nI (sN R)), .int (nI (R 0 1)), .int (nI (sF R)), .int (nI (sS R)), .int (nI (sL R)), .ref ak, .ref af, .ref ab, .ref aa])), (ak, aI G 10 (sK R)), (af, aI G 10 (sG R)), (ab, aI G 10 (sO R)), (aa, aI G 10 (sA R)), (to, .inr (0, [.int (nI (sN S)), .int (nI m0), .int (nI (sF S)), .int (nI (sS S)), .int (nI (sL S)), .ref tk, .ref tf, .ref tb, .ref ta])), (tk, aI G 10 (sK S)), (tf, aI G 10 (sG S)), (tb, aI G 10 (sO S)), (ta, aI G 10 (sA S)), (x8, aI G 10 ft), (x7, aI G 7 (cN (upN rf (cWhat wwz) (rf (cWhat wwz) + 1))))] H locs := hw
    subst hr
    have hc : cWhat wwz = (cWhat wwz) := by first | assumption | rfl
    have hj : (cWhat wwz) ≠ 0 := by omega
    exact rt_i C hw (m0, S, ft) (by exact (anI_r hc hj _).symm) (by rw [rfU_r hc hj]) dX1_first_15
set_option maxRecDepth 100000 in
set_option maxHeartbeats 4000000 in
theorem kX1_allStand (l : Launch) (G : GT) (h0 : Nat) (so : Nat) (to : Nat) (uo : Nat) (x5 : Nat) (x6 : Nat) (x7 : Nat) (x8 : Nat) (im : Nat) (lm : Nat) (rm : Nat) (sd : Int32) (ak : Nat) (af : Nat) (ab : Nat) (aa : Nat) (R : RT) (tk : Nat) (tf : Nat) (tb : Nat) (ta : Nat) (m0 : Nat) (S : RT) (ft : Nat → Int32) (hR : OK R) (hK : AK R) (hp : R 0 3 = 0) : Ct l yX1_allStand cX1_allStand 2 (some .int) 5 124 [.ref h0] G [(h0, .inr (1, [.ref so, .ref to, .ref uo, .int (nI im), .ref x5, .int (nI lm), .ref x6, .int (nI rm), .ref x7, .ref x8, .int sd])), (so, .inr (0, [.int (nI (sN R)), .int (nI (R 0 1)), .int (nI (sF R)), .int (nI (sS R)), .int (nI (sL R)), .ref ak, .ref af, .ref ab, .ref aa])), (ak, aI G 10 (sK R)), (af, aI G 10 (sG R)), (ab, aI G 10 (sO R)), (aa, aI G 10 (sA R)), (to, .inr (0, [.int (nI (sN S)), .int (nI m0), .int (nI (sF S)), .int (nI (sS S)), .int (nI (sL S)), .ref tk, .ref tf, .ref tb, .ref ta])), (tk, aI G 10 (sK S)), (tf, aI G 10 (sG S)), (tb, aI G 10 (sO S)), (ta, aI G 10 (sA S)), (x8, aI G 10 ft)] (QI G [(h0, .inr (1, [.ref so, .ref to, .ref uo, .int (nI im), .ref x5, .int (nI lm), .ref x6, .int (nI rm), .ref x7, .ref x8, .int sd])), (so, .inr (0, [.int (nI (sN R)), .int (nI (R 0 1)), .int (nI (sF R)), .int (nI (sS R)), .int (nI (sL R)), .ref ak, .ref af, .ref ab, .ref aa])), (ak, aI G 10 (sK R)), (af, aI G 10 (sG R)), (ab, aI G 10 (sO R)), (aa, aI G 10 (sA R)), (to, .inr (0, [.int (nI (sN S)), .int (nI m0), .int (nI (sF S)), .int (nI (sS S)), .int (nI (sL S)), .ref tk, .ref tf, .ref tb, .ref ta])), (tk, aI G 10 (sK S)), (tf, aI G 10 (sG S)), (tb, aI G 10 (sO S)), (ta, aI G 10 (sA S)), (x8, aI G 10 ft)] (fun (r : Int32) (u : RT) => r = nI (bsT R (R 0 0) - 1)) (fun u => [(h0, .inr (1, [.ref so, .ref to, .ref uo, .int (nI im), .ref x5, .int (nI lm), .ref x6, .int (nI rm), .ref x7, .ref x8, .int sd])), (so, .inr (0, [.int (nI (sN R)), .int (nI (R 0 1)), .int (nI (sF R)), .int (nI (sS R)), .int (nI (sL R)), .ref ak, .ref af, .ref ab, .ref aa])), (ak, aI G 10 (sK R)), (af, aI G 10 (sG R)), (ab, aI G 10 (sO R)), (aa, aI G 10 (sA R)), (to, .inr (0, [.int (nI (sN u)), .int (nI (R 0 1)), .int (nI (sF u)), .int (nI (sS u)), .int (nI (sL u)), .ref tk, .ref tf, .ref tb, .ref ta])), (tk, aI G 10 (sK u)), (tf, aI G 10 (sG u)), (tb, aI G 10 (sO u)), (ta, aI G 10 (sA u)), (x8, aI G 10 (cF (ftQ R 100)))])) := by
  refine en (by decide +kernel) (Nat.le_of_ble_eq_true rfl) ?_
  intro p e s m below meth c ls H locs C hl hw
  have xx := C.1
  have xb := C.2.1
  have hw : Wd G (fA [(h0, .inr (1, [.ref so, .ref to, .ref uo, .int (nI im), .ref x5, .int (nI lm), .ref x6, .int (nI rm), .ref x7, .ref x8, .int sd])), (so, .inr (0, [.int (nI (sN R)), .int (nI (R 0 1)), .int (nI (sF R)), .int (nI (sS R)), .int (nI (sL R)), .ref ak, .ref af, .ref ab, .ref aa])), (ak, aI G 10 (sK R)), (af, aI G 10 (sG R)), (ab, aI G 10 (sO R)), (aa, aI G 10 (sA R)), (to, .inr (0, [.int (nI (sN S)), .int (nI m0), .int (nI (sF S)), .int (nI (sS S)), .int (nI (sL S)), .ref tk, .ref tf, .ref tb, .ref ta])), (tk, aI G 10 (sK S)), (tf, aI G 10 (sG S)), (tb, aI G 10 (sO S)), (ta, aI G 10 (sA S)), (x8, aI G 10 ft)]) s [(h0, .inr (1, [.ref so, .ref to, .ref uo, .int (nI im), .ref x5, .int (nI lm), .ref x6, .int (nI rm), .ref x7, .ref x8, .int sd])), (so, .inr (0, [.int (nI (sN R)), .int (nI (R 0 1)), .int (nI (sF R)), .int (nI (sS R)), .int (nI (sL R)), .ref ak, .ref af, .ref ab, .ref aa])), (ak, aI G 10 (sK R)), (af, aI G 10 (sG R)), (ab, aI G 10 (sO R)), (aa, aI G 10 (sA R)), (to, .inr (0, [.int (nI (sN S)), .int (nI m0), .int (nI (sF S)), .int (nI (sS S)), .int (nI (sL S)), .ref tk, .ref tf, .ref tb, .ref ta])), (tk, aI G 10 (sK S)), (tf, aI G 10 (sG S)), (tb, aI G 10 (sO S)), (ta, aI G 10 (sA S)), (x8, aI G 10 ft)] H locs := hw
  have hl : lv_has ls 2 [(0, .ref h0)] := hl
  obtain ⟨hn, hf0, hpr, hA⟩ := id hR
  have hbT := bsI_T R (R 0 0) hn
  have hbp := bsT_pos R hn
  refine lv_aload_n xx xb dX1_allStand_0 rfl (lv_at hl 0 rfl) ?_
  have hM := kX1_firstFaller l G h0 so to uo x5 x6 x7 x8 im lm rm sd ak af ab aa R tk tf tb ta m0 S ft (by first | assumption | omega) (by first | assumption | omega) (by first | assumption | omega)
  refine cv_i C hw hM yvX1_firstFaller ml_X1_138 0 rfl rfl rfl [0, 1, 2, 3, 4, 5, 6, 7, 8, 9, 10, 11] rfl rfl (fun _ => (rfl : ([h0, so, ak, af, ab, aa, to, tk, tf, tb, ta, x8] : List Nat) = [h0, so, ak, af, ab, aa, to, tk, tf, tb, ta, x8])) (by decide) ⟨Nat.zero_le _, Nat.zero_le _⟩ hl.1 rfl (Nat.le_of_ble_eq_true rfl) dX1_allStand_1 (fun r u H locs hr hw => ?_)
  obtain ⟨u1, hu1⟩ : ∃ z, z = u := ⟨_, rfl⟩
  subst hu1
  have hw : Wd G (fA [(h0, .inr (1, [.ref so, .ref to, .ref uo, .int (nI im), .ref x5, .int (nI lm), .ref x6, .int (nI rm), .ref x7, .ref x8, .int sd])), (so, .inr (0, [.int (nI (sN R)), .int (nI (R 0 1)), .int (nI (sF R)), .int (nI (sS R)), .int (nI (sL R)), .ref ak, .ref af, .ref ab, .ref aa])), (ak, aI G 10 (sK R)), (af, aI G 10 (sG R)), (ab, aI G 10 (sO R)), (aa, aI G 10 (sA R)), (to, .inr (0, [.int (nI (sN S)), .int (nI m0), .int (nI (sF S)), .int (nI (sS S)), .int (nI (sL S)), .ref tk, .ref tf, .ref tb, .ref ta])), (tk, aI G 10 (sK S)), (tf, aI G 10 (sG S)), (tb, aI G 10 (sO S)), (ta, aI G 10 (sA S)), (x8, aI G 10 ft)]) s [(h0, .inr (1, [.ref so, .ref to, .ref uo, .int (nI im), .ref x5, .int (nI lm), .ref x6, .int (nI rm), .ref x7, .ref x8, .int sd])), (so, .inr (0, [.int (nI (sN R)), .int (nI (R 0 1)), .int (nI (sF R)), .int (nI (sS R)), .int (nI (sL R)), .ref ak, .ref af, .ref ab, .ref aa])), (ak, aI G 10 (sK R)), (af, aI G 10 (sG R)), (ab, aI G 10 (sO R)), (aa, aI G 10 (sA R)), (to, .inr (0, [.int (nI (sN u1)), .int (nI (R 0 1)), .int (nI (sF u1)), .int (nI (sS u1)), .int (nI (sL u1)), .ref tk, .ref tf, .ref tb, .ref ta])), (tk, aI G 10 (sK u1)), (tf, aI G 10 (sG u1)), (tb, aI G 10 (sO u1)), (ta, aI G 10 (sA u1)), (x8, aI G 10 (cF (ftQ R 100)))] H locs := hw
  obtain ⟨hr, hq1⟩ := hr
  subst hr
  refine lv_istore_n (lv' := [(1, .int (onI (bsI R (R 0 0)))), (0, .ref h0)]) xx xb dX1_allStand_4 rfl hl (by decide) rfl (fun ls hl => ?_)
  refine lv_iload_n xx xb dX1_allStand_5 rfl (lv_at hl 0 rfl) ?_
  refine lv_bipush (v := (-9)) xx xb dX1_allStand_6 (by decide) ?_
  refine lv_icmp_ne (tgt := 16) xx xb dX1_allStand_8 (by decide) (fun c_8 => ?_) (fun c_8 => ?_)
  · skip
    have c_8 := (mt (onI_inj (f := 10) (by omega) (by omega)).mpr c_8)
    refine lv_aload_n xx xb dX1_allStand_16 rfl (lv_at hl 1 rfl) ?_
    refine m_get C hw 0 rfl fk_X1_32 rfl dX1_allStand_17 ?_
    refine lv_iload_n xx xb dX1_allStand_20 rfl (lv_at hl 0 rfl) ?_
    refine m_ald C hw 11 rfl (bsI R (R 0 0)) (onI_lt (by omega)) (by omega) (by decide) dX1_allStand_21 ?_
    refine re_i (ftI ((ftQ R 100) (bsI R (R 0 0)))) rfl ?_
    refine re_i (nI (bsT R (R 0 0))) ((congrArg ftI ((ftQ_e (by omega)).trans (show ftN R (bsI R (R 0 0)) = bsT R (R 0 0) by omega))).trans (ftI_lt (by omega))) ?_
    refine lv_iconst (v := nI 1) xx xb dX1_allStand_22 (by decide) ?_
    refine lv_isub xx xb dX1_allStand_23 ?_
    refine re_i (nI ((bsT R (R 0 0)) - 1)) (pk_sub (by omega)) ?_
    exact rt_i C hw u1 (congrArg nI (by omega)) rfl dX1_allStand_24
  · skip
    have c_8 := (onI_inj (f := 10) (by omega) (by omega)).mp c_8
    refine lv_bipush (v := nI 99) xx xb dX1_allStand_11 (by decide) ?_
    refine lv_goto (tgt := 24) xx xb dX1_allStand_13 (by decide) ?_
    exact rt_i C hw u1 (congrArg nI (by omega)) rfl dX1_allStand_24
