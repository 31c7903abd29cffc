theorem pr_z {R : RT} {m i : Nat} (h : m = 0) : bs (frP R m) i = prN R m := by
  subst h
  have e : ∀ n, bs (frP R 0) n = 0 := fun n => bs_zero.mpr (fun k _ => by simp [frP])
  unfold prN
  rw [e, e]
theorem hd_i {R : RT} {k : Nat} (hk : k < R 0 0) : (if ((0 ≤ ((k : Nat) : Int) ∧ ((k : Nat) : Int) < ((R 0 0 : Nat) : Int)) ∧ R 4 ((k : Nat) : Int).toNat = 0) ∧ grdF R ((k : Nat) : Int).toNat = true then (1 : Int32) else 0) = if R 4 k = 0 ∧ grdF R k = true then 1 else 0 := ifc (by rw [Int.toNat_natCast]; exact ⟨fun h => ⟨h.1.2, h.2⟩, fun h => ⟨⟨⟨by omega, by omega⟩, h.1⟩, h.2⟩⟩)
theorem frP_f {R : RT} {m a : Nat} (h : ¬ (R 4 a = 0 ∧ ¬ (R 4 a = 0 ∧ grdF R a = true) ∧ habF R a (slF R) < R 5 a + m)) : frP R m a = false := by
  cases hb : frP R m a with
  | false => rfl
  | true =>
    obtain ⟨-, h2, h3, h4⟩ := frP_iff.mp hb
    exact absurd ⟨h2, fun q => by rw [h3] at q; exact absurd q.2 (by decide), h4⟩ h
theorem frP_t {R : RT} {m a : Nat} (hm : m ≠ 0) (h4 : R 4 a = 0) (h : ¬ (R 4 a = 0 ∧ grdF R a = true)) (h2 : habF R a (slF R) < R 5 a + m) : frP R m a = true := frP_iff.mpr ⟨hm, h4, Bool.eq_false_iff.mpr (fun q => h ⟨h4, q⟩), h2⟩
def agr (T S : RT) : Prop := ∀ i, i ≤ 4 → ∀ j, T i j = S i j
theorem rbN_agr {T S : RT} (h : agr T S) : rbN T = rbN S := by
  unfold rbN
  rw [h 0 (by omega) 0]
  congr 1
  funext a
  have e : heldF T a = heldF S a := by
    unfold heldF grdF
    rw [h 0 (by omega) 3, h 0 (by omega) 2, h 3 (by omega) a, h 4 (by omega)]
  rw [h 4 (by omega) a, e]
theorem rbO_agr {T S : RT} (h : agr T S) : rbO T = rbO S := by
  unfold rbO
  rw [rbN_agr h, h 0 (by omega) 0]
theorem rcN_agr : ∀ (f : Nat) {T S : RT}, agr T S → rcN f T = rcN f S
  | 0, _, _, _ => rfl
  | f + 1, T, S, h => by
    have e := rbO_agr h
    by_cases q : rbO S = 10
    · rw [rcN_0 q, rcN_0 (e.trans q)]
    · rw [rcN_s q, rcN_s (by rw [e]; exact q), e]
      rw [rcN_agr f (T := upR T 4 (rbO S) 0) (S := upR S 4 (rbO S) 0)]
      intro i hi j
      unfold upR
      split
      · rfl
      · exact h i hi j
theorem rcN_U {T : RT} {f : Nat} (h : rbO T ≠ 10) : rcN (f + 1) T = rcN f (setU T (rbO T)) + 1 := by
  rw [rcN_s h]
  congr 1
  refine rcN_agr f (fun i hi j => ?_)
  unfold setU
  exact (upR_n (by omega)).symm
theorem setU03 {R : RT} (hp : R 0 3 = 0) (k : Nat) : setU R k 0 3 = 0 := by
  unfold setU
  rw [upR_n (by omega), upR_n (by omega)]
  exact hp
theorem sp03 {R : RT} (hp : R 0 3 = 0) (a x : Nat) : spP R a x 0 3 = 0 := by
  unfold spP
  split
  · exact pul03 hp _ _
  · exact hp
theorem spP_y {R : RT} {a : Nat} (h : R 4 a = 0) : spP R a 1 = pulF R a 9 := if_pos ⟨rfl, h⟩
theorem spP_n {R : RT} {a : Nat} (h : ¬ R 4 a = 0) : spP R a 1 = R := if_neg (fun q => h q.2)
theorem spP_0 (R : RT) (a : Nat) : spP R a 0 = R := if_neg (fun q => absurd q.1 (by decide))
set_option maxRecDepth 100000 in
set_option maxHeartbeats 4000000 in
theorem kX1_key (l : Launch) (G : GT) (h0 : Nat) (so : Nat) (to : Nat) (uo : Nat) (x5 : Nat) (x6 : Nat) (x7 : Nat) (x8 : Nat) (im : Nat) (lm : Nat) (rm : Nat) (sd : Int32) (rf : Nat → Nat) (ak : Nat) (af : Nat) (ab : Nat) (aa : Nat) (R : RT) (tk : Nat) (tf : Nat) (tb : Nat) (ta : Nat) (m0 : Nat) (S : RT) (n : Int32) (nz : Int) (h_n : n.toInt = nz) (hR : OK R) (hK : AK R) (hp : R 0 3 = 0) : Ct l yX1_key cX1_key 6 (some .int) 4 100 [.ref h0, .int n] G [(h0, .inr (1, [.ref so, .ref to, .ref uo, .int (nI im), .ref x5, .int (nI lm), .ref x6, .int (nI rm), .ref x7, .ref x8, .int sd])), (so, .inr (0, [.int (nI (sN R)), .int (nI (R 0 1)), .int (nI (sF R)), .int (nI (sS R)), .int (nI (sL R)), .ref ak, .ref af, .ref ab, .ref aa])), (ak, aI G 10 (sK R)), (af, aI G 10 (sG R)), (ab, aI G 10 (sO R)), (aa, aI G 10 (sA R)), (to, .inr (0, [.int (nI (sN S)), .int (nI m0), .int (nI (sF S)), .int (nI (sS S)), .int (nI (sL S)), .ref tk, .ref tf, .ref tb, .ref ta])), (tk, aI G 10 (sK S)), (tf, aI G 10 (sG S)), (tb, aI G 10 (sO S)), (ta, aI G 10 (sA S)), (x7, aI G 7 (cN rf))] (QI G [(h0, .inr (1, [.ref so, .ref to, .ref uo, .int (nI im), .ref x5, .int (nI lm), .ref x6, .int (nI rm), .ref x7, .ref x8, .int sd])), (so, .inr (0, [.int (nI (sN R)), .int (nI (R 0 1)), .int (nI (sF R)), .int (nI (sS R)), .int (nI (sL R)), .ref ak, .ref af, .ref ab, .ref aa])), (ak, aI G 10 (sK R)), (af, aI G 10 (sG R)), (ab, aI G 10 (sO R)), (aa, aI G 10 (sA R)), (to, .inr (0, [.int (nI (sN S)), .int (nI m0), .int (nI (sF S)), .int (nI (sS S)), .int (nI (sL S)), .ref tk, .ref tf, .ref tb, .ref ta])), (tk, aI G 10 (sK S)), (tf, aI G 10 (sG S)), (tb, aI G 10 (sO S)), (ta, aI G 10 (sA S)), (x7, aI G 7 (cN rf))] (fun (r : Int32) (u : Nat × RT) => r = anI (wbN nz 99) (onI (kyI R nz.toNat (R 0 0)))) (fun u => [(h0, .inr (1, [.ref so, .ref to, .ref uo, .int (nI im), .ref x5, .int (nI lm), .ref x6, .int (nI rm), .ref x7, .ref x8, .int sd])), (so, .inr (0, [.int (nI (sN R)), .int (nI (R 0 1)), .int (nI (sF R)), .int (nI (sS R)), .int (nI (sL R)), .ref ak, .ref af, .ref ab, .ref aa])), (ak, aI G 10 (sK R)), (af, aI G 10 (sG R)), (ab, aI G 10 (sO R)), (aa, aI G 10 (sA R)), (to, .inr (0, [.int (nI (sN u.2)), .int (nI u.1), .int (nI (sF u.2)), .int (nI (sS u.2)), .int (nI (sL u.2)), .ref tk, .ref tf, .ref tb, .ref ta])), (tk, aI G 10 (sK u.2)), (tf, aI G 10 (sG u.2)), (tb, aI G 10 (sO u.2)), (ta, aI G 10 (sA u.2)), (x7, aI G 7 (cN (rfU rf (wbN nz 99))))])) := by
  refine en (by decide +kernel) (Nat.le_of_ble_eq_true rfl) ?_
  intro p e s m below meth c ls H locs C hl hw
  have xx := C.1
  have xb := C.2.1
  have hw : Wd G (fA [(h0, .inr (1, [.ref so, .ref to, .ref uo, .int (nI im), .ref x5, .int (nI lm), .ref x6, .int (nI rm), .ref x7, .ref x8, .int sd])), (so, .inr (0, [.int (nI (sN R)), .int (nI (R 0 1)), .int (nI (sF R)), .int (nI (sS R)), .int (nI (sL R)), .ref ak, .ref af, .ref ab, .ref aa])), (ak, aI G 10 (sK R)), (af, aI G 10 (sG R)), (ab, aI G 10 (sO R)), (aa, aI G 10 (sA R)), (to, .inr (0, [.int (nI (sN S)), .int (nI m0), .int (nI (sF S)), .int (nI (sS S)), .int (nI (sL S)), .ref tk, .ref tf, .ref tb, .ref ta])), (tk, aI G 10 (sK S)), (tf, aI G 10 (sG S)), (tb, aI G 10 (sO S)), (ta, aI G 10 (sA S)), (x7, aI G 7 (cN rf))]) s [(h0, .inr (1, [.ref so, .ref to, .ref uo, .int (nI im), .ref x5, .int (nI lm), .ref x6, .int (nI rm), .ref x7, .ref x8, .int sd])), (so, .inr (0, [.int (nI (sN R)), .int (nI (R 0 1)), .int (nI (sF R)), .int (nI (sS R)), .int (nI (sL R)), .ref ak, .ref af, .ref ab, .ref aa])), (ak, aI G 10 (sK R)), (af, aI G 10 (sG R)), (ab, aI G 10 (sO R)), (aa, aI G 10 (sA R)), (to, .inr (0, [.int (nI (sN S)), .int (nI m0), .int (nI (sF S)), .int (nI (sS S)), .int (nI (sL S)), .ref tk, .ref tf, .ref tb, .ref ta])), (tk, aI G 10 (sK S)), (tf, aI G 10 (sG S)), (tb, aI G 10 (sO S)), (ta, aI G 10 (sA S)), (x7, aI G 7 (cN rf))] H locs := hw
  have hl : lv_has ls 6 [(0, .ref h0), (1, .int n)] := hl
  obtain ⟨hn, hf0, hpr, hA⟩ := id hR
  have hb9 := wbN_le nz 99
  refine lv_iload_n xx xb dX1_key_0 rfl (lv_at hl 1 rfl) ?_
  refine lv_iconst (v := nI 0) xx xb dX1_key_1 (by decide) ?_
  refine lv_bipush (v := nI 99) xx xb dX1_key_2 (by decide) ?_
  have hM := kX1_outside l G n nz (nI 0) 0 (nI 99) 99 h_n (tN (by omega)) (tN (by omega))
  refine cs_i C hw hM ysX1_outside ml_X1_35 rfl [] rfl rfl (fun _ => (rfl : ([] : List Nat) = [])) (by decide) ⟨Nat.zero_le _, Nat.zero_le _⟩ hl.1 rfl (Nat.le_of_ble_eq_true rfl) dX1_key_4 (fun r _ H locs hr hw => ?_)
  have hw : Wd G (fA [(h0, .inr (1, [.ref so, .ref to, .ref uo, .int (nI im), .ref x5, .int (nI lm), .ref x6, .int (nI rm), .ref x7, .ref x8, .int sd])), (so, .inr (0, [.int (nI (sN R)), .int (nI (R 0 1)), .int (nI (sF R)), .int (nI (sS R)), .int (nI (sL R)), .ref ak, .ref af, .ref ab, .ref aa])), (ak, aI G 10 (sK R)), (af, aI G 10 (sG R)), (ab, aI G 10 (sO R)), (aa, aI G 10 (sA R)), (to, .inr (0, [.int (nI (sN S)), .int (nI m0), .int (nI (sF S)), .int (nI (sS S)), .int (nI (sL S)), .ref tk, .ref tf, .ref tb, .ref ta])), (tk, aI G 10 (sK S)), (tf, aI G 10 (sG S)), (tb, aI G 10 (sO S)), (ta, aI G 10 (sA S)), (x7, aI G 7 (cN rf))]) s [(h0, .inr (1, [.ref so, .ref to, .ref uo, .int (nI im), .ref x5, .int (nI lm), .ref x6, .int (nI rm), .ref x7, .ref x8, .int sd])), (so, .inr (0, [.int (nI (sN R)), .int (nI (R 0 1)), .int (nI (sF R)), .int (nI (sS R)), .int (nI (sL R)), .ref ak, .ref af, .ref ab, .ref aa])), (ak, aI G 10 (sK R)), (af, aI G 10 (sG R)), (ab, aI G 10 (sO R)), (aa, aI G 10 (sA R)), (to, .inr (0, [.int (nI (sN S)), .int (nI m0), .int (nI (sF S)), .int (nI (sS S)), .int (nI (sL S)), .ref tk, .ref tf, .ref tb, .ref ta])), (tk, aI G 10 (sK S)), (tf, aI G 10 (sG S)), (tb, aI G 10 (sO S)), (ta, aI G 10 (sA S)), (x7, aI G 7 (cN rf))] H locs := hw
  subst hr
  refine re_i (nG (wbN nz 99)) rfl ?_
  refine lv_istore_n (lv' := [(2, .int (nG (wbN nz 99))), (0, .ref h0), (1, .int n)]) xx xb dX1_key_7 rfl hl (by decide) rfl (fun ls hl => ?_)
  refine lv_iload_n xx xb dX1_key_8 rfl (lv_at hl 0 rfl) ?_
  refine lv_if_eq (tgt := 18) xx xb dX1_key_9 (by decide) (fun c_9 => ?_) (fun c_9 => ?_)
  · skip
    have c_9 := g0_c (by omega) c_9
    obtain ⟨g1, g2⟩ := wbN_0 c_9
    refine lv_bipush (v := (-9)) xx xb dX1_key_18 (by decide) ?_
    refine lv_istore_n (lv' := [(3, .int (-9)), (2, .int (nG (wbN nz 99))), (0, .ref h0), (1, .int n)]) xx xb dX1_key_20 rfl hl (by decide) rfl (fun ls hl => ?_)
    refine lv_bipush (v := nI 11) xx xb dX1_key_21 (by decide) ?_
    refine lv_istore (lv' := [(4, .int (nI 11)), (3, .int (-9)), (2, .int (nG (wbN nz 99))), (0, .ref h0), (1, .int n)]) xx xb dX1_key_23 hl (by decide) rfl (fun ls hl => ?_)
    refine lv_iconst (v := nI 0) xx xb dX1_key_25 (by decide) ?_
    refine lv_istore (lv' := [(5, .int (nI 0)), (4, .int (nI 11)), (3, .int (-9)), (2, .int (nG (wbN nz 99))), (0, .ref h0), (1, .int n)]) xx xb dX1_key_26 hl (by decide) rfl (fun ls hl => ?_)
    have hl : lv_has ls 6 [(5, .int (nI 0)), (4, .int (nI 11)), (3, .int (onI (kyI R nz.toNat 0))), (2, .int (nG (wbN nz 99))), (0, .ref h0), (1, .int n)] := hl
    have hl : lv_has ls 6 [(5, .int (nI 0)), (4, .int (nI (kyT R nz.toNat 0))), (3, .int (onI (kyI R nz.toNat 0))), (2, .int (nG (wbN nz 99))), (0, .ref h0), (1, .int n)] := hl
    have L_28 : ∀ (fu : Nat) (i : Nat) (y0 : Nat) (Y : RT) (H : Heap) (locs : List Loc) (ls : Array Slot), 10 - i < fu → (i ≤ R 0 0) → Wd G (fA [(h0, .inr (1, [.ref so, .ref to, .ref uo, .int (nI im), .ref x5, .int (nI lm), .ref x6, .int (nI rm), .ref x7, .ref x8, .int sd])), (so, .inr (0, [.int (nI (sN R)), .int (nI (R 0 1)), .int (nI (sF R)), .int (nI (sS R)), .int (nI (sL R)), .ref ak, .ref af, .ref ab, .ref aa])), (ak, aI G 10 (sK R)), (af, aI G 10 (sG R)), (ab, aI G 10 (sO R)), (aa, aI G 10 (sA R)), (to, .inr (0, [.int (nI (sN S)), .int (nI m0), .int (nI (sF S)), .int (nI (sS S)), .int (nI (sL S)), .ref tk, .ref tf, .ref tb, .ref ta])), (tk, aI G 10 (sK S)), (tf, aI G 10 (sG S)), (tb, aI G 10 (sO S)), (ta, aI G 10 (sA S)), (x7, aI G 7 (cN rf))]) s [(h0, .inr (1, [.ref so, .ref to, .ref uo, .int (nI im), .ref x5, .int (nI lm), .ref x6, .int (nI rm), .ref x7, .ref x8, .int sd])), (so, .inr (0, [.int (nI (sN R)), .int (nI (R 0 1)), .int (nI (sF R)), .int (nI (sS R)), .int (nI (sL R)), .ref ak, .ref af, .ref ab, .ref aa])), (ak, aI G 10 (sK R)), (af, aI G 10 (sG R)), (ab, aI G 10 (sO R)), (aa, aI G 10 (sA R)), (to, .inr (0, [.int (nI (sN Y)), .int (nI y0), .int (nI (sF Y)), .int (nI (sS Y)), .int (nI (sL Y)), .ref tk, .ref tf, .ref tb, .ref ta])), (tk, aI G 10 (sK Y)), (tf, aI G 10 (sG Y)), (tb, aI G 10 (sO Y)), (ta, aI G 10 (sA Y)), (x7, aI G 7 (cN rf))] H locs → lv_has ls 6 [(0, .ref h0), (1, .int n), (3, .int (onI (kyI R nz.toNat i))), (4, .int (nI (kyT R nz.toNat i))), (5, .int (nI i))] → W p l e ({ frames := 4, cells := 0, slots := 0, locals := 100 }) s m (([.ref h0, .int n] : List Value).toArray) below meth c H locs 0 0 (MQ below (QI G [(h0, .inr (1, [.ref so, .ref to, .ref uo, .int (nI im), .ref x5, .int (nI lm), .ref x6, .int (nI rm), .ref x7, .ref x8, .int sd])), (so, .inr (0, [.int (nI (sN R)), .int (nI (R 0 1)), .int (nI (sF R)), .int (nI (sS R)), .int (nI (sL R)), .ref ak, .ref af, .ref ab, .ref aa])), (ak, aI G 10 (sK R)), (af, aI G 10 (sG R)), (ab, aI G 10 (sO R)), (aa, aI G 10 (sA R)), (to, .inr (0, [.int (nI (sN S)), .int (nI m0), .int (nI (sF S)), .int (nI (sS S)), .int (nI (sL S)), .ref tk, .ref tf, .ref tb, .ref ta])), (tk, aI G 10 (sK S)), (tf, aI G 10 (sG S)), (tb, aI G 10 (sO S)), (ta, aI G 10 (sA S)), (x7, aI G 7 (cN rf))] (fun (r : Int32) (u : Nat × RT) => r = anI (wbN nz 99) (onI (kyI R nz.toNat (R 0 0)))) (fun u => [(h0, .inr (1, [.ref so, .ref to, .ref uo, .int (nI im), .ref x5, .int (nI lm), .ref x6, .int (nI rm), .ref x7, .ref x8, .int sd])), (so, .inr (0, [.int (nI (sN R)), .int (nI (R 0 1)), .int (nI (sF R)), .int (nI (sS R)), .int (nI (sL R)), .ref ak, .ref af, .ref ab, .ref aa])), (ak, aI G 10 (sK R)), (af, aI G 10 (sG R)), (ab, aI G 10 (sO R)), (aa, aI G 10 (sA R)), (to, .inr (0, [.int (nI (sN u.2)), .int (nI u.1), .int (nI (sF u.2)), .int (nI (sS u.2)), .int (nI (sL u.2)), .ref tk, .ref tf, .ref tb, .ref ta])), (tk, aI G 10 (sK u.2)), (tf, aI G 10 (sG u.2)), (tb, aI G 10 (sO u.2)), (ta, aI G 10 (sA u.2)), (x7, aI G 7 (cN (rfU rf (wbN nz 99))))])) (([.ref h0, .int n] : List Value).toArray) s 0 0 (fA [(h0, .inr (1, [.ref so, .ref to, .ref uo, .int (nI im), .ref x5, .int (nI lm), .ref x6, .int (nI rm), .ref x7, .ref x8, .int sd])), (so, .inr (0, [.int (nI (sN R)), .int (nI (R 0 1)), .int (nI (sF R)), .int (nI (sS R)), .int (nI (sL R)), .ref ak, .ref af, .ref ab, .ref aa])), (ak, aI G 10 (sK R)), (af, aI G 10 (sG R)), (ab, aI G 10 (sO R)), (aa, aI G 10 (sA R)), (to, .inr (0, [.int (nI (sN S)), .int (nI m0), .int (nI (sF S)), .int (nI (sS S)), .int (nI (sL S)), .ref tk, .ref tf, .ref tb, .ref ta])), (tk, aI G 10 (sK S)), (tf, aI G 10 (sG S)), (tb, aI G 10 (sO S)), (ta, aI G 10 (sA S)), (x7, aI G 7 (cN rf))])) (F0 m 28 ls []) := by
      intro fu
      induction fu with
      | zero => intro i y0 Y H locs ls hfu; exact absurd hfu (Nat.not_lt_zero _)
      | succ fu ih_28 =>
        intro i y0 Y H locs ls hfu hi hw hl
        refine lv_iload xx xb dX1_key_28 (lv_at hl 4 rfl) ?_
        refine lv_aload_n xx xb dX1_key_30 rfl (lv_at hl 0 rfl) ?_
        refine m_get C hw 0 rfl fk_X1_10 rfl dX1_key_31 ?_
        refine m_get C hw 1 rfl fk_X1_163 rfl dX1_key_34 ?_
        refine re_i (nI (R 0 0)) rfl ?_
        refine lv_icmp_ge (tgt := 113) xx xb dX1_key_37 (by decide) (fun c_37 => ?_) (fun c_37 => ?_)
        · skip
          have c_37 := le_c (tN (by omega)) (tN (by omega)) c_37
          have hl : lv_has ls 6 [(0, .ref h0), (1, .int n), (3, .int (onI (kyI R nz.toNat (R 0 0)))), (4, .int (nI (kyT R nz.toNat i))), (5, .int (nI i))] := by rw [show R 0 0 = i by omega]; exact hl
          refine lv_iload_n xx xb dX1_key_113 rfl (lv_at hl 2 rfl) ?_
          have hc : wbN nz 99 = 0 := by first | assumption | rfl
          exact rt_i C hw (y0, Y) (by exact (anI_0 hc _).symm) (by rw [rfU_0 hc]) dX1_key_114
        · skip
          have c_37 := nle_c (tN (by omega)) (tN (by omega)) c_37
          obtain ⟨q1, q2, q3, q4, q5⟩ := hA i (by omega)
          have hkt := kyT_le R nz.toNat i
          have hPO := OK_pulF i 9 hR (Or.inr (by omega))
          have hks : kyS R nz.toNat i ≤ 10 := stN_le _ (by rw [itF_00, pulF_00]; exact hn)
          refine lv_aload_n xx xb dX1_key_40 rfl (lv_at hl 0 rfl) ?_
          refine m_get C hw 0 rfl fk_X1_10 rfl dX1_key_41 ?_
          refine lv_iload xx xb dX1_key_44 (lv_at hl 4 rfl) ?_
          have hM := kX0_stands l G so ak af ab aa (R 0 1) R (nI i) ((i : Nat) : Int) (tN (by omega)) (by first | assumption | omega)
          refine cv_i C hw hM yvX0_stands ml_X1_166 1 rfl rfl rfl [1, 2, 3, 4, 5] rfl rfl (fun _ => (rfl : ([so, ak, af, ab, aa] : List Nat) = [so, ak, af, ab, aa])) (by decide) ⟨Nat.zero_le _, Nat.zero_le _⟩ hl.1 rfl (Nat.le_of_ble_eq_true rfl) dX1_key_46 (fun r _ H locs hr hw => ?_)
          have hw : Wd G (fA [(h0, .inr (1, [.ref so, .ref to, .ref uo, .int (nI im), .ref x5, .int (nI lm), .ref x6, .int (nI rm), .ref x7, .ref x8, .int sd])), (so, .inr (0, [.int (nI (sN R)), .int (nI (R 0 1)), .int (nI (sF R)), .int (nI (sS R)), .int (nI (sL R)), .ref ak, .ref af, .ref ab, .ref aa])), (ak, aI G 10 (sK R)), (af, aI G 10 (sG R)), (ab, aI G 10 (sO R)), (aa, aI G 10 (sA R)), (to, .inr (0, [.int (nI (sN S)), .int (nI m0), .int (nI (sF S)), .int (nI (sS S)), .int (nI (sL S)), .ref tk, .ref tf, .ref tb, .ref ta])), (tk, aI G 10 (sK S)), (tf, aI G 10 (sG S)), (tb, aI G 10 (sO S)), (ta, aI G 10 (sA S)), (x7, aI G 7 (cN rf))]) s [(h0, .inr (1, [.ref so, .ref to, .ref uo, .int (nI im), .ref x5, .int (nI lm), .ref x6, .int (nI rm), .ref x7, .ref x8, .int sd])), (so, .inr (0, [.int (nI (sN R)), .int (nI (R 0 1)), .int (nI (sF R)), .int (nI (sS R)), .int (nI (sL R)), .ref ak, .ref af, .ref ab, .ref aa])), (ak, aI G 10 (sK R)), (af, aI G 10 (sG R)), (ab, aI G 10 (sO R)), (aa, aI G 10 (sA R)), (to, .inr (0, [.int (nI (sN Y)), .int (nI y0), .int (nI (sF Y)), .int (nI (sS Y)), .int (nI (sL Y)), .ref tk, .ref tf, .ref tb, .ref ta])), (tk, aI G 10 (sK Y)), (tf, aI G 10 (sG Y)), (tb, aI G 10 (sO Y)), (ta, aI G 10 (sA Y)), (x7, aI G 7 (cN rf))] H locs := hw
          subst hr
          refine re_i (if R 4 i = 0 then 1 else 0) (st_i (by omega)) ?_
          refine lv_if_eq (tgt := 107) xx xb dX1_key_49 (by decide) (fun c_49 => ?_) (fun c_49 => ?_)
          · skip
            have c_49 := b0_c c_49
            have hy : ¬ (R 4 i = 0 ∧ kyS R nz.toNat i < kyT R nz.toNat i) := fun q => by first | exact c_49 q.1 | (have z := q.2; omega)
            have e1 : kyI R nz.toNat (i + 1) = kyI R nz.toNat i := if_neg hy
            have e2 : kyT R nz.toNat (i + 1) = kyT R nz.toNat i := if_neg hy
            have hl : lv_has ls 6 [(0, .ref h0), (1, .int n), (3, .int (onI (kyI R nz.toNat (i + 1)))), (4, .int (nI (kyT R nz.toNat i))), (5, .int (nI i))] := by rw [e1]; exact hl
            have hl : lv_has ls 6 [(0, .ref h0), (1, .int n), (3, .int (onI (kyI R nz.toNat (i + 1)))), (4, .int (nI (kyT R nz.toNat (i + 1)))), (5, .int (nI i))] := by rw [e2]; exact hl
            refine lv_iinc (v := nI (i + 1)) (lv' := [(5, .int (nI (i + 1))), (0, .ref h0), (1, .int n), (3, .int (onI (kyI R nz.toNat (i + 1)))), (4, .int (nI (kyT R nz.toNat (i + 1))))]) xx xb dX1_key_107 hl (k := 4) rfl (nI_add _ 1) (by decide) rfl (fun ls hl => ?_)
            refine lv_goto (tgt := 28) xx xb dX1_key_110 (by decide) ?_
            exact ih_28 (i + 1) y0 Y H _ ls (by omega) (by omega) hw (lv_sub hl [1, 2, 3, 4, 0] rfl)
          · skip
            have c_49 := b1_c c_49
            refine lv_aload_n xx xb dX1_key_52 rfl (lv_at hl 0 rfl) ?_
            refine m_get C hw 0 rfl fk_X1_16 rfl dX1_key_53 ?_
            refine lv_aload_n xx xb dX1_key_56 rfl (lv_at hl 0 rfl) ?_
            refine m_get C hw 0 rfl fk_X1_10 rfl dX1_key_57 ?_
            have hM := kX0_copyFrom l G to tk tf tb ta y0 Y so ak af ab aa (R 0 1) R (by first | assumption | omega)
            refine cv_v C hw hM yvX0_copyFrom ml_X1_131 6 rfl rfl rfl [6, 7, 8, 9, 10, 1, 2, 3, 4, 5] rfl rfl (fun _ => (rfl : ([to, tk, tf, tb, ta, so, ak, af, ab, aa] : List Nat) = [to, tk, tf, tb, ta, so, ak, af, ab, aa])) (by decide) ⟨Nat.zero_le _, Nat.zero_le _⟩ hl.1 rfl (Nat.le_of_ble_eq_true rfl) dX1_key_60 (fun _ H locs hr hw => ?_)
            have hw : Wd G (fA [(h0, .inr (1, [.ref so, .ref to, .ref uo, .int (nI im), .ref x5, .int (nI lm), .ref x6, .int (nI rm), .ref x7, .ref x8, .int sd])), (so, .inr (0, [.int (nI (sN R)), .int (nI (R 0 1)), .int (nI (sF R)), .int (nI (sS R)), .int (nI (sL R)), .ref ak, .ref af, .ref ab, .ref aa])), (ak, aI G 10 (sK R)), (af, aI G 10 (sG R)), (ab, aI G 10 (sO R)), (aa, aI G 10 (sA R)), (to, .inr (0, [.int (nI (sN S)), .int (nI m0), .int (nI (sF S)), .int (nI (sS S)), .int (nI (sL S)), .ref tk, .ref tf, .ref tb, .ref ta])), (tk, aI G 10 (sK S)), (tf, aI G 10 (sG S)), (tb, aI G 10 (sO S)), (ta, aI G 10 (sA S)), (x7, aI G 7 (cN rf))]) s [(h0, .inr (1, [.ref so, .ref to, .ref uo, .int (nI im), .ref x5, .int (nI lm), .ref x6, .int (nI rm), .ref x7, .ref x8, .int sd])), (so, .inr (0, [.int (nI (sN R)), .int (nI (R 0 1)), .int (nI (sF R)), .int (nI (sS R)), .int (nI (sL R)), .ref ak, .ref af, .ref ab, .ref aa])), (ak, aI G 10 (sK R)), (af, aI G 10 (sG R)), (ab, aI G 10 (sO R)), (aa, aI G 10 (sA R)), (to, .inr (0, [.int (nI (sN R)), .int (nI (R 0 1)), .int (nI (sF R)), .int (nI (sS R)), .int (nI (sL R)), .ref tk, .ref tf, .ref tb, .ref ta])), (tk, aI G 10 (sK R)), (tf, aI G 10 (sG R)), (tb, aI G 10 (sO R)), (ta, aI G 10 (sA R)), (x7, aI G 7 (cN rf))] H locs := hw
            refine lv_aload_n xx xb dX1_key_63 rfl (lv_at hl 0 rfl) ?_
            refine m_get C hw 0 rfl fk_X1_16 rfl dX1_key_64 ?_
            refine lv_iload xx xb dX1_key_67 (lv_at hl 4 rfl) ?_
            refine lv_bipush (v := nI 9) xx xb dX1_key_69 (by decide) ?_
            have hM := kX0_pullThing l G to tk tf tb ta (R 0 1) R i 9 hR (by omega) c_49 (by first | assumption | omega)
            refine cv_i C hw hM yvX0_pullThing ml_X1_90 6 rfl rfl rfl [6, 7, 8, 9, 10] rfl rfl (fun _ => (rfl : ([to, tk, tf, tb, ta] : List Nat) = [to, tk, tf, tb, ta])) (by decide) ⟨Nat.zero_le _, Nat.zero_le _⟩ hl.1 rfl (Nat.le_of_ble_eq_true rfl) dX1_key_71 (fun r _ H locs hr hw => ?_)
            have hw : Wd G (fA [(h0, .inr (1, [.ref so, .ref to, .ref uo, .int (nI im), .ref x5, .int (nI lm), .ref x6, .int (nI rm), .ref x7, .ref x8, .int sd])), (so, .inr (0, [.int (nI (sN R)), .int (nI (R 0 1)), .int (nI (sF R)), .int (nI (sS R)), .int (nI (sL R)), .ref ak, .ref af, .ref ab, .ref aa])), (ak, aI G 10 (sK R)), (af, aI G 10 (sG R)), (ab, aI G 10 (sO R)), (aa, aI G 10 (sA R)), (to, .inr (0, [.int (nI (sN S)), .int (nI m0), .int (nI (sF S)), .int (nI (sS S)), .int (nI (sL S)), .ref tk, .ref tf, .ref tb, .ref ta])), (tk, aI G 10 (sK S)), (tf, aI G 10 (sG S)), (tb, aI G 10 (sO S)), (ta, aI G 10 (sA S)), (x7, aI G 7 (cN rf))]) s [(h0, .inr (1, [.ref so, .ref to, .ref uo, .int (nI im), .ref x5, .int (nI lm), .ref x6, .int (nI rm), .ref x7, .ref x8, .int sd])), (so, .inr (0, [.int (nI (sN R)), .int (nI (R 0 1)), .int (nI (sF R)), .int (nI (sS R)), .int (nI (sL R)), .ref ak, .ref af, .ref ab, .ref aa])), (ak, aI G 10 (sK R)), (af, aI G 10 (sG R)), (ab, aI G 10 (sO R)), (aa, aI G 10 (sA R)), (to, .inr (0, [.int (nI (sN (pulF R i 9))), .int (nI (R 0 1)), .int (nI (sF (pulF R i 9))), .int (nI (sS (pulF R i 9))), .int (nI (sL (pulF R i 9))), .ref tk, .ref tf, .ref tb, .ref ta])), (tk, aI G 10 (sK (pulF R i 9))), (tf, aI G 10 (sG (pulF R i 9))), (tb, aI G 10 (sO (pulF R i 9))), (ta, aI G 10 (sA (pulF R i 9))), (x7, aI G 7 (cN rf))] H locs := hw
            subst hr
            refine lv_pop xx xb dX1_key_74 rfl ?_
            refine lv_aload_n xx xb dX1_key_75 rfl (lv_at hl 0 rfl) ?_
            refine m_get C hw 0 rfl fk_X1_16 rfl dX1_key_76 ?_
            refine lv_iload_n xx xb dX1_key_79 rfl (lv_at hl 1 rfl) ?_
            refine re_i (nI nz.toNat) (ofT h_n (by omega) (by omega)) ?_
            have hM := kX0_passMinutes l G to tk tf tb ta (R 0 1) (pulF R i 9) nz.toNat hPO (AK_pulF _ _ hK) (pul03 hp _ _) (by omega)
            refine cv_v C hw hM yvX0_passMinutes ml_X1_125 6 rfl rfl rfl [6, 7, 8, 9, 10] rfl rfl (fun _ => (rfl : ([to, tk, tf, tb, ta] : List Nat) = [to, tk, tf, tb, ta])) (by decide) ⟨Nat.zero_le _, Nat.zero_le _⟩ hl.1 rfl (Nat.le_of_ble_eq_true rfl) dX1_key_80 (fun _ H locs hr hw => ?_)
            have hw : Wd G (fA [(h0, .inr (1, [.ref so, .ref to, .ref uo, .int (nI im), .ref x5, .int (nI lm), .ref x6, .int (nI rm), .ref x7, .ref x8, .int sd])), (so, .inr (0, [.int (nI (sN R)), .int (nI (R 0 1)), .int (nI (sF R)), .int (nI (sS R)), .int (nI (sL R)), .ref ak, .ref af, .ref ab, .ref aa])), (ak, aI G 10 (sK R)), (af, aI G 10 (sG R)), (ab, aI G 10 (sO R)), (aa, aI G 10 (sA R)), (to, .inr (0, [.int (nI (sN S)), .int (nI m0), .int (nI (sF S)), .int (nI (sS S)), .int (nI (sL S)), .ref tk, .ref tf, .ref tb, .ref ta])), (tk, aI G 10 (sK S)), (tf, aI G 10 (sG S)), (tb, aI G 10 (sO S)), (ta, aI G 10 (sA S)), (x7, aI G 7 (cN rf))]) s [(h0, .inr (1, [.ref so, .ref to, .ref uo, .int (nI im), .ref x5, .int (nI lm), .ref x6, .int (nI rm), .ref x7, .ref x8, .int sd])), (so, .inr (0, [.int (nI (sN R)), .int (nI (R 0 1)), .int (nI (sF R)), .int (nI (sS R)), .int (nI (sL R)), .ref ak, .ref af, .ref ab, .ref aa])), (ak, aI G 10 (sK R)), (af, aI G 10 (sG R)), (ab, aI G 10 (sO R)), (aa, aI G 10 (sA R)), (to, .inr (0, [.int (nI (sN (itF (pulF R i 9) nz.toNat))), .int (nI ((R 0 1) + nz.toNat)), .int (nI (sF (itF (pulF R i 9) nz.toNat))), .int (nI (sS (itF (pulF R i 9) nz.toNat))), .int (nI (sL (itF (pulF R i 9) nz.toNat))), .ref tk, .ref tf, .ref tb, .ref ta])), (tk, aI G 10 (sK (itF (pulF R i 9) nz.toNat))), (tf, aI G 10 (sG (itF (pulF R i 9) nz.toNat))), (tb, aI G 10 (sO (itF (pulF R i 9) nz.toNat))), (ta, aI G 10 (sA (itF (pulF R i 9) nz.toNat))), (x7, aI G 7 (cN rf))] H locs := hw
            refine lv_aload_n xx xb dX1_key_83 rfl (lv_at hl 0 rfl) ?_
            refine m_get C hw 0 rfl fk_X1_16 rfl dX1_key_84 ?_
            have hM := kX0_countStanding l G to tk tf tb ta ((R 0 1) + nz.toNat) (itF (pulF R i 9) nz.toNat) (OK_itF hPO nz.toNat)
            refine cv_i C hw hM yvX0_countStanding ml_X1_128 6 rfl rfl rfl [6, 7, 8, 9, 10] rfl rfl (fun _ => (rfl : ([to, tk, tf, tb, ta] : List Nat) = [to, tk, tf, tb, ta])) (by decide) ⟨Nat.zero_le _, Nat.zero_le _⟩ hl.1 rfl (Nat.le_of_ble_eq_true rfl) dX1_key_87 (fun r _ H locs hr hw => ?_)
            have hw : Wd G (fA [(h0, .inr (1, [.ref so, .ref to, .ref uo, .int (nI im), .ref x5, .int (nI lm), .ref x6, .int (nI rm), .ref x7, .ref x8, .int sd])), (so, .inr (0, [.int (nI (sN R)), .int (nI (R 0 1)), .int (nI (sF R)), .int (nI (sS R)), .int (nI (sL R)), .ref ak, .ref af, .ref ab, .ref aa])), (ak, aI G 10 (sK R)), (af, aI G 10 (sG R)), (ab, aI G 10 (sO R)), (aa, aI G 10 (sA R)), (to, .inr (0, [.int (nI (sN S)), .int (nI m0), .int (nI (sF S)), .int (nI (sS S)), .int (nI (sL S)), .ref tk, .ref tf, .ref tb, .ref ta])), (tk, aI G 10 (sK S)), (tf, aI G 10 (sG S)), (tb, aI G 10 (sO S)), (ta, aI G 10 (sA S)), (x7, aI G 7 (cN rf))]) s [(h0, .inr (1, [.ref so, .ref to, .ref uo, .int (nI im), .ref x5, .int (nI lm), .ref x6, .int (nI rm), .ref x7, .ref x8, .int sd])), (so, .inr (0, [.int (nI (sN R)), .int (nI (R 0 1)), .int (nI (sF R)), .int (nI (sS R)), .int (nI (sL R)), .ref ak, .ref af, .ref ab, .ref aa])), (ak, aI G 10 (sK R)), (af, aI G 10 (sG R)), (ab, aI G 10 (sO R)), (aa, aI G 10 (sA R)), (to, .inr (0, [.int (nI (sN (itF (pulF R i 9) nz.toNat))), .int (nI ((R 0 1) + nz.toNat)), .int (nI (sF (itF (pulF R i 9) nz.toNat))), .int (nI (sS (itF (pulF R i 9) nz.toNat))), .int (nI (sL (itF (pulF R i 9) nz.toNat))), .ref tk, .ref tf, .ref tb, .ref ta])), (tk, aI G 10 (sK (itF (pulF R i 9) nz.toNat))), (tf, aI G 10 (sG (itF (pulF R i 9) nz.toNat))), (tb, aI G 10 (sO (itF (pulF R i 9) nz.toNat))), (ta, aI G 10 (sA (itF (pulF R i 9) nz.toNat))), (x7, aI G 7 (cN rf))] H locs := hw
            subst hr
            refine re_i (nI (kyS R nz.toNat i)) rfl ?_
            refine lv_iload xx xb dX1_key_90 (lv_at hl 3 rfl) ?_
            refine lv_icmp_ge (tgt := 107) xx xb dX1_key_92 (by decide) (fun c_92 => ?_) (fun c_92 => ?_)
            · skip
              have c_92 := le_c (tN (by omega)) (tN (by omega)) c_92
              have hy : ¬ (R 4 i = 0 ∧ kyS R nz.toNat i < kyT R nz.toNat i) := fun q => by first | exact c_49 q.1 | (have z := q.2; omega)
              have e1 : kyI R nz.toNat (i + 1) = kyI R nz.toNat i := if_neg hy
              have e2 : kyT R nz.toNat (i + 1) = kyT R nz.toNat i := if_neg hy
              have hl : lv_has ls 6 [(0, .ref h0), (1, .int n), (3, .int (onI (kyI R nz.toNat (i + 1)))), (4, .int (nI (kyT R nz.toNat i))), (5, .int (nI i))] := by rw [e1]; exact hl
              have hl : lv_has ls 6 [(0, .ref h0), (1, .int n), (3, .int (onI (kyI R nz.toNat (i + 1)))), (4, .int (nI (kyT R nz.toNat (i + 1)))), (5, .int (nI i))] := by rw [e2]; exact hl
              refine lv_iinc (v := nI (i + 1)) (lv' := [(5, .int (nI (i + 1))), (0, .ref h0), (1, .int n), (3, .int (onI (kyI R nz.toNat (i + 1)))), (4, .int (nI (kyT R nz.toNat (i + 1))))]) xx xb dX1_key_107 hl (k := 4) rfl (nI_add _ 1) (by decide) rfl (fun ls hl => ?_)
              refine lv_goto (tgt := 28) xx xb dX1_key_110 (by decide) ?_
              exact ih_28 (i + 1) ((R 0 1) + nz.toNat) (itF (pulF R i 9) nz.toNat) H _ ls (by omega) (by omega) hw (lv_sub hl [1, 2, 3, 4, 0] rfl)
            · skip
              have c_92 := nle_c (tN (by omega)) (tN (by omega)) c_92
              refine lv_aload_n xx xb dX1_key_95 rfl (lv_at hl 0 rfl) ?_
              refine m_get C hw 0 rfl fk_X1_16 rfl dX1_key_96 ?_
              have hM := kX0_countStanding l G to tk tf tb ta ((R 0 1) + nz.toNat) (itF (pulF R i 9) nz.toNat) (OK_itF hPO nz.toNat)
              refine cv_i C hw hM yvX0_countStanding ml_X1_128 6 rfl rfl rfl [6, 7, 8, 9, 10] rfl rfl (fun _ => (rfl : ([to, tk, tf, tb, ta] : List Nat) = [to, tk, tf, tb, ta])) (by decide) ⟨Nat.zero_le _, Nat.zero_le _⟩ hl.1 rfl (Nat.le_of_ble_eq_true rfl) dX1_key_99 (fun r _ H locs hr hw => ?_)
              have hw : Wd G (fA [(h0, .inr (1, [.ref so, .ref to, .ref uo, .int (nI im), .ref x5, .int (nI lm), .ref x6, .int (nI rm), .ref x7, .ref x8, .int sd])), (so, .inr (0, [.int (nI (sN R)), .int (nI (R 0 1)), .int (nI (sF R)), .int (nI (sS R)), .int (nI (sL R)), .ref ak, .ref af, .ref ab, .ref aa])), (ak, aI G 10 (sK R)), (af, aI G 10 (sG R)), (ab, aI G 10 (sO R)), (aa, aI G 10 (sA R)), (to, .inr (0, [.int (nI (sN S)), .int (nI m0), .int (nI (sF S)), .int (nI (sS S)), .int (nI (sL S)), .ref tk, .ref tf, .ref tb, .ref ta])), (tk, aI G 10 (sK S)), (tf, aI G 10 (sG S)), (tb, aI G 10 (sO S)), (ta, aI G 10 (sA S)), (x7, aI G 7 (cN rf))]) s [(h0, .inr (1, [.ref so, .ref to, .ref uo, .int (nI im), .ref x5, .int (nI lm), .ref x6, .int (nI rm), .ref x7, .ref x8, .int sd])), (so, .inr (0, [.int (nI (sN R)), .int (nI (R 0 1)), .int (nI (sF R)), .int (nI (sS R)), .int (nI (sL R)), .ref ak, .ref af, .ref ab, .ref aa])), (ak, aI G 10 (sK R)), (af, aI G 10 (sG R)), (ab, aI G 10 (sO R)), (aa, aI G 10 (sA R)), (to, .inr (0, [.int (nI (sN (itF (pulF R i 9) nz.toNat))), .int (nI ((R 0 1) + nz.toNat)), .int (nI (sF (itF (pulF R i 9) nz.toNat))), .int (nI (sS (itF (pulF R i 9) nz.toNat))), .int (nI (sL (itF (pulF R i 9) nz.toNat))), .ref tk, .ref tf, .ref tb, .ref ta])), (tk, aI G 10 (sK (itF (pulF R i 9) nz.toNat))), (tf, aI G 10 (sG (itF (pulF R i 9) nz.toNat))), (tb, aI G 10 (sO (itF (pulF R i 9) nz.toNat))), (ta, aI G 10 (sA (itF (pulF R i 9) nz.toNat))), (x7, aI G 7 (cN rf))] H locs := hw
              subst hr
              refine re_i (nI (kyS R nz.toNat i)) rfl ?_
              refine lv_istore (lv' := [(4, .int (nI (kyS R nz.toNat i))), (0, .ref h0), (1, .int n), (3, .int (onI (kyI R nz.toNat i))), (5, .int (nI i))]) xx xb dX1_key_102 hl (by decide) rfl (fun ls hl => ?_)
              refine lv_iload xx xb dX1_key_104 (lv_at hl 4 rfl) ?_
              refine lv_istore_n (lv' := [(3, .int (nI i)), (4, .int (nI (kyS R nz.toNat i))), (0, .ref h0), (1, .int n), (5, .int (nI i))]) xx xb dX1_key_106 rfl hl (by decide) rfl (fun ls hl => ?_)
              have hy : R 4 i = 0 ∧ kyS R nz.toNat i < kyT R nz.toNat i := ⟨c_49, by omega⟩
              have e1 : kyI R nz.toNat (i + 1) = i := if_pos hy
              have e2 : kyT R nz.toNat (i + 1) = kyS R nz.toNat i := if_pos hy
              have hl : lv_has ls 6 [(3, .int (onI (kyI R nz.toNat (i + 1)))), (4, .int (nI (kyS R nz.toNat i))), (0, .ref h0), (1, .int n), (5, .int (nI i))] := by rw [e1, onI_lt (by omega)]; exact hl
              have hl : lv_has ls 6 [(3, .int (onI (kyI R nz.toNat (i + 1)))), (4, .int (nI (kyT R nz.toNat (i + 1)))), (0, .ref h0), (1, .int n), (5, .int (nI i))] := by rw [e2]; exact hl
              refine lv_iinc (v := nI (i + 1)) (lv' := [(5, .int (nI (i + 1))), (3, .int (onI (kyI R nz.toNat (i + 1)))), (4, .int (nI (kyT R nz.toNat (i + 1)))), (0, .ref h0), (1, .int n)]) xx xb dX1_key_107 hl (k := 4) rfl (nI_add _ 1) (by decide) rfl (fun ls hl => ?_)
              refine lv_goto (tgt := 28) xx xb dX1_key_110 (by decide) ?_
              exact ih_28 (i + 1) ((R 0 1) + nz.toNat) (itF (pulF R i 9) nz.toNat) H _ ls (by omega) (by omega) hw (lv_sub hl [3, 4, 1, 2, 0] rfl)
    exact L_28 (_ + 1) 0 m0 S H _ ls (Nat.lt_succ_self _) (by omega) hw (lv_sub hl [4, 5, 2, 1, 0] rfl)
  · skip
    have c_9 := g0_n c_9
    refine lv_aload_n xx xb dX1_key_12 rfl (lv_at hl 1 rfl) ?_
    refine lv_iload_n xx xb dX1_key_13 rfl (lv_at hl 0 rfl) ?_
    have hM := kX1_refuse l G h0 so to uo x5 x6 x7 x8 im lm rm sd rf (wbN nz 99) (by first | assumption | omega)
    refine cv_i C hw hM yvX1_refuse ml_X1_43 0 rfl rfl rfl [0, 11] rfl rfl (fun _ => (rfl : ([h0, x7] : List Nat) = [h0, x7])) (by decide) ⟨Nat.zero_le _, Nat.zero_le _⟩ hl.1 rfl (Nat.le_of_ble_eq_true rfl) dX1_key_14 (fun r _ H locs hr hw => ?_)
    have hw : Wd G (fA [(h0, .inr (1, [.ref so, .ref to, .ref uo, .int (nI im), .ref x5, .int (nI lm), .ref x6, .int (nI rm), .ref x7, .ref x8, .int sd])), (so, .inr (0, [.int (nI (sN R)), .int (nI (R 0 1)), .int (nI (sF R)), .int (nI (sS R)), .int (nI (sL R)), .ref ak, .ref af, .ref ab, .ref aa])), (ak, aI G 10 (sK R)), (af, aI G 10 (sG R)), (ab, aI G 10 (sO R)), (aa, aI G 10 (sA R)), (to, .inr (0, [.int (nI (sN S)), .int (nI m0), .int (nI (sF S)), .int (nI (sS S)), .int (nI (sL S)), .ref tk, .ref tf, .ref tb, .ref ta])), (tk, aI G 10 (sK S)), (tf, aI G 10 (sG S)), (tb, aI G 10 (sO S)), (ta, aI G 10 (sA S)), (x7, aI G 7 (cN rf))]) s [(h0, .inr (1, [.ref so, .ref to, .ref uo, .int (nI im), .ref x5, .int (nI lm), .ref x6, .int (nI rm), .ref x7, .ref x8, .int sd])), (so, .inr (0, [.int (nI (sN R)), .int (nI (R 0 1)), .int (nI (sF R)), .int (nI (sS R)), .int (nI (sL R)), .ref ak, .ref af, .ref ab, .ref aa])), (ak, aI G 10 (sK R)), (af, aI G 10 (sG R)), (ab, aI G 10 (sO R)), (aa, aI G 10 (sA R)), (to, .inr (0, [.int (nI (sN S)), .int (nI m0), .int (nI (sF S)), .int (nI (sS S)), .int (nI (sL S)), .ref tk, .ref tf, .ref tb, .ref ta])), (tk, aI G 10 (sK S)), (tf, aI G 10 (sG S)), (tb, aI G 10 (sO S)), (ta, aI G 10 (sA S)), (x7, aI G 7 (cN (upN rf (wbN nz 99) (rf (wbN nz 99) + 1))))] H locs := hw
    subst hr
    have hc : wbN nz 99 = (wbN nz 99) := by first | assumption | rfl
    have hj : (wbN nz 99) ≠ 0 := by omega
    exact rt_i C hw (m0, S) (by exact (anI_r hc hj _).symm) (by rw [rfU_r hc hj]) dX1_key_17
set_option maxRecDepth 100000 in
set_option maxHeartbeats 4000000 in
theorem kX1_prop (l : Launch) (G : GT) (h0 : Nat) (so : Nat) (to : Nat) (uo : Nat) (x5 : Nat) (x6 : Nat) (x7 : Nat) (x8 : Nat) (im : Nat) (lm : Nat) (rm : Nat) (sd : Int32) (rf : Nat → Nat) (ak : Nat) (af : Nat) (ab : Nat) (aa : Nat) (R : RT) (n : Int32) (nz : Int) (h_n : n.toInt = nz) (hR : OK R) (hK : AK R) (hp : R 0 3 = 0) : Ct l yX1_prop cX1_prop 6 (some .int) 2 54 [.ref h0, .int n] G [(h0, .inr (1, [.ref so, .ref to, .ref uo, .int (nI im), .ref x5, .int (nI lm), .ref x6, .int (nI rm), .ref x7, .ref x8, .int sd])), (so, .inr (0, [.int (nI (sN R)), .int (nI (R 0 1)), .int (nI (sF R)), .int (nI (sS R)), .int (nI (sL R)), .ref ak, .ref af, .ref ab, .ref aa])), (ak, aI G 10 (sK R)), (af, aI G 10 (sG R)), (ab, aI G 10 (sO R)), (aa, aI G 10 (sA R)), (x7, aI G 7 (cN rf))] (QI G [(h0, .inr (1, [.ref so, .ref to, .ref uo, .int (nI im), .ref x5, .int (nI lm), .ref x6, .int (nI rm), .ref x7, .ref x8, .int sd])), (so, .inr (0, [.int (nI (sN R)), .int (nI (R 0 1)), .int (nI (sF R)), .int (nI (sS R)), .int (nI (sL R)), .ref ak, .ref af, .ref ab, .ref aa])), (ak, aI G 10 (sK R)), (af, aI G 10 (sG R)), (ab, aI G 10 (sO R)), (aa, aI G 10 (sA R)), (x7, aI G 7 (cN rf))] (fun (r : Int32) (u : Unit) => r = anI (wbN nz 99) (nI (prN R nz.toNat))) (fun u => [(h0, .inr (1, [.ref so, .ref to, .ref uo, .int (nI im), .ref x5, .int (nI lm), .ref x6, .int (nI rm), .ref x7, .ref x8, .int sd])), (so, .inr (0, [.int (nI (sN R)), .int (nI (R 0 1)), .int (nI (sF R)), .int (nI (sS R)), .int (nI (sL R)), .ref ak, .ref af, .ref ab, .ref aa])), (ak, aI G 10 (sK R)), (af, aI G 10 (sG R)), (ab, aI G 10 (sO R)), (aa, aI G 10 (sA R)), (x7, aI G 7 (cN (rfU rf (wbN nz 99))))])) := by
  refine en (by decide +kernel) (Nat.le_of_ble_eq_true rfl) ?_
  intro p e s m below meth c ls H locs C hl hw
  have xx := C.1
  have xb := C.2.1
  have hw : Wd G (fA [(h0, .inr (1, [.ref so, .ref to, .ref uo, .int (nI im), .ref x5, .int (nI lm), .ref x6, .int (nI rm), .ref x7, .ref x8, .int sd])), (so, .inr (0, [.int (nI (sN R)), .int (nI (R 0 1)), .int (nI (sF R)), .int (nI (sS R)), .int (nI (sL R)), .ref ak, .ref af, .ref ab, .ref aa])), (ak, aI G 10 (sK R)), (af, aI G 10 (sG R)), (ab, aI G 10 (sO R)), (aa, aI G 10 (sA R)), (x7, aI G 7 (cN rf))]) s [(h0, .inr (1, [.ref so, .ref to, .ref uo, .int (nI im), .ref x5, .int (nI lm), .ref x6, .int (nI rm), .ref x7, .ref x8, .int sd])), (so, .inr (0, [.int (nI (sN R)), .int (nI (R 0 1)), .int (nI (sF R)), .int (nI (sS R)), .int (nI (sL R)), .ref ak, .ref af, .ref ab, .ref aa])), (ak, aI G 10 (sK R)), (af, aI G 10 (sG R)), (ab, aI G 10 (sO R)), (aa, aI G 10 (sA R)), (x7, aI G 7 (cN rf))] H locs := hw
  have hl : lv_has ls 6 [(0, .ref h0), (1, .int n)] := hl
  obtain ⟨hn, hf0, hpr, hA⟩ := id hR
  have hb9 := wbN_le nz 99
  refine lv_iload_n xx xb dX1_prop_0 rfl (lv_at hl 1 rfl) ?_
  refine lv_iconst (v := nI 0) xx xb dX1_prop_1 (by decide) ?_
  refine lv_bipush (v := nI 99) xx xb dX1_prop_2 (by decide) ?_
  have hM := kX1_outside l G n nz (nI 0) 0 (nI 99) 99 h_n (tN (by omega)) (tN (by omega))
  refine cs_i C hw hM ysX1_outside ml_X1_35 rfl [] rfl rfl (fun _ => (rfl : ([] : List Nat) = [])) (by decide) ⟨Nat.zero_le _, Nat.zero_le _⟩ hl.1 rfl (Nat.le_of_ble_eq_true rfl) dX1_prop_4 (fun r _ H locs hr hw => ?_)
  have hw : Wd G (fA [(h0, .inr (1, [.ref so, .ref to, .ref uo, .int (nI im), .ref x5, .int (nI lm), .ref x6, .int (nI rm), .ref x7, .ref x8, .int sd])), (so, .inr (0, [.int (nI (sN R)), .int (nI (R 0 1)), .int (nI (sF R)), .int (nI (sS R)), .int (nI (sL R)), .ref ak, .ref af, .ref ab, .ref aa])), (ak, aI G 10 (sK R)), (af, aI G 10 (sG R)), (ab, aI G 10 (sO R)), (aa, aI G 10 (sA R)), (x7, aI G 7 (cN rf))]) s [(h0, .inr (1, [.ref so, .ref to, .ref uo, .int (nI im), .ref x5, .int (nI lm), .ref x6, .int (nI rm), .ref x7, .ref x8, .int sd])), (so, .inr (0, [.int (nI (sN R)), .int (nI (R 0 1)), .int (nI (sF R)), .int (nI (sS R)), .int (nI (sL R)), .ref ak, .ref af, .ref ab, .ref aa])), (ak, aI G 10 (sK R)), (af, aI G 10 (sG R)), (ab, aI G 10 (sO R)), (aa, aI G 10 (sA R)), (x7, aI G 7 (cN rf))] H locs := hw
  subst hr
  refine re_i (nG (wbN nz 99)) rfl ?_
  refine lv_istore_n (lv' := [(2, .int (nG (wbN nz 99))), (0, .ref h0), (1, .int n)]) xx xb dX1_prop_7 rfl hl (by decide) rfl (fun ls hl => ?_)
  refine lv_iload_n xx xb dX1_prop_8 rfl (lv_at hl 0 rfl) ?_
  refine lv_if_eq (tgt := 18) xx xb dX1_prop_9 (by decide) (fun c_9 => ?_) (fun c_9 => ?_)
  · skip
    have c_9 := g0_c (by omega) c_9
    obtain ⟨g1, g2⟩ := wbN_0 c_9
    refine lv_iconst (v := nI 0) xx xb dX1_prop_18 (by decide) ?_
    refine lv_istore_n (lv' := [(3, .int (nI 0)), (2, .int (nG (wbN nz 99))), (0, .ref h0), (1, .int n)]) xx xb dX1_prop_19 rfl hl (by decide) rfl (fun ls hl => ?_)
    refine lv_iconst (v := nI 0) xx xb dX1_prop_20 (by decide) ?_
    refine lv_istore (lv' := [(4, .int (nI 0)), (3, .int (nI 0)), (2, .int (nG (wbN nz 99))), (0, .ref h0), (1, .int n)]) xx xb dX1_prop_21 hl (by decide) rfl (fun ls hl => ?_)
    have hl : lv_has ls 6 [(4, .int (nI 0)), (3, .int (nI (bs (frP R nz.toNat) 0))), (2, .int (nG (wbN nz 99))), (0, .ref h0), (1, .int n)] := hl
    have L_23 : ∀ (fu : Nat) (i : Nat) (H : Heap) (locs : List Loc) (ls : Array Slot), 10 - i < fu → (i ≤ R 0 0) → Wd G (fA [(h0, .inr (1, [.ref so, .ref to, .ref uo, .int (nI im), .ref x5, .int (nI lm), .ref x6, .int (nI rm), .ref x7, .ref x8, .int sd])), (so, .inr (0, [.int (nI (sN R)), .int (nI (R 0 1)), .int (nI (sF R)), .int (nI (sS R)), .int (nI (sL R)), .ref ak, .ref af, .ref ab, .ref aa])), (ak, aI G 10 (sK R)), (af, aI G 10 (sG R)), (ab, aI G 10 (sO R)), (aa, aI G 10 (sA R)), (x7, aI G 7 (cN rf))]) s [(h0, .inr (1, [.ref so, .ref to, .ref uo, .int (nI im), .ref x5, .int (nI lm), .ref x6, .int (nI rm), .ref x7, .ref x8, .int sd])), (so, .inr (0, [.int (nI (sN R)), .int (nI (R 0 1)), .int (nI (sF R)), .int (nI (sS R)), .int (nI (sL R)), .ref ak, .ref af, .ref ab, .ref aa])), (ak, aI G 10 (sK R)), (af, aI G 10 (sG R)), (ab, aI G 10 (sO R)), (aa, aI G 10 (sA R)), (x7, aI G 7 (cN rf))] H locs → lv_has ls 6 [(0, .ref h0), (1, .int n), (3, .int (nI (bs (frP R nz.toNat) i))), (4, .int (nI i))] → W p l e ({ frames := 2, cells := 0, slots := 0, locals := 54 }) s m (([.ref h0, .int n] : List Value).toArray) below meth c H locs 0 0 (MQ below (QI G [(h0, .inr (1, [.ref so, .ref to, .ref uo, .int (nI im), .ref x5, .int (nI lm), .ref x6, .int (nI rm), .ref x7, .ref x8, .int sd])), (so, .inr (0, [.int (nI (sN R)), .int (nI (R 0 1)), .int (nI (sF R)), .int (nI (sS R)), .int (nI (sL R)), .ref ak, .ref af, .ref ab, .ref aa])), (ak, aI G 10 (sK R)), (af, aI G 10 (sG R)), (ab, aI G 10 (sO R)), (aa, aI G 10 (sA R)), (x7, aI G 7 (cN rf))] (fun (r : Int32) (u : Unit) => r = anI (wbN nz 99) (nI (prN R nz.toNat))) (fun u => [(h0, .inr (1, [.ref so, .ref to, .ref uo, .int (nI im), .ref x5, .int (nI lm), .ref x6, .int (nI rm), .ref x7, .ref x8, .int sd])), (so, .inr (0, [.int (nI (sN R)), .int (nI (R 0 1)), .int (nI (sF R)), .int (nI (sS R)), .int (nI (sL R)), .ref ak, .ref af, .ref ab, .ref aa])), (ak, aI G 10 (sK R)), (af, aI G 10 (sG R)), (ab, aI G 10 (sO R)), (aa, aI G 10 (sA R)), (x7, aI G 7 (cN (rfU rf (wbN nz 99))))])) (([.ref h0, .int n] : List Value).toArray) s 0 0 (fA [(h0, .inr (1, [.ref so, .ref to, .ref uo, .int (nI im), .ref x5, .int (nI lm), .ref x6, .int (nI rm), .ref x7, .ref x8, .int sd])), (so, .inr (0, [.int (nI (sN R)), .int (nI (R 0 1)), .int (nI (sF R)), .int (nI (sS R)), .int (nI (sL R)), .ref ak, .ref af, .ref ab, .ref aa])), (ak, aI G 10 (sK R)), (af, aI G 10 (sG R)), (ab, aI G 10 (sO R)), (aa, aI G 10 (sA R)), (x7, aI G 7 (cN rf))])) (F0 m 23 ls []) := by
      intro fu
      induction fu with
      | zero => intro i H locs ls hfu; exact absurd hfu (Nat.not_lt_zero _)
      | succ fu ih_23 =>
        intro i H locs ls hfu hi hw hl
        refine lv_iload_n xx xb dX1_prop_23 rfl (lv_at hl 1 rfl) ?_
        refine lv_if_le (tgt := 112) xx xb dX1_prop_24 (by decide) (fun c_24 => ?_) (fun c_24 => ?_)
        · skip
          have c_24 := le_c h_n Int32.toInt_zero c_24
          have hl : lv_has ls 6 [(0, .ref h0), (1, .int n), (3, .int (nI (prN R nz.toNat))), (4, .int (nI i))] := by first | (rw [← pr_z (R := R) (m := nz.toNat) (i := i) (by omega)]; exact hl) | (rw [show prN R nz.toNat = bs (frP R nz.toNat) i by (unfold prN; rw [show R 0 0 = i by omega])]; exact hl)
          refine lv_iload_n xx xb dX1_prop_112 rfl (lv_at hl 2 rfl) ?_
          have hc : wbN nz 99 = 0 := by first | assumption | rfl
          exact rt_i C hw () (by exact (anI_0 hc _).symm) (by rw [rfU_0 hc]) dX1_prop_113
        · skip
          have c_24 := nle_c h_n Int32.toInt_zero c_24
          refine lv_iload xx xb dX1_prop_27 (lv_at hl 3 rfl) ?_
          refine lv_aload_n xx xb dX1_prop_29 rfl (lv_at hl 0 rfl) ?_
          refine m_get C hw 0 rfl fk_X1_10 rfl dX1_prop_30 ?_
          refine m_get C hw 1 rfl fk_X1_163 rfl dX1_prop_33 ?_
          refine re_i (nI (R 0 0)) rfl ?_
          refine lv_icmp_ge (tgt := 112) xx xb dX1_prop_36 (by decide) (fun c_36 => ?_) (fun c_36 => ?_)
          · skip
            have c_36 := le_c (tN (by omega)) (tN (by omega)) c_36
            have hl : lv_has ls 6 [(0, .ref h0), (1, .int n), (3, .int (nI (prN R nz.toNat))), (4, .int (nI i))] := by first | (rw [← pr_z (R := R) (m := nz.toNat) (i := i) (by omega)]; exact hl) | (rw [show prN R nz.toNat = bs (frP R nz.toNat) i by (unfold prN; rw [show R 0 0 = i by omega])]; exact hl)
            refine lv_iload_n xx xb dX1_prop_112 rfl (lv_at hl 2 rfl) ?_
            have hc : wbN nz 99 = 0 := by first | assumption | rfl
            exact rt_i C hw () (by exact (anI_0 hc _).symm) (by rw [rfU_0 hc]) dX1_prop_113
          · skip
            have c_36 := nle_c (tN (by omega)) (tN (by omega)) c_36
            obtain ⟨q1, q2, q3, q4, q5⟩ := hA i (by omega)
            refine lv_aload_n xx xb dX1_prop_39 rfl (lv_at hl 0 rfl) ?_
            refine m_get C hw 0 rfl fk_X1_10 rfl dX1_prop_40 ?_
            refine lv_iload xx xb dX1_prop_43 (lv_at hl 3 rfl) ?_
            have hM := kX0_stands l G so ak af ab aa (R 0 1) R (nI i) ((i : Nat) : Int) (tN (by omega)) (by first | assumption | omega)
            refine cv_i C hw hM yvX0_stands ml_X1_166 1 rfl rfl rfl [1, 2, 3, 4, 5] rfl rfl (fun _ => (rfl : ([so, ak, af, ab, aa] : List Nat) = [so, ak, af, ab, aa])) (by decide) ⟨Nat.zero_le _, Nat.zero_le _⟩ hl.1 rfl (Nat.le_of_ble_eq_true rfl) dX1_prop_45 (fun r _ H locs hr hw => ?_)
            have hw : Wd G (fA [(h0, .inr (1, [.ref so, .ref to, .ref uo, .int (nI im), .ref x5, .int (nI lm), .ref x6, .int (nI rm), .ref x7, .ref x8, .int sd])), (so, .inr (0, [.int (nI (sN R)), .int (nI (R 0 1)), .int (nI (sF R)), .int (nI (sS R)), .int (nI (sL R)), .ref ak, .ref af, .ref ab, .ref aa])), (ak, aI G 10 (sK R)), (af, aI G 10 (sG R)), (ab, aI G 10 (sO R)), (aa, aI G 10 (sA R)), (x7, aI G 7 (cN rf))]) s [(h0, .inr (1, [.ref so, .ref to, .ref uo, .int (nI im), .ref x5, .int (nI lm), .ref x6, .int (nI rm), .ref x7, .ref x8, .int sd])), (so, .inr (0, [.int (nI (sN R)), .int (nI (R 0 1)), .int (nI (sF R)), .int (nI (sS R)), .int (nI (sL R)), .ref ak, .ref af, .ref ab, .ref aa])), (ak, aI G 10 (sK R)), (af, aI G 10 (sG R)), (ab, aI G 10 (sO R)), (aa, aI G 10 (sA R)), (x7, aI G 7 (cN rf))] H locs := hw
            subst hr
            refine re_i (if R 4 i = 0 then 1 else 0) (st_i (by omega)) ?_
            refine lv_if_eq (tgt := 67) xx xb dX1_prop_48 (by decide) (fun c_48 => ?_) (fun c_48 => ?_)
            · skip
              have c_48 := b0_c c_48
              refine lv_iconst (v := nI 0) xx xb dX1_prop_67 (by decide) ?_
              refine lv_istore (lv' := [(5, .int (nI 0)), (0, .ref h0), (1, .int n), (3, .int (nI (bs (frP R nz.toNat) i))), (4, .int (nI i))]) xx xb dX1_prop_68 hl (by decide) rfl (fun ls hl => ?_)
              refine lv_iload xx xb dX1_prop_70 (lv_at hl 0 rfl) ?_
              refine lv_if_eq (tgt := 106) xx xb dX1_prop_72 (by decide) (fun c_72 => ?_) (fun c_72 => ?_)
              · skip
                have hl : lv_has ls 6 [(5, .int (nI 0)), (0, .ref h0), (1, .int n), (3, .int (nI (bs (frP R nz.toNat) (i + 1)))), (4, .int (nI i))] := by rw [← bs_orF (frP_f (fun q => by first | exact c_48 q.1 | exact q.2.1 c_60 | (have z := q.2.2; omega))), Nat.or_zero]; exact hl
                refine lv_iinc (v := nI (i + 1)) (lv' := [(4, .int (nI (i + 1))), (5, .int (nI 0)), (0, .ref h0), (1, .int n), (3, .int (nI (bs (frP R nz.toNat) (i + 1))))]) xx xb dX1_prop_106 hl (k := 4) rfl (nI_add _ 1) (by decide) rfl (fun ls hl => ?_)
                refine lv_goto (tgt := 23) xx xb dX1_prop_109 (by decide) ?_
                exact ih_23 (i + 1) H _ ls (by omega) (by omega) hw (lv_sub hl [2, 3, 4, 0] rfl)
              · skip
                exact absurd (by decide) c_72
            · skip
              have c_48 := b1_c c_48
              refine lv_aload_n xx xb dX1_prop_51 rfl (lv_at hl 0 rfl) ?_
              refine m_get C hw 0 rfl fk_X1_10 rfl dX1_prop_52 ?_
              refine lv_iload xx xb dX1_prop_55 (lv_at hl 3 rfl) ?_
              have hM := kX0_isHeld l G so ak af ab aa (R 0 1) R (nI i) ((i : Nat) : Int) (tN (by omega)) (by first | assumption | omega)
              refine cv_i C hw hM yvX0_isHeld ml_X1_79 1 rfl rfl rfl [1, 2, 3, 4, 5] rfl rfl (fun _ => (rfl : ([so, ak, af, ab, aa] : List Nat) = [so, ak, af, ab, aa])) (by decide) ⟨Nat.zero_le _, Nat.zero_le _⟩ hl.1 rfl (Nat.le_of_ble_eq_true rfl) dX1_prop_57 (fun r _ H locs hr hw => ?_)
              have hw : Wd G (fA [(h0, .inr (1, [.ref so, .ref to, .ref uo, .int (nI im), .ref x5, .int (nI lm), .ref x6, .int (nI rm), .ref x7, .ref x8, .int sd])), (so, .inr (0, [.int (nI (sN R)), .int (nI (R 0 1)), .int (nI (sF R)), .int (nI (sS R)), .int (nI (sL R)), .ref ak, .ref af, .ref ab, .ref aa])), (ak, aI G 10 (sK R)), (af, aI G 10 (sG R)), (ab, aI G 10 (sO R)), (aa, aI G 10 (sA R)), (x7, aI G 7 (cN rf))]) s [(h0, .inr (1, [.ref so, .ref to, .ref uo, .int (nI im), .ref x5, .int (nI lm), .ref x6, .int (nI rm), .ref x7, .ref x8, .int sd])), (so, .inr (0, [.int (nI (sN R)), .int (nI (R 0 1)), .int (nI (sF R)), .int (nI (sS R)), .int (nI (sL R)), .ref ak, .ref af, .ref ab, .ref aa])), (ak, aI G 10 (sK R)), (af, aI G 10 (sG R)), (ab, aI G 10 (sO R)), (aa, aI G 10 (sA R)), (x7, aI G 7 (cN rf))] H locs := hw
              subst hr
              refine re_i (if R 4 i = 0 ∧ grdF R i = true then 1 else 0) (hd_i (by omega)) ?_
              refine lv_if_ne (tgt := 67) xx xb dX1_prop_60 (by decide) (fun c_60 => ?_) (fun c_60 => ?_)
              · skip
                have c_60 := b1_c c_60
                refine lv_iconst (v := nI 0) xx xb dX1_prop_67 (by decide) ?_
                refine lv_istore (lv' := [(5, .int (nI 0)), (0, .ref h0), (1, .int n), (3, .int (nI (bs (frP R nz.toNat) i))), (4, .int (nI i))]) xx xb dX1_prop_68 hl (by decide) rfl (fun ls hl => ?_)
                refine lv_iload xx xb dX1_prop_70 (lv_at hl 0 rfl) ?_
                refine lv_if_eq (tgt := 106) xx xb dX1_prop_72 (by decide) (fun c_72 => ?_) (fun c_72 => ?_)
                · skip
                  have hl : lv_has ls 6 [(5, .int (nI 0)), (0, .ref h0), (1, .int n), (3, .int (nI (bs (frP R nz.toNat) (i + 1)))), (4, .int (nI i))] := by rw [← bs_orF (frP_f (fun q => by first | exact c_48 q.1 | exact q.2.1 c_60 | (have z := q.2.2; omega))), Nat.or_zero]; exact hl
                  refine lv_iinc (v := nI (i + 1)) (lv' := [(4, .int (nI (i + 1))), (5, .int (nI 0)), (0, .ref h0), (1, .int n), (3, .int (nI (bs (frP R nz.toNat) (i + 1))))]) xx xb dX1_prop_106 hl (k := 4) rfl (nI_add _ 1) (by decide) rfl (fun ls hl => ?_)
                  refine lv_goto (tgt := 23) xx xb dX1_prop_109 (by decide) ?_
                  exact ih_23 (i + 1) H _ ls (by omega) (by omega) hw (lv_sub hl [2, 3, 4, 0] rfl)
                · skip
                  exact absurd (by decide) c_72
              · skip
                have c_60 := b0_c c_60
                refine lv_iconst (v := nI 1) xx xb dX1_prop_63 (by decide) ?_
                refine lv_goto (tgt := 68) xx xb dX1_prop_64 (by decide) ?_
                refine lv_istore (lv' := [(5, .int (nI 1)), (0, .ref h0), (1, .int n), (3, .int (nI (bs (frP R nz.toNat) i))), (4, .int (nI i))]) xx xb dX1_prop_68 hl (by decide) rfl (fun ls hl => ?_)
                refine lv_iload xx xb dX1_prop_70 (lv_at hl 0 rfl) ?_
                refine lv_if_eq (tgt := 106) xx xb dX1_prop_72 (by decide) (fun c_72 => ?_) (fun c_72 => ?_)
                · skip
                  exact absurd c_72 (by decide)
                · skip
                  refine lv_aload_n xx xb dX1_prop_75 rfl (lv_at hl 1 rfl) ?_
                  refine m_get C hw 0 rfl fk_X1_10 rfl dX1_prop_76 ?_
                  refine m_get C hw 1 rfl fk_X1_70 rfl dX1_prop_79 ?_
                  refine lv_iload xx xb dX1_prop_82 (lv_at hl 4 rfl) ?_
                  refine m_ald C hw 5 rfl i rfl (by omega) (by decide) dX1_prop_84 ?_
                  refine re_i (nI (R 5 i)) rfl ?_
                  refine lv_iload_n xx xb dX1_prop_85 rfl (lv_at hl 2 rfl) ?_
                  refine re_i (nI nz.toNat) (ofT h_n (by omega) (by omega)) ?_
                  refine lv_iadd xx xb dX1_prop_86 ?_
                  refine re_i (nI ((R 5 i) + nz.toNat)) (nI_add _ _) ?_
                  refine lv_aload_n xx xb dX1_prop_87 rfl (lv_at hl 1 rfl) ?_
                  refine m_get C hw 0 rfl fk_X1_10 rfl dX1_prop_88 ?_
                  refine lv_iload xx xb dX1_prop_91 (lv_at hl 4 rfl) ?_
                  have hM := kX0_habitOf l G so ak af ab aa (R 0 1) R i (by first | assumption | omega) (by omega)
                  refine cv_i C hw hM yvX0_habitOf ml_X1_73 1 rfl rfl rfl [1, 2, 3, 4, 5] rfl rfl (fun _ => (rfl : ([so, ak, af, ab, aa] : List Nat) = [so, ak, af, ab, aa])) (by decide) ⟨Nat.zero_le _, Nat.zero_le _⟩ hl.1 rfl (Nat.le_of_ble_eq_true rfl) dX1_prop_93 (fun r _ H locs hr hw => ?_)
                  have hw : Wd G (fA [(h0, .inr (1, [.ref so, .ref to, .ref uo, .int (nI im), .ref x5, .int (nI lm), .ref x6, .int (nI rm), .ref x7, .ref x8, .int sd])), (so, .inr (0, [.int (nI (sN R)), .int (nI (R 0 1)), .int (nI (sF R)), .int (nI (sS R)), .int (nI (sL R)), .ref ak, .ref af, .ref ab, .ref aa])), (ak, aI G 10 (sK R)), (af, aI G 10 (sG R)), (ab, aI G 10 (sO R)), (aa, aI G 10 (sA R)), (x7, aI G 7 (cN rf))]) s [(h0, .inr (1, [.ref so, .ref to, .ref uo, .int (nI im), .ref x5, .int (nI lm), .ref x6, .int (nI rm), .ref x7, .ref x8, .int sd])), (so, .inr (0, [.int (nI (sN R)), .int (nI (R 0 1)), .int (nI (sF R)), .int (nI (sS R)), .int (nI (sL R)), .ref ak, .ref af, .ref ab, .ref aa])), (ak, aI G 10 (sK R)), (af, aI G 10 (sG R)), (ab, aI G 10 (sO R)), (aa, aI G 10 (sA R)), (x7, aI G 7 (cN rf))] H locs := hw
                  subst hr
                  refine re_i (nI (habF R i (slF R))) (congrArg nI (congrArg (habF R i) (slX_st c_48))) ?_
                  have hhb := habF_le (R := R) (a := i) (sl := slF R) (by omega)
                  have hk5 := (hK i (by omega)).1
                  refine lv_icmp_le (tgt := 106) xx xb dX1_prop_96 (by decide) (fun c_96 => ?_) (fun c_96 => ?_)
                  · skip
                    have c_96 := le_c (tN (by omega)) (tN (by omega)) c_96
                    have hl : lv_has ls 6 [(5, .int (nI 1)), (0, .ref h0), (1, .int n), (3, .int (nI (bs (frP R nz.toNat) (i + 1)))), (4, .int (nI i))] := by rw [← bs_orF (frP_f (fun q => by first | exact c_48 q.1 | exact q.2.1 c_60 | (have z := q.2.2; omega))), Nat.or_zero]; exact hl
                    refine lv_iinc (v := nI (i + 1)) (lv' := [(4, .int (nI (i + 1))), (5, .int (nI 1)), (0, .ref h0), (1, .int n), (3, .int (nI (bs (frP R nz.toNat) (i + 1))))]) xx xb dX1_prop_106 hl (k := 4) rfl (nI_add _ 1) (by decide) rfl (fun ls hl => ?_)
                    refine lv_goto (tgt := 23) xx xb dX1_prop_109 (by decide) ?_
                    exact ih_23 (i + 1) H _ ls (by omega) (by omega) hw (lv_sub hl [2, 3, 4, 0] rfl)
                  · skip
                    have c_96 := nle_c (tN (by omega)) (tN (by omega)) c_96
                    refine lv_iload_n xx xb dX1_prop_99 rfl (lv_at hl 3 rfl) ?_
                    refine lv_iconst (v := nI 1) xx xb dX1_prop_100 (by decide) ?_
                    refine lv_iload xx xb dX1_prop_101 (lv_at hl 4 rfl) ?_
                    refine lv_ishl xx xb dX1_prop_103 ?_
                    refine re_i (nI (2 ^ i)) (shl1 (by omega)) ?_
                    refine lv_ior xx xb dX1_prop_104 ?_
                    refine re_i (nI ((bs (frP R nz.toNat) i) ||| (2 ^ i))) (or_N _ _) ?_
                    refine re_i (nI (bs (frP R nz.toNat) (i + 1))) (congrArg nI (bs_orT (frP_t (by omega) c_48 c_60 (by omega)))) ?_
                    refine lv_istore_n (lv' := [(3, .int (nI (bs (frP R nz.toNat) (i + 1)))), (5, .int (nI 1)), (0, .ref h0), (1, .int n), (4, .int (nI i))]) xx xb dX1_prop_105 rfl hl (by decide) rfl (fun ls hl => ?_)
                    refine lv_iinc (v := nI (i + 1)) (lv' := [(4, .int (nI (i + 1))), (3, .int (nI (bs (frP R nz.toNat) (i + 1)))), (5, .int (nI 1)), (0, .ref h0), (1, .int n)]) xx xb dX1_prop_106 hl (k := 4) rfl (nI_add _ 1) (by decide) rfl (fun ls hl => ?_)
                    refine lv_goto (tgt := 23) xx xb dX1_prop_109 (by decide) ?_
                    exact ih_23 (i + 1) H _ ls (by omega) (by omega) hw (lv_sub hl [3, 4, 1, 0] rfl)
    exact L_23 (_ + 1) 0 H _ ls (Nat.lt_succ_self _) (by omega) hw (lv_sub hl [3, 4, 1, 0] rfl)
  · skip
    have c_9 := g0_n c_9
    refine lv_aload_n xx xb dX1_prop_12 rfl (lv_at hl 1 rfl) ?_
    refine lv_iload_n xx xb dX1_prop_13 rfl (lv_at hl 0 rfl) ?_
    have hM := kX1_refuse l G h0 so to uo x5 x6 x7 x8 im lm rm sd rf (wbN nz 99) (by first | assumption | omega)
    refine cv_i C hw hM yvX1_refuse ml_X1_43 0 rfl rfl rfl [0, 6] rfl rfl (fun _ => (rfl : ([h0, x7] : List Nat) = [h0, x7])) (by decide) ⟨Nat.zero_le _, Nat.zero_le _⟩ hl.1 rfl (Nat.le_of_ble_eq_true rfl) dX1_prop_14 (fun r _ H locs hr hw => ?_)
    have hw : Wd G (fA [(h0, .inr (1, [.ref so, .ref to, .ref uo, .int (nI im), .ref x5, .int (nI lm), .ref x6, .int (nI rm), .ref x7, .ref x8, .int sd])), (so, .inr (0, [.int (nI (sN R)), .int (nI (R 0 1)), .int (nI (sF R)), .int (nI (sS R)), .int (nI (sL R)), .ref ak, .ref af, .ref ab, .ref aa])), (ak, aI G 10 (sK R)), (af, aI G 10 (sG R)), (ab, aI G 10 (sO R)), (aa, aI G 10 (sA R)), (x7, aI G 7 (cN rf))]) s [(h0, .inr (1, [.ref so, .ref to, .ref uo, .int (nI im), .ref x5, .int (nI lm), .ref x6, .int (nI rm), .ref x7, .ref x8, .int sd])), (so, .inr (0, [.int (nI (sN R)), .int (nI (R 0 1)), .int (nI (sF R)), .int (nI (sS R)), .int (nI (sL R)), .ref ak, .ref af, .ref ab, .ref aa])), (ak, aI G 10 (sK R)), (af, aI G 10 (sG R)), (ab, aI G 10 (sO R)), (aa, aI G 10 (sA R)), (x7, aI G 7 (cN (upN rf (wbN nz 99) (rf (wbN nz 99) + 1))))] H locs := hw
    subst hr
    have hc : wbN nz 99 = (wbN nz 99) := by first | assumption | rfl
    have hj : (wbN nz 99) ≠ 0 := by omega
    exact rt_i C hw () (by exact (anI_r hc hj _).symm) (by rw [rfU_r hc hj]) dX1_prop_17
set_option maxRecDepth 100000 in
set_option maxHeartbeats 4000000 in
theorem kX1_floorFalls (l : Launch) (G : GT) (h0 : Nat) (so : Nat) (to : Nat) (uo : Nat) (x5 : Nat) (x6 : Nat) (x7 : Nat) (x8 : Nat) (im : Nat) (lm : Nat) (rm : Nat) (sd : Int32) (rf : Nat → Nat) (ak : Nat) (af : Nat) (ab : Nat) (aa : Nat) (R : RT) (v : Int32) (vz : Int) (h_v : v.toInt = vz) (hR : OK R) : Ct l yX1_floorFalls cX1_floorFalls 3 (some .int) 2 46 [.ref h0, .int v] G [(h0, .inr (1, [.ref so, .ref to, .ref uo, .int (nI im), .ref x5, .int (nI lm), .ref x6, .int (nI rm), .ref x7, .ref x8, .int sd])), (so, .inr (0, [.int (nI (sN R)), .int (nI (R 0 1)), .int (nI (sF R)), .int (nI (sS R)), .int (nI (sL R)), .ref ak, .ref af, .ref ab, .ref aa])), (ak, aI G 10 (sK R)), (af, aI G 10 (sG R)), (ab, aI G 10 (sO R)), (aa, aI G 10 (sA R)), (x7, aI G 7 (cN rf))] (QI G [(h0, .inr (1, [.ref so, .ref to, .ref uo, .int (nI im), .ref x5, .int (nI lm), .ref x6, .int (nI rm), .ref x7, .ref x8, .int sd])), (so, .inr (0, [.int (nI (sN R)), .int (nI (R 0 1)), .int (nI (sF R)), .int (nI (sS R)), .int (nI (sL R)), .ref ak, .ref af, .ref ab, .ref aa])), (ak, aI G 10 (sK R)), (af, aI G 10 (sG R)), (ab, aI G 10 (sO R)), (aa, aI G 10 (sA R)), (x7, aI G 7 (cN rf))] (fun (r : Int32) (u : Unit) => r = anI (wbN vz 9) (if R 0 2 = 0 then -9 else nI (ct (shkF R 10 vz.toNat) (R 0 0)))) (fun u => [(h0, .inr (1, [.ref so, .ref to, .ref uo, .int (nI im), .ref x5, .int (nI lm), .ref x6, .int (nI rm), .ref x7, .ref x8, .int sd])), (so, .inr (0, [.int (nI (sN R)), .int (nI (R 0 1)), .int (nI (sF R)), .int (nI (sS R)), .int (nI (sL R)), .ref ak, .ref af, .ref ab, .ref aa])), (ak, aI G 10 (sK R)), (af, aI G 10 (sG R)), (ab, aI G 10 (sO R)), (aa, aI G 10 (sA R)), (x7, aI G 7 (cN (rfU rf (wbN vz 9))))])) := by
  refine en (by decide +kernel) (Nat.le_of_ble_eq_true rfl) ?_
  intro p e s m below meth c ls H locs C hl hw
  have xx := C.1
  have xb := C.2.1
  have hw : Wd G (fA [(h0, .inr (1, [.ref so, .ref to, .ref uo, .int (nI im), .ref x5, .int (nI lm), .ref x6, .int (nI rm), .ref x7, .ref x8, .int sd])), (so, .inr (0, [.int (nI (sN R)), .int (nI (R 0 1)), .int (nI (sF R)), .int (nI (sS R)), .int (nI (sL R)), .ref ak, .ref af, .ref ab, .ref aa])), (ak, aI G 10 (sK R)), (af, aI G 10 (sG R)), (ab, aI G 10 (sO R)), (aa, aI G 10 (sA R)), (x7, aI G 7 (cN rf))]) s [(h0, .inr (1, [.ref so, .ref to, .ref uo, .int (nI im), .ref x5, .int (nI lm), .ref x6, .int (nI rm), .ref x7, .ref x8, .int sd])), (so, .inr (0, [.int (nI (sN R)), .int (nI (R 0 1)), .int (nI (sF R)), .int (nI (sS R)), .int (nI (sL R)), .ref ak, .ref af, .ref ab, .ref aa])), (ak, aI G 10 (sK R)), (af, aI G 10 (sG R)), (ab, aI G 10 (sO R)), (aa, aI G 10 (sA R)), (x7, aI G 7 (cN rf))] H locs := hw
  have hl : lv_has ls 3 [(0, .ref h0), (1, .int v)] := hl
  obtain ⟨hn, hf0, hpr, hA⟩ := id hR
  have hb9 := wbN_le vz 9
  refine lv_iload_n xx xb dX1_floorFalls_0 rfl (lv_at hl 1 rfl) ?_
  refine lv_iconst (v := nI 0) xx xb dX1_floorFalls_1 (by decide) ?_
  refine lv_bipush (v := nI 9) xx xb dX1_floorFalls_2 (by decide) ?_
  have hM := kX1_outside l G v vz (nI 0) 0 (nI 9) 9 h_v (tN (by omega)) (tN (by omega))
  refine cs_i C hw hM ysX1_outside ml_X1_35 rfl [] rfl rfl (fun _ => (rfl : ([] : List Nat) = [])) (by decide) ⟨Nat.zero_le _, Nat.zero_le _⟩ hl.1 rfl (Nat.le_of_ble_eq_true rfl) dX1_floorFalls_4 (fun r _ H locs hr hw => ?_)
  have hw : Wd G (fA [(h0, .inr (1, [.ref so, .ref to, .ref uo, .int (nI im), .ref x5, .int (nI lm), .ref x6, .int (nI rm), .ref x7, .ref x8, .int sd])), (so, .inr (0, [.int (nI (sN R)), .int (nI (R 0 1)), .int (nI (sF R)), .int (nI (sS R)), .int (nI (sL R)), .ref ak, .ref af, .ref ab, .ref aa])), (ak, aI G 10 (sK R)), (af, aI G 10 (sG R)), (ab, aI G 10 (sO R)), (aa, aI G 10 (sA R)), (x7, aI G 7 (cN rf))]) s [(h0, .inr (1, [.ref so, .ref to, .ref uo, .int (nI im), .ref x5, .int (nI lm), .ref x6, .int (nI rm), .ref x7, .ref x8, .int sd])), (so, .inr (0, [.int (nI (sN R)), .int (nI (R 0 1)), .int (nI (sF R)), .int (nI (sS R)), .int (nI (sL R)), .ref ak, .ref af, .ref ab, .ref aa])), (ak, aI G 10 (sK R)), (af, aI G 10 (sG R)), (ab, aI G 10 (sO R)), (aa, aI G 10 (sA R)), (x7, aI G 7 (cN rf))] H locs := hw
  subst hr
  refine re_i (nG (wbN vz 9)) rfl ?_
  refine lv_istore_n (lv' := [(2, .int (nG (wbN vz 9))), (0, .ref h0), (1, .int v)]) xx xb dX1_floorFalls_7 rfl hl (by decide) rfl (fun ls hl => ?_)
  refine lv_iload_n xx xb dX1_floorFalls_8 rfl (lv_at hl 0 rfl) ?_
  refine lv_if_eq (tgt := 18) xx xb dX1_floorFalls_9 (by decide) (fun c_9 => ?_) (fun c_9 => ?_)
  · skip
    have c_9 := g0_c (by omega) c_9
    obtain ⟨g1, g2⟩ := wbN_0 c_9
    refine lv_aload_n xx xb dX1_floorFalls_18 rfl (lv_at hl 1 rfl) ?_
    refine m_get C hw 0 rfl fk_X1_10 rfl dX1_floorFalls_19 ?_
    refine m_get C hw 1 rfl fk_X1_98 rfl dX1_floorFalls_22 ?_
    refine re_i (nI (R 0 2)) rfl ?_
    refine lv_if_eq (tgt := 44) xx xb dX1_floorFalls_25 (by decide) (fun c_25 => ?_) (fun c_25 => ?_)
    · skip
      have c_25 := eq_c (tN (by omega)) Int32.toInt_zero c_25
      refine lv_bipush (v := (-9)) xx xb dX1_floorFalls_44 (by decide) ?_
      refine re_i (if R 0 2 = 0 then -9 else nI (ct (shkF R 10 vz.toNat) (R 0 0))) (by first | (rw [if_pos (by omega)]; done) | (rw [if_neg (by omega)]; done)) ?_
      have hc : wbN vz 9 = 0 := by first | assumption | rfl
      exact rt_i C hw () (by exact (anI_0 hc _).symm) (by rw [rfU_0 hc]) dX1_floorFalls_46
    · skip
      have c_25 := ne_c (tN (by omega)) Int32.toInt_zero c_25
      refine lv_aload_n xx xb dX1_floorFalls_28 rfl (lv_at hl 1 rfl) ?_
      refine m_get C hw 0 rfl fk_X1_10 rfl dX1_floorFalls_29 ?_
      refine lv_bipush (v := (-9)) xx xb dX1_floorFalls_32 (by decide) ?_
      refine lv_iload_n xx xb dX1_floorFalls_34 rfl (lv_at hl 2 rfl) ?_
      refine re_i (nI vz.toNat) (ofT h_v (by omega) (by omega)) ?_
      have hM := kX0_caughtOn l G so ak af ab aa (R 0 1) R 10 vz.toNat (by first | assumption | omega) (by first | assumption | omega) (by first | assumption | omega)
      refine cv_i C hw hM yvX0_caughtOn ml_X1_150 1 rfl rfl rfl [1, 2, 3, 4, 5] rfl rfl (fun _ => (rfl : ([so, ak, af, ab, aa] : List Nat) = [so, ak, af, ab, aa])) (by decide) ⟨Nat.zero_le _, Nat.zero_le _⟩ hl.1 rfl (Nat.le_of_ble_eq_true rfl) dX1_floorFalls_35 (fun r _ H locs hr hw => ?_)
      have hw : Wd G (fA [(h0, .inr (1, [.ref so, .ref to, .ref uo, .int (nI im), .ref x5, .int (nI lm), .ref x6, .int (nI rm), .ref x7, .ref x8, .int sd])), (so, .inr (0, [.int (nI (sN R)), .int (nI (R 0 1)), .int (nI (sF R)), .int (nI (sS R)), .int (nI (sL R)), .ref ak, .ref af, .ref ab, .ref aa])), (ak, aI G 10 (sK R)), (af, aI G 10 (sG R)), (ab, aI G 10 (sO R)), (aa, aI G 10 (sA R)), (x7, aI G 7 (cN rf))]) s [(h0, .inr (1, [.ref so, .ref to, .ref uo, .int (nI im), .ref x5, .int (nI lm), .ref x6, .int (nI rm), .ref x7, .ref x8, .int sd])), (so, .inr (0, [.int (nI (sN R)), .int (nI (R 0 1)), .int (nI (sF R)), .int (nI (sS R)), .int (nI (sL R)), .ref ak, .ref af, .ref ab, .ref aa])), (ak, aI G 10 (sK R)), (af, aI G 10 (sG R)), (ab, aI G 10 (sO R)), (aa, aI G 10 (sA R)), (x7, aI G 7 (cN rf))] H locs := hw
      subst hr
      have hM := kJ6_bitCount_0f7a4 l G (bs (shkF R 10 vz.toNat) (R 0 0)) (bs_k hn)
      refine cs_i C hw hM ysJ6_bitCount_0f7a4 ml_X1_93 rfl [] rfl rfl (fun _ => (rfl : ([] : List Nat) = [])) (by decide) ⟨Nat.zero_le _, Nat.zero_le _⟩ hl.1 rfl (Nat.le_of_ble_eq_true rfl) dX1_floorFalls_38 (fun r _ H locs hr hw => ?_)
      have hw : Wd G (fA [(h0, .inr (1, [.ref so, .ref to, .ref uo, .int (nI im), .ref x5, .int (nI lm), .ref x6, .int (nI rm), .ref x7, .ref x8, .int sd])), (so, .inr (0, [.int (nI (sN R)), .int (nI (R 0 1)), .int (nI (sF R)), .int (nI (sS R)), .int (nI (sL R)), .ref ak, .ref af, .ref ab, .ref aa])), (ak, aI G 10 (sK R)), (af, aI G 10 (sG R)), (ab, aI G 10 (sO R)), (aa, aI G 10 (sA R)), (x7, aI G 7 (cN rf))]) s [(h0, .inr (1, [.ref so, .ref to, .ref uo, .int (nI im), .ref x5, .int (nI lm), .ref x6, .int (nI rm), .ref x7, .ref x8, .int sd])), (so, .inr (0, [.int (nI (sN R)), .int (nI (R 0 1)), .int (nI (sF R)), .int (nI (sS R)), .int (nI (sL R)), .ref ak, .ref af, .ref ab, .ref aa])), (ak, aI G 10 (sK R)), (af, aI G 10 (sG R)), (ab, aI G 10 (sO R)), (aa, aI G 10 (sA R)), (x7, aI G 7 (cN rf))] H locs := hw
      subst hr
      refine re_i (nI (ct (shkF R 10 vz.toNat) (R 0 0))) (congrArg nI (pc_bs _ hn)) ?_
      refine lv_goto (tgt := 46) xx xb dX1_floorFalls_41 (by decide) ?_
      refine re_i (if R 0 2 = 0 then -9 else nI (ct (shkF R 10 vz.toNat) (R 0 0))) (by first | (rw [if_pos (by omega)]; done) | (rw [if_neg (by omega)]; done)) ?_
      have hc : wbN vz 9 = 0 := by first | assumption | rfl
      exact rt_i C hw () (by exact (anI_0 hc _).symm) (by rw [rfU_0 hc]) dX1_floorFalls_46
  · skip
    have c_9 := g0_n c_9
    refine lv_aload_n xx xb dX1_floorFalls_12 rfl (lv_at hl 1 rfl) ?_
    refine lv_iload_n xx xb dX1_floorFalls_13 rfl (lv_at hl 0 rfl) ?_
    have hM := kX1_refuse l G h0 so to uo x5 x6 x7 x8 im lm rm sd rf (wbN vz 9) (by first | assumption | omega)
    refine cv_i C hw hM yvX1_refuse ml_X1_43 0 rfl rfl rfl [0, 6] rfl rfl (fun _ => (rfl : ([h0, x7] : List Nat) = [h0, x7])) (by decide) ⟨Nat.zero_le _, Nat.zero_le _⟩ hl.1 rfl (Nat.le_of_ble_eq_true rfl) dX1_floorFalls_14 (fun r _ H locs hr hw => ?_)
    have hw : Wd G (fA [(h0, .inr (1, [.ref so, .ref to, .ref uo, .int (nI im), .ref x5, .int (nI lm), .ref x6, .int (nI rm), .ref x7, .ref x8, .int sd])), (so, .inr (0, [.int (nI (sN R)), .int (nI (R 0 1)), .int (nI (sF R)), .int (nI (sS R)), .int (nI (sL R)), .ref ak, .ref af, .ref ab, .ref aa])), (ak, aI G 10 (sK R)), (af, aI G 10 (sG R)), (ab, aI G 10 (sO R)), (aa, aI G 10 (sA R)), (x7, aI G 7 (cN rf))]) s [(h0, .inr (1, [.ref so, .ref to, .ref uo, .int (nI im), .ref x5, .int (nI lm), .ref x6, .int (nI rm), .ref x7, .ref x8, .int sd])), (so, .inr (0, [.int (nI (sN R)), .int (nI (R 0 1)), .int (nI (sF R)), .int (nI (sS R)), .int (nI (sL R)), .ref ak, .ref af, .ref ab, .ref aa])), (ak, aI G 10 (sK R)), (af, aI G 10 (sG R)), (ab, aI G 10 (sO R)), (aa, aI G 10 (sA R)), (x7, aI G 7 (cN (upN rf (wbN vz 9) (rf (wbN vz 9) + 1))))] H locs := hw
    subst hr
    have hc : wbN vz 9 = (wbN vz 9) := by first | assumption | rfl
    have hj : (wbN vz 9) ≠ 0 := by omega
    exact rt_i C hw () (by exact (anI_r hc hj _).symm) (by rw [rfU_r hc hj]) dX1_floorFalls_17
set_option maxRecDepth 100000 in
set_option maxHeartbeats 4000000 in
theorem kX1_watched (l : Launch) (G : GT) (h0 : Nat) (so : Nat) (to : Nat) (uo : Nat) (x5 : Nat) (x6 : Nat) (x7 : Nat) (x8 : Nat) (im : Nat) (lm : Nat) (rm : Nat) (sd : Int32) (rf : Nat → Nat) (ak : Nat) (af : Nat) (ab : Nat) (aa : Nat) (R : RT) (ww : Int32) (wwz : Int) (h_ww : ww.toInt = wwz) (hR : OK R) (hp : R 0 3 = 0) : Ct l yX1_watched cX1_watched 3 (some .int) 2 43 [.ref h0, .int ww] G [(h0, .inr (1, [.ref so, .ref to, .ref uo, .int (nI im), .ref x5, .int (nI lm), .ref x6, .int (nI rm), .ref x7, .ref x8, .int sd])), (so, .inr (0, [.int (nI (sN R)), .int (nI (R 0 1)), .int (nI (sF R)), .int (nI (sS R)), .int (nI (sL R)), .ref ak, .ref af, .ref ab, .ref aa])), (ak, aI G 10 (sK R)), (af, aI G 10 (sG R)), (ab, aI G 10 (sO R)), (aa, aI G 10 (sA R)), (x7, aI G 7 (cN rf))] (QI G [(h0, .inr (1, [.ref so, .ref to, .ref uo, .int (nI im), .ref x5, .int (nI lm), .ref x6, .int (nI rm), .ref x7, .ref x8, .int sd])), (so, .inr (0, [.int (nI (sN R)), .int (nI (R 0 1)), .int (nI (sF R)), .int (nI (sS R)), .int (nI (sL R)), .ref ak, .ref af, .ref ab, .ref aa])), (ak, aI G 10 (sK R)), (af, aI G 10 (sG R)), (ab, aI G 10 (sO R)), (aa, aI G 10 (sA R)), (x7, aI G 7 (cN rf))] (fun (r : Int32) (u : Unit) => r = anI (cWhat wwz) (vWat R wwz)) (fun u => [(h0, .inr (1, [.ref so, .ref to, .ref uo, .int (nI im), .ref x5, .int (nI lm), .ref x6, .int (nI rm), .ref x7, .ref x8, .int sd])), (so, .inr (0, [.int (nI (sN R)), .int (nI (R 0 1)), .int (nI (sF R)), .int (nI (sS R)), .int (nI (sL R)), .ref ak, .ref af, .ref ab, .ref aa])), (ak, aI G 10 (sK R)), (af, aI G 10 (sG R)), (ab, aI G 10 (sO R)), (aa, aI G 10 (sA R)), (x7, aI G 7 (cN (rfU rf (cWhat wwz))))])) := by
  refine en (by decide +kernel) (Nat.le_of_ble_eq_true rfl) ?_
  intro p e s m below meth c ls H locs C hl hw
  have xx := C.1
  have xb := C.2.1
  have hw : Wd G (fA [(h0, .inr (1, [.ref so, .ref to, .ref uo, .int (nI im), .ref x5, .int (nI lm), .ref x6, .int (nI rm), .ref x7, .ref x8, .int sd])), (so, .inr (0, [.int (nI (sN R)), .int (nI (R 0 1)), .int (nI (sF R)), .int (nI (sS R)), .int (nI (sL R)), .ref ak, .ref af, .ref ab, .ref aa])), (ak, aI G 10 (sK R)), (af, aI G 10 (sG R)), (ab, aI G 10 (sO R)), (aa, aI G 10 (sA R)), (x7, aI G 7 (cN rf))]) s [(h0, .inr (1, [.ref so, .ref to, .ref uo, .int (nI im), .ref x5, .int (nI lm), .ref x6, .int (nI rm), .ref x7, .ref x8, .int sd])), (so, .inr (0, [.int (nI (sN R)), .int (nI (R 0 1)), .int (nI (sF R)), .int (nI (sS R)), .int (nI (sL R)), .ref ak, .ref af, .ref ab, .ref aa])), (ak, aI G 10 (sK R)), (af, aI G 10 (sG R)), (ab, aI G 10 (sO R)), (aa, aI G 10 (sA R)), (x7, aI G 7 (cN rf))] H locs := hw
  have hl : lv_has ls 3 [(0, .ref h0), (1, .int ww)] := hl
  obtain ⟨hn, hf0, hpr, hA⟩ := id hR
  have hc2 := cWhat_le wwz
  refine lv_iload_n xx xb dX1_watched_0 rfl (lv_at hl 1 rfl) ?_
  refine lv_iconst (v := nI 1) xx xb dX1_watched_1 (by decide) ?_
  have hM := kX1_otherThan l G ww wwz (nI 1) 1 h_ww (tN (by omega))
  refine cs_i C hw hM ysX1_otherThan ml_X1_51 rfl [] rfl rfl (fun _ => (rfl : ([] : List Nat) = [])) (by decide) ⟨Nat.zero_le _, Nat.zero_le _⟩ hl.1 rfl (Nat.le_of_ble_eq_true rfl) dX1_watched_2 (fun r _ H locs hr hw => ?_)
  have hw : Wd G (fA [(h0, .inr (1, [.ref so, .ref to, .ref uo, .int (nI im), .ref x5, .int (nI lm), .ref x6, .int (nI rm), .ref x7, .ref x8, .int sd])), (so, .inr (0, [.int (nI (sN R)), .int (nI (R 0 1)), .int (nI (sF R)), .int (nI (sS R)), .int (nI (sL R)), .ref ak, .ref af, .ref ab, .ref aa])), (ak, aI G 10 (sK R)), (af, aI G 10 (sG R)), (ab, aI G 10 (sO R)), (aa, aI G 10 (sA R)), (x7, aI G 7 (cN rf))]) s [(h0, .inr (1, [.ref so, .ref to, .ref uo, .int (nI im), .ref x5, .int (nI lm), .ref x6, .int (nI rm), .ref x7, .ref x8, .int sd])), (so, .inr (0, [.int (nI (sN R)), .int (nI (R 0 1)), .int (nI (sF R)), .int (nI (sS R)), .int (nI (sL R)), .ref ak, .ref af, .ref ab, .ref aa])), (ak, aI G 10 (sK R)), (af, aI G 10 (sG R)), (ab, aI G 10 (sO R)), (aa, aI G 10 (sA R)), (x7, aI G 7 (cN rf))] H locs := hw
  subst hr
  refine re_i (nG (cWhat wwz)) (congrArg nG rfl) ?_
  refine lv_istore_n (lv' := [(2, .int (nG (cWhat wwz))), (0, .ref h0), (1, .int ww)]) xx xb dX1_watched_5 rfl hl (by decide) rfl (fun ls hl => ?_)
  refine lv_iload_n xx xb dX1_watched_6 rfl (lv_at hl 0 rfl) ?_
  refine lv_if_eq (tgt := 16) xx xb dX1_watched_7 (by decide) (fun c_7 => ?_) (fun c_7 => ?_)
  · skip
    have c_7 := g0_c (by omega) c_7
    refine lv_iload_n xx xb dX1_watched_16 rfl (lv_at hl 2 rfl) ?_
    refine lv_if_ne (tgt := 30) xx xb dX1_watched_17 (by decide) (fun c_17 => ?_) (fun c_17 => ?_)
    · skip
      have c_17 := ne_c h_ww Int32.toInt_zero c_17
      refine lv_aload_n xx xb dX1_watched_30 rfl (lv_at hl 1 rfl) ?_
      refine m_get C hw 0 rfl fk_X1_10 rfl dX1_watched_31 ?_
      have hM := kX0_isSure l G so ak af ab aa (R 0 1) R (by first | assumption | omega) (by first | assumption | omega)
      refine cv_i C hw hM yvX0_isSure ml_X1_182 1 rfl rfl rfl [1, 2, 3, 4, 5] rfl rfl (fun _ => (rfl : ([so, ak, af, ab, aa] : List Nat) = [so, ak, af, ab, aa])) (by decide) ⟨Nat.zero_le _, Nat.zero_le _⟩ hl.1 rfl (Nat.le_of_ble_eq_true rfl) dX1_watched_34 (fun r _ H locs hr hw => ?_)
      have hw : Wd G (fA [(h0, .inr (1, [.ref so, .ref to, .ref uo, .int (nI im), .ref x5, .int (nI lm), .ref x6, .int (nI rm), .ref x7, .ref x8, .int sd])), (so, .inr (0, [.int (nI (sN R)), .int (nI (R 0 1)), .int (nI (sF R)), .int (nI (sS R)), .int (nI (sL R)), .ref ak, .ref af, .ref ab, .ref aa])), (ak, aI G 10 (sK R)), (af, aI G 10 (sG R)), (ab, aI G 10 (sO R)), (aa, aI G 10 (sA R)), (x7, aI G 7 (cN rf))]) s [(h0, .inr (1, [.ref so, .ref to, .ref uo, .int (nI im), .ref x5, .int (nI lm), .ref x6, .int (nI rm), .ref x7, .ref x8, .int sd])), (so, .inr (0, [.int (nI (sN R)), .int (nI (R 0 1)), .int (nI (sF R)), .int (nI (sS R)), .int (nI (sL R)), .ref ak, .ref af, .ref ab, .ref aa])), (ak, aI G 10 (sK R)), (af, aI G 10 (sG R)), (ab, aI G 10 (sO R)), (aa, aI G 10 (sA R)), (x7, aI G 7 (cN rf))] H locs := hw
      subst hr
      have hM := kX1_bit l G (if surB R (R 0 0) = true then 1 else 0) (b01 _)
      refine cs_i C hw hM ysX1_bit ml_X1_83 rfl [] rfl rfl (fun _ => (rfl : ([] : List Nat) = [])) (by decide) ⟨Nat.zero_le _, Nat.zero_le _⟩ hl.1 rfl (Nat.le_of_ble_eq_true rfl) dX1_watched_37 (fun r _ H locs hr hw => ?_)
      have hw : Wd G (fA [(h0, .inr (1, [.ref so, .ref to, .ref uo, .int (nI im), .ref x5, .int (nI lm), .ref x6, .int (nI rm), .ref x7, .ref x8, .int sd])), (so, .inr (0, [.int (nI (sN R)), .int (nI (R 0 1)), .int (nI (sF R)), .int (nI (sS R)), .int (nI (sL R)), .ref ak, .ref af, .ref ab, .ref aa])), (ak, aI G 10 (sK R)), (af, aI G 10 (sG R)), (ab, aI G 10 (sO R)), (aa, aI G 10 (sA R)), (x7, aI G 7 (cN rf))]) s [(h0, .inr (1, [.ref so, .ref to, .ref uo, .int (nI im), .ref x5, .int (nI lm), .ref x6, .int (nI rm), .ref x7, .ref x8, .int sd])), (so, .inr (0, [.int (nI (sN R)), .int (nI (R 0 1)), .int (nI (sF R)), .int (nI (sS R)), .int (nI (sL R)), .ref ak, .ref af, .ref ab, .ref aa])), (ak, aI G 10 (sK R)), (af, aI G 10 (sG R)), (ab, aI G 10 (sO R)), (aa, aI G 10 (sA R)), (x7, aI G 7 (cN rf))] H locs := hw
      subst hr
      refine re_i (vWat R wwz) ((vWat_1 (by omega)).symm) ?_
      have hc : cWhat wwz = 0 := by first | assumption | rfl
      exact rt_i C hw () (by exact (anI_0 hc _).symm) (by rw [rfU_0 hc]) dX1_watched_40
    · skip
      have c_17 := eq_c h_ww Int32.toInt_zero c_17
      refine lv_aload_n xx xb dX1_watched_20 rfl (lv_at hl 1 rfl) ?_
      refine m_get C hw 0 rfl fk_X1_10 rfl dX1_watched_21 ?_
      have hM := kX0_countWatching l G so ak af ab aa (R 0 1) R (by first | assumption | omega)
      refine cv_i C hw hM yvX0_countWatching ml_X1_179 1 rfl rfl rfl [1, 2, 3, 4, 5] rfl rfl (fun _ => (rfl : ([so, ak, af, ab, aa] : List Nat) = [so, ak, af, ab, aa])) (by decide) ⟨Nat.zero_le _, Nat.zero_le _⟩ hl.1 rfl (Nat.le_of_ble_eq_true rfl) dX1_watched_24 (fun r _ H locs hr hw => ?_)
      have hw : Wd G (fA [(h0, .inr (1, [.ref so, .ref to, .ref uo, .int (nI im), .ref x5, .int (nI lm), .ref x6, .int (nI rm), .ref x7, .ref x8, .int sd])), (so, .inr (0, [.int (nI (sN R)), .int (nI (R 0 1)), .int (nI (sF R)), .int (nI (sS R)), .int (nI (sL R)), .ref ak, .ref af, .ref ab, .ref aa])), (ak, aI G 10 (sK R)), (af, aI G 10 (sG R)), (ab, aI G 10 (sO R)), (aa, aI G 10 (sA R)), (x7, aI G 7 (cN rf))]) s [(h0, .inr (1, [.ref so, .ref to, .ref uo, .int (nI im), .ref x5, .int (nI lm), .ref x6, .int (nI rm), .ref x7, .ref x8, .int sd])), (so, .inr (0, [.int (nI (sN R)), .int (nI (R 0 1)), .int (nI (sF R)), .int (nI (sS R)), .int (nI (sL R)), .ref ak, .ref af, .ref ab, .ref aa])), (ak, aI G 10 (sK R)), (af, aI G 10 (sG R)), (ab, aI G 10 (sO R)), (aa, aI G 10 (sA R)), (x7, aI G 7 (cN rf))] H locs := hw
      subst hr
      refine re_i (vWat R wwz) ((vWat_0 (by omega)).symm) ?_
      refine lv_goto (tgt := 40) xx xb dX1_watched_27 (by decide) ?_
      have hc : cWhat wwz = 0 := by first | assumption | rfl
      exact rt_i C hw () (by exact (anI_0 hc _).symm) (by rw [rfU_0 hc]) dX1_watched_40
  · skip
    have c_7 := g0_n c_7
    refine lv_aload_n xx xb dX1_watched_10 rfl (lv_at hl 1 rfl) ?_
    refine lv_iload_n xx xb dX1_watched_11 rfl (lv_at hl 0 rfl) ?_
    have hM := kX1_refuse l G h0 so to uo x5 x6 x7 x8 im lm rm sd rf (cWhat wwz) (by first | assumption | omega)
    refine cv_i C hw hM yvX1_refuse ml_X1_43 0 rfl rfl rfl [0, 6] rfl rfl (fun _ => (rfl : ([h0, x7] : List Nat) = [h0, x7])) (by decide) ⟨Nat.zero_le _, Nat.zero_le _⟩ hl.1 rfl (Nat.le_of_ble_eq_true rfl) dX1_watched_12 (fun r _ H locs hr hw => ?_)
    have hw : Wd G (fA [(h0, .inr (1, [.ref so, .ref to, .ref uo, .int (nI im), .ref x5, .int (nI lm), .ref x6, .int (nI rm), .ref x7, .ref x8, .int sd])), (so, .inr (0, [.int (nI (sN R)), .int (nI (R 0 1)), .int (nI (sF R)), .int (nI (sS R)), .int (nI (sL R)), .ref ak, .ref af, .ref ab, .ref aa])), (ak, aI G 10 (sK R)), (af, aI G 10 (sG R)), (ab, aI G 10 (sO R)), (aa, aI G 10 (sA R)), (x7, aI G 7 (cN rf))]) s [(h0, .inr (1, [.ref so, .ref to, .ref uo, .int (nI im), .ref x5, .int (nI lm), .ref x6, .int (nI rm), .ref x7, .ref x8, .int sd])), (so, .inr (0, [.int (nI (sN R)), .int (nI (R 0 1)), .int (nI (sF R)), .int (nI (sS R)), .int (nI (sL R)), .ref ak, .ref af, .ref ab, .ref aa])), (ak, aI G 10 (sK R)), (af, aI G 10 (sG R)), (ab, aI G 10 (sO R)), (aa, aI G 10 (sA R)), (x7, aI G 7 (cN (upN rf (cWhat wwz) (rf (cWhat wwz) + 1))))] H locs := hw
    subst hr
    have hc : cWhat wwz = (cWhat wwz) := by first | assumption | rfl
    have hj : (cWhat wwz) ≠ 0 := by omega
    exact rt_i C hw () (by exact (anI_r hc hj _).symm) (by rw [rfU_r hc hj]) dX1_watched_15
set_option maxRecDepth 100000 in
set_option maxHeartbeats 4000000 in
theorem kX1_rebuild (l : Launch) (G : GT) (h0 : Nat) (so : Nat) (to : Nat) (uo : Nat) (x5 : Nat) (x6 : Nat) (x7 : Nat) (x8 : Nat) (im : Nat) (lm : Nat) (rm : Nat) (sd : Int32) (rf : Nat → Nat) (ak : Nat) (af : Nat) (ab : Nat) (aa : Nat) (R : RT) (tk : Nat) (tf : Nat) (tb : Nat) (ta : Nat) (m0 : Nat) (S : RT) (ww : Int32) (wwz : Int) (h_ww : ww.toInt = wwz) (hR : OK R) (hK : AK R) (hp : R 0 3 = 0) : Ct l yX1_rebuild cX1_rebuild 6 (some .int) 2 51 [.ref h0, .int ww] G [(h0, .inr (1, [.ref so, .ref to, .ref uo, .int (nI im), .ref x5, .int (nI lm), .ref x6, .int (nI rm), .ref x7, .ref x8, .int sd])), (so, .inr (0, [.int (nI (sN R)), .int (nI (R 0 1)), .int (nI (sF R)), .int (nI (sS R)), .int (nI (sL R)), .ref ak, .ref af, .ref ab, .ref aa])), (ak, aI G 10 (sK R)), (af, aI G 10 (sG R)), (ab, aI G 10 (sO R)), (aa, aI G 10 (sA R)), (to, .inr (0, [.int (nI (sN S)), .int (nI m0), .int (nI (sF S)), .int (nI (sS S)), .int (nI (sL S)), .ref tk, .ref tf, .ref tb, .ref ta])), (tk, aI G 10 (sK S)), (tf, aI G 10 (sG S)), (tb, aI G 10 (sO S)), (ta, aI G 10 (sA S)), (x7, aI G 7 (cN rf))] (QI G [(h0, .inr (1, [.ref so, .ref to, .ref uo, .int (nI im), .ref x5, .int (nI lm), .ref x6, .int (nI rm), .ref x7, .ref x8, .int sd])), (so, .inr (0, [.int (nI (sN R)), .int (nI (R 0 1)), .int (nI (sF R)), .int (nI (sS R)), .int (nI (sL R)), .ref ak, .ref af, .ref ab, .ref aa])), (ak, aI G 10 (sK R)), (af, aI G 10 (sG R)), (ab, aI G 10 (sO R)), (aa, aI G 10 (sA R)), (to, .inr (0, [.int (nI (sN S)), .int (nI m0), .int (nI (sF S)), .int (nI (sS S)), .int (nI (sL S)), .ref tk, .ref tf, .ref tb, .ref ta])), (tk, aI G 10 (sK S)), (tf, aI G 10 (sG S)), (tb, aI G 10 (sO S)), (ta, aI G 10 (sA S)), (x7, aI G 7 (cN rf))] (fun (r : Int32) (u : Nat × RT) => r = anI (cWhat wwz) (vReb R wwz)) (fun u => [(h0, .inr (1, [.ref so, .ref to, .ref uo, .int (nI im), .ref x5, .int (nI lm), .ref x6, .int (nI rm), .ref x7, .ref x8, .int sd])), (so, .inr (0, [.int (nI (sN R)), .int (nI (R 0 1)), .int (nI (sF R)), .int (nI (sS R)), .int (nI (sL R)), .ref ak, .ref af, .ref ab, .ref aa])), (ak, aI G 10 (sK R)), (af, aI G 10 (sG R)), (ab, aI G 10 (sO R)), (aa, aI G 10 (sA R)), (to, .inr (0, [.int (nI (sN u.2)), .int (nI u.1), .int (nI (sF u.2)), .int (nI (sS u.2)), .int (nI (sL u.2)), .ref tk, .ref tf, .ref tb, .ref ta])), (tk, aI G 10 (sK u.2)), (tf, aI G 10 (sG u.2)), (tb, aI G 10 (sO u.2)), (ta, aI G 10 (sA u.2)), (x7, aI G 7 (cN (rfU rf (cWhat wwz))))])) := by
  refine en (by decide +kernel) (Nat.le_of_ble_eq_true rfl) ?_
  intro p e s m below meth c ls H locs C hl hw
  have xx := C.1
  have xb := C.2.1
  have hw : Wd G (fA [(h0, .inr (1, [.ref so, .ref to, .ref uo, .int (nI im), .ref x5, .int (nI lm), .ref x6, .int (nI rm), .ref x7, .ref x8, .int sd])), (so, .inr (0, [.int (nI (sN R)), .int (nI (R 0 1)), .int (nI (sF R)), .int (nI (sS R)), .int (nI (sL R)), .ref ak, .ref af, .ref ab, .ref aa])), (ak, aI G 10 (sK R)), (af, aI G 10 (sG R)), (ab, aI G 10 (sO R)), (aa, aI G 10 (sA R)), (to, .inr (0, [.int (nI (sN S)), .int (nI m0), .int (nI (sF S)), .int (nI (sS S)), .int (nI (sL S)), .ref tk, .ref tf, .ref tb, .ref ta])), (tk, aI G 10 (sK S)), (tf, aI G 10 (sG S)), (tb, aI G 10 (sO S)), (ta, aI G 10 (sA S)), (x7, aI G 7 (cN rf))]) s [(h0, .inr (1, [.ref so, .ref to, .ref uo, .int (nI im), .ref x5, .int (nI lm), .ref x6, .int (nI rm), .ref x7, .ref x8, .int sd])), (so, .inr (0, [.int (nI (sN R)), .int (nI (R 0 1)), .int (nI (sF R)), .int (nI (sS R)), .int (nI (sL R)), .ref ak, .ref af, .ref ab, .ref aa])), (ak, aI G 10 (sK R)), (af, aI G 10 (sG R)), (ab, aI G 10 (sO R)), (aa, aI G 10 (sA R)), (to, .inr (0, [.int (nI (sN S)), .int (nI m0), .int (nI (sF S)), .int (nI (sS S)), .int (nI (sL S)), .ref tk, .ref tf, .ref tb, .ref ta])), (tk, aI G 10 (sK S)), (tf, aI G 10 (sG S)), (tb, aI G 10 (sO S)), (ta, aI G 10 (sA S)), (x7, aI G 7 (cN rf))] H locs := hw
  have hl : lv_has ls 6 [(0, .ref h0), (1, .int ww)] := hl
  obtain ⟨hn, hf0, hpr, hA⟩ := id hR
  have hc2 := cWhat_le wwz
  refine lv_iload_n xx xb dX1_rebuild_0 rfl (lv_at hl 1 rfl) ?_
  refine lv_iconst (v := nI 1) xx xb dX1_rebuild_1 (by decide) ?_
  have hM := kX1_otherThan l G ww wwz (nI 1) 1 h_ww (tN (by omega))
  refine cs_i C hw hM ysX1_otherThan ml_X1_51 rfl [] rfl rfl (fun _ => (rfl : ([] : List Nat) = [])) (by decide) ⟨Nat.zero_le _, Nat.zero_le _⟩ hl.1 rfl (Nat.le_of_ble_eq_true rfl) dX1_rebuild_2 (fun r _ H locs hr hw => ?_)
  have hw : Wd G (fA [(h0, .inr (1, [.ref so, .ref to, .ref uo, .int (nI im), .ref x5, .int (nI lm), .ref x6, .int (nI rm), .ref x7, .ref x8, .int sd])), (so, .inr (0, [.int (nI (sN R)), .int (nI (R 0 1)), .int (nI (sF R)), .int (nI (sS R)), .int (nI (sL R)), .ref ak, .ref af, .ref ab, .ref aa])), (ak, aI G 10 (sK R)), (af, aI G 10 (sG R)), (ab, aI G 10 (sO R)), (aa, aI G 10 (sA R)), (to, .inr (0, [.int (nI (sN S)), .int (nI m0), .int (nI (sF S)), .int (nI (sS S)), .int (nI (sL S)), .ref tk, .ref tf, .ref tb, .ref ta])), (tk, aI G 10 (sK S)), (tf, aI G 10 (sG S)), (tb, aI G 10 (sO S)), (ta, aI G 10 (sA S)), (x7, aI G 7 (cN rf))]) s [(h0, .inr (1, [.ref so, .ref to, .ref uo, .int (nI im), .ref x5, .int (nI lm), .ref x6, .int (nI rm), .ref x7, .ref x8, .int sd])), (so, .inr (0, [.int (nI (sN R)), .int (nI (R 0 1)), .int (nI (sF R)), .int (nI (sS R)), .int (nI (sL R)), .ref ak, .ref af, .ref ab, .ref aa])), (ak, aI G 10 (sK R)), (af, aI G 10 (sG R)), (ab, aI G 10 (sO R)), (aa, aI G 10 (sA R)), (to, .inr (0, [.int (nI (sN S)), .int (nI m0), .int (nI (sF S)), .int (nI (sS S)), .int (nI (sL S)), .ref tk, .ref tf, .ref tb, .ref ta])), (tk, aI G 10 (sK S)), (tf, aI G 10 (sG S)), (tb, aI G 10 (sO S)), (ta, aI G 10 (sA S)), (x7, aI G 7 (cN rf))] H locs := hw
  subst hr
  refine re_i (nG (cWhat wwz)) (congrArg nG rfl) ?_
  refine lv_istore_n (lv' := [(2, .int (nG (cWhat wwz))), (0, .ref h0), (1, .int ww)]) xx xb dX1_rebuild_5 rfl hl (by decide) rfl (fun ls hl => ?_)
  refine lv_iload_n xx xb dX1_rebuild_6 rfl (lv_at hl 0 rfl) ?_
  refine lv_if_eq (tgt := 16) xx xb dX1_rebuild_7 (by decide) (fun c_7 => ?_) (fun c_7 => ?_)
  · skip
    have c_7 := g0_c (by omega) c_7
    refine lv_iload_n xx xb dX1_rebuild_16 rfl (lv_at hl 2 rfl) ?_
    refine lv_if_ne (tgt := 28) xx xb dX1_rebuild_17 (by decide) (fun c_17 => ?_) (fun c_17 => ?_)
    · skip
      have c_17 := ne_c h_ww Int32.toInt_zero c_17
      refine lv_aload_n xx xb dX1_rebuild_28 rfl (lv_at hl 1 rfl) ?_
      refine m_get C hw 0 rfl fk_X1_16 rfl dX1_rebuild_29 ?_
      refine lv_aload_n xx xb dX1_rebuild_32 rfl (lv_at hl 1 rfl) ?_
      refine m_get C hw 0 rfl fk_X1_10 rfl dX1_rebuild_33 ?_
      have hM := kX0_copyFrom l G to tk tf tb ta m0 S so ak af ab aa (R 0 1) R (by first | assumption | omega)
      refine cv_v C hw hM yvX0_copyFrom ml_X1_131 6 rfl rfl rfl [6, 7, 8, 9, 10, 1, 2, 3, 4, 5] rfl rfl (fun _ => (rfl : ([to, tk, tf, tb, ta, so, ak, af, ab, aa] : List Nat) = [to, tk, tf, tb, ta, so, ak, af, ab, aa])) (by decide) ⟨Nat.zero_le _, Nat.zero_le _⟩ hl.1 rfl (Nat.le_of_ble_eq_true rfl) dX1_rebuild_36 (fun _ H locs hr hw => ?_)
      have hw : Wd G (fA [(h0, .inr (1, [.ref so, .ref to, .ref uo, .int (nI im), .ref x5, .int (nI lm), .ref x6, .int (nI rm), .ref x7, .ref x8, .int sd])), (so, .inr (0, [.int (nI (sN R)), .int (nI (R 0 1)), .int (nI (sF R)), .int (nI (sS R)), .int (nI (sL R)), .ref ak, .ref af, .ref ab, .ref aa])), (ak, aI G 10 (sK R)), (af, aI G 10 (sG R)), (ab, aI G 10 (sO R)), (aa, aI G 10 (sA R)), (to, .inr (0, [.int (nI (sN S)), .int (nI m0), .int (nI (sF S)), .int (nI (sS S)), .int (nI (sL S)), .ref tk, .ref tf, .ref tb, .ref ta])), (tk, aI G 10 (sK S)), (tf, aI G 10 (sG S)), (tb, aI G 10 (sO S)), (ta, aI G 10 (sA S)), (x7, aI G 7 (cN rf))]) s [(h0, .inr (1, [.ref so, .ref to, .ref uo, .int (nI im), .ref x5, .int (nI lm), .ref x6, .int (nI rm), .ref x7, .ref x8, .int sd])), (so, .inr (0, [.int (nI (sN R)), .int (nI (R 0 1)), .int (nI (sF R)), .int (nI (sS R)), .int (nI (sL R)), .ref ak, .ref af, .ref ab, .ref aa])), (ak, aI G 10 (sK R)), (af, aI G 10 (sG R)), (ab, aI G 10 (sO R)), (aa, aI G 10 (sA R)), (to, .inr (0, [.int (nI (sN R)), .int (nI (R 0 1)), .int (nI (sF R)), .int (nI (sS R)), .int (nI (sL R)), .ref tk, .ref tf, .ref tb, .ref ta])), (tk, aI G 10 (sK R)), (tf, aI G 10 (sG R)), (tb, aI G 10 (sO R)), (ta, aI G 10 (sA R)), (x7, aI G 7 (cN rf))] H locs := hw
      refine lv_iconst (v := nI 0) xx xb dX1_rebuild_39 (by decide) ?_
      refine lv_istore_n (lv' := [(3, .int (nI 0)), (2, .int (nG (cWhat wwz))), (0, .ref h0), (1, .int ww)]) xx xb dX1_rebuild_40 rfl hl (by decide) rfl (fun ls hl => ?_)
      refine lv_iconst (v := nI 0) xx xb dX1_rebuild_41 (by decide) ?_
      refine lv_istore (lv' := [(4, .int (nI 0)), (3, .int (nI 0)), (2, .int (nG (cWhat wwz))), (0, .ref h0), (1, .int ww)]) xx xb dX1_rebuild_42 hl (by decide) rfl (fun ls hl => ?_)
      have L_44 : ∀ (fu : Nat) (i : Nat) (T : RT) (H : Heap) (locs : List Loc) (ls : Array Slot), 10 - i < fu → (i ≤ 10) → (OK T) → (T 0 3 = 0) → (rcN (10 - i) T + i = rcN 10 R) → Wd G (fA [(h0, .inr (1, [.ref so, .ref to, .ref uo, .int (nI im), .ref x5, .int (nI lm), .ref x6, .int (nI rm), .ref x7, .ref x8, .int sd])), (so, .inr (0, [.int (nI (sN R)), .int (nI (R 0 1)), .int (nI (sF R)), .int (nI (sS R)), .int (nI (sL R)), .ref ak, .ref af, .ref ab, .ref aa])), (ak, aI G 10 (sK R)), (af, aI G 10 (sG R)), (ab, aI G 10 (sO R)), (aa, aI G 10 (sA R)), (to, .inr (0, [.int (nI (sN S)), .int (nI m0), .int (nI (sF S)), .int (nI (sS S)), .int (nI (sL S)), .ref tk, .ref tf, .ref tb, .ref ta])), (tk, aI G 10 (sK S)), (tf, aI G 10 (sG S)), (tb, aI G 10 (sO S)), (ta, aI G 10 (sA S)), (x7, aI G 7 (cN rf))]) s [(h0, .inr (1, [.ref so, .ref to, .ref uo, .int (nI im), .ref x5, .int (nI lm), .ref x6, .int (nI rm), .ref x7, .ref x8, .int sd])), (so, .inr (0, [.int (nI (sN R)), .int (nI (R 0 1)), .int (nI (sF R)), .int (nI (sS R)), .int (nI (sL R)), .ref ak, .ref af, .ref ab, .ref aa])), (ak, aI G 10 (sK R)), (af, aI G 10 (sG R)), (ab, aI G 10 (sO R)), (aa, aI G 10 (sA R)), (to, .inr (0, [.int (nI (sN T)), .int (nI (R 0 1)), .int (nI (sF T)), .int (nI (sS T)), .int (nI (sL T)), .ref tk, .ref tf, .ref tb, .ref ta])), (tk, aI G 10 (sK T)), (tf, aI G 10 (sG T)), (tb, aI G 10 (sO T)), (ta, aI G 10 (sA T)), (x7, aI G 7 (cN rf))] H locs → lv_has ls 6 [(0, .ref h0), (1, .int ww), (3, .int (nI i)), (4, .int (nI i))] → W p l e ({ frames := 2, cells := 0, slots := 0, locals := 51 }) s m (([.ref h0, .int ww] : List Value).toArray) below meth c H locs 0 0 (MQ below (QI G [(h0, .inr (1, [.ref so, .ref to, .ref uo, .int (nI im), .ref x5, .int (nI lm), .ref x6, .int (nI rm), .ref x7, .ref x8, .int sd])), (so, .inr (0, [.int (nI (sN R)), .int (nI (R 0 1)), .int (nI (sF R)), .int (nI (sS R)), .int (nI (sL R)), .ref ak, .ref af, .ref ab, .ref aa])), (ak, aI G 10 (sK R)), (af, aI G 10 (sG R)), (ab, aI G 10 (sO R)), (aa, aI G 10 (sA R)), (to, .inr (0, [.int (nI (sN S)), .int (nI m0), .int (nI (sF S)), .int (nI (sS S)), .int (nI (sL S)), .ref tk, .ref tf, .ref tb, .ref ta])), (tk, aI G 10 (sK S)), (tf, aI G 10 (sG S)), (tb, aI G 10 (sO S)), (ta, aI G 10 (sA S)), (x7, aI G 7 (cN rf))] (fun (r : Int32) (u : Nat × RT) => r = anI (cWhat wwz) (vReb R wwz)) (fun u => [(h0, .inr (1, [.ref so, .ref to, .ref uo, .int (nI im), .ref x5, .int (nI lm), .ref x6, .int (nI rm), .ref x7, .ref x8, .int sd])), (so, .inr (0, [.int (nI (sN R)), .int (nI (R 0 1)), .int (nI (sF R)), .int (nI (sS R)), .int (nI (sL R)), .ref ak, .ref af, .ref ab, .ref aa])), (ak, aI G 10 (sK R)), (af, aI G 10 (sG R)), (ab, aI G 10 (sO R)), (aa, aI G 10 (sA R)), (to, .inr (0, [.int (nI (sN u.2)), .int (nI u.1), .int (nI (sF u.2)), .int (nI (sS u.2)), .int (nI (sL u.2)), .ref tk, .ref tf, .ref tb, .ref ta])), (tk, aI G 10 (sK u.2)), (tf, aI G 10 (sG u.2)), (tb, aI G 10 (sO u.2)), (ta, aI G 10 (sA u.2)), (x7, aI G 7 (cN (rfU rf (cWhat wwz))))])) (([.ref h0, .int ww] : List Value).toArray) s 0 0 (fA [(h0, .inr (1, [.ref so, .ref to, .ref uo, .int (nI im), .ref x5, .int (nI lm), .ref x6, .int (nI rm), .ref x7, .ref x8, .int sd])), (so, .inr (0, [.int (nI (sN R)), .int (nI (R 0 1)), .int (nI (sF R)), .int (nI (sS R)), .int (nI (sL R)), .ref ak, .ref af, .ref ab, .ref aa])), (ak, aI G 10 (sK R)), (af, aI G 10 (sG R)), (ab, aI G 10 (sO R)), (aa, aI G 10 (sA R)), (to, .inr (0, [.int (nI (sN S)), .int (nI m0), .int (nI (sF S)), .int (nI (sS S)), .int (nI (sL S)), .ref tk, .ref tf, .ref tb, .ref ta])), (tk, aI G 10 (sK S)), (tf, aI G 10 (sG S)), (tb, aI G 10 (sO S)), (ta, aI G 10 (sA S)), (x7, aI G 7 (cN rf))])) (F0 m 44 ls []) := by
        intro fu
        induction fu with
        | zero => intro i T H locs ls hfu; exact absurd hfu (Nat.not_lt_zero _)
        | succ fu ih_44 =>
          intro i T H locs ls hfu hi hT hTp hrc hw hl
          refine lv_iload xx xb dX1_rebuild_44 (lv_at hl 3 rfl) ?_
          refine lv_bipush (v := nI 10) xx xb dX1_rebuild_46 (by decide) ?_
          refine lv_icmp_ge (tgt := 87) xx xb dX1_rebuild_48 (by decide) (fun c_48 => ?_) (fun c_48 => ?_)
          · skip
            have c_48 := le_c (tN (by omega)) (tN (by omega)) c_48
            refine lv_iload_n xx xb dX1_rebuild_87 rfl (lv_at hl 2 rfl) ?_
            refine re_i (vReb R wwz) (by unfold vReb; rw [if_neg (by omega), ← hrc, show 10 - i = 0 by omega, show rcN 0 T = 0 from rfl, Nat.zero_add]) ?_
            have hc : cWhat wwz = 0 := by first | assumption | rfl
            exact rt_i C hw ((R 0 1), T) (by exact (anI_0 hc _).symm) (by rw [rfU_0 hc]) dX1_rebuild_88
          · skip
            have c_48 := nle_c (tN (by omega)) (tN (by omega)) c_48
            have hn2 := hT.1
            refine lv_aload_n xx xb dX1_rebuild_51 rfl (lv_at hl 0 rfl) ?_
            refine m_get C hw 0 rfl fk_X1_16 rfl dX1_rebuild_52 ?_
            have hM := kX0_firstToSetUp l G to tk tf tb ta (R 0 1) T hT hTp
            refine cv_i C hw hM yvX0_firstToSetUp ml_X1_186 6 rfl rfl rfl [6, 7, 8, 9, 10] rfl rfl (fun _ => (rfl : ([to, tk, tf, tb, ta] : List Nat) = [to, tk, tf, tb, ta])) (by decide) ⟨Nat.zero_le _, Nat.zero_le _⟩ hl.1 rfl (Nat.le_of_ble_eq_true rfl) dX1_rebuild_55 (fun r _ H locs hr hw => ?_)
            have hw : Wd G (fA [(h0, .inr (1, [.ref so, .ref to, .ref uo, .int (nI im), .ref x5, .int (nI lm), .ref x6, .int (nI rm), .ref x7, .ref x8, .int sd])), (so, .inr (0, [.int (nI (sN R)), .int (nI (R 0 1)), .int (nI (sF R)), .int (nI (sS R)), .int (nI (sL R)), .ref ak, .ref af, .ref ab, .ref aa])), (ak, aI G 10 (sK R)), (af, aI G 10 (sG R)), (ab, aI G 10 (sO R)), (aa, aI G 10 (sA R)), (to, .inr (0, [.int (nI (sN S)), .int (nI m0), .int (nI (sF S)), .int (nI (sS S)), .int (nI (sL S)), .ref tk, .ref tf, .ref tb, .ref ta])), (tk, aI G 10 (sK S)), (tf, aI G 10 (sG S)), (tb, aI G 10 (sO S)), (ta, aI G 10 (sA S)), (x7, aI G 7 (cN rf))]) s [(h0, .inr (1, [.ref so, .ref to, .ref uo, .int (nI im), .ref x5, .int (nI lm), .ref x6, .int (nI rm), .ref x7, .ref x8, .int sd])), (so, .inr (0, [.int (nI (sN R)), .int (nI (R 0 1)), .int (nI (sF R)), .int (nI (sS R)), .int (nI (sL R)), .ref ak, .ref af, .ref ab, .ref aa])), (ak, aI G 10 (sK R)), (af, aI G 10 (sG R)), (ab, aI G 10 (sO R)), (aa, aI G 10 (sA R)), (to, .inr (0, [.int (nI (sN T)), .int (nI (R 0 1)), .int (nI (sF T)), .int (nI (sS T)), .int (nI (sL T)), .ref tk, .ref tf, .ref tb, .ref ta])), (tk, aI G 10 (sK T)), (tf, aI G 10 (sG T)), (tb, aI G 10 (sO T)), (ta, aI G 10 (sA T)), (x7, aI G 7 (cN rf))] H locs := hw
            subst hr
            refine lv_istore (lv' := [(5, .int (onI (rbO T))), (0, .ref h0), (1, .int ww), (3, .int (nI i)), (4, .int (nI i))]) xx xb dX1_rebuild_58 hl (by decide) rfl (fun ls hl => ?_)
            have hbo := rbO_le T hT
            refine lv_iload xx xb dX1_rebuild_60 (lv_at hl 0 rfl) ?_
            refine lv_bipush (v := (-9)) xx xb dX1_rebuild_62 (by decide) ?_
            refine lv_icmp_ne (tgt := 69) xx xb dX1_rebuild_64 (by decide) (fun c_64 => ?_) (fun c_64 => ?_)
            · skip
              have c_64 := (mt (onI_inj (f := 10) (by omega) (by omega)).mpr c_64)
              have hbl := rbO_lt c_64
              refine lv_aload_n xx xb dX1_rebuild_69 rfl (lv_at hl 1 rfl) ?_
              refine m_get C hw 0 rfl fk_X1_16 rfl dX1_rebuild_70 ?_
              refine lv_iload xx xb dX1_rebuild_73 (lv_at hl 0 rfl) ?_
              refine re_i (nI (rbO T)) (onI_lt (by omega)) ?_
              have hM := kX0_setUp l G to tk tf tb ta (R 0 1) T (rbO T) hT hbl.1
              refine cv_v C hw hM yvX0_setUp ml_X1_111 6 rfl rfl rfl [6, 7, 8, 9, 10] rfl rfl (fun _ => (rfl : ([to, tk, tf, tb, ta] : List Nat) = [to, tk, tf, tb, ta])) (by decide) ⟨Nat.zero_le _, Nat.zero_le _⟩ hl.1 rfl (Nat.le_of_ble_eq_true rfl) dX1_rebuild_75 (fun _ H locs hr hw => ?_)
              have hw : Wd G (fA [(h0, .inr (1, [.ref so, .ref to, .ref uo, .int (nI im), .ref x5, .int (nI lm), .ref x6, .int (nI rm), .ref x7, .ref x8, .int sd])), (so, .inr (0, [.int (nI (sN R)), .int (nI (R 0 1)), .int (nI (sF R)), .int (nI (sS R)), .int (nI (sL R)), .ref ak, .ref af, .ref ab, .ref aa])), (ak, aI G 10 (sK R)), (af, aI G 10 (sG R)), (ab, aI G 10 (sO R)), (aa, aI G 10 (sA R)), (to, .inr (0, [.int (nI (sN S)), .int (nI m0), .int (nI (sF S)), .int (nI (sS S)), .int (nI (sL S)), .ref tk, .ref tf, .ref tb, .ref ta])), (tk, aI G 10 (sK S)), (tf, aI G 10 (sG S)), (tb, aI G 10 (sO S)), (ta, aI G 10 (sA S)), (x7, aI G 7 (cN rf))]) s [(h0, .inr (1, [.ref so, .ref to, .ref uo, .int (nI im), .ref x5, .int (nI lm), .ref x6, .int (nI rm), .ref x7, .ref x8, .int sd])), (so, .inr (0, [.int (nI (sN R)), .int (nI (R 0 1)), .int (nI (sF R)), .int (nI (sS R)), .int (nI (sL R)), .ref ak, .ref af, .ref ab, .ref aa])), (ak, aI G 10 (sK R)), (af, aI G 10 (sG R)), (ab, aI G 10 (sO R)), (aa, aI G 10 (sA R)), (to, .inr (0, [.int (nI (sN (setU T (rbO T)))), .int (nI (R 0 1)), .int (nI (sF (setU T (rbO T)))), .int (nI (sS (setU T (rbO T)))), .int (nI (sL (setU T (rbO T)))), .ref tk, .ref tf, .ref tb, .ref ta])), (tk, aI G 10 (sK (setU T (rbO T)))), (tf, aI G 10 (sG (setU T (rbO T)))), (tb, aI G 10 (sO (setU T (rbO T)))), (ta, aI G 10 (sA (setU T (rbO T)))), (x7, aI G 7 (cN rf))] H locs := hw
              have hrc2 : rcN (10 - (i + 1)) (setU T (rbO T)) + (i + 1) = rcN 10 R := by rw [← hrc, show 10 - i = (10 - (i + 1)) + 1 by omega, rcN_U c_64]; omega
              refine lv_iinc (v := nI (i + 1)) (lv' := [(3, .int (nI (i + 1))), (5, .int (onI (rbO T))), (0, .ref h0), (1, .int ww), (4, .int (nI i))]) xx xb dX1_rebuild_78 hl (k := 3) rfl (nI_add _ 1) (by decide) rfl (fun ls hl => ?_)
              refine lv_iinc (v := nI (i + 1)) (lv' := [(4, .int (nI (i + 1))), (3, .int (nI (i + 1))), (5, .int (onI (rbO T))), (0, .ref h0), (1, .int ww)]) xx xb dX1_rebuild_81 hl (k := 4) rfl (nI_add _ 1) (by decide) rfl (fun ls hl => ?_)
              refine lv_goto (tgt := 44) xx xb dX1_rebuild_84 (by decide) ?_
              exact ih_44 (i + 1) (setU T (rbO T)) H _ ls (by omega) (by omega) (OK_setU _ hT) (setU03 hTp _) hrc2 hw (lv_sub hl [3, 4, 1, 0] rfl)
            · skip
              have c_64 := (onI_inj (f := 10) (by omega) (by omega)).mp c_64
              refine lv_iload_n xx xb dX1_rebuild_67 rfl (lv_at hl 3 rfl) ?_
              refine re_i (vReb R wwz) (by unfold vReb; rw [if_neg (by omega), ← hrc, rcN_0 c_64, Nat.zero_add]) ?_
              have hc : cWhat wwz = 0 := by first | assumption | rfl
              exact rt_i C hw ((R 0 1), T) (by exact (anI_0 hc _).symm) (by rw [rfU_0 hc]) dX1_rebuild_68
      exact L_44 (_ + 1) 0 R H _ ls (Nat.lt_succ_self _) (by omega) hR hp rfl hw (lv_sub hl [3, 4, 1, 0] rfl)
    · skip
      have c_17 := eq_c h_ww Int32.toInt_zero c_17
      refine lv_aload_n xx xb dX1_rebuild_20 rfl (lv_at hl 1 rfl) ?_
      refine m_get C hw 0 rfl fk_X1_10 rfl dX1_rebuild_21 ?_
      have hM := kX0_firstToSetUp l G so ak af ab aa (R 0 1) R (by first | assumption | omega) (by first | assumption | omega)
      refine cv_i C hw hM yvX0_firstToSetUp ml_X1_186 1 rfl rfl rfl [1, 2, 3, 4, 5] rfl rfl (fun _ => (rfl : ([so, ak, af, ab, aa] : List Nat) = [so, ak, af, ab, aa])) (by decide) ⟨Nat.zero_le _, Nat.zero_le _⟩ hl.1 rfl (Nat.le_of_ble_eq_true rfl) dX1_rebuild_24 (fun r _ H locs hr hw => ?_)
      have hw : Wd G (fA [(h0, .inr (1, [.ref so, .ref to, .ref uo, .int (nI im), .ref x5, .int (nI lm), .ref x6, .int (nI rm), .ref x7, .ref x8, .int sd])), (so, .inr (0, [.int (nI (sN R)), .int (nI (R 0 1)), .int (nI (sF R)), .int (nI (sS R)), .int (nI (sL R)), .ref ak, .ref af, .ref ab, .ref aa])), (ak, aI G 10 (sK R)), (af, aI G 10 (sG R)), (ab, aI G 10 (sO R)), (aa, aI G 10 (sA R)), (to, .inr (0, [.int (nI (sN S)), .int (nI m0), .int (nI (sF S)), .int (nI (sS S)), .int (nI (sL S)), .ref tk, .ref tf, .ref tb, .ref ta])), (tk, aI G 10 (sK S)), (tf, aI G 10 (sG S)), (tb, aI G 10 (sO S)), (ta, aI G 10 (sA S)), (x7, aI G 7 (cN rf))]) s [(h0, .inr (1, [.ref so, .ref to, .ref uo, .int (nI im), .ref x5, .int (nI lm), .ref x6, .int (nI rm), .ref x7, .ref x8, .int sd])), (so, .inr (0, [.int (nI (sN R)), .int (nI (R 0 1)), .int (nI (sF R)), .int (nI (sS R)), .int (nI (sL R)), .ref ak, .ref af, .ref ab, .ref aa])), (ak, aI G 10 (sK R)), (af, aI G 10 (sG R)), (ab, aI G 10 (sO R)), (aa, aI G 10 (sA R)), (to, .inr (0, [.int (nI (sN S)), .int (nI m0), .int (nI (sF S)), .int (nI (sS S)), .int (nI (sL S)), .ref tk, .ref tf, .ref tb, .ref ta])), (tk, aI G 10 (sK S)), (tf, aI G 10 (sG S)), (tb, aI G 10 (sO S)), (ta, aI G 10 (sA S)), (x7, aI G 7 (cN rf))] H locs := hw
      subst hr
      refine re_i (vReb R wwz) (by unfold vReb; rw [if_pos (by omega)]) ?_
      have hc : cWhat wwz = 0 := by first | assumption | rfl
      exact rt_i C hw (m0, S) (by exact (anI_0 hc _).symm) (by rw [rfU_0 hc]) dX1_rebuild_27
  · skip
    have c_7 := g0_n c_7
    refine lv_aload_n xx xb dX1_rebuild_10 rfl (lv_at hl 1 rfl) ?_
    refine lv_iload_n xx xb dX1_rebuild_11 rfl (lv_at hl 0 rfl) ?_
    have hM := kX1_refuse l G h0 so to uo x5 x6 x7 x8 im lm rm sd rf (cWhat wwz) (by first | assumption | omega)
    refine cv_i C hw hM yvX1_refuse ml_X1_43 0 rfl rfl rfl [0, 11] rfl rfl (fun _ => (rfl : ([h0, x7] : List Nat) = [h0, x7])) (by decide) ⟨Nat.zero_le _, Nat.zero_le _⟩ hl.1 rfl (Nat.le_of_ble_eq_true rfl) dX1_rebuild_12 (fun r _ H locs hr hw => ?_)
    have hw : Wd G (fA [(h0, .inr (1, [.ref so, .ref to, .ref uo, .int (nI im), .ref x5, .int (nI lm), .ref x6, .int (nI rm), .ref x7, .ref x8, .int sd])), (so, .inr (0, [.int (nI (sN R)), .int (nI (R 0 1)), .int (nI (sF R)), .int (nI (sS R)), .int (nI (sL R)), .ref ak, .ref af, .ref ab, .ref aa])), (ak, aI G 10 (sK R)), (af, aI G 10 (sG R)), (ab, aI G 10 (sO R)), (aa, aI G 10 (sA R)), (to, .inr (0, [.int (nI (sN S)), .int (nI m0), .int (nI (sF S)), .int (nI (sS S)), .int (nI (sL S)), .ref tk, .ref tf, .ref tb, .ref ta])), (tk, aI G 10 (sK S)), (tf, aI G 10 (sG S)), (tb, aI G 10 (sO S)), (ta, aI G 10 (sA S)), (x7, aI G 7 (cN rf))]) s [(h0, .inr (1, [.ref so, .ref to, .ref uo, .int (nI im), .ref x5, .int (nI lm), .ref x6, .int (nI rm), .ref x7, .ref x8, .int sd])), (so, .inr (0, [.int (nI (sN R)), .int (nI (R 0 1)), .int (nI (sF R)), .int (nI (sS R)), .int (nI (sL R)), .ref ak, .ref af, .ref ab, .ref aa])), (ak, aI G 10 (sK R)), (af, aI G 10 (sG R)), (ab, aI G 10 (sO R)), (aa, aI G 10 (sA R)), (to, .inr (0, [.int (nI (sN S)), .int (nI m0), .int (nI (sF S)), .int (nI (sS S)), .int (nI (sL S)), .ref tk, .ref tf, .ref tb, .ref ta])), (tk, aI G 10 (sK S)), (tf, aI G 10 (sG S)), (tb, aI G 10 (sO S)), (ta, aI G 10 (sA S)), (x7, aI G 7 (cN (upN rf (cWhat wwz) (rf (cWhat wwz) + 1))))] H locs := hw
    subst hr
    have hc : cWhat wwz = (cWhat wwz) := by first | assumption | rfl
    have hj : (cWhat wwz) ≠ 0 := by omega
    exact rt_i C hw (m0, S) (by exact (anI_r hc hj _).symm) (by rw [rfU_r hc hj]) dX1_rebuild_15
theorem sp_i {R : RT} {z : Int} {a x : Nat} (h : (x = 1 ∧ z = (a : Int) ∧ a < R 0 0) ∨ (x = 0 ∧ z = -9)) : (if (0 ≤ z ∧ z < ((R 0 0 : Nat) : Int)) ∧ R 4 z.toNat = 0 then (1 : Int32) else 0) = if x = 1 ∧ R 4 a = 0 then 1 else 0 := by
  refine ifc ?_
  rcases h with ⟨h1, h2, h3⟩ | ⟨h1, h2⟩
  · rw [h2, Int.toNat_natCast]
    exact ⟨fun q => ⟨h1, q.2⟩, fun q => ⟨⟨by omega, by omega⟩, q.2⟩⟩
  · exact ⟨fun q => by have := q.1.1; omega, fun q => by have := q.1; omega⟩
theorem spF_03 {R : RT} (hp : R 0 3 = 0) (a x b y : Nat) : spF R a x b y 0 3 = 0 := sp03 (sp03 hp a x) b y
def twJ (R : RT) (a b : Int) : Nat := if (0 ≤ a ∧ a < ((R 0 0 : Nat) : Int)) ∧ (0 ≤ b ∧ b < ((R 0 0 : Nat) : Int)) ∧ a ≠ b then 0 else 1
theorem twJ_le (R : RT) (a b : Int) : twJ R a b ≤ 6 := by unfold twJ; split <;> omega
theorem tw_eq {R : RT} {a b n : Int} : foN (twJ R a b) (wlN n 0 99) = cTwo R a b n := by
  unfold twJ cTwo foN
  rw [wl_wb]
  by_cases h : (0 ≤ a ∧ a < ((R 0 0 : Nat) : Int)) ∧ (0 ≤ b ∧ b < ((R 0 0 : Nat) : Int)) ∧ a ≠ b
  · rw [if_pos h, if_pos h, if_neg (by decide)]
  · rw [if_neg h, if_neg h, if_pos (by decide)]
theorem cTwo_le (R : RT) (a b n : Int) : cTwo R a b n ≤ 6 := by
  unfold cTwo
  have := wbN_le n 99
  split <;> omega
theorem cTwo_0 {R : RT} {a b n : Int} (h : cTwo R a b n = 0) : ((0 ≤ a ∧ a < ((R 0 0 : Nat) : Int)) ∧ (0 ≤ b ∧ b < ((R 0 0 : Nat) : Int)) ∧ a ≠ b) ∧ (0 ≤ n ∧ n ≤ 99) := by
  unfold cTwo at h
  by_cases q : (0 ≤ a ∧ a < ((R 0 0 : Nat) : Int)) ∧ (0 ≤ b ∧ b < ((R 0 0 : Nat) : Int)) ∧ a ≠ b
  · rw [if_pos q] at h; exact ⟨q, wbN_0 h⟩
  · rw [if_neg q] at h; omega
set_option maxRecDepth 100000 in
set_option maxHeartbeats 4000000 in
theorem kX1_standingByTwo (l : Launch) (G : GT) (h0 : Nat) (so : Nat) (to : Nat) (uo : Nat) (x5 : Nat) (x6 : Nat) (x7 : Nat) (x8 : Nat) (im : Nat) (lm : Nat) (rm : Nat) (sd : Int32) (ak : Nat) (af : Nat) (ab : Nat) (aa : Nat) (R : RT) (tk : Nat) (tf : Nat) (tb : Nat) (ta : Nat) (m0 : Nat) (S : RT) (a : Nat) (x : Nat) (b : Nat) (y : Nat) (n : Nat) (p1 : Int32) (p1z : Int) (p2 : Int32) (p2z : Int) (h_p1 : p1.toInt = p1z) (h_p2 : p2.toInt = p2z) (hR : OK R) (hK : AK R) (hp : R 0 3 = 0) (hx : (x = 1 ∧ p1z = ((a : Nat) : Int) ∧ a < R 0 0) ∨ (x = 0 ∧ p1z = -9)) (hy : (y = 1 ∧ p2z = ((b : Nat) : Int) ∧ b < R 0 0) ∨ (y = 0 ∧ p2z = -9)) (ha : a < R 0 0) (hb : b < R 0 0) (hn9 : n ≤ 99) : Ct l yX1_standingByTwo cX1_standingByTwo 4 (some .int) 4 100 [.ref h0, .int p1, .int p2, .int (nI n)] G [(h0, .inr (1, [.ref so, .ref to, .ref uo, .int (nI im), .ref x5, .int (nI lm), .ref x6, .int (nI rm), .ref x7, .ref x8, .int sd])), (so, .inr (0, [.int (nI (sN R)), .int (nI (R 0 1)), .int (nI (sF R)), .int (nI (sS R)), .int (nI (sL R)), .ref ak, .ref af, .ref ab, .ref aa])), (ak, aI G 10 (sK R)), (af, aI G 10 (sG R)), (ab, aI G 10 (sO R)), (aa, aI G 10 (sA R)), (to, .inr (0, [.int (nI (sN S)), .int (nI m0), .int (nI (sF S)), .int (nI (sS S)), .int (nI (sL S)), .ref tk, .ref tf, .ref tb, .ref ta])), (tk, aI G 10 (sK S)), (tf, aI G 10 (sG S)), (tb, aI G 10 (sO S)), (ta, aI G 10 (sA S))] (QI G [(h0, .inr (1, [.ref so, .ref to, .ref uo, .int (nI im), .ref x5, .int (nI lm), .ref x6, .int (nI rm), .ref x7, .ref x8, .int sd])), (so, .inr (0, [.int (nI (sN R)), .int (nI (R 0 1)), .int (nI (sF R)), .int (nI (sS R)), .int (nI (sL R)), .ref ak, .ref af, .ref ab, .ref aa])), (ak, aI G 10 (sK R)), (af, aI G 10 (sG R)), (ab, aI G 10 (sO R)), (aa, aI G 10 (sA R)), (to, .inr (0, [.int (nI (sN S)), .int (nI m0), .int (nI (sF S)), .int (nI (sS S)), .int (nI (sL S)), .ref tk, .ref tf, .ref tb, .ref ta])), (tk, aI G 10 (sK S)), (tf, aI G 10 (sG S)), (tb, aI G 10 (sO S)), (ta, aI G 10 (sA S))] (fun (r : Int32) (u : RT) => r = nI (stN (itF (spF R a x b y) n)) ∧ True) (fun u => [(h0, .inr (1, [.ref so, .ref to, .ref uo, .int (nI im), .ref x5, .int (nI lm), .ref x6, .int (nI rm), .ref x7, .ref x8, .int sd])), (so, .inr (0, [.int (nI (sN R)), .int (nI (R 0 1)), .int (nI (sF R)), .int (nI (sS R)), .int (nI (sL R)), .ref ak, .ref af, .ref ab, .ref aa])), (ak, aI G 10 (sK R)), (af, aI G 10 (sG R)), (ab, aI G 10 (sO R)), (aa, aI G 10 (sA R)), (to, .inr (0, [.int (nI (sN u)), .int (nI (R 0 1 + n)), .int (nI (sF u)), .int (nI (sS u)), .int (nI (sL u)), .ref tk, .ref tf, .ref tb, .ref ta])), (tk, aI G 10 (sK u)), (tf, aI G 10 (sG u)), (tb, aI G 10 (sO u)), (ta, aI G 10 (sA u))])) := by
  refine en (by decide +kernel) (Nat.le_of_ble_eq_true rfl) ?_
  intro p e s m below meth c ls H locs C hl hw
  have xx := C.1
  have xb := C.2.1
  have hw : Wd G (fA [(h0, .inr (1, [.ref so, .ref to, .ref uo, .int (nI im), .ref x5, .int (nI lm), .ref x6, .int (nI rm), .ref x7, .ref x8, .int sd])), (so, .inr (0, [.int (nI (sN R)), .int (nI (R 0 1)), .int (nI (sF R)), .int (nI (sS R)), .int (nI (sL R)), .ref ak, .ref af, .ref ab, .ref aa])), (ak, aI G 10 (sK R)), (af, aI G 10 (sG R)), (ab, aI G 10 (sO R)), (aa, aI G 10 (sA R)), (to, .inr (0, [.int (nI (sN S)), .int (nI m0), .int (nI (sF S)), .int (nI (sS S)), .int (nI (sL S)), .ref tk, .ref tf, .ref tb, .ref ta])), (tk, aI G 10 (sK S)), (tf, aI G 10 (sG S)), (tb, aI G 10 (sO S)), (ta, aI G 10 (sA S))]) s [(h0, .inr (1, [.ref so, .ref to, .ref uo, .int (nI im), .ref x5, .int (nI lm), .ref x6, .int (nI rm), .ref x7, .ref x8, .int sd])), (so, .inr (0, [.int (nI (sN R)), .int (nI (R 0 1)), .int (nI (sF R)), .int (nI (sS R)), .int (nI (sL R)), .ref ak, .ref af, .ref ab, .ref aa])), (ak, aI G 10 (sK R)), (af, aI G 10 (sG R)), (ab, aI G 10 (sO R)), (aa, aI G 10 (sA R)), (to, .inr (0, [.int (nI (sN S)), .int (nI m0), .int (nI (sF S)), .int (nI (sS S)), .int (nI (sL S)), .ref tk, .ref tf, .ref tb, .ref ta])), (tk, aI G 10 (sK S)), (tf, aI G 10 (sG S)), (tb, aI G 10 (sO S)), (ta, aI G 10 (sA S))] H locs := hw
  have hl : lv_has ls 4 [(0, .ref h0), (1, .int p1), (2, .int p2), (3, .int (nI n))] := hl
  obtain ⟨hn, hf0, hpr, hA⟩ := id hR
  have hy2 : (y = 1 ∧ p2z = ((b : Nat) : Int) ∧ b < spP R a x 0 0) ∨ (y = 0 ∧ p2z = -9) := by rw [spP_00]; exact hy
  have hS1 := OK_spP hR ha x
  have hS2 := OK_spP hS1 (a := b) (by rw [spP_00]; exact hb) y
  refine lv_aload_n xx xb dX1_standingByTwo_0 rfl (lv_at hl 0 rfl) ?_
  refine m_get C hw 0 rfl fk_X1_16 rfl dX1_standingByTwo_1 ?_
  refine lv_aload_n xx xb dX1_standingByTwo_4 rfl (lv_at hl 0 rfl) ?_
  refine m_get C hw 0 rfl fk_X1_10 rfl dX1_standingByTwo_5 ?_
  have hM := kX0_copyFrom l G to tk tf tb ta m0 S so ak af ab aa (R 0 1) R (by first | assumption | omega)
  refine cv_v C hw hM yvX0_copyFrom ml_X1_131 6 rfl rfl rfl [6, 7, 8, 9, 10, 1, 2, 3, 4, 5] rfl rfl (fun _ => (rfl : ([to, tk, tf, tb, ta, so, ak, af, ab, aa] : List Nat) = [to, tk, tf, tb, ta, so, ak, af, ab, aa])) (by decide) ⟨Nat.zero_le _, Nat.zero_le _⟩ hl.1 rfl (Nat.le_of_ble_eq_true rfl) dX1_standingByTwo_8 (fun _ H locs hr hw => ?_)
  have hw : Wd G (fA [(h0, .inr (1, [.ref so, .ref to, .ref uo, .int (nI im), .ref x5, .int (nI lm), .ref x6, .int (nI rm), .ref x7, .ref x8, .int sd])), (so, .inr (0, [.int (nI (sN R)), .int (nI (R 0 1)), .int (nI (sF R)), .int (nI (sS R)), .int (nI (sL R)), .ref ak, .ref af, .ref ab, .ref aa])), (ak, aI G 10 (sK R)), (af, aI G 10 (sG R)), (ab, aI G 10 (sO R)), (aa, aI G 10 (sA R)), (to, .inr (0, [.int (nI (sN S)), .int (nI m0), .int (nI (sF S)), .int (nI (sS S)), .int (nI (sL S)), .ref tk, .ref tf, .ref tb, .ref ta])), (tk, aI G 10 (sK S)), (tf, aI G 10 (sG S)), (tb, aI G 10 (sO S)), (ta, aI G 10 (sA S))]) s [(h0, .inr (1, [.ref so, .ref to, .ref uo, .int (nI im), .ref x5, .int (nI lm), .ref x6, .int (nI rm), .ref x7, .ref x8, .int sd])), (so, .inr (0, [.int (nI (sN R)), .int (nI (R 0 1)), .int (nI (sF R)), .int (nI (sS R)), .int (nI (sL R)), .ref ak, .ref af, .ref ab, .ref aa])), (ak, aI G 10 (sK R)), (af, aI G 10 (sG R)), (ab, aI G 10 (sO R)), (aa, aI G 10 (sA R)), (to, .inr (0, [.int (nI (sN R)), .int (nI (R 0 1)), .int (nI (sF R)), .int (nI (sS R)), .int (nI (sL R)), .ref tk, .ref tf, .ref tb, .ref ta])), (tk, aI G 10 (sK R)), (tf, aI G 10 (sG R)), (tb, aI G 10 (sO R)), (ta, aI G 10 (sA R))] H locs := hw
  refine lv_aload_n xx xb dX1_standingByTwo_11 rfl (lv_at hl 0 rfl) ?_
  refine m_get C hw 0 rfl fk_X1_16 rfl dX1_standingByTwo_12 ?_
  refine lv_iload_n xx xb dX1_standingByTwo_15 rfl (lv_at hl 1 rfl) ?_
  have hM := kX0_stands l G to tk tf tb ta (R 0 1) R p1 p1z h_p1 (by first | assumption | omega)
  refine cv_i C hw hM yvX0_stands ml_X1_166 6 rfl rfl rfl [6, 7, 8, 9, 10] rfl rfl (fun _ => (rfl : ([to, tk, tf, tb, ta] : List Nat) = [to, tk, tf, tb, ta])) (by decide) ⟨Nat.zero_le _, Nat.zero_le _⟩ hl.1 rfl (Nat.le_of_ble_eq_true rfl) dX1_standingByTwo_16 (fun r _ H locs hr hw => ?_)
  have hw : Wd G (fA [(h0, .inr (1, [.ref so, .ref to, .ref uo, .int (nI im), .ref x5, .int (nI lm), .ref x6, .int (nI rm), .ref x7, .ref x8, .int sd])), (so, .inr (0, [.int (nI (sN R)), .int (nI (R 0 1)), .int (nI (sF R)), .int (nI (sS R)), .int (nI (sL R)), .ref ak, .ref af, .ref ab, .ref aa])), (ak, aI G 10 (sK R)), (af, aI G 10 (sG R)), (ab, aI G 10 (sO R)), (aa, aI G 10 (sA R)), (to, .inr (0, [.int (nI (sN S)), .int (nI m0), .int (nI (sF S)), .int (nI (sS S)), .int (nI (sL S)), .ref tk, .ref tf, .ref tb, .ref ta])), (tk, aI G 10 (sK S)), (tf, aI G 10 (sG S)), (tb, aI G 10 (sO S)), (ta, aI G 10 (sA S))]) s [(h0, .inr (1, [.ref so, .ref to, .ref uo, .int (nI im), .ref x5, .int (nI lm), .ref x6, .int (nI rm), .ref x7, .ref x8, .int sd])), (so, .inr (0, [.int (nI (sN R)), .int (nI (R 0 1)), .int (nI (sF R)), .int (nI (sS R)), .int (nI (sL R)), .ref ak, .ref af, .ref ab, .ref aa])), (ak, aI G 10 (sK R)), (af, aI G 10 (sG R)), (ab, aI G 10 (sO R)), (aa, aI G 10 (sA R)), (to, .inr (0, [.int (nI (sN R)), .int (nI (R 0 1)), .int (nI (sF R)), .int (nI (sS R)), .int (nI (sL R)), .ref tk, .ref tf, .ref tb, .ref ta])), (tk, aI G 10 (sK R)), (tf, aI G 10 (sG R)), (tb, aI G 10 (sO R)), (ta, aI G 10 (sA R))] H locs := hw
  subst hr
  refine re_i (if x = 1 ∧ R 4 a = 0 then 1 else 0) (sp_i hx) ?_
  refine lv_if_eq (tgt := 33) xx xb dX1_standingByTwo_19 (by decide) (fun c_19 => ?_) (fun c_19 => ?_)
  · skip
    have c_19 := b0_c c_19
    have hw : Wd G (fA [(h0, .inr (1, [.ref so, .ref to, .ref uo, .int (nI im), .ref x5, .int (nI lm), .ref x6, .int (nI rm), .ref x7, .ref x8, .int sd])), (so, .inr (0, [.int (nI (sN R)), .int (nI (R 0 1)), .int (nI (sF R)), .int (nI (sS R)), .int (nI (sL R)), .ref ak, .ref af, .ref ab, .ref aa])), (ak, aI G 10 (sK R)), (af, aI G 10 (sG R)), (ab, aI G 10 (sO R)), (aa, aI G 10 (sA R)), (to, .inr (0, [.int (nI (sN S)), .int (nI m0), .int (nI (sF S)), .int (nI (sS S)), .int (nI (sL S)), .ref tk, .ref tf, .ref tb, .ref ta])), (tk, aI G 10 (sK S)), (tf, aI G 10 (sG S)), (tb, aI G 10 (sO S)), (ta, aI G 10 (sA S))]) s [(h0, .inr (1, [.ref so, .ref to, .ref uo, .int (nI im), .ref x5, .int (nI lm), .ref x6, .int (nI rm), .ref x7, .ref x8, .int sd])), (so, .inr (0, [.int (nI (sN R)), .int (nI (R 0 1)), .int (nI (sF R)), .int (nI (sS R)), .int (nI (sL R)), .ref ak, .ref af, .ref ab, .ref aa])), (ak, aI G 10 (sK R)), (af, aI G 10 (sG R)), (ab, aI G 10 (sO R)), (aa, aI G 10 (sA R)), (to, .inr (0, [.int (nI (sN (spP R a x))), .int (nI (R 0 1)), .int (nI (sF (spP R a x))), .int (nI (sS (spP R a x))), .int (nI (sL (spP R a x))), .ref tk, .ref tf, .ref tb, .ref ta])), (tk, aI G 10 (sK (spP R a x))), (tf, aI G 10 (sG (spP R a x))), (tb, aI G 10 (sO (spP R a x))), (ta, aI G 10 (sA (spP R a x)))] H locs := by first | (rw [show spP R a x = _ from if_pos c_19]; exact hw) | (rw [show spP R a x = _ from if_neg c_19]; exact hw)
    refine lv_aload_n xx xb dX1_standingByTwo_33 rfl (lv_at hl 0 rfl) ?_
    refine m_get C hw 0 rfl fk_X1_16 rfl dX1_standingByTwo_34 ?_
    refine lv_iload_n xx xb dX1_standingByTwo_37 rfl (lv_at hl 2 rfl) ?_
    have hM := kX0_stands l G to tk tf tb ta (R 0 1) (spP R a x) p2 p2z h_p2 hS1
    refine cv_i C hw hM yvX0_stands ml_X1_166 6 rfl rfl rfl [6, 7, 8, 9, 10] rfl rfl (fun _ => (rfl : ([to, tk, tf, tb, ta] : List Nat) = [to, tk, tf, tb, ta])) (by decide) ⟨Nat.zero_le _, Nat.zero_le _⟩ hl.1 rfl (Nat.le_of_ble_eq_true rfl) dX1_standingByTwo_38 (fun r _ H locs hr hw => ?_)
    have hw : Wd G (fA [(h0, .inr (1, [.ref so, .ref to, .ref uo, .int (nI im), .ref x5, .int (nI lm), .ref x6, .int (nI rm), .ref x7, .ref x8, .int sd])), (so, .inr (0, [.int (nI (sN R)), .int (nI (R 0 1)), .int (nI (sF R)), .int (nI (sS R)), .int (nI (sL R)), .ref ak, .ref af, .ref ab, .ref aa])), (ak, aI G 10 (sK R)), (af, aI G 10 (sG R)), (ab, aI G 10 (sO R)), (aa, aI G 10 (sA R)), (to, .inr (0, [.int (nI (sN S)), .int (nI m0), .int (nI (sF S)), .int (nI (sS S)), .int (nI (sL S)), .ref tk, .ref tf, .ref tb, .ref ta])), (tk, aI G 10 (sK S)), (tf, aI G 10 (sG S)), (tb, aI G 10 (sO S)), (ta, aI G 10 (sA S))]) s [(h0, .inr (1, [.ref so, .ref to, .ref uo, .int (nI im), .ref x5, .int (nI lm), .ref x6, .int (nI rm), .ref x7, .ref x8, .int sd])), (so, .inr (0, [.int (nI (sN R)), .int (nI (R 0 1)), .int (nI (sF R)), .int (nI (sS R)), .int (nI (sL R)), .ref ak, .ref af, .ref ab, .ref aa])), (ak, aI G 10 (sK R)), (af, aI G 10 (sG R)), (ab, aI G 10 (sO R)), (aa, aI G 10 (sA R)), (to, .inr (0, [.int (nI (sN (spP R a x))), .int (nI (R 0 1)), .int (nI (sF (spP R a x))), .int (nI (sS (spP R a x))), .int (nI (sL (spP R a x))), .ref tk, .ref tf, .ref tb, .ref ta])), (tk, aI G 10 (sK (spP R a x))), (tf, aI G 10 (sG (spP R a x))), (tb, aI G 10 (sO (spP R a x))), (ta, aI G 10 (sA (spP R a x)))] H locs := hw
    subst hr
    refine re_i (if y = 1 ∧ spP R a x 4 b = 0 then 1 else 0) (sp_i (R := spP R a x) hy2) ?_
    refine lv_if_eq (tgt := 55) xx xb dX1_standingByTwo_41 (by decide) (fun c_41 => ?_) (fun c_41 => ?_)
    · skip
      have c_41 := b0_c c_41
      have hw : Wd G (fA [(h0, .inr (1, [.ref so, .ref to, .ref uo, .int (nI im), .ref x5, .int (nI lm), .ref x6, .int (nI rm), .ref x7, .ref x8, .int sd])), (so, .inr (0, [.int (nI (sN R)), .int (nI (R 0 1)), .int (nI (sF R)), .int (nI (sS R)), .int (nI (sL R)), .ref ak, .ref af, .ref ab, .ref aa])), (ak, aI G 10 (sK R)), (af, aI G 10 (sG R)), (ab, aI G 10 (sO R)), (aa, aI G 10 (sA R)), (to, .inr (0, [.int (nI (sN S)), .int (nI m0), .int (nI (sF S)), .int (nI (sS S)), .int (nI (sL S)), .ref tk, .ref tf, .ref tb, .ref ta])), (tk, aI G 10 (sK S)), (tf, aI G 10 (sG S)), (tb, aI G 10 (sO S)), (ta, aI G 10 (sA S))]) s [(h0, .inr (1, [.ref so, .ref to, .ref uo, .int (nI im), .ref x5, .int (nI lm), .ref x6, .int (nI rm), .ref x7, .ref x8, .int sd])), (so, .inr (0, [.int (nI (sN R)), .int (nI (R 0 1)), .int (nI (sF R)), .int (nI (sS R)), .int (nI (sL R)), .ref ak, .ref af, .ref ab, .ref aa])), (ak, aI G 10 (sK R)), (af, aI G 10 (sG R)), (ab, aI G 10 (sO R)), (aa, aI G 10 (sA R)), (to, .inr (0, [.int (nI (sN (spF R a x b y))), .int (nI (R 0 1)), .int (nI (sF (spF R a x b y))), .int (nI (sS (spF R a x b y))), .int (nI (sL (spF R a x b y))), .ref tk, .ref tf, .ref tb, .ref ta])), (tk, aI G 10 (sK (spF R a x b y))), (tf, aI G 10 (sG (spF R a x b y))), (tb, aI G 10 (sO (spF R a x b y))), (ta, aI G 10 (sA (spF R a x b y)))] H locs := by first | (rw [show spF R a x b y = _ from if_pos c_41]; exact hw) | (rw [show spF R a x b y = _ from if_neg c_41]; exact hw)
      refine lv_aload_n xx xb dX1_standingByTwo_55 rfl (lv_at hl 0 rfl) ?_
      refine m_get C hw 0 rfl fk_X1_16 rfl dX1_standingByTwo_56 ?_
      refine lv_iload_n xx xb dX1_standingByTwo_59 rfl (lv_at hl 3 rfl) ?_
      have hM := kX0_passMinutes l G to tk tf tb ta (R 0 1) (spF R a x b y) n hS2 (AK_spP (AK_spP hK a x) b y) (spF_03 hp a x b y) (by omega)
      refine cv_v C hw hM yvX0_passMinutes ml_X1_125 6 rfl rfl rfl [6, 7, 8, 9, 10] rfl rfl (fun _ => (rfl : ([to, tk, tf, tb, ta] : List Nat) = [to, tk, tf, tb, ta])) (by decide) ⟨Nat.zero_le _, Nat.zero_le _⟩ hl.1 rfl (Nat.le_of_ble_eq_true rfl) dX1_standingByTwo_60 (fun _ H locs hr hw => ?_)
      have hw : Wd G (fA [(h0, .inr (1, [.ref so, .ref to, .ref uo, .int (nI im), .ref x5, .int (nI lm), .ref x6, .int (nI rm), .ref x7, .ref x8, .int sd])), (so, .inr (0, [.int (nI (sN R)), .int (nI (R 0 1)), .int (nI (sF R)), .int (nI (sS R)), .int (nI (sL R)), .ref ak, .ref af, .ref ab, .ref aa])), (ak, aI G 10 (sK R)), (af, aI G 10 (sG R)), (ab, aI G 10 (sO R)), (aa, aI G 10 (sA R)), (to, .inr (0, [.int (nI (sN S)), .int (nI m0), .int (nI (sF S)), .int (nI (sS S)), .int (nI (sL S)), .ref tk, .ref tf, .ref tb, .ref ta])), (tk, aI G 10 (sK S)), (tf, aI G 10 (sG S)), (tb, aI G 10 (sO S)), (ta, aI G 10 (sA S))]) s [(h0, .inr (1, [.ref so, .ref to, .ref uo, .int (nI im), .ref x5, .int (nI lm), .ref x6, .int (nI rm), .ref x7, .ref x8, .int sd])), (so, .inr (0, [.int (nI (sN R)), .int (nI (R 0 1)), .int (nI (sF R)), .int (nI (sS R)), .int (nI (sL R)), .ref ak, .ref af, .ref ab, .ref aa])), (ak, aI G 10 (sK R)), (af, aI G 10 (sG R)), (ab, aI G 10 (sO R)), (aa, aI G 10 (sA R)), (to, .inr (0, [.int (nI (sN (itF (spF R a x b y) n))), .int (nI ((R 0 1) + n)), .int (nI (sF (itF (spF R a x b y) n))), .int (nI (sS (itF (spF R a x b y) n))), .int (nI (sL (itF (spF R a x b y) n))), .ref tk, .ref tf, .ref tb, .ref ta])), (tk, aI G 10 (sK (itF (spF R a x b y) n))), (tf, aI G 10 (sG (itF (spF R a x b y) n))), (tb, aI G 10 (sO (itF (spF R a x b y) n))), (ta, aI G 10 (sA (itF (spF R a x b y) n)))] H locs := hw
      refine lv_aload_n xx xb dX1_standingByTwo_63 rfl (lv_at hl 0 rfl) ?_
      refine m_get C hw 0 rfl fk_X1_16 rfl dX1_standingByTwo_64 ?_
      have hM := kX0_countStanding l G to tk tf tb ta ((R 0 1) + n) (itF (spF R a x b y) n) (OK_itF hS2 n)
      refine cv_i C hw hM yvX0_countStanding ml_X1_128 6 rfl rfl rfl [6, 7, 8, 9, 10] rfl rfl (fun _ => (rfl : ([to, tk, tf, tb, ta] : List Nat) = [to, tk, tf, tb, ta])) (by decide) ⟨Nat.zero_le _, Nat.zero_le _⟩ hl.1 rfl (Nat.le_of_ble_eq_true rfl) dX1_standingByTwo_67 (fun r _ H locs hr hw => ?_)
      have hw : Wd G (fA [(h0, .inr (1, [.ref so, .ref to, .ref uo, .int (nI im), .ref x5, .int (nI lm), .ref x6, .int (nI rm), .ref x7, .ref x8, .int sd])), (so, .inr (0, [.int (nI (sN R)), .int (nI (R 0 1)), .int (nI (sF R)), .int (nI (sS R)), .int (nI (sL R)), .ref ak, .ref af, .ref ab, .ref aa])), (ak, aI G 10 (sK R)), (af, aI G 10 (sG R)), (ab, aI G 10 (sO R)), (aa, aI G 10 (sA R)), (to, .inr (0, [.int (nI (sN S)), .int (nI m0), .int (nI (sF S)), .int (nI (sS S)), .int (nI (sL S)), .ref tk, .ref tf, .ref tb, .ref ta])), (tk, aI G 10 (sK S)), (tf, aI G 10 (sG S)), (tb, aI G 10 (sO S)), (ta, aI G 10 (sA S))]) s [(h0, .inr (1, [.ref so, .ref to, .ref uo, .int (nI im), .ref x5, .int (nI lm), .ref x6, .int (nI rm), .ref x7, .ref x8, .int sd])), (so, .inr (0, [.int (nI (sN R)), .int (nI (R 0 1)), .int (nI (sF R)), .int (nI (sS R)), .int (nI (sL R)), .ref ak, .ref af, .ref ab, .ref aa])), (ak, aI G 10 (sK R)), (af, aI G 10 (sG R)), (ab, aI G 10 (sO R)), (aa, aI G 10 (sA R)), (to, .inr (0, [.int (nI (sN (itF (spF R a x b y) n))), .int (nI ((R 0 1) + n)), .int (nI (sF (itF (spF R a x b y) n))), .int (nI (sS (itF (spF R a x b y) n))), .int (nI (sL (itF (spF R a x b y) n))), .ref tk, .ref tf, .ref tb, .ref ta])), (tk, aI G 10 (sK (itF (spF R a x b y) n))), (tf, aI G 10 (sG (itF (spF R a x b y) n))), (tb, aI G 10 (sO (itF (spF R a x b y) n))), (ta, aI G 10 (sA (itF (spF R a x b y) n)))] H locs := hw
      subst hr
      exact rt_i C hw (itF (spF R a x b y) n) (⟨rfl, trivial⟩) rfl dX1_standingByTwo_70
    · skip
      have c_41 := b1_c c_41
      refine lv_aload_n xx xb dX1_standingByTwo_44 rfl (lv_at hl 0 rfl) ?_
      refine m_get C hw 0 rfl fk_X1_16 rfl dX1_standingByTwo_45 ?_
      refine lv_iload_n xx xb dX1_standingByTwo_48 rfl (lv_at hl 2 rfl) ?_
      refine re_i (nI b) (of_toInt (by omega) (by omega)) ?_
      refine lv_bipush (v := nI 9) xx xb dX1_standingByTwo_49 (by decide) ?_
      have hM := kX0_pullThing l G to tk tf tb ta (R 0 1) (spP R a x) b 9 hS1 (by rw [spP_00]; exact hb) c_41.2 (by first | assumption | omega)
      refine cv_i C hw hM yvX0_pullThing ml_X1_90 6 rfl rfl rfl [6, 7, 8, 9, 10] rfl rfl (fun _ => (rfl : ([to, tk, tf, tb, ta] : List Nat) = [to, tk, tf, tb, ta])) (by decide) ⟨Nat.zero_le _, Nat.zero_le _⟩ hl.1 rfl (Nat.le_of_ble_eq_true rfl) dX1_standingByTwo_51 (fun r _ H locs hr hw => ?_)
      have hw : Wd G (fA [(h0, .inr (1, [.ref so, .ref to, .ref uo, .int (nI im), .ref x5, .int (nI lm), .ref x6, .int (nI rm), .ref x7, .ref x8, .int sd])), (so, .inr (0, [.int (nI (sN R)), .int (nI (R 0 1)), .int (nI (sF R)), .int (nI (sS R)), .int (nI (sL R)), .ref ak, .ref af, .ref ab, .ref aa])), (ak, aI G 10 (sK R)), (af, aI G 10 (sG R)), (ab, aI G 10 (sO R)), (aa, aI G 10 (sA R)), (to, .inr (0, [.int (nI (sN S)), .int (nI m0), .int (nI (sF S)), .int (nI (sS S)), .int (nI (sL S)), .ref tk, .ref tf, .ref tb, .ref ta])), (tk, aI G 10 (sK S)), (tf, aI G 10 (sG S)), (tb, aI G 10 (sO S)), (ta, aI G 10 (sA S))]) s [(h0, .inr (1, [.ref so, .ref to, .ref uo, .int (nI im), .ref x5, .int (nI lm), .ref x6, .int (nI rm), .ref x7, .ref x8, .int sd])), (so, .inr (0, [.int (nI (sN R)), .int (nI (R 0 1)), .int (nI (sF R)), .int (nI (sS R)), .int (nI (sL R)), .ref ak, .ref af, .ref ab, .ref aa])), (ak, aI G 10 (sK R)), (af, aI G 10 (sG R)), (ab, aI G 10 (sO R)), (aa, aI G 10 (sA R)), (to, .inr (0, [.int (nI (sN (pulF (spP R a x) b 9))), .int (nI (R 0 1)), .int (nI (sF (pulF (spP R a x) b 9))), .int (nI (sS (pulF (spP R a x) b 9))), .int (nI (sL (pulF (spP R a x) b 9))), .ref tk, .ref tf, .ref tb, .ref ta])), (tk, aI G 10 (sK (pulF (spP R a x) b 9))), (tf, aI G 10 (sG (pulF (spP R a x) b 9))), (tb, aI G 10 (sO (pulF (spP R a x) b 9))), (ta, aI G 10 (sA (pulF (spP R a x) b 9)))] H locs := hw
      subst hr
      refine lv_pop xx xb dX1_standingByTwo_54 rfl ?_
      have hw : Wd G (fA [(h0, .inr (1, [.ref so, .ref to, .ref uo, .int (nI im), .ref x5, .int (nI lm), .ref x6, .int (nI rm), .ref x7, .ref x8, .int sd])), (so, .inr (0, [.int (nI (sN R)), .int (nI (R 0 1)), .int (nI (sF R)), .int (nI (sS R)), .int (nI (sL R)), .ref ak, .ref af, .ref ab, .ref aa])), (ak, aI G 10 (sK R)), (af, aI G 10 (sG R)), (ab, aI G 10 (sO R)), (aa, aI G 10 (sA R)), (to, .inr (0, [.int (nI (sN S)), .int (nI m0), .int (nI (sF S)), .int (nI (sS S)), .int (nI (sL S)), .ref tk, .ref tf, .ref tb, .ref ta])), (tk, aI G 10 (sK S)), (tf, aI G 10 (sG S)), (tb, aI G 10 (sO S)), (ta, aI G 10 (sA S))]) s [(h0, .inr (1, [.ref so, .ref to, .ref uo, .int (nI im), .ref x5, .int (nI lm), .ref x6, .int (nI rm), .ref x7, .ref x8, .int sd])), (so, .inr (0, [.int (nI (sN R)), .int (nI (R 0 1)), .int (nI (sF R)), .int (nI (sS R)), .int (nI (sL R)), .ref ak, .ref af, .ref ab, .ref aa])), (ak, aI G 10 (sK R)), (af, aI G 10 (sG R)), (ab, aI G 10 (sO R)), (aa, aI G 10 (sA R)), (to, .inr (0, [.int (nI (sN (spF R a x b y))), .int (nI (R 0 1)), .int (nI (sF (spF R a x b y))), .int (nI (sS (spF R a x b y))), .int (nI (sL (spF R a x b y))), .ref tk, .ref tf, .ref tb, .ref ta])), (tk, aI G 10 (sK (spF R a x b y))), (tf, aI G 10 (sG (spF R a x b y))), (tb, aI G 10 (sO (spF R a x b y))), (ta, aI G 10 (sA (spF R a x b y)))] H locs := by first | (rw [show spF R a x b y = _ from if_pos c_41]; exact hw) | (rw [show spF R a x b y = _ from if_neg c_41]; exact hw)
      refine lv_aload_n xx xb dX1_standingByTwo_55 rfl (lv_at hl 0 rfl) ?_
      refine m_get C hw 0 rfl fk_X1_16 rfl dX1_standingByTwo_56 ?_
      refine lv_iload_n xx xb dX1_standingByTwo_59 rfl (lv_at hl 3 rfl) ?_
      have hM := kX0_passMinutes l G to tk tf tb ta (R 0 1) (spF R a x b y) n hS2 (AK_spP (AK_spP hK a x) b y) (spF_03 hp a x b y) (by omega)
      refine cv_v C hw hM yvX0_passMinutes ml_X1_125 6 rfl rfl rfl [6, 7, 8, 9, 10] rfl rfl (fun _ => (rfl : ([to, tk, tf, tb, ta] : List Nat) = [to, tk, tf, tb, ta])) (by decide) ⟨Nat.zero_le _, Nat.zero_le _⟩ hl.1 rfl (Nat.le_of_ble_eq_true rfl) dX1_standingByTwo_60 (fun _ H locs hr hw => ?_)
      have hw : Wd G (fA [(h0, .inr (1, [.ref so, .ref to, .ref uo, .int (nI im), .ref x5, .int (nI lm), .ref x6, .int (nI rm), .ref x7, .ref x8, .int sd])), (so, .inr (0, [.int (nI (sN R)), .int (nI (R 0 1)), .int (nI (sF R)), .int (nI (sS R)), .int (nI (sL R)), .ref ak, .ref af, .ref ab, .ref aa])), (ak, aI G 10 (sK R)), (af, aI G 10 (sG R)), (ab, aI G 10 (sO R)), (aa, aI G 10 (sA R)), (to, .inr (0, [.int (nI (sN S)), .int (nI m0), .int (nI (sF S)), .int (nI (sS S)), .int (nI (sL S)), .ref tk, .ref tf, .ref tb, .ref ta])), (tk, aI G 10 (sK S)), (tf, aI G 10 (sG S)), (tb, aI G 10 (sO S)), (ta, aI G 10 (sA S))]) s [(h0, .inr (1, [.ref so, .ref to, .ref uo, .int (nI im), .ref x5, .int (nI lm), .ref x6, .int (nI rm), .ref x7, .ref x8, .int sd])), (so, .inr (0, [.int (nI (sN R)), .int (nI (R 0 1)), .int (nI (sF R)), .int (nI (sS R)), .int (nI (sL R)), .ref ak, .ref af, .ref ab, .ref aa])), (ak, aI G 10 (sK R)), (af, aI G 10 (sG R)), (ab, aI G 10 (sO R)), (aa, aI G 10 (sA R)), (to, .inr (0, [.int (nI (sN (itF (spF R a x b y) n))), .int (nI ((R 0 1) + n)), .int (nI (sF (itF (spF R a x b y) n))), .int (nI (sS (itF (spF R a x b y) n))), .int (nI (sL (itF (spF R a x b y) n))), .ref tk, .ref tf, .ref tb, .ref ta])), (tk, aI G 10 (sK (itF (spF R a x b y) n))), (tf, aI G 10 (sG (itF (spF R a x b y) n))), (tb, aI G 10 (sO (itF (spF R a x b y) n))), (ta, aI G 10 (sA (itF (spF R a x b y) n)))] H locs := hw
      refine lv_aload_n xx xb dX1_standingByTwo_63 rfl (lv_at hl 0 rfl) ?_
      refine m_get C hw 0 rfl fk_X1_16 rfl dX1_standingByTwo_64 ?_
      have hM := kX0_countStanding l G to tk tf tb ta ((R 0 1) + n) (itF (spF R a x b y) n) (OK_itF hS2 n)
      refine cv_i C hw hM yvX0_countStanding ml_X1_128 6 rfl rfl rfl [6, 7, 8, 9, 10] rfl rfl (fun _ => (rfl : ([to, tk, tf, tb, ta] : List Nat) = [to, tk, tf, tb, ta])) (by decide) ⟨Nat.zero_le _, Nat.zero_le _⟩ hl.1 rfl (Nat.le_of_ble_eq_true rfl) dX1_standingByTwo_67 (fun r _ H locs hr hw => ?_)
      have hw : Wd G (fA [(h0, .inr (1, [.ref so, .ref to, .ref uo, .int (nI im), .ref x5, .int (nI lm), .ref x6, .int (nI rm), .ref x7, .ref x8, .int sd])), (so, .inr (0, [.int (nI (sN R)), .int (nI (R 0 1)), .int (nI (sF R)), .int (nI (sS R)), .int (nI (sL R)), .ref ak, .ref af, .ref ab, .ref aa])), (ak, aI G 10 (sK R)), (af, aI G 10 (sG R)), (ab, aI G 10 (sO R)), (aa, aI G 10 (sA R)), (to, .inr (0, [.int (nI (sN S)), .int (nI m0), .int (nI (sF S)), .int (nI (sS S)), .int (nI (sL S)), .ref tk, .ref tf, .ref tb, .ref ta])), (tk, aI G 10 (sK S)), (tf, aI G 10 (sG S)), (tb, aI G 10 (sO S)), (ta, aI G 10 (sA S))]) s [(h0, .inr (1, [.ref so, .ref to, .ref uo, .int (nI im), .ref x5, .int (nI lm), .ref x6, .int (nI rm), .ref x7, .ref x8, .int sd])), (so, .inr (0, [.int (nI (sN R)), .int (nI (R 0 1)), .int (nI (sF R)), .int (nI (sS R)), .int (nI (sL R)), .ref ak, .ref af, .ref ab, .ref aa])), (ak, aI G 10 (sK R)), (af, aI G 10 (sG R)), (ab, aI G 10 (sO R)), (aa, aI G 10 (sA R)), (to, .inr (0, [.int (nI (sN (itF (spF R a x b y) n))), .int (nI ((R 0 1) + n)), .int (nI (sF (itF (spF R a x b y) n))), .int (nI (sS (itF (spF R a x b y) n))), .int (nI (sL (itF (spF R a x b y) n))), .ref tk, .ref tf, .ref tb, .ref ta])), (tk, aI G 10 (sK (itF (spF R a x b y) n))), (tf, aI G 10 (sG (itF (spF R a x b y) n))), (tb, aI G 10 (sO (itF (spF R a x b y) n))), (ta, aI G 10 (sA (itF (spF R a x b y) n)))] H locs := hw
      subst hr
      exact rt_i C hw (itF (spF R a x b y) n) (⟨rfl, trivial⟩) rfl dX1_standingByTwo_70
  · skip
    have c_19 := b1_c c_19
    refine lv_aload_n xx xb dX1_standingByTwo_22 rfl (lv_at hl 0 rfl) ?_
    refine m_get C hw 0 rfl fk_X1_16 rfl dX1_standingByTwo_23 ?_
    refine lv_iload_n xx xb dX1_standingByTwo_26 rfl (lv_at hl 1 rfl) ?_
    refine re_i (nI a) (of_toInt (by omega) (by omega)) ?_
    refine lv_bipush (v := nI 9) xx xb dX1_standingByTwo_27 (by decide) ?_
    have hM := kX0_pullThing l G to tk tf tb ta (R 0 1) R a 9 hR ha c_19.2 (by first | assumption | omega)
    refine cv_i C hw hM yvX0_pullThing ml_X1_90 6 rfl rfl rfl [6, 7, 8, 9, 10] rfl rfl (fun _ => (rfl : ([to, tk, tf, tb, ta] : List Nat) = [to, tk, tf, tb, ta])) (by decide) ⟨Nat.zero_le _, Nat.zero_le _⟩ hl.1 rfl (Nat.le_of_ble_eq_true rfl) dX1_standingByTwo_29 (fun r _ H locs hr hw => ?_)
    have hw : Wd G (fA [(h0, .inr (1, [.ref so, .ref to, .ref uo, .int (nI im), .ref x5, .int (nI lm), .ref x6, .int (nI rm), .ref x7, .ref x8, .int sd])), (so, .inr (0, [.int (nI (sN R)), .int (nI (R 0 1)), .int (nI (sF R)), .int (nI (sS R)), .int (nI (sL R)), .ref ak, .ref af, .ref ab, .ref aa])), (ak, aI G 10 (sK R)), (af, aI G 10 (sG R)), (ab, aI G 10 (sO R)), (aa, aI G 10 (sA R)), (to, .inr (0, [.int (nI (sN S)), .int (nI m0), .int (nI (sF S)), .int (nI (sS S)), .int (nI (sL S)), .ref tk, .ref tf, .ref tb, .ref ta])), (tk, aI G 10 (sK S)), (tf, aI G 10 (sG S)), (tb, aI G 10 (sO S)), (ta, aI G 10 (sA S))]) s [(h0, .inr (1, [.ref so, .ref to, .ref uo, .int (nI im), .ref x5, .int (nI lm), .ref x6, .int (nI rm), .ref x7, .ref x8, .int sd])), (so, .inr (0, [.int (nI (sN R)), .int (nI (R 0 1)), .int (nI (sF R)), .int (nI (sS R)), .int (nI (sL R)), .ref ak, .ref af, .ref ab, .ref aa])), (ak, aI G 10 (sK R)), (af, aI G 10 (sG R)), (ab, aI G 10 (sO R)), (aa, aI G 10 (sA R)), (to, .inr (0, [.int (nI (sN (pulF R a 9))), .int (nI (R 0 1)), .int (nI (sF (pulF R a 9))), .int (nI (sS (pulF R a 9))), .int (nI (sL (pulF R a 9))), .ref tk, .ref tf, .ref tb, .ref ta])), (tk, aI G 10 (sK (pulF R a 9))), (tf, aI G 10 (sG (pulF R a 9))), (tb, aI G 10 (sO (pulF R a 9))), (ta, aI G 10 (sA (pulF R a 9)))] H locs := hw
    subst hr
    refine lv_pop xx xb dX1_standingByTwo_32 rfl ?_
    have hw : Wd G (fA [(h0, .inr (1, [.ref so, .ref to, .ref uo, .int (nI im), .ref x5, .int (nI lm), .ref x6, .int (nI rm), .ref x7, .ref x8, .int sd])), (so, .inr (0, [.int (nI (sN R)), .int (nI (R 0 1)), .int (nI (sF R)), .int (nI (sS R)), .int (nI (sL R)), .ref ak, .ref af, .ref ab, .ref aa])), (ak, aI G 10 (sK R)), (af, aI G 10 (sG R)), (ab, aI G 10 (sO R)), (aa, aI G 10 (sA R)), (to, .inr (0, [.int (nI (sN S)), .int (nI m0), .int (nI (sF S)), .int (nI (sS S)), .int (nI (sL S)), .ref tk, .ref tf, .ref tb, .ref ta])), (tk, aI G 10 (sK S)), (tf, aI G 10 (sG S)), (tb, aI G 10 (sO S)), (ta, aI G 10 (sA S))]) s [(h0, .inr (1, [.ref so, .ref to, .ref uo, .int (nI im), .ref x5, .int (nI lm), .ref x6, .int (nI rm), .ref x7, .ref x8, .int sd])), (so, .inr (0, [.int (nI (sN R)), .int (nI (R 0 1)), .int (nI (sF R)), .int (nI (sS R)), .int (nI (sL R)), .ref ak, .ref af, .ref ab, .ref aa])), (ak, aI G 10 (sK R)), (af, aI G 10 (sG R)), (ab, aI G 10 (sO R)), (aa, aI G 10 (sA R)), (to, .inr (0, [.int (nI (sN (spP R a x))), .int (nI (R 0 1)), .int (nI (sF (spP R a x))), .int (nI (sS (spP R a x))), .int (nI (sL (spP R a x))), .ref tk, .ref tf, .ref tb, .ref ta])), (tk, aI G 10 (sK (spP R a x))), (tf, aI G 10 (sG (spP R a x))), (tb, aI G 10 (sO (spP R a x))), (ta, aI G 10 (sA (spP R a x)))] H locs := by first | (rw [show spP R a x = _ from if_pos c_19]; exact hw) | (rw [show spP R a x = _ from if_neg c_19]; exact hw)
    refine lv_aload_n xx xb dX1_standingByTwo_33 rfl (lv_at hl 0 rfl) ?_
    refine m_get C hw 0 rfl fk_X1_16 rfl dX1_standingByTwo_34 ?_
    refine lv_iload_n xx xb dX1_standingByTwo_37 rfl (lv_at hl 2 rfl) ?_
    have hM := kX0_stands l G to tk tf tb ta (R 0 1) (spP R a x) p2 p2z h_p2 hS1
    refine cv_i C hw hM yvX0_stands ml_X1_166 6 rfl rfl rfl [6, 7, 8, 9, 10] rfl rfl (fun _ => (rfl : ([to, tk, tf, tb, ta] : List Nat) = [to, tk, tf, tb, ta])) (by decide) ⟨Nat.zero_le _, Nat.zero_le _⟩ hl.1 rfl (Nat.le_of_ble_eq_true rfl) dX1_standingByTwo_38 (fun r _ H locs hr hw => ?_)
    have hw : Wd G (fA [(h0, .inr (1, [.ref so, .ref to, .ref uo, .int (nI im), .ref x5, .int (nI lm), .ref x6, .int (nI rm), .ref x7, .ref x8, .int sd])), (so, .inr (0, [.int (nI (sN R)), .int (nI (R 0 1)), .int (nI (sF R)), .int (nI (sS R)), .int (nI (sL R)), .ref ak, .ref af, .ref ab, .ref aa])), (ak, aI G 10 (sK R)), (af, aI G 10 (sG R)), (ab, aI G 10 (sO R)), (aa, aI G 10 (sA R)), (to, .inr (0, [.int (nI (sN S)), .int (nI m0), .int (nI (sF S)), .int (nI (sS S)), .int (nI (sL S)), .ref tk, .ref tf, .ref tb, .ref ta])), (tk, aI G 10 (sK S)), (tf, aI G 10 (sG S)), (tb, aI G 10 (sO S)), (ta, aI G 10 (sA S))]) s [(h0, .inr (1, [.ref so, .ref to, .ref uo, .int (nI im), .ref x5, .int (nI lm), .ref x6, .int (nI rm), .ref x7, .ref x8, .int sd])), (so, .inr (0, [.int (nI (sN R)), .int (nI (R 0 1)), .int (nI (sF R)), .int (nI (sS R)), .int (nI (sL R)), .ref ak, .ref af, .ref ab, .ref aa])), (ak, aI G 10 (sK R)), (af, aI G 10 (sG R)), (ab, aI G 10 (sO R)), (aa, aI G 10 (sA R)), (to, .inr (0, [.int (nI (sN (spP R a x))), .int (nI (R 0 1)), .int (nI (sF (spP R a x))), .int (nI (sS (spP R a x))), .int (nI (sL (spP R a x))), .ref tk, .ref tf, .ref tb, .ref ta])), (tk, aI G 10 (sK (spP R a x))), (tf, aI G 10 (sG (spP R a x))), (tb, aI G 10 (sO (spP R a x))), (ta, aI G 10 (sA (spP R a x)))] H locs := hw
    subst hr
    refine re_i (if y = 1 ∧ spP R a x 4 b = 0 then 1 else 0) (sp_i (R := spP R a x) hy2) ?_
    refine lv_if_eq (tgt := 55) xx xb dX1_standingByTwo_41 (by decide) (fun c_41 => ?_) (fun c_41 => ?_)
    · skip
      have c_41 := b0_c c_41
      have hw : Wd G (fA [(h0, .inr (1, [.ref so, .ref to, .ref uo, .int (nI im), .ref x5, .int (nI lm), .ref x6, .int (nI rm), .ref x7, .ref x8, .int sd])), (so, .inr (0, [.int (nI (sN R)), .int (nI (R 0 1)), .int (nI (sF R)), .int (nI (sS R)), .int (nI (sL R)), .ref ak, .ref af, .ref ab, .ref aa])), (ak, aI G 10 (sK R)), (af, aI G 10 (sG R)), (ab, aI G 10 (sO R)), (aa, aI G 10 (sA R)), (to, .inr (0, [.int (nI (sN S)), .int (nI m0), .int (nI (sF S)), .int (nI (sS S)), .int (nI (sL S)), .ref tk, .ref tf, .ref tb, .ref ta])), (tk, aI G 10 (sK S)), (tf, aI G 10 (sG S)), (tb, aI G 10 (sO S)), (ta, aI G 10 (sA S))]) s [(h0, .inr (1, [.ref so, .ref to, .ref uo, .int (nI im), .ref x5, .int (nI lm), .ref x6, .int (nI rm), .ref x7, .ref x8, .int sd])), (so, .inr (0, [.int (nI (sN R)), .int (nI (R 0 1)), .int (nI (sF R)), .int (nI (sS R)), .int (nI (sL R)), .ref ak, .ref af, .ref ab, .ref aa])), (ak, aI G 10 (sK R)), (af, aI G 10 (sG R)), (ab, aI G 10 (sO R)), (aa, aI G 10 (sA R)), (to, .inr (0, [.int (nI (sN (spF R a x b y))), .int (nI (R 0 1)), .int (nI (sF (spF R a x b y))), .int (nI (sS (spF R a x b y))), .int (nI (sL (spF R a x b y))), .ref tk, .ref tf, .ref tb, .ref ta])), (tk, aI G 10 (sK (spF R a x b y))), (tf, aI G 10 (sG (spF R a x b y))), (tb, aI G 10 (sO (spF R a x b y))), (ta, aI G 10 (sA (spF R a x b y)))] H locs := by first | (rw [show spF R a x b y = _ from if_pos c_41]; exact hw) | (rw [show spF R a x b y = _ from if_neg c_41]; exact hw)
      refine lv_aload_n xx xb dX1_standingByTwo_55 rfl (lv_at hl 0 rfl) ?_
      refine m_get C hw 0 rfl fk_X1_16 rfl dX1_standingByTwo_56 ?_
      refine lv_iload_n xx xb dX1_standingByTwo_59 rfl (lv_at hl 3 rfl) ?_
      have hM := kX0_passMinutes l G to tk tf tb ta (R 0 1) (spF R a x b y) n hS2 (AK_spP (AK_spP hK a x) b y) (spF_03 hp a x b y) (by omega)
      refine cv_v C hw hM yvX0_passMinutes ml_X1_125 6 rfl rfl rfl [6, 7, 8, 9, 10] rfl rfl (fun _ => (rfl : ([to, tk, tf, tb, ta] : List Nat) = [to, tk, tf, tb, ta])) (by decide) ⟨Nat.zero_le _, Nat.zero_le _⟩ hl.1 rfl (Nat.le_of_ble_eq_true rfl) dX1_standingByTwo_60 (fun _ H locs hr hw => ?_)
      have hw : Wd G (fA [(h0, .inr (1, [.ref so, .ref to, .ref uo, .int (nI im), .ref x5, .int (nI lm), .ref x6, .int (nI rm), .ref x7, .ref x8, .int sd])), (so, .inr (0, [.int (nI (sN R)), .int (nI (R 0 1)), .int (nI (sF R)), .int (nI (sS R)), .int (nI (sL R)), .ref ak, .ref af, .ref ab, .ref aa])), (ak, aI G 10 (sK R)), (af, aI G 10 (sG R)), (ab, aI G 10 (sO R)), (aa, aI G 10 (sA R)), (to, .inr (0, [.int (nI (sN S)), .int (nI m0), .int (nI (sF S)), .int (nI (sS S)), .int (nI (sL S)), .ref tk, .ref tf, .ref tb, .ref ta])), (tk, aI G 10 (sK S)), (tf, aI G 10 (sG S)), (tb, aI G 10 (sO S)), (ta, aI G 10 (sA S))]) s [(h0, .inr (1, [.ref so, .ref to, .ref uo, .int (nI im), .ref x5, .int (nI lm), .ref x6, .int (nI rm), .ref x7, .ref x8, .int sd])), (so, .inr (0, [.int (nI (sN R)), .int (nI (R 0 1)), .int (nI (sF R)), .int (nI (sS R)), .int (nI (sL R)), .ref ak, .ref af, .ref ab, .ref aa])), (ak, aI G 10 (sK R)), (af, aI G 10 (sG R)), (ab, aI G 10 (sO R)), (aa, aI G 10 (sA R)), (to, .inr (0, [.int (nI (sN (itF (spF R a x b y) n))), .int (nI ((R 0 1) + n)), .int (nI (sF (itF (spF R a x b y) n))), .int (nI (sS (itF (spF R a x b y) n))), .int (nI (sL (itF (spF R a x b y) n))), .ref tk, .ref tf, .ref tb, .ref ta])), (tk, aI G 10 (sK (itF (spF R a x b y) n))), (tf, aI G 10 (sG (itF (spF R a x b y) n))), (tb, aI G 10 (sO (itF (spF R a x b y) n))), (ta, aI G 10 (sA (itF (spF R a x b y) n)))] H locs := hw
      refine lv_aload_n xx xb dX1_standingByTwo_63 rfl (lv_at hl 0 rfl) ?_
      refine m_get C hw 0 rfl fk_X1_16 rfl dX1_standingByTwo_64 ?_
      have hM := kX0_countStanding l G to tk tf tb ta ((R 0 1) + n) (itF (spF R a x b y) n) (OK_itF hS2 n)
      refine cv_i C hw hM yvX0_countStanding ml_X1_128 6 rfl rfl rfl [6, 7, 8, 9, 10] rfl rfl (fun _ => (rfl : ([to, tk, tf, tb, ta] : List Nat) = [to, tk, tf, tb, ta])) (by decide) ⟨Nat.zero_le _, Nat.zero_le _⟩ hl.1 rfl (Nat.le_of_ble_eq_true rfl) dX1_standingByTwo_67 (fun r _ H locs hr hw => ?_)
      have hw : Wd G (fA [(h0, .inr (1, [.ref so, .ref to, .ref uo, .int (nI im), .ref x5, .int (nI lm), .ref x6, .int (nI rm), .ref x7, .ref x8, .int sd])), (so, .inr (0, [.int (nI (sN R)), .int (nI (R 0 1)), .int (nI (sF R)), .int (nI (sS R)), .int (nI (sL R)), .ref ak, .ref af, .ref ab, .ref aa])), (ak, aI G 10 (sK R)), (af, aI G 10 (sG R)), (ab, aI G 10 (sO R)), (aa, aI G 10 (sA R)), (to, .inr (0, [.int (nI (sN S)), .int (nI m0), .int (nI (sF S)), .int (nI (sS S)), .int (nI (sL S)), .ref tk, .ref tf, .ref tb, .ref ta])), (tk, aI G 10 (sK S)), (tf, aI G 10 (sG S)), (tb, aI G 10 (sO S)), (ta, aI G 10 (sA S))]) s [(h0, .inr (1, [.ref so, .ref to, .ref uo, .int (nI im), .ref x5, .int (nI lm), .ref x6, .int (nI rm), .ref x7, .ref x8, .int sd])), (so, .inr (0, [.int (nI (sN R)), .int (nI (R 0 1)), .int (nI (sF R)), .int (nI (sS R)), .int (nI (sL R)), .ref ak, .ref af, .ref ab, .ref aa])), (ak, aI G 10 (sK R)), (af, aI G 10 (sG R)), (ab, aI G 10 (sO R)), (aa, aI G 10 (sA R)), (to, .inr (0, [.int (nI (sN (itF (spF R a x b y) n))), .int (nI ((R 0 1) + n)), .int (nI (sF (itF (spF R a x b y) n))), .int (nI (sS (itF (spF R a x b y) n))), .int (nI (sL (itF (spF R a x b y) n))), .ref tk, .ref tf, .ref tb, .ref ta])), (tk, aI G 10 (sK (itF (spF R a x b y) n))), (tf, aI G 10 (sG (itF (spF R a x b y) n))), (tb, aI G 10 (sO (itF (spF R a x b y) n))), (ta, aI G 10 (sA (itF (spF R a x b y) n)))] H locs := hw
      subst hr
      exact rt_i C hw (itF (spF R a x b y) n) (⟨rfl, trivial⟩) rfl dX1_standingByTwo_70
    · skip
      have c_41 := b1_c c_41
      refine lv_aload_n xx xb dX1_standingByTwo_44 rfl (lv_at hl 0 rfl) ?_
      refine m_get C hw 0 rfl fk_X1_16 rfl dX1_standingByTwo_45 ?_
      refine lv_iload_n xx xb dX1_standingByTwo_48 rfl (lv_at hl 2 rfl) ?_
      refine re_i (nI b) (of_toInt (by omega) (by omega)) ?_
      refine lv_bipush (v := nI 9) xx xb dX1_standingByTwo_49 (by decide) ?_
      have hM := kX0_pullThing l G to tk tf tb ta (R 0 1) (spP R a x) b 9 hS1 (by rw [spP_00]; exact hb) c_41.2 (by first | assumption | omega)
      refine cv_i C hw hM yvX0_pullThing ml_X1_90 6 rfl rfl rfl [6, 7, 8, 9, 10] rfl rfl (fun _ => (rfl : ([to, tk, tf, tb, ta] : List Nat) = [to, tk, tf, tb, ta])) (by decide) ⟨Nat.zero_le _, Nat.zero_le _⟩ hl.1 rfl (Nat.le_of_ble_eq_true rfl) dX1_standingByTwo_51 (fun r _ H locs hr hw => ?_)
      have hw : Wd G (fA [(h0, .inr (1, [.ref so, .ref to, .ref uo, .int (nI im), .ref x5, .int (nI lm), .ref x6, .int (nI rm), .ref x7, .ref x8, .int sd])), (so, .inr (0, [.int (nI (sN R)), .int (nI (R 0 1)), .int (nI (sF R)), .int (nI (sS R)), .int (nI (sL R)), .ref ak, .ref af, .ref ab, .ref aa])), (ak, aI G 10 (sK R)), (af, aI G 10 (sG R)), (ab, aI G 10 (sO R)), (aa, aI G 10 (sA R)), (to, .inr (0, [.int (nI (sN S)), .int (nI m0), .int (nI (sF S)), .int (nI (sS S)), .int (nI (sL S)), .ref tk, .ref tf, .ref tb, .ref ta])), (tk, aI G 10 (sK S)), (tf, aI G 10 (sG S)), (tb, aI G 10 (sO S)), (ta, aI G 10 (sA S))]) s [(h0, .inr (1, [.ref so, .ref to, .ref uo, .int (nI im), .ref x5, .int (nI lm), .ref x6, .int (nI rm), .ref x7, .ref x8, .int sd])), (so, .inr (0, [.int (nI (sN R)), .int (nI (R 0 1)), .int (nI (sF R)), .int (nI (sS R)), .int (nI (sL R)), .ref ak, .ref af, .ref ab, .ref aa])), (ak, aI G 10 (sK R)), (af, aI G 10 (sG R)), (ab, aI G 10 (sO R)), (aa, aI G 10 (sA R)), (to, .inr (0, [.int (nI (sN (pulF (spP R a x) b 9))), .int (nI (R 0 1)), .int (nI (sF (pulF (spP R a x) b 9))), .int (nI (sS (pulF (spP R a x) b 9))), .int (nI (sL (pulF (spP R a x) b 9))), .ref tk, .ref tf, .ref tb, .ref ta])), (tk, aI G 10 (sK (pulF (spP R a x) b 9))), (tf, aI G 10 (sG (pulF (spP R a x) b 9))), (tb, aI G 10 (sO (pulF (spP R a x) b 9))), (ta, aI G 10 (sA (pulF (spP R a x) b 9)))] H locs := hw
      subst hr
      refine lv_pop xx xb dX1_standingByTwo_54 rfl ?_
      have hw : Wd G (fA [(h0, .inr (1, [.ref so, .ref to, .ref uo, .int (nI im), .ref x5, .int (nI lm), .ref x6, .int (nI rm), .ref x7, .ref x8, .int sd])), (so, .inr (0, [.int (nI (sN R)), .int (nI (R 0 1)), .int (nI (sF R)), .int (nI (sS R)), .int (nI (sL R)), .ref ak, .ref af, .ref ab, .ref aa])), (ak, aI G 10 (sK R)), (af, aI G 10 (sG R)), (ab, aI G 10 (sO R)), (aa, aI G 10 (sA R)), (to, .inr (0, [.int (nI (sN S)), .int (nI m0), .int (nI (sF S)), .int (nI (sS S)), .int (nI (sL S)), .ref tk, .ref tf, .ref tb, .ref ta])), (tk, aI G 10 (sK S)), (tf, aI G 10 (sG S)), (tb, aI G 10 (sO S)), (ta, aI G 10 (sA S))]) s [(h0, .inr (1, [.ref so, .ref to, .ref uo, .int (nI im), .ref x5, .int (nI lm), .ref x6, .int (nI rm), .ref x7, .ref x8, .int sd])), (so, .inr (0, [.int (nI (sN R)), .int (nI (R 0 1)), .int (nI (sF R)), .int (nI (sS R)), .int (nI (sL R)), .ref ak, .ref af, .ref ab, .ref aa])), (ak, aI G 10 (sK R)), (af, aI G 10 (sG R)), (ab, aI G 10 (sO R)), (aa, aI G 10 (sA R)), (to, .inr (0, [.int (nI (sN (spF R a x b y))), .int (nI (R 0 1)), .int (nI (sF (spF R a x b y))), .int (nI (sS (spF R a x b y))), .int (nI (sL (spF R a x b y))), .ref tk, .ref tf, .ref tb, .ref ta])), (tk, aI G 10 (sK (spF R a x b y))), (tf, aI G 10 (sG (spF R a x b y))), (tb, aI G 10 (sO (spF R a x b y))), (ta, aI G 10 (sA (spF R a x b y)))] H locs := by first | (rw [show spF R a x b y = _ from if_pos c_41]; exact hw) | (rw [show spF R a x b y = _ from if_neg c_41]; exact hw)
      refine lv_aload_n xx xb dX1_standingByTwo_55 rfl (lv_at hl 0 rfl) ?_
      refine m_get C hw 0 rfl fk_X1_16 rfl dX1_standingByTwo_56 ?_
      refine lv_iload_n xx xb dX1_standingByTwo_59 rfl (lv_at hl 3 rfl) ?_
      have hM := kX0_passMinutes l G to tk tf tb ta (R 0 1) (spF R a x b y) n hS2 (AK_spP (AK_spP hK a x) b y) (spF_03 hp a x b y) (by omega)
      refine cv_v C hw hM yvX0_passMinutes ml_X1_125 6 rfl rfl rfl [6, 7, 8, 9, 10] rfl rfl (fun _ => (rfl : ([to, tk, tf, tb, ta] : List Nat) = [to, tk, tf, tb, ta])) (by decide) ⟨Nat.zero_le _, Nat.zero_le _⟩ hl.1 rfl (Nat.le_of_ble_eq_true rfl) dX1_standingByTwo_60 (fun _ H locs hr hw => ?_)
      have hw : Wd G (fA [(h0, .inr (1, [.ref so, .ref to, .ref uo, .int (nI im), .ref x5, .int (nI lm), .ref x6, .int (nI rm), .ref x7, .ref x8, .int sd])), (so, .inr (0, [.int (nI (sN R)), .int (nI (R 0 1)), .int (nI (sF R)), .int (nI (sS R)), .int (nI (sL R)), .ref ak, .ref af, .ref ab, .ref aa])), (ak, aI G 10 (sK R)), (af, aI G 10 (sG R)), (ab, aI G 10 (sO R)), (aa, aI G 10 (sA R)), (to, .inr (0, [.int (nI (sN S)), .int (nI m0), .int (nI (sF S)), .int (nI (sS S)), .int (nI (sL S)), .ref tk, .ref tf, .ref tb, .ref ta])), (tk, aI G 10 (sK S)), (tf, aI G 10 (sG S)), (tb, aI G 10 (sO S)), (ta, aI G 10 (sA S))]) s [(h0, .inr (1, [.ref so, .ref to, .ref uo, .int (nI im), .ref x5, .int (nI lm), .ref x6, .int (nI rm), .ref x7, .ref x8, .int sd])), (so, .inr (0, [.int (nI (sN R)), .int (nI (R 0 1)), .int (nI (sF R)), .int (nI (sS R)), .int (nI (sL R)), .ref ak, .ref af, .ref ab, .ref aa])), (ak, aI G 10 (sK R)), (af, aI G 10 (sG R)), (ab, aI G 10 (sO R)), (aa, aI G 10 (sA R)), (to, .inr (0, [.int (nI (sN (itF (spF R a x b y) n))), .int (nI ((R 0 1) + n)), .int (nI (sF (itF (spF R a x b y) n))), .int (nI (sS (itF (spF R a x b y) n))), .int (nI (sL (itF (spF R a x b y) n))), .ref tk, .ref tf, .ref tb, .ref ta])), (tk, aI G 10 (sK (itF (spF R a x b y) n))), (tf, aI G 10 (sG (itF (spF R a x b y) n))), (tb, aI G 10 (sO (itF (spF R a x b y) n))), (ta, aI G 10 (sA (itF (spF R a x b y) n)))] H locs := hw
      refine lv_aload_n xx xb dX1_standingByTwo_63 rfl (lv_at hl 0 rfl) ?_
      refine m_get C hw 0 rfl fk_X1_16 rfl dX1_standingByTwo_64 ?_
      have hM := kX0_countStanding l G to tk tf tb ta ((R 0 1) + n) (itF (spF R a x b y) n) (OK_itF hS2 n)
      refine cv_i C hw hM yvX0_countStanding ml_X1_128 6 rfl rfl rfl [6, 7, 8, 9, 10] rfl rfl (fun _ => (rfl : ([to, tk, tf, tb, ta] : List Nat) = [to, tk, tf, tb, ta])) (by decide) ⟨Nat.zero_le _, Nat.zero_le _⟩ hl.1 rfl (Nat.le_of_ble_eq_true rfl) dX1_standingByTwo_67 (fun r _ H locs hr hw => ?_)
      have hw : Wd G (fA [(h0, .inr (1, [.ref so, .ref to, .ref uo, .int (nI im), .ref x5, .int (nI lm), .ref x6, .int (nI rm), .ref x7, .ref x8, .int sd])), (so, .inr (0, [.int (nI (sN R)), .int (nI (R 0 1)), .int (nI (sF R)), .int (nI (sS R)), .int (nI (sL R)), .ref ak, .ref af, .ref ab, .ref aa])), (ak, aI G 10 (sK R)), (af, aI G 10 (sG R)), (ab, aI G 10 (sO R)), (aa, aI G 10 (sA R)), (to, .inr (0, [.int (nI (sN S)), .int (nI m0), .int (nI (sF S)), .int (nI (sS S)), .int (nI (sL S)), .ref tk, .ref tf, .ref tb, .ref ta])), (tk, aI G 10 (sK S)), (tf, aI G 10 (sG S)), (tb, aI G 10 (sO S)), (ta, aI G 10 (sA S))]) s [(h0, .inr (1, [.ref so, .ref to, .ref uo, .int (nI im), .ref x5, .int (nI lm), .ref x6, .int (nI rm), .ref x7, .ref x8, .int sd])), (so, .inr (0, [.int (nI (sN R)), .int (nI (R 0 1)), .int (nI (sF R)), .int (nI (sS R)), .int (nI (sL R)), .ref ak, .ref af, .ref ab, .ref aa])), (ak, aI G 10 (sK R)), (af, aI G 10 (sG R)), (ab, aI G 10 (sO R)), (aa, aI G 10 (sA R)), (to, .inr (0, [.int (nI (sN (itF (spF R a x b y) n))), .int (nI ((R 0 1) + n)), .int (nI (sF (itF (spF R a x b y) n))), .int (nI (sS (itF (spF R a x b y) n))), .int (nI (sL (itF (spF R a x b y) n))), .ref tk, .ref tf, .ref tb, .ref ta])), (tk, aI G 10 (sK (itF (spF R a x b y) n))), (tf, aI G 10 (sG (itF (spF R a x b y) n))), (tb, aI G 10 (sO (itF (spF R a x b y) n))), (ta, aI G 10 (sA (itF (spF R a x b y) n)))] H locs := hw
      subst hr
      exact rt_i C hw (itF (spF R a x b y) n) (⟨rfl, trivial⟩) rfl dX1_standingByTwo_70
set_option maxRecDepth 100000 in
set_option maxHeartbeats 4000000 in
theorem kX1_keepsBoth (l : Launch) (G : GT) (k1 : Nat) (o1 : Nat) (t1 : Nat) (hs : k1 ≤ 10) (ho : o1 ≤ 10) (ht : t1 ≤ 10) : Ct l yX1_keepsBoth cX1_keepsBoth 3 (some .boolean) 0 0 [.int (nI k1), .int (nI o1), .int (nI t1)] G [] (QI G [] (fun (r : Int32) (u : Unit) => r = if o1 ≤ k1 ∧ k1 ≤ t1 then 1 else 0) (fun u => [])) := by
  refine en (by decide +kernel) (Nat.le_of_ble_eq_true rfl) ?_
  intro p e s m below meth c ls H locs C hl hw
  have xx := C.1
  have xb := C.2.1
  have hw : Wd G (fA []) s [] H locs := hw
  have hl : lv_has ls 3 [(0, .int (nI k1)), (1, .int (nI o1)), (2, .int (nI t1))] := hl
  refine lv_iload_n xx xb dX1_keepsBoth_0 rfl (lv_at hl 0 rfl) ?_
  refine lv_iload_n xx xb dX1_keepsBoth_1 rfl (lv_at hl 1 rfl) ?_
  refine lv_icmp_lt (tgt := 14) xx xb dX1_keepsBoth_2 (by decide) (fun c_2 => ?_) (fun c_2 => ?_)
  · skip
    have c_2 := lt_c (tN (by omega)) (tN (by omega)) c_2
    refine lv_iconst (v := nI 0) xx xb dX1_keepsBoth_14 (by decide) ?_
    exact rt_z C hw () (Or.inl rfl) (by first | exact r1 (by omega) | exact r0 (by omega)) rfl dX1_keepsBoth_15
  · skip
    have c_2 := nlt_c (tN (by omega)) (tN (by omega)) c_2
    refine lv_iload_n xx xb dX1_keepsBoth_5 rfl (lv_at hl 0 rfl) ?_
    refine lv_iload_n xx xb dX1_keepsBoth_6 rfl (lv_at hl 2 rfl) ?_
    refine lv_icmp_gt (tgt := 14) xx xb dX1_keepsBoth_7 (by decide) (fun c_7 => ?_) (fun c_7 => ?_)
    · skip
      have c_7 := lt_c (tN (by omega)) (tN (by omega)) c_7
      refine lv_iconst (v := nI 0) xx xb dX1_keepsBoth_14 (by decide) ?_
      exact rt_z C hw () (Or.inl rfl) (by first | exact r1 (by omega) | exact r0 (by omega)) rfl dX1_keepsBoth_15
    · skip
      have c_7 := nlt_c (tN (by omega)) (tN (by omega)) c_7
      refine lv_iconst (v := nI 1) xx xb dX1_keepsBoth_10 (by decide) ?_
      refine lv_goto (tgt := 15) xx xb dX1_keepsBoth_11 (by decide) ?_
      exact rt_z C hw () (Or.inr rfl) (by first | exact r1 (by omega) | exact r0 (by omega)) rfl dX1_keepsBoth_15
set_option maxRecDepth 100000 in
set_option maxHeartbeats 4000000 in
theorem kX1_two (l : Launch) (G : GT) (h0 : Nat) (so : Nat) (to : Nat) (uo : Nat) (x5 : Nat) (x6 : Nat) (x7 : Nat) (x8 : Nat) (im : Nat) (lm : Nat) (rm : Nat) (sd : Int32) (rf : Nat → Nat) (ak : Nat) (af : Nat) (ab : Nat) (aa : Nat) (R : RT) (tk : Nat) (tf : Nat) (tb : Nat) (ta : Nat) (m0 : Nat) (S : RT) (x : Int32) (xz : Int) (y : Int32) (yz : Int) (n : Int32) (nz : Int) (h_x : x.toInt = xz) (h_y : y.toInt = yz) (h_n : n.toInt = nz) (hR : OK R) (hK : AK R) (hp : R 0 3 = 0) : Ct l yX1_two cX1_two 10 (some .int) 5 123 [.ref h0, .int x, .int y, .int n] G [(h0, .inr (1, [.ref so, .ref to, .ref uo, .int (nI im), .ref x5, .int (nI lm), .ref x6, .int (nI rm), .ref x7, .ref x8, .int sd])), (so, .inr (0, [.int (nI (sN R)), .int (nI (R 0 1)), .int (nI (sF R)), .int (nI (sS R)), .int (nI (sL R)), .ref ak, .ref af, .ref ab, .ref aa])), (ak, aI G 10 (sK R)), (af, aI G 10 (sG R)), (ab, aI G 10 (sO R)), (aa, aI G 10 (sA R)), (to, .inr (0, [.int (nI (sN S)), .int (nI m0), .int (nI (sF S)), .int (nI (sS S)), .int (nI (sL S)), .ref tk, .ref tf, .ref tb, .ref ta])), (tk, aI G 10 (sK S)), (tf, aI G 10 (sG S)), (tb, aI G 10 (sO S)), (ta, aI G 10 (sA S)), (x7, aI G 7 (cN rf))] (QI G [(h0, .inr (1, [.ref so, .ref to, .ref uo, .int (nI im), .ref x5, .int (nI lm), .ref x6, .int (nI rm), .ref x7, .ref x8, .int sd])), (so, .inr (0, [.int (nI (sN R)), .int (nI (R 0 1)), .int (nI (sF R)), .int (nI (sS R)), .int (nI (sL R)), .ref ak, .ref af, .ref ab, .ref aa])), (ak, aI G 10 (sK R)), (af, aI G 10 (sG R)), (ab, aI G 10 (sO R)), (aa, aI G 10 (sA R)), (to, .inr (0, [.int (nI (sN S)), .int (nI m0), .int (nI (sF S)), .int (nI (sS S)), .int (nI (sL S)), .ref tk, .ref tf, .ref tb, .ref ta])), (tk, aI G 10 (sK S)), (tf, aI G 10 (sG S)), (tb, aI G 10 (sO S)), (ta, aI G 10 (sA S)), (x7, aI G 7 (cN rf))] (fun (r : Int32) (u : Nat × RT) => r = anI (cTwo R xz yz nz) (vTwo R xz.toNat yz.toNat nz.toNat)) (fun u => [(h0, .inr (1, [.ref so, .ref to, .ref uo, .int (nI im), .ref x5, .int (nI lm), .ref x6, .int (nI rm), .ref x7, .ref x8, .int sd])), (so, .inr (0, [.int (nI (sN R)), .int (nI (R 0 1)), .int (nI (sF R)), .int (nI (sS R)), .int (nI (sL R)), .ref ak, .ref af, .ref ab, .ref aa])), (ak, aI G 10 (sK R)), (af, aI G 10 (sG R)), (ab, aI G 10 (sO R)), (aa, aI G 10 (sA R)), (to, .inr (0, [.int (nI (sN u.2)), .int (nI u.1), .int (nI (sF u.2)), .int (nI (sS u.2)), .int (nI (sL u.2)), .ref tk, .ref tf, .ref tb, .ref ta])), (tk, aI G 10 (sK u.2)), (tf, aI G 10 (sG u.2)), (tb, aI G 10 (sO u.2)), (ta, aI G 10 (sA u.2)), (x7, aI G 7 (cN (rfU rf (cTwo R xz yz nz))))])) := by
  refine en (by decide +kernel) (Nat.le_of_ble_eq_true rfl) ?_
  intro p e s m below meth c ls H locs C hl hw
  have xx := C.1
  have xb := C.2.1
  have hw : Wd G (fA [(h0, .inr (1, [.ref so, .ref to, .ref uo, .int (nI im), .ref x5, .int (nI lm), .ref x6, .int (nI rm), .ref x7, .ref x8, .int sd])), (so, .inr (0, [.int (nI (sN R)), .int (nI (R 0 1)), .int (nI (sF R)), .int (nI (sS R)), .int (nI (sL R)), .ref ak, .ref af, .ref ab, .ref aa])), (ak, aI G 10 (sK R)), (af, aI G 10 (sG R)), (ab, aI G 10 (sO R)), (aa, aI G 10 (sA R)), (to, .inr (0, [.int (nI (sN S)), .int (nI m0), .int (nI (sF S)), .int (nI (sS S)), .int (nI (sL S)), .ref tk, .ref tf, .ref tb, .ref ta])), (tk, aI G 10 (sK S)), (tf, aI G 10 (sG S)), (tb, aI G 10 (sO S)), (ta, aI G 10 (sA S)), (x7, aI G 7 (cN rf))]) s [(h0, .inr (1, [.ref so, .ref to, .ref uo, .int (nI im), .ref x5, .int (nI lm), .ref x6, .int (nI rm), .ref x7, .ref x8, .int sd])), (so, .inr (0, [.int (nI (sN R)), .int (nI (R 0 1)), .int (nI (sF R)), .int (nI (sS R)), .int (nI (sL R)), .ref ak, .ref af, .ref ab, .ref aa])), (ak, aI G 10 (sK R)), (af, aI G 10 (sG R)), (ab, aI G 10 (sO R)), (aa, aI G 10 (sA R)), (to, .inr (0, [.int (nI (sN S)), .int (nI m0), .int (nI (sF S)), .int (nI (sS S)), .int (nI (sL S)), .ref tk, .ref tf, .ref tb, .ref ta])), (tk, aI G 10 (sK S)), (tf, aI G 10 (sG S)), (tb, aI G 10 (sO S)), (ta, aI G 10 (sA S)), (x7, aI G 7 (cN rf))] H locs := hw
  have hl : lv_has ls 10 [(0, .ref h0), (1, .int x), (2, .int y), (3, .int n)] := hl
  obtain ⟨hn, hf0, hpr, hA⟩ := id hR
  have hc6 := cTwo_le R xz yz nz
  have hj6 := twJ_le R xz yz
  have J_44 : ∀  (H : Heap) (locs : List Loc) (ls : Array Slot), Wd G (fA [(h0, .inr (1, [.ref so, .ref to, .ref uo, .int (nI im), .ref x5, .int (nI lm), .ref x6, .int (nI rm), .ref x7, .ref x8, .int sd])), (so, .inr (0, [.int (nI (sN R)), .int (nI (R 0 1)), .int (nI (sF R)), .int (nI (sS R)), .int (nI (sL R)), .ref ak, .ref af, .ref ab, .ref aa])), (ak, aI G 10 (sK R)), (af, aI G 10 (sG R)), (ab, aI G 10 (sO R)), (aa, aI G 10 (sA R)), (to, .inr (0, [.int (nI (sN S)), .int (nI m0), .int (nI (sF S)), .int (nI (sS S)), .int (nI (sL S)), .ref tk, .ref tf, .ref tb, .ref ta])), (tk, aI G 10 (sK S)), (tf, aI G 10 (sG S)), (tb, aI G 10 (sO S)), (ta, aI G 10 (sA S)), (x7, aI G 7 (cN rf))]) s [(h0, .inr (1, [.ref so, .ref to, .ref uo, .int (nI im), .ref x5, .int (nI lm), .ref x6, .int (nI rm), .ref x7, .ref x8, .int sd])), (so, .inr (0, [.int (nI (sN R)), .int (nI (R 0 1)), .int (nI (sF R)), .int (nI (sS R)), .int (nI (sL R)), .ref ak, .ref af, .ref ab, .ref aa])), (ak, aI G 10 (sK R)), (af, aI G 10 (sG R)), (ab, aI G 10 (sO R)), (aa, aI G 10 (sA R)), (to, .inr (0, [.int (nI (sN S)), .int (nI m0), .int (nI (sF S)), .int (nI (sS S)), .int (nI (sL S)), .ref tk, .ref tf, .ref tb, .ref ta])), (tk, aI G 10 (sK S)), (tf, aI G 10 (sG S)), (tb, aI G 10 (sO S)), (ta, aI G 10 (sA S)), (x7, aI G 7 (cN rf))] H locs → lv_has ls 10 [(0, .ref h0), (1, .int x), (2, .int y), (3, .int n)] → W p l e ({ frames := 5, cells := 0, slots := 0, locals := 123 }) s m (([.ref h0, .int x, .int y, .int n] : List Value).toArray) below meth c H locs 0 0 (MQ below (QI G [(h0, .inr (1, [.ref so, .ref to, .ref uo, .int (nI im), .ref x5, .int (nI lm), .ref x6, .int (nI rm), .ref x7, .ref x8, .int sd])), (so, .inr (0, [.int (nI (sN R)), .int (nI (R 0 1)), .int (nI (sF R)), .int (nI (sS R)), .int (nI (sL R)), .ref ak, .ref af, .ref ab, .ref aa])), (ak, aI G 10 (sK R)), (af, aI G 10 (sG R)), (ab, aI G 10 (sO R)), (aa, aI G 10 (sA R)), (to, .inr (0, [.int (nI (sN S)), .int (nI m0), .int (nI (sF S)), .int (nI (sS S)), .int (nI (sL S)), .ref tk, .ref tf, .ref tb, .ref ta])), (tk, aI G 10 (sK S)), (tf, aI G 10 (sG S)), (tb, aI G 10 (sO S)), (ta, aI G 10 (sA S)), (x7, aI G 7 (cN rf))] (fun (r : Int32) (u : Nat × RT) => r = anI (cTwo R xz yz nz) (vTwo R xz.toNat yz.toNat nz.toNat)) (fun u => [(h0, .inr (1, [.ref so, .ref to, .ref uo, .int (nI im), .ref x5, .int (nI lm), .ref x6, .int (nI rm), .ref x7, .ref x8, .int sd])), (so, .inr (0, [.int (nI (sN R)), .int (nI (R 0 1)), .int (nI (sF R)), .int (nI (sS R)), .int (nI (sL R)), .ref ak, .ref af, .ref ab, .ref aa])), (ak, aI G 10 (sK R)), (af, aI G 10 (sG R)), (ab, aI G 10 (sO R)), (aa, aI G 10 (sA R)), (to, .inr (0, [.int (nI (sN u.2)), .int (nI u.1), .int (nI (sF u.2)), .int (nI (sS u.2)), .int (nI (sL u.2)), .ref tk, .ref tf, .ref tb, .ref ta])), (tk, aI G 10 (sK u.2)), (tf, aI G 10 (sG u.2)), (tb, aI G 10 (sO u.2)), (ta, aI G 10 (sA u.2)), (x7, aI G 7 (cN (rfU rf (cTwo R xz yz nz))))])) (([.ref h0, .int x, .int y, .int n] : List Value).toArray) s 0 0 (fA [(h0, .inr (1, [.ref so, .ref to, .ref uo, .int (nI im), .ref x5, .int (nI lm), .ref x6, .int (nI rm), .ref x7, .ref x8, .int sd])), (so, .inr (0, [.int (nI (sN R)), .int (nI (R 0 1)), .int (nI (sF R)), .int (nI (sS R)), .int (nI (sL R)), .ref ak, .ref af, .ref ab, .ref aa])), (ak, aI G 10 (sK R)), (af, aI G 10 (sG R)), (ab, aI G 10 (sO R)), (aa, aI G 10 (sA R)), (to, .inr (0, [.int (nI (sN S)), .int (nI m0), .int (nI (sF S)), .int (nI (sS S)), .int (nI (sL S)), .ref tk, .ref tf, .ref tb, .ref ta])), (tk, aI G 10 (sK S)), (tf, aI G 10 (sG S)), (tb, aI G 10 (sO S)), (ta, aI G 10 (sA S)), (x7, aI G 7 (cN rf))])) (F0 m 44 ls [.int (nG (twJ R xz yz))]) := by
    intro  H locs ls  hw hl
    refine lv_iload_n xx xb dX1_two_44 rfl (lv_at hl 3 rfl) ?_
    refine lv_iconst (v := nI 0) xx xb dX1_two_45 (by decide) ?_
    refine lv_bipush (v := nI 99) xx xb dX1_two_46 (by decide) ?_
    have hM := kX1_outside l G n nz (nI 0) 0 (nI 99) 99 h_n (tN (by omega)) (tN (by omega))
    refine cs_i C hw hM ysX1_outside ml_X1_35 rfl [] rfl rfl (fun _ => (rfl : ([] : List Nat) = [])) (by decide) ⟨Nat.zero_le _, Nat.zero_le _⟩ hl.1 rfl (Nat.le_of_ble_eq_true rfl) dX1_two_48 (fun r _ H locs hr hw => ?_)
    have hw : Wd G (fA [(h0, .inr (1, [.ref so, .ref to, .ref uo, .int (nI im), .ref x5, .int (nI lm), .ref x6, .int (nI rm), .ref x7, .ref x8, .int sd])), (so, .inr (0, [.int (nI (sN R)), .int (nI (R 0 1)), .int (nI (sF R)), .int (nI (sS R)), .int (nI (sL R)), .ref ak, .ref af, .ref ab, .ref aa])), (ak, aI G 10 (sK R)), (af, aI G 10 (sG R)), (ab, aI G 10 (sO R)), (aa, aI G 10 (sA R)), (to, .inr (0, [.int (nI (sN S)), .int (nI m0), .int (nI (sF S)), .int (nI (sS S)), .int (nI (sL S)), .ref tk, .ref tf, .ref tb, .ref ta])), (tk, aI G 10 (sK S)), (tf, aI G 10 (sG S)), (tb, aI G 10 (sO S)), (ta, aI G 10 (sA S)), (x7, aI G 7 (cN rf))]) s [(h0, .inr (1, [.ref so, .ref to, .ref uo, .int (nI im), .ref x5, .int (nI lm), .ref x6, .int (nI rm), .ref x7, .ref x8, .int sd])), (so, .inr (0, [.int (nI (sN R)), .int (nI (R 0 1)), .int (nI (sF R)), .int (nI (sS R)), .int (nI (sL R)), .ref ak, .ref af, .ref ab, .ref aa])), (ak, aI G 10 (sK R)), (af, aI G 10 (sG R)), (ab, aI G 10 (sO R)), (aa, aI G 10 (sA R)), (to, .inr (0, [.int (nI (sN S)), .int (nI m0), .int (nI (sF S)), .int (nI (sS S)), .int (nI (sL S)), .ref tk, .ref tf, .ref tb, .ref ta])), (tk, aI G 10 (sK S)), (tf, aI G 10 (sG S)), (tb, aI G 10 (sO S)), (ta, aI G 10 (sA S)), (x7, aI G 7 (cN rf))] H locs := hw
    subst hr
    have hM := kX1_firstOf l G (twJ R xz yz) (wlN nz 0 99) (by first | assumption | omega)
    refine cs_i C hw hM ysX1_firstOf ml_X1_115 rfl [] rfl rfl (fun _ => (rfl : ([] : List Nat) = [])) (by decide) ⟨Nat.zero_le _, Nat.zero_le _⟩ hl.1 rfl (Nat.le_of_ble_eq_true rfl) dX1_two_51 (fun r _ H locs hr hw => ?_)
    have hw : Wd G (fA [(h0, .inr (1, [.ref so, .ref to, .ref uo, .int (nI im), .ref x5, .int (nI lm), .ref x6, .int (nI rm), .ref x7, .ref x8, .int sd])), (so, .inr (0, [.int (nI (sN R)), .int (nI (R 0 1)), .int (nI (sF R)), .int (nI (sS R)), .int (nI (sL R)), .ref ak, .ref af, .ref ab, .ref aa])), (ak, aI G 10 (sK R)), (af, aI G 10 (sG R)), (ab, aI G 10 (sO R)), (aa, aI G 10 (sA R)), (to, .inr (0, [.int (nI (sN S)), .int (nI m0), .int (nI (sF S)), .int (nI (sS S)), .int (nI (sL S)), .ref tk, .ref tf, .ref tb, .ref ta])), (tk, aI G 10 (sK S)), (tf, aI G 10 (sG S)), (tb, aI G 10 (sO S)), (ta, aI G 10 (sA S)), (x7, aI G 7 (cN rf))]) s [(h0, .inr (1, [.ref so, .ref to, .ref uo, .int (nI im), .ref x5, .int (nI lm), .ref x6, .int (nI rm), .ref x7, .ref x8, .int sd])), (so, .inr (0, [.int (nI (sN R)), .int (nI (R 0 1)), .int (nI (sF R)), .int (nI (sS R)), .int (nI (sL R)), .ref ak, .ref af, .ref ab, .ref aa])), (ak, aI G 10 (sK R)), (af, aI G 10 (sG R)), (ab, aI G 10 (sO R)), (aa, aI G 10 (sA R)), (to, .inr (0, [.int (nI (sN S)), .int (nI m0), .int (nI (sF S)), .int (nI (sS S)), .int (nI (sL S)), .ref tk, .ref tf, .ref tb, .ref ta])), (tk, aI G 10 (sK S)), (tf, aI G 10 (sG S)), (tb, aI G 10 (sO S)), (ta, aI G 10 (sA S)), (x7, aI G 7 (cN rf))] H locs := hw
    subst hr
    refine re_i (nG (cTwo R xz yz nz)) (congrArg nG tw_eq) ?_
    refine lv_istore (lv' := [(5, .int (nG (cTwo R xz yz nz))), (0, .ref h0), (1, .int x), (2, .int y), (3, .int n)]) xx xb dX1_two_54 hl (by decide) rfl (fun ls hl => ?_)
    refine lv_iload xx xb dX1_two_56 (lv_at hl 0 rfl) ?_
    refine lv_if_eq (tgt := 68) xx xb dX1_two_58 (by decide) (fun c_58 => ?_) (fun c_58 => ?_)
    · skip
      have c_58 := g0_c (by omega) c_58
      obtain ⟨g1, g2⟩ := cTwo_0 c_58
      have hs9 : ∀ x y, twS R xz.toNat yz.toNat nz.toNat x y ≤ 10 := fun x y => stN_le _ (by rw [itF_00]; unfold spF; rw [spP_00, spP_00]; exact hn)
      have z00 := hs9 0 0
      have z01 := hs9 0 1
      have z10 := hs9 1 0
      have z11 := hs9 1 1
      refine lv_aload_n xx xb dX1_two_68 rfl (lv_at hl 1 rfl) ?_
      refine lv_bipush (v := (-9)) xx xb dX1_two_69 (by decide) ?_
      refine lv_bipush (v := (-9)) xx xb dX1_two_71 (by decide) ?_
      refine lv_iload_n xx xb dX1_two_73 rfl (lv_at hl 4 rfl) ?_
      refine re_i (nI nz.toNat) (ofT h_n (by omega) (by omega)) ?_
      have hM := kX1_standingByTwo l G h0 so to uo x5 x6 x7 x8 im lm rm sd ak af ab aa R tk tf tb ta m0 S xz.toNat 0 yz.toNat 0 nz.toNat (-9) (-9) (-9) (-9) tM9 tM9 (by first | assumption | omega) (by first | assumption | omega) (by first | assumption | omega) (by first | exact Or.inr ⟨rfl, rfl⟩ | exact Or.inl ⟨rfl, by omega, by omega⟩) (by first | exact Or.inr ⟨rfl, rfl⟩ | exact Or.inl ⟨rfl, by omega, by omega⟩) (by omega) (by omega) (by omega)
      refine cv_i C hw hM yvX1_standingByTwo ml_X1_202 0 rfl rfl rfl [0, 1, 2, 3, 4, 5, 6, 7, 8, 9, 10] rfl rfl (fun _ => (rfl : ([h0, so, ak, af, ab, aa, to, tk, tf, tb, ta] : List Nat) = [h0, so, ak, af, ab, aa, to, tk, tf, tb, ta])) (by decide) ⟨Nat.zero_le _, Nat.zero_le _⟩ hl.1 rfl (Nat.le_of_ble_eq_true rfl) dX1_two_74 (fun r u H locs hr hw => ?_)
      obtain ⟨u1, hu1⟩ : ∃ z, z = u := ⟨_, rfl⟩
      subst hu1
      have hw : Wd G (fA [(h0, .inr (1, [.ref so, .ref to, .ref uo, .int (nI im), .ref x5, .int (nI lm), .ref x6, .int (nI rm), .ref x7, .ref x8, .int sd])), (so, .inr (0, [.int (nI (sN R)), .int (nI (R 0 1)), .int (nI (sF R)), .int (nI (sS R)), .int (nI (sL R)), .ref ak, .ref af, .ref ab, .ref aa])), (ak, aI G 10 (sK R)), (af, aI G 10 (sG R)), (ab, aI G 10 (sO R)), (aa, aI G 10 (sA R)), (to, .inr (0, [.int (nI (sN S)), .int (nI m0), .int (nI (sF S)), .int (nI (sS S)), .int (nI (sL S)), .ref tk, .ref tf, .ref tb, .ref ta])), (tk, aI G 10 (sK S)), (tf, aI G 10 (sG S)), (tb, aI G 10 (sO S)), (ta, aI G 10 (sA S)), (x7, aI G 7 (cN rf))]) s [(h0, .inr (1, [.ref so, .ref to, .ref uo, .int (nI im), .ref x5, .int (nI lm), .ref x6, .int (nI rm), .ref x7, .ref x8, .int sd])), (so, .inr (0, [.int (nI (sN R)), .int (nI (R 0 1)), .int (nI (sF R)), .int (nI (sS R)), .int (nI (sL R)), .ref ak, .ref af, .ref ab, .ref aa])), (ak, aI G 10 (sK R)), (af, aI G 10 (sG R)), (ab, aI G 10 (sO R)), (aa, aI G 10 (sA R)), (to, .inr (0, [.int (nI (sN u1)), .int (nI (R 0 1 + nz.toNat)), .int (nI (sF u1)), .int (nI (sS u1)), .int (nI (sL u1)), .ref tk, .ref tf, .ref tb, .ref ta])), (tk, aI G 10 (sK u1)), (tf, aI G 10 (sG u1)), (tb, aI G 10 (sO u1)), (ta, aI G 10 (sA u1)), (x7, aI G 7 (cN rf))] H locs := hw
      obtain ⟨hr, hq1⟩ := hr
      subst hr
      refine re_i (nI (twS R xz.toNat yz.toNat nz.toNat 0 0)) rfl ?_
      refine lv_istore (lv' := [(6, .int (nI (twS R xz.toNat yz.toNat nz.toNat 0 0))), (5, .int (nG (cTwo R xz yz nz))), (0, .ref h0), (1, .int x), (2, .int y), (3, .int n)]) xx xb dX1_two_77 hl (by decide) rfl (fun ls hl => ?_)
      refine lv_aload_n xx xb dX1_two_79 rfl (lv_at hl 2 rfl) ?_
      refine lv_bipush (v := (-9)) xx xb dX1_two_80 (by decide) ?_
      refine lv_iload_n xx xb dX1_two_82 rfl (lv_at hl 4 rfl) ?_
      refine lv_iload_n xx xb dX1_two_83 rfl (lv_at hl 5 rfl) ?_
      refine re_i (nI nz.toNat) (ofT h_n (by omega) (by omega)) ?_
      have hM := kX1_standingByTwo l G h0 so to uo x5 x6 x7 x8 im lm rm sd ak af ab aa R tk tf tb ta (R 0 1 + nz.toNat) u1 xz.toNat 0 yz.toNat 1 nz.toNat (-9) (-9) y yz tM9 h_y (by first | assumption | omega) (by first | assumption | omega) (by first | assumption | omega) (by first | exact Or.inr ⟨rfl, rfl⟩ | exact Or.inl ⟨rfl, by omega, by omega⟩) (by first | exact Or.inr ⟨rfl, rfl⟩ | exact Or.inl ⟨rfl, by omega, by omega⟩) (by omega) (by omega) (by omega)
      refine cv_i C hw hM yvX1_standingByTwo ml_X1_202 0 rfl rfl rfl [0, 1, 2, 3, 4, 5, 6, 7, 8, 9, 10] rfl rfl (fun _ => (rfl : ([h0, so, ak, af, ab, aa, to, tk, tf, tb, ta] : List Nat) = [h0, so, ak, af, ab, aa, to, tk, tf, tb, ta])) (by decide) ⟨Nat.zero_le _, Nat.zero_le _⟩ hl.1 rfl (Nat.le_of_ble_eq_true rfl) dX1_two_84 (fun r u H locs hr hw => ?_)
      obtain ⟨u2, hu2⟩ : ∃ z, z = u := ⟨_, rfl⟩
      subst hu2
      have hw : Wd G (fA [(h0, .inr (1, [.ref so, .ref to, .ref uo, .int (nI im), .ref x5, .int (nI lm), .ref x6, .int (nI rm), .ref x7, .ref x8, .int sd])), (so, .inr (0, [.int (nI (sN R)), .int (nI (R 0 1)), .int (nI (sF R)), .int (nI (sS R)), .int (nI (sL R)), .ref ak, .ref af, .ref ab, .ref aa])), (ak, aI G 10 (sK R)), (af, aI G 10 (sG R)), (ab, aI G 10 (sO R)), (aa, aI G 10 (sA R)), (to, .inr (0, [.int (nI (sN S)), .int (nI m0), .int (nI (sF S)), .int (nI (sS S)), .int (nI (sL S)), .ref tk, .ref tf, .ref tb, .ref ta])), (tk, aI G 10 (sK S)), (tf, aI G 10 (sG S)), (tb, aI G 10 (sO S)), (ta, aI G 10 (sA S)), (x7, aI G 7 (cN rf))]) s [(h0, .inr (1, [.ref so, .ref to, .ref uo, .int (nI im), .ref x5, .int (nI lm), .ref x6, .int (nI rm), .ref x7, .ref x8, .int sd])), (so, .inr (0, [.int (nI (sN R)), .int (nI (R 0 1)), .int (nI (sF R)), .int (nI (sS R)), .int (nI (sL R)), .ref ak, .ref af, .ref ab, .ref aa])), (ak, aI G 10 (sK R)), (af, aI G 10 (sG R)), (ab, aI G 10 (sO R)), (aa, aI G 10 (sA R)), (to, .inr (0, [.int (nI (sN u2)), .int (nI (R 0 1 + nz.toNat)), .int (nI (sF u2)), .int (nI (sS u2)), .int (nI (sL u2)), .ref tk, .ref tf, .ref tb, .ref ta])), (tk, aI G 10 (sK u2)), (tf, aI G 10 (sG u2)), (tb, aI G 10 (sO u2)), (ta, aI G 10 (sA u2)), (x7, aI G 7 (cN rf))] H locs := hw
      obtain ⟨hr, hq2⟩ := hr
      subst hr
      refine re_i (nI (twS R xz.toNat yz.toNat nz.toNat 0 1)) rfl ?_
      refine lv_istore (lv' := [(7, .int (nI (twS R xz.toNat yz.toNat nz.toNat 0 1))), (6, .int (nI (twS R xz.toNat yz.toNat nz.toNat 0 0))), (5, .int (nG (cTwo R xz yz nz))), (0, .ref h0), (1, .int x), (2, .int y), (3, .int n)]) xx xb dX1_two_87 hl (by decide) rfl (fun ls hl => ?_)
      refine lv_aload_n xx xb dX1_two_89 rfl (lv_at hl 3 rfl) ?_
      refine lv_iload_n xx xb dX1_two_90 rfl (lv_at hl 4 rfl) ?_
      refine lv_bipush (v := (-9)) xx xb dX1_two_91 (by decide) ?_
      refine lv_iload_n xx xb dX1_two_93 rfl (lv_at hl 6 rfl) ?_
      refine re_i (nI nz.toNat) (ofT h_n (by omega) (by omega)) ?_
      have hM := kX1_standingByTwo l G h0 so to uo x5 x6 x7 x8 im lm rm sd ak af ab aa R tk tf tb ta (R 0 1 + nz.toNat) u2 xz.toNat 1 yz.toNat 0 nz.toNat x xz (-9) (-9) h_x tM9 (by first | assumption | omega) (by first | assumption | omega) (by first | assumption | omega) (by first | exact Or.inr ⟨rfl, rfl⟩ | exact Or.inl ⟨rfl, by omega, by omega⟩) (by first | exact Or.inr ⟨rfl, rfl⟩ | exact Or.inl ⟨rfl, by omega, by omega⟩) (by omega) (by omega) (by omega)
      refine cv_i C hw hM yvX1_standingByTwo ml_X1_202 0 rfl rfl rfl [0, 1, 2, 3, 4, 5, 6, 7, 8, 9, 10] rfl rfl (fun _ => (rfl : ([h0, so, ak, af, ab, aa, to, tk, tf, tb, ta] : List Nat) = [h0, so, ak, af, ab, aa, to, tk, tf, tb, ta])) (by decide) ⟨Nat.zero_le _, Nat.zero_le _⟩ hl.1 rfl (Nat.le_of_ble_eq_true rfl) dX1_two_94 (fun r u H locs hr hw => ?_)
      obtain ⟨u3, hu3⟩ : ∃ z, z = u := ⟨_, rfl⟩
      subst hu3
      have hw : Wd G (fA [(h0, .inr (1, [.ref so, .ref to, .ref uo, .int (nI im), .ref x5, .int (nI lm), .ref x6, .int (nI rm), .ref x7, .ref x8, .int sd])), (so, .inr (0, [.int (nI (sN R)), .int (nI (R 0 1)), .int (nI (sF R)), .int (nI (sS R)), .int (nI (sL R)), .ref ak, .ref af, .ref ab, .ref aa])), (ak, aI G 10 (sK R)), (af, aI G 10 (sG R)), (ab, aI G 10 (sO R)), (aa, aI G 10 (sA R)), (to, .inr (0, [.int (nI (sN S)), .int (nI m0), .int (nI (sF S)), .int (nI (sS S)), .int (nI (sL S)), .ref tk, .ref tf, .ref tb, .ref ta])), (tk, aI G 10 (sK S)), (tf, aI G 10 (sG S)), (tb, aI G 10 (sO S)), (ta, aI G 10 (sA S)), (x7, aI G 7 (cN rf))]) s [(h0, .inr (1, [.ref so, .ref to, .ref uo, .int (nI im), .ref x5, .int (nI lm), .ref x6, .int (nI rm), .ref x7, .ref x8, .int sd])), (so, .inr (0, [.int (nI (sN R)), .int (nI (R 0 1)), .int (nI (sF R)), .int (nI (sS R)), .int (nI (sL R)), .ref ak, .ref af, .ref ab, .ref aa])), (ak, aI G 10 (sK R)), (af, aI G 10 (sG R)), (ab, aI G 10 (sO R)), (aa, aI G 10 (sA R)), (to, .inr (0, [.int (nI (sN u3)), .int (nI (R 0 1 + nz.toNat)), .int (nI (sF u3)), .int (nI (sS u3)), .int (nI (sL u3)), .ref tk, .ref tf, .ref tb, .ref ta])), (tk, aI G 10 (sK u3)), (tf, aI G 10 (sG u3)), (tb, aI G 10 (sO u3)), (ta, aI G 10 (sA u3)), (x7, aI G 7 (cN rf))] H locs := hw
      obtain ⟨hr, hq3⟩ := hr
      subst hr
      refine re_i (nI (twS R xz.toNat yz.toNat nz.toNat 1 0)) rfl ?_
      refine lv_istore (lv' := [(8, .int (nI (twS R xz.toNat yz.toNat nz.toNat 1 0))), (7, .int (nI (twS R xz.toNat yz.toNat nz.toNat 0 1))), (6, .int (nI (twS R xz.toNat yz.toNat nz.toNat 0 0))), (5, .int (nG (cTwo R xz yz nz))), (0, .ref h0), (1, .int x), (2, .int y), (3, .int n)]) xx xb dX1_two_97 hl (by decide) rfl (fun ls hl => ?_)
      refine lv_aload_n xx xb dX1_two_99 rfl (lv_at hl 4 rfl) ?_
      refine lv_iload_n xx xb dX1_two_100 rfl (lv_at hl 5 rfl) ?_
      refine lv_iload_n xx xb dX1_two_101 rfl (lv_at hl 6 rfl) ?_
      refine lv_iload_n xx xb dX1_two_102 rfl (lv_at hl 7 rfl) ?_
      refine re_i (nI nz.toNat) (ofT h_n (by omega) (by omega)) ?_
      have hM := kX1_standingByTwo l G h0 so to uo x5 x6 x7 x8 im lm rm sd ak af ab aa R tk tf tb ta (R 0 1 + nz.toNat) u3 xz.toNat 1 yz.toNat 1 nz.toNat x xz y yz h_x h_y (by first | assumption | omega) (by first | assumption | omega) (by first | assumption | omega) (by first | exact Or.inr ⟨rfl, rfl⟩ | exact Or.inl ⟨rfl, by omega, by omega⟩) (by first | exact Or.inr ⟨rfl, rfl⟩ | exact Or.inl ⟨rfl, by omega, by omega⟩) (by omega) (by omega) (by omega)
      refine cv_i C hw hM yvX1_standingByTwo ml_X1_202 0 rfl rfl rfl [0, 1, 2, 3, 4, 5, 6, 7, 8, 9, 10] rfl rfl (fun _ => (rfl : ([h0, so, ak, af, ab, aa, to, tk, tf, tb, ta] : List Nat) = [h0, so, ak, af, ab, aa, to, tk, tf, tb, ta])) (by decide) ⟨Nat.zero_le _, Nat.zero_le _⟩ hl.1 rfl (Nat.le_of_ble_eq_true rfl) dX1_two_103 (fun r u H locs hr hw => ?_)
      obtain ⟨u4, hu4⟩ : ∃ z, z = u := ⟨_, rfl⟩
      subst hu4
      have hw : Wd G (fA [(h0, .inr (1, [.ref so, .ref to, .ref uo, .int (nI im), .ref x5, .int (nI lm), .ref x6, .int (nI rm), .ref x7, .ref x8, .int sd])), (so, .inr (0, [.int (nI (sN R)), .int (nI (R 0 1)), .int (nI (sF R)), .int (nI (sS R)), .int (nI (sL R)), .ref ak, .ref af, .ref ab, .ref aa])), (ak, aI G 10 (sK R)), (af, aI G 10 (sG R)), (ab, aI G 10 (sO R)), (aa, aI G 10 (sA R)), (to, .inr (0, [.int (nI (sN S)), .int (nI m0), .int (nI (sF S)), .int (nI (sS S)), .int (nI (sL S)), .ref tk, .ref tf, .ref tb, .ref ta])), (tk, aI G 10 (sK S)), (tf, aI G 10 (sG S)), (tb, aI G 10 (sO S)), (ta, aI G 10 (sA S)), (x7, aI G 7 (cN rf))]) s [(h0, .inr (1, [.ref so, .ref to, .ref uo, .int (nI im), .ref x5, .int (nI lm), .ref x6, .int (nI rm), .ref x7, .ref x8, .int sd])), (so, .inr (0, [.int (nI (sN R)), .int (nI (R 0 1)), .int (nI (sF R)), .int (nI (sS R)), .int (nI (sL R)), .ref ak, .ref af, .ref ab, .ref aa])), (ak, aI G 10 (sK R)), (af, aI G 10 (sG R)), (ab, aI G 10 (sO R)), (aa, aI G 10 (sA R)), (to, .inr (0, [.int (nI (sN u4)), .int (nI (R 0 1 + nz.toNat)), .int (nI (sF u4)), .int (nI (sS u4)), .int (nI (sL u4)), .ref tk, .ref tf, .ref tb, .ref ta])), (tk, aI G 10 (sK u4)), (tf, aI G 10 (sG u4)), (tb, aI G 10 (sO u4)), (ta, aI G 10 (sA u4)), (x7, aI G 7 (cN rf))] H locs := hw
      obtain ⟨hr, hq4⟩ := hr
      subst hr
      refine re_i (nI (twS R xz.toNat yz.toNat nz.toNat 1 1)) rfl ?_
      refine lv_istore (lv' := [(9, .int (nI (twS R xz.toNat yz.toNat nz.toNat 1 1))), (8, .int (nI (twS R xz.toNat yz.toNat nz.toNat 1 0))), (7, .int (nI (twS R xz.toNat yz.toNat nz.toNat 0 1))), (6, .int (nI (twS R xz.toNat yz.toNat nz.toNat 0 0))), (5, .int (nG (cTwo R xz yz nz))), (0, .ref h0), (1, .int x), (2, .int y), (3, .int n)]) xx xb dX1_two_106 hl (by decide) rfl (fun ls hl => ?_)
      refine lv_iload xx xb dX1_two_108 (lv_at hl 3 rfl) ?_
      refine lv_iload xx xb dX1_two_110 (lv_at hl 1 rfl) ?_
      refine lv_iload xx xb dX1_two_112 (lv_at hl 2 rfl) ?_
      have hM := kX1_keepsBoth l G (twS R xz.toNat yz.toNat nz.toNat 0 0) (twS R xz.toNat yz.toNat nz.toNat 1 0) (twS R xz.toNat yz.toNat nz.toNat 0 1) (by first | assumption | omega) (by first | assumption | omega) (by first | assumption | omega)
      refine cs_i C hw hM ysX1_keepsBoth ml_X1_205 rfl [] rfl rfl (fun _ => (rfl : ([] : List Nat) = [])) (by decide) ⟨Nat.zero_le _, Nat.zero_le _⟩ hl.1 rfl (Nat.le_of_ble_eq_true rfl) dX1_two_114 (fun r _ H locs hr hw => ?_)
      have hw : Wd G (fA [(h0, .inr (1, [.ref so, .ref to, .ref uo, .int (nI im), .ref x5, .int (nI lm), .ref x6, .int (nI rm), .ref x7, .ref x8, .int sd])), (so, .inr (0, [.int (nI (sN R)), .int (nI (R 0 1)), .int (nI (sF R)), .int (nI (sS R)), .int (nI (sL R)), .ref ak, .ref af, .ref ab, .ref aa])), (ak, aI G 10 (sK R)), (af, aI G 10 (sG R)), (ab, aI G 10 (sO R)), (aa, aI G 10 (sA R)), (to, .inr (0, [.int (nI (sN S)), .int (nI m0), .int (nI (sF S)), .int (nI (sS S)), .int (nI (sL S)), .ref tk, .ref tf, .ref tb, .ref ta])), (tk, aI G 10 (sK S)), (tf, aI G 10 (sG S)), (tb, aI G 10 (sO S)), (ta, aI G 10 (sA S)), (x7, aI G 7 (cN rf))]) s [(h0, .inr (1, [.ref so, .ref to, .ref uo, .int (nI im), .ref x5, .int (nI lm), .ref x6, .int (nI rm), .ref x7, .ref x8, .int sd])), (so, .inr (0, [.int (nI (sN R)), .int (nI (R 0 1)), .int (nI (sF R)), .int (nI (sS R)), .int (nI (sL R)), .ref ak, .ref af, .ref ab, .ref aa])), (ak, aI G 10 (sK R)), (af, aI G 10 (sG R)), (ab, aI G 10 (sO R)), (aa, aI G 10 (sA R)), (to, .inr (0, [.int (nI (sN u4)), .int (nI (R 0 1 + nz.toNat)), .int (nI (sF u4)), .int (nI (sS u4)), .int (nI (sL u4)), .ref tk, .ref tf, .ref tb, .ref ta])), (tk, aI G 10 (sK u4)), (tf, aI G 10 (sG u4)), (tb, aI G 10 (sO u4)), (ta, aI G 10 (sA u4)), (x7, aI G 7 (cN rf))] H locs := hw
      subst hr
      refine lv_if_eq (tgt := 122) xx xb dX1_two_117 (by decide) (fun c_117 => ?_) (fun c_117 => ?_)
      · skip
        have c_117 := b0_c c_117
        refine lv_iload xx xb dX1_two_122 (lv_at hl 2 rfl) ?_
        refine lv_iload xx xb dX1_two_124 (lv_at hl 0 rfl) ?_
        refine lv_iload xx xb dX1_two_126 (lv_at hl 3 rfl) ?_
        have hM := kX1_keepsBoth l G (twS R xz.toNat yz.toNat nz.toNat 0 1) (twS R xz.toNat yz.toNat nz.toNat 1 1) (twS R xz.toNat yz.toNat nz.toNat 0 0) (by first | assumption | omega) (by first | assumption | omega) (by first | assumption | omega)
        refine cs_i C hw hM ysX1_keepsBoth ml_X1_205 rfl [] rfl rfl (fun _ => (rfl : ([] : List Nat) = [])) (by decide) ⟨Nat.zero_le _, Nat.zero_le _⟩ hl.1 rfl (Nat.le_of_ble_eq_true rfl) dX1_two_128 (fun r _ H locs hr hw => ?_)
        have hw : Wd G (fA [(h0, .inr (1, [.ref so, .ref to, .ref uo, .int (nI im), .ref x5, .int (nI lm), .ref x6, .int (nI rm), .ref x7, .ref x8, .int sd])), (so, .inr (0, [.int (nI (sN R)), .int (nI (R 0 1)), .int (nI (sF R)), .int (nI (sS R)), .int (nI (sL R)), .ref ak, .ref af, .ref ab, .ref aa])), (ak, aI G 10 (sK R)), (af, aI G 10 (sG R)), (ab, aI G 10 (sO R)), (aa, aI G 10 (sA R)), (to, .inr (0, [.int (nI (sN S)), .int (nI m0), .int (nI (sF S)), .int (nI (sS S)), .int (nI (sL S)), .ref tk, .ref tf, .ref tb, .ref ta])), (tk, aI G 10 (sK S)), (tf, aI G 10 (sG S)), (tb, aI G 10 (sO S)), (ta, aI G 10 (sA S)), (x7, aI G 7 (cN rf))]) s [(h0, .inr (1, [.ref so, .ref to, .ref uo, .int (nI im), .ref x5, .int (nI lm), .ref x6, .int (nI rm), .ref x7, .ref x8, .int sd])), (so, .inr (0, [.int (nI (sN R)), .int (nI (R 0 1)), .int (nI (sF R)), .int (nI (sS R)), .int (nI (sL R)), .ref ak, .ref af, .ref ab, .ref aa])), (ak, aI G 10 (sK R)), (af, aI G 10 (sG R)), (ab, aI G 10 (sO R)), (aa, aI G 10 (sA R)), (to, .inr (0, [.int (nI (sN u4)), .int (nI (R 0 1 + nz.toNat)), .int (nI (sF u4)), .int (nI (sS u4)), .int (nI (sL u4)), .ref tk, .ref tf, .ref tb, .ref ta])), (tk, aI G 10 (sK u4)), (tf, aI G 10 (sG u4)), (tb, aI G 10 (sO u4)), (ta, aI G 10 (sA u4)), (x7, aI G 7 (cN rf))] H locs := hw
        subst hr
        refine lv_if_eq (tgt := 136) xx xb dX1_two_131 (by decide) (fun c_131 => ?_) (fun c_131 => ?_)
        · skip
          have c_131 := b0_c c_131
          refine lv_iload xx xb dX1_two_136 (lv_at hl 1 rfl) ?_
          refine lv_iload xx xb dX1_two_138 (lv_at hl 3 rfl) ?_
          refine lv_iload xx xb dX1_two_140 (lv_at hl 0 rfl) ?_
          have hM := kX1_keepsBoth l G (twS R xz.toNat yz.toNat nz.toNat 1 0) (twS R xz.toNat yz.toNat nz.toNat 0 0) (twS R xz.toNat yz.toNat nz.toNat 1 1) (by first | assumption | omega) (by first | assumption | omega) (by first | assumption | omega)
          refine cs_i C hw hM ysX1_keepsBoth ml_X1_205 rfl [] rfl rfl (fun _ => (rfl : ([] : List Nat) = [])) (by decide) ⟨Nat.zero_le _, Nat.zero_le _⟩ hl.1 rfl (Nat.le_of_ble_eq_true rfl) dX1_two_142 (fun r _ H locs hr hw => ?_)
          have hw : Wd G (fA [(h0, .inr (1, [.ref so, .ref to, .ref uo, .int (nI im), .ref x5, .int (nI lm), .ref x6, .int (nI rm), .ref x7, .ref x8, .int sd])), (so, .inr (0, [.int (nI (sN R)), .int (nI (R 0 1)), .int (nI (sF R)), .int (nI (sS R)), .int (nI (sL R)), .ref ak, .ref af, .ref ab, .ref aa])), (ak, aI G 10 (sK R)), (af, aI G 10 (sG R)), (ab, aI G 10 (sO R)), (aa, aI G 10 (sA R)), (to, .inr (0, [.int (nI (sN S)), .int (nI m0), .int (nI (sF S)), .int (nI (sS S)), .int (nI (sL S)), .ref tk, .ref tf, .ref tb, .ref ta])), (tk, aI G 10 (sK S)), (tf, aI G 10 (sG S)), (tb, aI G 10 (sO S)), (ta, aI G 10 (sA S)), (x7, aI G 7 (cN rf))]) s [(h0, .inr (1, [.ref so, .ref to, .ref uo, .int (nI im), .ref x5, .int (nI lm), .ref x6, .int (nI rm), .ref x7, .ref x8, .int sd])), (so, .inr (0, [.int (nI (sN R)), .int (nI (R 0 1)), .int (nI (sF R)), .int (nI (sS R)), .int (nI (sL R)), .ref ak, .ref af, .ref ab, .ref aa])), (ak, aI G 10 (sK R)), (af, aI G 10 (sG R)), (ab, aI G 10 (sO R)), (aa, aI G 10 (sA R)), (to, .inr (0, [.int (nI (sN u4)), .int (nI (R 0 1 + nz.toNat)), .int (nI (sF u4)), .int (nI (sS u4)), .int (nI (sL u4)), .ref tk, .ref tf, .ref tb, .ref ta])), (tk, aI G 10 (sK u4)), (tf, aI G 10 (sG u4)), (tb, aI G 10 (sO u4)), (ta, aI G 10 (sA u4)), (x7, aI G 7 (cN rf))] H locs := hw
          subst hr
          refine lv_if_eq (tgt := 151) xx xb dX1_two_145 (by decide) (fun c_145 => ?_) (fun c_145 => ?_)
          · skip
            have c_145 := b0_c c_145
            refine lv_iload xx xb dX1_two_151 (lv_at hl 0 rfl) ?_
            refine lv_iload xx xb dX1_two_153 (lv_at hl 2 rfl) ?_
            refine lv_iload xx xb dX1_two_155 (lv_at hl 1 rfl) ?_
            have hM := kX1_keepsBoth l G (twS R xz.toNat yz.toNat nz.toNat 1 1) (twS R xz.toNat yz.toNat nz.toNat 0 1) (twS R xz.toNat yz.toNat nz.toNat 1 0) (by first | assumption | omega) (by first | assumption | omega) (by first | assumption | omega)
            refine cs_i C hw hM ysX1_keepsBoth ml_X1_205 rfl [] rfl rfl (fun _ => (rfl : ([] : List Nat) = [])) (by decide) ⟨Nat.zero_le _, Nat.zero_le _⟩ hl.1 rfl (Nat.le_of_ble_eq_true rfl) dX1_two_157 (fun r _ H locs hr hw => ?_)
            have hw : Wd G (fA [(h0, .inr (1, [.ref so, .ref to, .ref uo, .int (nI im), .ref x5, .int (nI lm), .ref x6, .int (nI rm), .ref x7, .ref x8, .int sd])), (so, .inr (0, [.int (nI (sN R)), .int (nI (R 0 1)), .int (nI (sF R)), .int (nI (sS R)), .int (nI (sL R)), .ref ak, .ref af, .ref ab, .ref aa])), (ak, aI G 10 (sK R)), (af, aI G 10 (sG R)), (ab, aI G 10 (sO R)), (aa, aI G 10 (sA R)), (to, .inr (0, [.int (nI (sN S)), .int (nI m0), .int (nI (sF S)), .int (nI (sS S)), .int (nI (sL S)), .ref tk, .ref tf, .ref tb, .ref ta])), (tk, aI G 10 (sK S)), (tf, aI G 10 (sG S)), (tb, aI G 10 (sO S)), (ta, aI G 10 (sA S)), (x7, aI G 7 (cN rf))]) s [(h0, .inr (1, [.ref so, .ref to, .ref uo, .int (nI im), .ref x5, .int (nI lm), .ref x6, .int (nI rm), .ref x7, .ref x8, .int sd])), (so, .inr (0, [.int (nI (sN R)), .int (nI (R 0 1)), .int (nI (sF R)), .int (nI (sS R)), .int (nI (sL R)), .ref ak, .ref af, .ref ab, .ref aa])), (ak, aI G 10 (sK R)), (af, aI G 10 (sG R)), (ab, aI G 10 (sO R)), (aa, aI G 10 (sA R)), (to, .inr (0, [.int (nI (sN u4)), .int (nI (R 0 1 + nz.toNat)), .int (nI (sF u4)), .int (nI (sS u4)), .int (nI (sL u4)), .ref tk, .ref tf, .ref tb, .ref ta])), (tk, aI G 10 (sK u4)), (tf, aI G 10 (sG u4)), (tb, aI G 10 (sO u4)), (ta, aI G 10 (sA u4)), (x7, aI G 7 (cN rf))] H locs := hw
            subst hr
            refine lv_if_eq (tgt := 168) xx xb dX1_two_160 (by decide) (fun c_160 => ?_) (fun c_160 => ?_)
            · skip
              have c_160 := b0_c c_160
              refine lv_bipush (v := (-9)) xx xb dX1_two_168 (by decide) ?_
              refine re_i (vTwo R xz.toNat yz.toNat nz.toNat) (by unfold vTwo; rw [if_neg c_117]; rw [if_neg c_131]; rw [if_neg c_145]; rw [if_neg c_160]; (try rfl)) ?_
              have hc : cTwo R xz yz nz = 0 := by first | assumption | rfl
              exact rt_i C hw ((R 0 1 + nz.toNat), u4) (by exact (anI_0 hc _).symm) (by rw [rfU_0 hc]) dX1_two_170
            · skip
              have c_160 := b1_c c_160
              refine lv_bipush (v := nI 11) xx xb dX1_two_163 (by decide) ?_
              refine lv_goto (tgt := 170) xx xb dX1_two_165 (by decide) ?_
              refine re_i (vTwo R xz.toNat yz.toNat nz.toNat) (by unfold vTwo; rw [if_neg c_117]; rw [if_neg c_131]; rw [if_neg c_145]; exact (if_pos c_160).symm) ?_
              have hc : cTwo R xz yz nz = 0 := by first | assumption | rfl
              exact rt_i C hw ((R 0 1 + nz.toNat), u4) (by exact (anI_0 hc _).symm) (by rw [rfU_0 hc]) dX1_two_170
          · skip
            have c_145 := b1_c c_145
            refine lv_bipush (v := nI 10) xx xb dX1_two_148 (by decide) ?_
            refine re_i (vTwo R xz.toNat yz.toNat nz.toNat) (by unfold vTwo; rw [if_neg c_117]; rw [if_neg c_131]; exact (if_pos c_145).symm) ?_
            have hc : cTwo R xz yz nz = 0 := by first | assumption | rfl
            exact rt_i C hw ((R 0 1 + nz.toNat), u4) (by exact (anI_0 hc _).symm) (by rw [rfU_0 hc]) dX1_two_150
        · skip
          have c_131 := b1_c c_131
          refine lv_iconst (v := nI 1) xx xb dX1_two_134 (by decide) ?_
          refine re_i (vTwo R xz.toNat yz.toNat nz.toNat) (by unfold vTwo; rw [if_neg c_117]; exact (if_pos c_131).symm) ?_
          have hc : cTwo R xz yz nz = 0 := by first | assumption | rfl
          exact rt_i C hw ((R 0 1 + nz.toNat), u4) (by exact (anI_0 hc _).symm) (by rw [rfU_0 hc]) dX1_two_135
      · skip
        have c_117 := b1_c c_117
        refine lv_iconst (v := nI 0) xx xb dX1_two_120 (by decide) ?_
        refine re_i (vTwo R xz.toNat yz.toNat nz.toNat) (by unfold vTwo; exact (if_pos c_117).symm) ?_
        have hc : cTwo R xz yz nz = 0 := by first | assumption | rfl
        exact rt_i C hw ((R 0 1 + nz.toNat), u4) (by exact (anI_0 hc _).symm) (by rw [rfU_0 hc]) dX1_two_121
    · skip
      have c_58 := g0_n c_58
      refine lv_aload_n xx xb dX1_two_61 rfl (lv_at hl 1 rfl) ?_
      refine lv_iload xx xb dX1_two_62 (lv_at hl 0 rfl) ?_
      have hM := kX1_refuse l G h0 so to uo x5 x6 x7 x8 im lm rm sd rf (cTwo R xz yz nz) (by first | assumption | omega)
      refine cv_i C hw hM yvX1_refuse ml_X1_43 0 rfl rfl rfl [0, 11] rfl rfl (fun _ => (rfl : ([h0, x7] : List Nat) = [h0, x7])) (by decide) ⟨Nat.zero_le _, Nat.zero_le _⟩ hl.1 rfl (Nat.le_of_ble_eq_true rfl) dX1_two_64 (fun r _ H locs hr hw => ?_)
      have hw : Wd G (fA [(h0, .inr (1, [.ref so, .ref to, .ref uo, .int (nI im), .ref x5, .int (nI lm), .ref x6, .int (nI rm), .ref x7, .ref x8, .int sd])), (so, .inr (0, [.int (nI (sN R)), .int (nI (R 0 1)), .int (nI (sF R)), .int (nI (sS R)), .int (nI (sL R)), .ref ak, .ref af, .ref ab, .ref aa])), (ak, aI G 10 (sK R)), (af, aI G 10 (sG R)), (ab, aI G 10 (sO R)), (aa, aI G 10 (sA R)), (to, .inr (0, [.int (nI (sN S)), .int (nI m0), .int (nI (sF S)), .int (nI (sS S)), .int (nI (sL S)), .ref tk, .ref tf, .ref tb, .ref ta])), (tk, aI G 10 (sK S)), (tf, aI G 10 (sG S)), (tb, aI G 10 (sO S)), (ta, aI G 10 (sA S)), (x7, aI G 7 (cN rf))]) s [(h0, .inr (1, [.ref so, .ref to, .ref uo, .int (nI im), .ref x5, .int (nI lm), .ref x6, .int (nI rm), .ref x7, .ref x8, .int sd])), (so, .inr (0, [.int (nI (sN R)), .int (nI (R 0 1)), .int (nI (sF R)), .int (nI (sS R)), .int (nI (sL R)), .ref ak, .ref af, .ref ab, .ref aa])), (ak, aI G 10 (sK R)), (af, aI G 10 (sG R)), (ab, aI G 10 (sO R)), (aa, aI G 10 (sA R)), (to, .inr (0, [.int (nI (sN S)), .int (nI m0), .int (nI (sF S)), .int (nI (sS S)), .int (nI (sL S)), .ref tk, .ref tf, .ref tb, .ref ta])), (tk, aI G 10 (sK S)), (tf, aI G 10 (sG S)), (tb, aI G 10 (sO S)), (ta, aI G 10 (sA S)), (x7, aI G 7 (cN (upN rf (cTwo R xz yz nz) (rf (cTwo R xz yz nz) + 1))))] H locs := hw
      subst hr
      have hc : cTwo R xz yz nz = (cTwo R xz yz nz) := by first | assumption | rfl
      have hj : (cTwo R xz yz nz) ≠ 0 := by omega
      exact rt_i C hw (m0, S) (by exact (anI_r hc hj _).symm) (by rw [rfU_r hc hj]) dX1_two_67
  refine lv_aload_n xx xb dX1_two_0 rfl (lv_at hl 0 rfl) ?_
  refine m_get C hw 0 rfl fk_X1_10 rfl dX1_two_1 ?_
  refine lv_iload_n xx xb dX1_two_4 rfl (lv_at hl 1 rfl) ?_
  have hM := kX0_isThing l G so ak af ab aa (R 0 1) R x xz h_x (by first | assumption | omega)
  refine cv_i C hw hM yvX0_isThing ml_X1_169 1 rfl rfl rfl [1, 2, 3, 4, 5] rfl rfl (fun _ => (rfl : ([so, ak, af, ab, aa] : List Nat) = [so, ak, af, ab, aa])) (by decide) ⟨Nat.zero_le _, Nat.zero_le _⟩ hl.1 rfl (Nat.le_of_ble_eq_true rfl) dX1_two_5 (fun r _ H locs hr hw => ?_)
  have hw : Wd G (fA [(h0, .inr (1, [.ref so, .ref to, .ref uo, .int (nI im), .ref x5, .int (nI lm), .ref x6, .int (nI rm), .ref x7, .ref x8, .int sd])), (so, .inr (0, [.int (nI (sN R)), .int (nI (R 0 1)), .int (nI (sF R)), .int (nI (sS R)), .int (nI (sL R)), .ref ak, .ref af, .ref ab, .ref aa])), (ak, aI G 10 (sK R)), (af, aI G 10 (sG R)), (ab, aI G 10 (sO R)), (aa, aI G 10 (sA R)), (to, .inr (0, [.int (nI (sN S)), .int (nI m0), .int (nI (sF S)), .int (nI (sS S)), .int (nI (sL S)), .ref tk, .ref tf, .ref tb, .ref ta])), (tk, aI G 10 (sK S)), (tf, aI G 10 (sG S)), (tb, aI G 10 (sO S)), (ta, aI G 10 (sA S)), (x7, aI G 7 (cN rf))]) s [(h0, .inr (1, [.ref so, .ref to, .ref uo, .int (nI im), .ref x5, .int (nI lm), .ref x6, .int (nI rm), .ref x7, .ref x8, .int sd])), (so, .inr (0, [.int (nI (sN R)), .int (nI (R 0 1)), .int (nI (sF R)), .int (nI (sS R)), .int (nI (sL R)), .ref ak, .ref af, .ref ab, .ref aa])), (ak, aI G 10 (sK R)), (af, aI G 10 (sG R)), (ab, aI G 10 (sO R)), (aa, aI G 10 (sA R)), (to, .inr (0, [.int (nI (sN S)), .int (nI m0), .int (nI (sF S)), .int (nI (sS S)), .int (nI (sL S)), .ref tk, .ref tf, .ref tb, .ref ta])), (tk, aI G 10 (sK S)), (tf, aI G 10 (sG S)), (tb, aI G 10 (sO S)), (ta, aI G 10 (sA S)), (x7, aI G 7 (cN rf))] H locs := hw
  subst hr
  refine lv_if_eq (tgt := 31) xx xb dX1_two_8 (by decide) (fun c_8 => ?_) (fun c_8 => ?_)
  · skip
    have c_8 := b0_c c_8
    refine lv_iconst (v := nI 0) xx xb dX1_two_31 (by decide) ?_
    refine lv_istore (lv' := [(4, .int (nI 0)), (0, .ref h0), (1, .int x), (2, .int y), (3, .int n)]) xx xb dX1_two_32 hl (by decide) rfl (fun ls hl => ?_)
    refine lv_iload xx xb dX1_two_34 (lv_at hl 0 rfl) ?_
    refine lv_if_eq (tgt := 43) xx xb dX1_two_36 (by decide) (fun c_36 => ?_) (fun c_36 => ?_)
    · skip
      refine lv_iconst (v := (-1)) xx xb dX1_two_43 (by decide) ?_
      refine re_i (nG (twJ R xz yz)) (by unfold twJ; first | (rw [if_pos (by omega)]; decide +kernel) | (rw [if_neg (by omega)]; decide +kernel)) ?_
      exact J_44  H _ ls  hw (lv_sub hl [1, 2, 3, 4] rfl)
    · skip
      exact absurd (by decide) c_36
  · skip
    have c_8 := b1_c c_8
    refine lv_aload_n xx xb dX1_two_11 rfl (lv_at hl 0 rfl) ?_
    refine m_get C hw 0 rfl fk_X1_10 rfl dX1_two_12 ?_
    refine lv_iload_n xx xb dX1_two_15 rfl (lv_at hl 2 rfl) ?_
    have hM := kX0_isThing l G so ak af ab aa (R 0 1) R y yz h_y (by first | assumption | omega)
    refine cv_i C hw hM yvX0_isThing ml_X1_169 1 rfl rfl rfl [1, 2, 3, 4, 5] rfl rfl (fun _ => (rfl : ([so, ak, af, ab, aa] : List Nat) = [so, ak, af, ab, aa])) (by decide) ⟨Nat.zero_le _, Nat.zero_le _⟩ hl.1 rfl (Nat.le_of_ble_eq_true rfl) dX1_two_16 (fun r _ H locs hr hw => ?_)
    have hw : Wd G (fA [(h0, .inr (1, [.ref so, .ref to, .ref uo, .int (nI im), .ref x5, .int (nI lm), .ref x6, .int (nI rm), .ref x7, .ref x8, .int sd])), (so, .inr (0, [.int (nI (sN R)), .int (nI (R 0 1)), .int (nI (sF R)), .int (nI (sS R)), .int (nI (sL R)), .ref ak, .ref af, .ref ab, .ref aa])), (ak, aI G 10 (sK R)), (af, aI G 10 (sG R)), (ab, aI G 10 (sO R)), (aa, aI G 10 (sA R)), (to, .inr (0, [.int (nI (sN S)), .int (nI m0), .int (nI (sF S)), .int (nI (sS S)), .int (nI (sL S)), .ref tk, .ref tf, .ref tb, .ref ta])), (tk, aI G 10 (sK S)), (tf, aI G 10 (sG S)), (tb, aI G 10 (sO S)), (ta, aI G 10 (sA S)), (x7, aI G 7 (cN rf))]) s [(h0, .inr (1, [.ref so, .ref to, .ref uo, .int (nI im), .ref x5, .int (nI lm), .ref x6, .int (nI rm), .ref x7, .ref x8, .int sd])), (so, .inr (0, [.int (nI (sN R)), .int (nI (R 0 1)), .int (nI (sF R)), .int (nI (sS R)), .int (nI (sL R)), .ref ak, .ref af, .ref ab, .ref aa])), (ak, aI G 10 (sK R)), (af, aI G 10 (sG R)), (ab, aI G 10 (sO R)), (aa, aI G 10 (sA R)), (to, .inr (0, [.int (nI (sN S)), .int (nI m0), .int (nI (sF S)), .int (nI (sS S)), .int (nI (sL S)), .ref tk, .ref tf, .ref tb, .ref ta])), (tk, aI G 10 (sK S)), (tf, aI G 10 (sG S)), (tb, aI G 10 (sO S)), (ta, aI G 10 (sA S)), (x7, aI G 7 (cN rf))] H locs := hw
    subst hr
    refine lv_if_eq (tgt := 31) xx xb dX1_two_19 (by decide) (fun c_19 => ?_) (fun c_19 => ?_)
    · skip
      have c_19 := b0_c c_19
      refine lv_iconst (v := nI 0) xx xb dX1_two_31 (by decide) ?_
      refine lv_istore (lv' := [(4, .int (nI 0)), (0, .ref h0), (1, .int x), (2, .int y), (3, .int n)]) xx xb dX1_two_32 hl (by decide) rfl (fun ls hl => ?_)
      refine lv_iload xx xb dX1_two_34 (lv_at hl 0 rfl) ?_
      refine lv_if_eq (tgt := 43) xx xb dX1_two_36 (by decide) (fun c_36 => ?_) (fun c_36 => ?_)
      · skip
        refine lv_iconst (v := (-1)) xx xb dX1_two_43 (by decide) ?_
        refine re_i (nG (twJ R xz yz)) (by unfold twJ; first | (rw [if_pos (by omega)]; decide +kernel) | (rw [if_neg (by omega)]; decide +kernel)) ?_
        exact J_44  H _ ls  hw (lv_sub hl [1, 2, 3, 4] rfl)
      · skip
        exact absurd (by decide) c_36
    · skip
      have c_19 := b1_c c_19
      refine lv_iload_n xx xb dX1_two_22 rfl (lv_at hl 1 rfl) ?_
      refine lv_iload_n xx xb dX1_two_23 rfl (lv_at hl 2 rfl) ?_
      refine lv_icmp_eq (tgt := 31) xx xb dX1_two_24 (by decide) (fun c_24 => ?_) (fun c_24 => ?_)
      · skip
        have c_24 := eq_c h_x h_y c_24
        refine lv_iconst (v := nI 0) xx xb dX1_two_31 (by decide) ?_
        refine lv_istore (lv' := [(4, .int (nI 0)), (0, .ref h0), (1, .int x), (2, .int y), (3, .int n)]) xx xb dX1_two_32 hl (by decide) rfl (fun ls hl => ?_)
        refine lv_iload xx xb dX1_two_34 (lv_at hl 0 rfl) ?_
        refine lv_if_eq (tgt := 43) xx xb dX1_two_36 (by decide) (fun c_36 => ?_) (fun c_36 => ?_)
        · skip
          refine lv_iconst (v := (-1)) xx xb dX1_two_43 (by decide) ?_
          refine re_i (nG (twJ R xz yz)) (by unfold twJ; first | (rw [if_pos (by omega)]; decide +kernel) | (rw [if_neg (by omega)]; decide +kernel)) ?_
          exact J_44  H _ ls  hw (lv_sub hl [1, 2, 3, 4] rfl)
        · skip
          exact absurd (by decide) c_36
      · skip
        have c_24 := ne_c h_x h_y c_24
        refine lv_iconst (v := nI 1) xx xb dX1_two_27 (by decide) ?_
        refine lv_goto (tgt := 32) xx xb dX1_two_28 (by decide) ?_
        refine lv_istore (lv' := [(4, .int (nI 1)), (0, .ref h0), (1, .int x), (2, .int y), (3, .int n)]) xx xb dX1_two_32 hl (by decide) rfl (fun ls hl => ?_)
        refine lv_iload xx xb dX1_two_34 (lv_at hl 0 rfl) ?_
        refine lv_if_eq (tgt := 43) xx xb dX1_two_36 (by decide) (fun c_36 => ?_) (fun c_36 => ?_)
        · skip
          exact absurd c_36 (by decide)
        · skip
          refine lv_iconst (v := nI 0) xx xb dX1_two_39 (by decide) ?_
          refine lv_goto (tgt := 44) xx xb dX1_two_40 (by decide) ?_
          refine re_i (nG (twJ R xz yz)) (by unfold twJ; first | (rw [if_pos (by omega)]; decide +kernel) | (rw [if_neg (by omega)]; decide +kernel)) ?_
          exact J_44  H _ ls  hw (lv_sub hl [1, 2, 3, 4] rfl)
