theorem nI_nq {a b : Nat} (ha : a < 2147483648) (hb : b < 2147483648) (h : ¬ a = b) : ¬ nI a = nI b := fun q => by
  have z := eq_c (tN ha) (tN hb) q
  omega
def ptN (k : Nat) : Nat := if k = 0 then 100 else if k = 1 then 10 else if k = 2 then 1 else 0
def rsN (x y z k : Nat) : Nat := if k = 0 then 100 * x + 10 * y + z else if k = 1 then 10 * y + z else if k = 2 then z else 0
def dgN (x y z k : Nat) : Nat := if k = 0 then x else if k = 1 then y else z
theorem or_d {x y z k : Nat} (hx : x < 3) (hy : y < 3) (hz : z < 3) (hk : k < 3) : rsN x y z k / ptN k = dgN x y z k ∧ rsN x y z k % ptN k = rsN x y z (k + 1) ∧ ptN k / 10 = ptN (k + 1) ∧ 0 < ptN k ∧ ptN k ≤ 100 ∧ rsN x y z k < 1000 := by
  have e : k = 0 ∨ k = 1 ∨ k = 2 := by omega
  rcases e with e | e | e <;> subst e <;> simp [rsN, ptN, dgN] <;> omega
theorem or_3 {x y z k : Nat} (hk : 3 ≤ k) : ptN k = 0 := by
  unfold ptN
  rw [if_neg (by omega), if_neg (by omega), if_neg (by omega)]
theorem or_p {k : Nat} (h : ptN k ≠ 0) : k < 3 := by
  apply Classical.byContradiction
  intro q
  exact h (or_3 (x := 0) (y := 0) (z := 0) (by omega))
theorem ox_e {a b c x y z k : Nat} (hk : k < 3) : obX (plX a b c x) (plX a b c y) (plX a b c z) k = plX a b c (dgN x y z k) := by
  have e : k = 0 ∨ k = 1 ∨ k = 2 := by omega
  rcases e with e | e | e <;> subst e <;> simp [obX, dgN]
theorem ob_10 (R : RT) (a b c v : Nat) : ∀ d, itF (obF R a b c v 3) d = obF R a b c v (3 + d)
  | 0 => rfl
  | d + 1 => by
    show miF (itF (obF R a b c v 3) d) 0 = miF (obP (obF R a b c v (3 + d)) (obX a b c (3 + d)) v) 0
    rw [ob_10 R a b c v d, show obX a b c (3 + d) = 10 by unfold obX; rw [if_neg (by omega), if_neg (by omega), if_neg (by omega)]]
    rfl
theorem ob03 {R : RT} (hp : R 0 3 = 0) (a b c v : Nat) : ∀ k, obF R a b c v k 0 3 = 0
  | 0 => hp
  | k + 1 => obP03 (ob03 hp a b c v k) _ _
set_option maxRecDepth 100000 in
set_option maxHeartbeats 4000000 in
theorem kX1_standingByOrder (l : Launch) (G : GT) (h0 : Nat) (so : Nat) (to : Nat) (uo : Nat) (x5 : Nat) (x6 : Nat) (x7 : Nat) (x8 : Nat) (im : Nat) (lm : Nat) (rm : Nat) (sd : Int32) (ak : Nat) (af : Nat) (ab : Nat) (aa : Nat) (R : RT) (tk : Nat) (tf : Nat) (tb : Nat) (ta : Nat) (m0 : Nat) (S : RT) (x : Nat) (y : Nat) (z1 : Nat) (a : Nat) (b : Nat) (c3 : Nat) (v : Nat) (hR : OK R) (hK : AK R) (hp : R 0 3 = 0) (hx : x < 3) (hy : y < 3) (hz : z1 < 3) (ha : a < R 0 0) (hb : b < R 0 0) (hc : c3 < R 0 0) (hv : v ≤ 9) : Ct l yX1_standingByOrder cX1_standingByOrder 10 (some .int) 4 100 [.ref h0, .int (nI (100 * x + 10 * y + z1)), .int (nI a), .int (nI b), .int (nI c3), .int (nI v)] G [(h0, .inr (1, [.ref so, .ref to, .ref uo, .int (nI im), .ref x5, .int (nI lm), .ref x6, .int (nI rm), .ref x7, .ref x8, .int sd])), (so, .inr (0, [.int (nI (sN R)), .int (nI (R 0 1)), .int (nI (sF R)), .int (nI (sS R)), .int (nI (sL R)), .ref ak, .ref af, .ref ab, .ref aa])), (ak, aI G 10 (sK R)), (af, aI G 10 (sG R)), (ab, aI G 10 (sO R)), (aa, aI G 10 (sA R)), (to, .inr (0, [.int (nI (sN S)), .int (nI m0), .int (nI (sF S)), .int (nI (sS S)), .int (nI (sL S)), .ref tk, .ref tf, .ref tb, .ref ta])), (tk, aI G 10 (sK S)), (tf, aI G 10 (sG S)), (tb, aI G 10 (sO S)), (ta, aI G 10 (sA S))] (QI G [(h0, .inr (1, [.ref so, .ref to, .ref uo, .int (nI im), .ref x5, .int (nI lm), .ref x6, .int (nI rm), .ref x7, .ref x8, .int sd])), (so, .inr (0, [.int (nI (sN R)), .int (nI (R 0 1)), .int (nI (sF R)), .int (nI (sS R)), .int (nI (sL R)), .ref ak, .ref af, .ref ab, .ref aa])), (ak, aI G 10 (sK R)), (af, aI G 10 (sG R)), (ab, aI G 10 (sO R)), (aa, aI G 10 (sA R)), (to, .inr (0, [.int (nI (sN S)), .int (nI m0), .int (nI (sF S)), .int (nI (sS S)), .int (nI (sL S)), .ref tk, .ref tf, .ref tb, .ref ta])), (tk, aI G 10 (sK S)), (tf, aI G 10 (sG S)), (tb, aI G 10 (sO S)), (ta, aI G 10 (sA S))] (fun (r : Int32) (u : RT) => r = nI (stN (obF R (plX a b c3 x) (plX a b c3 y) (plX a b c3 z1) v 10)) ∧ True) (fun u => [(h0, .inr (1, [.ref so, .ref to, .ref uo, .int (nI im), .ref x5, .int (nI lm), .ref x6, .int (nI rm), .ref x7, .ref x8, .int sd])), (so, .inr (0, [.int (nI (sN R)), .int (nI (R 0 1)), .int (nI (sF R)), .int (nI (sS R)), .int (nI (sL R)), .ref ak, .ref af, .ref ab, .ref aa])), (ak, aI G 10 (sK R)), (af, aI G 10 (sG R)), (ab, aI G 10 (sO R)), (aa, aI G 10 (sA R)), (to, .inr (0, [.int (nI (sN u)), .int (nI (R 0 1 + 7)), .int (nI (sF u)), .int (nI (sS u)), .int (nI (sL u)), .ref tk, .ref tf, .ref tb, .ref ta])), (tk, aI G 10 (sK u)), (tf, aI G 10 (sG u)), (tb, aI G 10 (sO u)), (ta, aI G 10 (sA u))])) := by
  refine en (by decide +kernel) (Nat.le_of_ble_eq_true rfl) ?_
  intro p e s m below meth c ls H locs C hl hw
  have xx := C.1
  have xb := C.2.1
  have hw : Wd G (fA [(h0, .inr (1, [.ref so, .ref to, .ref uo, .int (nI im), .ref x5, .int (nI lm), .ref x6, .int (nI rm), .ref x7, .ref x8, .int sd])), (so, .inr (0, [.int (nI (sN R)), .int (nI (R 0 1)), .int (nI (sF R)), .int (nI (sS R)), .int (nI (sL R)), .ref ak, .ref af, .ref ab, .ref aa])), (ak, aI G 10 (sK R)), (af, aI G 10 (sG R)), (ab, aI G 10 (sO R)), (aa, aI G 10 (sA R)), (to, .inr (0, [.int (nI (sN S)), .int (nI m0), .int (nI (sF S)), .int (nI (sS S)), .int (nI (sL S)), .ref tk, .ref tf, .ref tb, .ref ta])), (tk, aI G 10 (sK S)), (tf, aI G 10 (sG S)), (tb, aI G 10 (sO S)), (ta, aI G 10 (sA S))]) s [(h0, .inr (1, [.ref so, .ref to, .ref uo, .int (nI im), .ref x5, .int (nI lm), .ref x6, .int (nI rm), .ref x7, .ref x8, .int sd])), (so, .inr (0, [.int (nI (sN R)), .int (nI (R 0 1)), .int (nI (sF R)), .int (nI (sS R)), .int (nI (sL R)), .ref ak, .ref af, .ref ab, .ref aa])), (ak, aI G 10 (sK R)), (af, aI G 10 (sG R)), (ab, aI G 10 (sO R)), (aa, aI G 10 (sA R)), (to, .inr (0, [.int (nI (sN S)), .int (nI m0), .int (nI (sF S)), .int (nI (sS S)), .int (nI (sL S)), .ref tk, .ref tf, .ref tb, .ref ta])), (tk, aI G 10 (sK S)), (tf, aI G 10 (sG S)), (tb, aI G 10 (sO S)), (ta, aI G 10 (sA S))] H locs := hw
  have hl : lv_has ls 10 [(0, .ref h0), (1, .int (nI (100 * x + 10 * y + z1))), (2, .int (nI a)), (3, .int (nI b)), (4, .int (nI c3)), (5, .int (nI v))] := hl
  obtain ⟨hn, hf0, hpr, hA⟩ := id hR
  have hpx := plX_lt (k := x) ha hb hc
  have hpy := plX_lt (k := y) ha hb hc
  have hpz := plX_lt (k := z1) ha hb hc
  refine lv_aload_n xx xb dX1_standingByOrder_0 rfl (lv_at hl 0 rfl) ?_
  refine m_get C hw 0 rfl fk_X1_16 rfl dX1_standingByOrder_1 ?_
  refine lv_aload_n xx xb dX1_standingByOrder_4 rfl (lv_at hl 0 rfl) ?_
  refine m_get C hw 0 rfl fk_X1_10 rfl dX1_standingByOrder_5 ?_
  have hM := kX0_copyFrom l G to tk tf tb ta m0 S so ak af ab aa (R 0 1) R (by first | assumption | omega)
  refine cv_v C hw hM yvX0_copyFrom ml_X1_131 6 rfl rfl rfl [6, 7, 8, 9, 10, 1, 2, 3, 4, 5] rfl rfl (fun _ => (rfl : ([to, tk, tf, tb, ta, so, ak, af, ab, aa] : List Nat) = [to, tk, tf, tb, ta, so, ak, af, ab, aa])) (by decide) ⟨Nat.zero_le _, Nat.zero_le _⟩ hl.1 rfl (Nat.le_of_ble_eq_true rfl) dX1_standingByOrder_8 (fun _ H locs hr hw => ?_)
  have hw : Wd G (fA [(h0, .inr (1, [.ref so, .ref to, .ref uo, .int (nI im), .ref x5, .int (nI lm), .ref x6, .int (nI rm), .ref x7, .ref x8, .int sd])), (so, .inr (0, [.int (nI (sN R)), .int (nI (R 0 1)), .int (nI (sF R)), .int (nI (sS R)), .int (nI (sL R)), .ref ak, .ref af, .ref ab, .ref aa])), (ak, aI G 10 (sK R)), (af, aI G 10 (sG R)), (ab, aI G 10 (sO R)), (aa, aI G 10 (sA R)), (to, .inr (0, [.int (nI (sN S)), .int (nI m0), .int (nI (sF S)), .int (nI (sS S)), .int (nI (sL S)), .ref tk, .ref tf, .ref tb, .ref ta])), (tk, aI G 10 (sK S)), (tf, aI G 10 (sG S)), (tb, aI G 10 (sO S)), (ta, aI G 10 (sA S))]) s [(h0, .inr (1, [.ref so, .ref to, .ref uo, .int (nI im), .ref x5, .int (nI lm), .ref x6, .int (nI rm), .ref x7, .ref x8, .int sd])), (so, .inr (0, [.int (nI (sN R)), .int (nI (R 0 1)), .int (nI (sF R)), .int (nI (sS R)), .int (nI (sL R)), .ref ak, .ref af, .ref ab, .ref aa])), (ak, aI G 10 (sK R)), (af, aI G 10 (sG R)), (ab, aI G 10 (sO R)), (aa, aI G 10 (sA R)), (to, .inr (0, [.int (nI (sN R)), .int (nI (R 0 1)), .int (nI (sF R)), .int (nI (sS R)), .int (nI (sL R)), .ref tk, .ref tf, .ref tb, .ref ta])), (tk, aI G 10 (sK R)), (tf, aI G 10 (sG R)), (tb, aI G 10 (sO R)), (ta, aI G 10 (sA R))] H locs := hw
  refine lv_iload_n xx xb dX1_standingByOrder_11 rfl (lv_at hl 1 rfl) ?_
  refine lv_istore (lv' := [(6, .int (nI (100 * x + 10 * y + z1))), (0, .ref h0), (1, .int (nI (100 * x + 10 * y + z1))), (2, .int (nI a)), (3, .int (nI b)), (4, .int (nI c3)), (5, .int (nI v))]) xx xb dX1_standingByOrder_12 hl (by decide) rfl (fun ls hl => ?_)
  refine lv_bipush (v := nI 100) xx xb dX1_standingByOrder_14 (by decide) ?_
  refine lv_istore (lv' := [(7, .int (nI 100)), (6, .int (nI (100 * x + 10 * y + z1))), (0, .ref h0), (1, .int (nI (100 * x + 10 * y + z1))), (2, .int (nI a)), (3, .int (nI b)), (4, .int (nI c3)), (5, .int (nI v))]) xx xb dX1_standingByOrder_16 hl (by decide) rfl (fun ls hl => ?_)
  have hl : lv_has ls 10 [(7, .int (nI 100)), (6, .int (nI (rsN x y z1 0))), (0, .ref h0), (1, .int (nI (100 * x + 10 * y + z1))), (2, .int (nI a)), (3, .int (nI b)), (4, .int (nI c3)), (5, .int (nI v))] := hl
  have hl : lv_has ls 10 [(7, .int (nI (ptN 0))), (6, .int (nI (rsN x y z1 0))), (0, .ref h0), (1, .int (nI (100 * x + 10 * y + z1))), (2, .int (nI a)), (3, .int (nI b)), (4, .int (nI c3)), (5, .int (nI v))] := hl
  have L_18 : ∀ (fu : Nat) (k1 : Nat) (H : Heap) (locs : List Loc) (ls : Array Slot), 3 - k1 < fu → (k1 ≤ 3) → Wd G (fA [(h0, .inr (1, [.ref so, .ref to, .ref uo, .int (nI im), .ref x5, .int (nI lm), .ref x6, .int (nI rm), .ref x7, .ref x8, .int sd])), (so, .inr (0, [.int (nI (sN R)), .int (nI (R 0 1)), .int (nI (sF R)), .int (nI (sS R)), .int (nI (sL R)), .ref ak, .ref af, .ref ab, .ref aa])), (ak, aI G 10 (sK R)), (af, aI G 10 (sG R)), (ab, aI G 10 (sO R)), (aa, aI G 10 (sA R)), (to, .inr (0, [.int (nI (sN S)), .int (nI m0), .int (nI (sF S)), .int (nI (sS S)), .int (nI (sL S)), .ref tk, .ref tf, .ref tb, .ref ta])), (tk, aI G 10 (sK S)), (tf, aI G 10 (sG S)), (tb, aI G 10 (sO S)), (ta, aI G 10 (sA S))]) s [(h0, .inr (1, [.ref so, .ref to, .ref uo, .int (nI im), .ref x5, .int (nI lm), .ref x6, .int (nI rm), .ref x7, .ref x8, .int sd])), (so, .inr (0, [.int (nI (sN R)), .int (nI (R 0 1)), .int (nI (sF R)), .int (nI (sS R)), .int (nI (sL R)), .ref ak, .ref af, .ref ab, .ref aa])), (ak, aI G 10 (sK R)), (af, aI G 10 (sG R)), (ab, aI G 10 (sO R)), (aa, aI G 10 (sA R)), (to, .inr (0, [.int (nI (sN (obF R (plX a b c3 x) (plX a b c3 y) (plX a b c3 z1) v k1))), .int (nI (R 0 1)), .int (nI (sF (obF R (plX a b c3 x) (plX a b c3 y) (plX a b c3 z1) v k1))), .int (nI (sS (obF R (plX a b c3 x) (plX a b c3 y) (plX a b c3 z1) v k1))), .int (nI (sL (obF R (plX a b c3 x) (plX a b c3 y) (plX a b c3 z1) v k1))), .ref tk, .ref tf, .ref tb, .ref ta])), (tk, aI G 10 (sK (obF R (plX a b c3 x) (plX a b c3 y) (plX a b c3 z1) v k1))), (tf, aI G 10 (sG (obF R (plX a b c3 x) (plX a b c3 y) (plX a b c3 z1) v k1))), (tb, aI G 10 (sO (obF R (plX a b c3 x) (plX a b c3 y) (plX a b c3 z1) v k1))), (ta, aI G 10 (sA (obF R (plX a b c3 x) (plX a b c3 y) (plX a b c3 z1) v k1)))] H locs → lv_has ls 10 [(0, .ref h0), (2, .int (nI a)), (3, .int (nI b)), (4, .int (nI c3)), (5, .int (nI v)), (6, .int (nI (rsN x y z1 k1))), (7, .int (nI (ptN k1)))] → W p l e ({ frames := 4, cells := 0, slots := 0, locals := 100 }) s m (([.ref h0, .int (nI (100 * x + 10 * y + z1)), .int (nI a), .int (nI b), .int (nI c3), .int (nI v)] : List Value).toArray) below meth c H locs 0 0 (MQ below (QI G [(h0, .inr (1, [.ref so, .ref to, .ref uo, .int (nI im), .ref x5, .int (nI lm), .ref x6, .int (nI rm), .ref x7, .ref x8, .int sd])), (so, .inr (0, [.int (nI (sN R)), .int (nI (R 0 1)), .int (nI (sF R)), .int (nI (sS R)), .int (nI (sL R)), .ref ak, .ref af, .ref ab, .ref aa])), (ak, aI G 10 (sK R)), (af, aI G 10 (sG R)), (ab, aI G 10 (sO R)), (aa, aI G 10 (sA R)), (to, .inr (0, [.int (nI (sN S)), .int (nI m0), .int (nI (sF S)), .int (nI (sS S)), .int (nI (sL S)), .ref tk, .ref tf, .ref tb, .ref ta])), (tk, aI G 10 (sK S)), (tf, aI G 10 (sG S)), (tb, aI G 10 (sO S)), (ta, aI G 10 (sA S))] (fun (r : Int32) (u : RT) => r = nI (stN (obF R (plX a b c3 x) (plX a b c3 y) (plX a b c3 z1) v 10)) ∧ True) (fun u => [(h0, .inr (1, [.ref so, .ref to, .ref uo, .int (nI im), .ref x5, .int (nI lm), .ref x6, .int (nI rm), .ref x7, .ref x8, .int sd])), (so, .inr (0, [.int (nI (sN R)), .int (nI (R 0 1)), .int (nI (sF R)), .int (nI (sS R)), .int (nI (sL R)), .ref ak, .ref af, .ref ab, .ref aa])), (ak, aI G 10 (sK R)), (af, aI G 10 (sG R)), (ab, aI G 10 (sO R)), (aa, aI G 10 (sA R)), (to, .inr (0, [.int (nI (sN u)), .int (nI (R 0 1 + 7)), .int (nI (sF u)), .int (nI (sS u)), .int (nI (sL u)), .ref tk, .ref tf, .ref tb, .ref ta])), (tk, aI G 10 (sK u)), (tf, aI G 10 (sG u)), (tb, aI G 10 (sO u)), (ta, aI G 10 (sA u))])) (([.ref h0, .int (nI (100 * x + 10 * y + z1)), .int (nI a), .int (nI b), .int (nI c3), .int (nI v)] : List Value).toArray) s 0 0 (fA [(h0, .inr (1, [.ref so, .ref to, .ref uo, .int (nI im), .ref x5, .int (nI lm), .ref x6, .int (nI rm), .ref x7, .ref x8, .int sd])), (so, .inr (0, [.int (nI (sN R)), .int (nI (R 0 1)), .int (nI (sF R)), .int (nI (sS R)), .int (nI (sL R)), .ref ak, .ref af, .ref ab, .ref aa])), (ak, aI G 10 (sK R)), (af, aI G 10 (sG R)), (ab, aI G 10 (sO R)), (aa, aI G 10 (sA R)), (to, .inr (0, [.int (nI (sN S)), .int (nI m0), .int (nI (sF S)), .int (nI (sS S)), .int (nI (sL S)), .ref tk, .ref tf, .ref tb, .ref ta])), (tk, aI G 10 (sK S)), (tf, aI G 10 (sG S)), (tb, aI G 10 (sO S)), (ta, aI G 10 (sA S))])) (F0 m 18 ls []) := by
    intro fu
    induction fu with
    | zero => intro k1 H locs ls hfu; exact absurd hfu (Nat.not_lt_zero _)
    | succ fu ih_18 =>
      intro k1 H locs ls hfu hk hw hl
      have hpt : ptN k1 ≤ 100 := by unfold ptN; (repeat' split) <;> omega
      refine lv_iload xx xb dX1_standingByOrder_18 (lv_at hl 6 rfl) ?_
      refine lv_if_le (tgt := 103) xx xb dX1_standingByOrder_20 (by decide) (fun c_20 => ?_) (fun c_20 => ?_)
      · skip
        have c_20 := le_c (tN (by omega)) Int32.toInt_zero c_20
        have hk4 : ¬ k1 < 3 := fun q => by have := (or_d hx hy hz q).2.2.2.1; omega
        have hw : Wd G (fA [(h0, .inr (1, [.ref so, .ref to, .ref uo, .int (nI im), .ref x5, .int (nI lm), .ref x6, .int (nI rm), .ref x7, .ref x8, .int sd])), (so, .inr (0, [.int (nI (sN R)), .int (nI (R 0 1)), .int (nI (sF R)), .int (nI (sS R)), .int (nI (sL R)), .ref ak, .ref af, .ref ab, .ref aa])), (ak, aI G 10 (sK R)), (af, aI G 10 (sG R)), (ab, aI G 10 (sO R)), (aa, aI G 10 (sA R)), (to, .inr (0, [.int (nI (sN S)), .int (nI m0), .int (nI (sF S)), .int (nI (sS S)), .int (nI (sL S)), .ref tk, .ref tf, .ref tb, .ref ta])), (tk, aI G 10 (sK S)), (tf, aI G 10 (sG S)), (tb, aI G 10 (sO S)), (ta, aI G 10 (sA S))]) s [(h0, .inr (1, [.ref so, .ref to, .ref uo, .int (nI im), .ref x5, .int (nI lm), .ref x6, .int (nI rm), .ref x7, .ref x8, .int sd])), (so, .inr (0, [.int (nI (sN R)), .int (nI (R 0 1)), .int (nI (sF R)), .int (nI (sS R)), .int (nI (sL R)), .ref ak, .ref af, .ref ab, .ref aa])), (ak, aI G 10 (sK R)), (af, aI G 10 (sG R)), (ab, aI G 10 (sO R)), (aa, aI G 10 (sA R)), (to, .inr (0, [.int (nI (sN (obF R (plX a b c3 x) (plX a b c3 y) (plX a b c3 z1) v 3))), .int (nI (R 0 1)), .int (nI (sF (obF R (plX a b c3 x) (plX a b c3 y) (plX a b c3 z1) v 3))), .int (nI (sS (obF R (plX a b c3 x) (plX a b c3 y) (plX a b c3 z1) v 3))), .int (nI (sL (obF R (plX a b c3 x) (plX a b c3 y) (plX a b c3 z1) v 3))), .ref tk, .ref tf, .ref tb, .ref ta])), (tk, aI G 10 (sK (obF R (plX a b c3 x) (plX a b c3 y) (plX a b c3 z1) v 3))), (tf, aI G 10 (sG (obF R (plX a b c3 x) (plX a b c3 y) (plX a b c3 z1) v 3))), (tb, aI G 10 (sO (obF R (plX a b c3 x) (plX a b c3 y) (plX a b c3 z1) v 3))), (ta, aI G 10 (sA (obF R (plX a b c3 x) (plX a b c3 y) (plX a b c3 z1) v 3)))] H locs := by rw [show 3 = k1 by omega]; exact hw
        refine lv_aload_n xx xb dX1_standingByOrder_103 rfl (lv_at hl 0 rfl) ?_
        refine m_get C hw 0 rfl fk_X1_16 rfl dX1_standingByOrder_104 ?_
        refine lv_bipush (v := nI 7) xx xb dX1_standingByOrder_107 (by decide) ?_
        have hM := kX0_passMinutes l G to tk tf tb ta (R 0 1) (obF R (plX a b c3 x) (plX a b c3 y) (plX a b c3 z1) v 3) 7 (OK_obF hR hpx hpy hpz v 3) (AK_obF hR hK hpx hpy hpz v 3) (ob03 hp (plX a b c3 x) (plX a b c3 y) (plX a b c3 z1) v 3) (by decide)
        refine cv_v C hw hM yvX0_passMinutes ml_X1_125 6 rfl rfl rfl [6, 7, 8, 9, 10] rfl rfl (fun _ => (rfl : ([to, tk, tf, tb, ta] : List Nat) = [to, tk, tf, tb, ta])) (by decide) ⟨Nat.zero_le _, Nat.zero_le _⟩ hl.1 rfl (Nat.le_of_ble_eq_true rfl) dX1_standingByOrder_109 (fun _ H locs hr hw => ?_)
        have hw : Wd G (fA [(h0, .inr (1, [.ref so, .ref to, .ref uo, .int (nI im), .ref x5, .int (nI lm), .ref x6, .int (nI rm), .ref x7, .ref x8, .int sd])), (so, .inr (0, [.int (nI (sN R)), .int (nI (R 0 1)), .int (nI (sF R)), .int (nI (sS R)), .int (nI (sL R)), .ref ak, .ref af, .ref ab, .ref aa])), (ak, aI G 10 (sK R)), (af, aI G 10 (sG R)), (ab, aI G 10 (sO R)), (aa, aI G 10 (sA R)), (to, .inr (0, [.int (nI (sN S)), .int (nI m0), .int (nI (sF S)), .int (nI (sS S)), .int (nI (sL S)), .ref tk, .ref tf, .ref tb, .ref ta])), (tk, aI G 10 (sK S)), (tf, aI G 10 (sG S)), (tb, aI G 10 (sO S)), (ta, aI G 10 (sA S))]) s [(h0, .inr (1, [.ref so, .ref to, .ref uo, .int (nI im), .ref x5, .int (nI lm), .ref x6, .int (nI rm), .ref x7, .ref x8, .int sd])), (so, .inr (0, [.int (nI (sN R)), .int (nI (R 0 1)), .int (nI (sF R)), .int (nI (sS R)), .int (nI (sL R)), .ref ak, .ref af, .ref ab, .ref aa])), (ak, aI G 10 (sK R)), (af, aI G 10 (sG R)), (ab, aI G 10 (sO R)), (aa, aI G 10 (sA R)), (to, .inr (0, [.int (nI (sN (itF (obF R (plX a b c3 x) (plX a b c3 y) (plX a b c3 z1) v 3) 7))), .int (nI ((R 0 1) + 7)), .int (nI (sF (itF (obF R (plX a b c3 x) (plX a b c3 y) (plX a b c3 z1) v 3) 7))), .int (nI (sS (itF (obF R (plX a b c3 x) (plX a b c3 y) (plX a b c3 z1) v 3) 7))), .int (nI (sL (itF (obF R (plX a b c3 x) (plX a b c3 y) (plX a b c3 z1) v 3) 7))), .ref tk, .ref tf, .ref tb, .ref ta])), (tk, aI G 10 (sK (itF (obF R (plX a b c3 x) (plX a b c3 y) (plX a b c3 z1) v 3) 7))), (tf, aI G 10 (sG (itF (obF R (plX a b c3 x) (plX a b c3 y) (plX a b c3 z1) v 3) 7))), (tb, aI G 10 (sO (itF (obF R (plX a b c3 x) (plX a b c3 y) (plX a b c3 z1) v 3) 7))), (ta, aI G 10 (sA (itF (obF R (plX a b c3 x) (plX a b c3 y) (plX a b c3 z1) v 3) 7)))] H locs := hw
        have hw : Wd G (fA [(h0, .inr (1, [.ref so, .ref to, .ref uo, .int (nI im), .ref x5, .int (nI lm), .ref x6, .int (nI rm), .ref x7, .ref x8, .int sd])), (so, .inr (0, [.int (nI (sN R)), .int (nI (R 0 1)), .int (nI (sF R)), .int (nI (sS R)), .int (nI (sL R)), .ref ak, .ref af, .ref ab, .ref aa])), (ak, aI G 10 (sK R)), (af, aI G 10 (sG R)), (ab, aI G 10 (sO R)), (aa, aI G 10 (sA R)), (to, .inr (0, [.int (nI (sN S)), .int (nI m0), .int (nI (sF S)), .int (nI (sS S)), .int (nI (sL S)), .ref tk, .ref tf, .ref tb, .ref ta])), (tk, aI G 10 (sK S)), (tf, aI G 10 (sG S)), (tb, aI G 10 (sO S)), (ta, aI G 10 (sA S))]) s [(h0, .inr (1, [.ref so, .ref to, .ref uo, .int (nI im), .ref x5, .int (nI lm), .ref x6, .int (nI rm), .ref x7, .ref x8, .int sd])), (so, .inr (0, [.int (nI (sN R)), .int (nI (R 0 1)), .int (nI (sF R)), .int (nI (sS R)), .int (nI (sL R)), .ref ak, .ref af, .ref ab, .ref aa])), (ak, aI G 10 (sK R)), (af, aI G 10 (sG R)), (ab, aI G 10 (sO R)), (aa, aI G 10 (sA R)), (to, .inr (0, [.int (nI (sN (obF R (plX a b c3 x) (plX a b c3 y) (plX a b c3 z1) v 10))), .int (nI (R 0 1 + 7)), .int (nI (sF (obF R (plX a b c3 x) (plX a b c3 y) (plX a b c3 z1) v 10))), .int (nI (sS (obF R (plX a b c3 x) (plX a b c3 y) (plX a b c3 z1) v 10))), .int (nI (sL (obF R (plX a b c3 x) (plX a b c3 y) (plX a b c3 z1) v 10))), .ref tk, .ref tf, .ref tb, .ref ta])), (tk, aI G 10 (sK (obF R (plX a b c3 x) (plX a b c3 y) (plX a b c3 z1) v 10))), (tf, aI G 10 (sG (obF R (plX a b c3 x) (plX a b c3 y) (plX a b c3 z1) v 10))), (tb, aI G 10 (sO (obF R (plX a b c3 x) (plX a b c3 y) (plX a b c3 z1) v 10))), (ta, aI G 10 (sA (obF R (plX a b c3 x) (plX a b c3 y) (plX a b c3 z1) v 10)))] H locs := by rw [← show itF (obF R (plX a b c3 x) (plX a b c3 y) (plX a b c3 z1) v 3) 7 = obF R (plX a b c3 x) (plX a b c3 y) (plX a b c3 z1) v 10 from ob_10 R _ _ _ v 7]; exact hw
        refine lv_aload_n xx xb dX1_standingByOrder_112 rfl (lv_at hl 0 rfl) ?_
        refine m_get C hw 0 rfl fk_X1_16 rfl dX1_standingByOrder_113 ?_
        have hM := kX0_countStanding l G to tk tf tb ta (R 0 1 + 7) (obF R (plX a b c3 x) (plX a b c3 y) (plX a b c3 z1) v 10) (OK_obF hR hpx hpy hpz v 10)
        refine cv_i C hw hM yvX0_countStanding ml_X1_128 6 rfl rfl rfl [6, 7, 8, 9, 10] rfl rfl (fun _ => (rfl : ([to, tk, tf, tb, ta] : List Nat) = [to, tk, tf, tb, ta])) (by decide) ⟨Nat.zero_le _, Nat.zero_le _⟩ hl.1 rfl (Nat.le_of_ble_eq_true rfl) dX1_standingByOrder_116 (fun r _ H locs hr hw => ?_)
        have hw : Wd G (fA [(h0, .inr (1, [.ref so, .ref to, .ref uo, .int (nI im), .ref x5, .int (nI lm), .ref x6, .int (nI rm), .ref x7, .ref x8, .int sd])), (so, .inr (0, [.int (nI (sN R)), .int (nI (R 0 1)), .int (nI (sF R)), .int (nI (sS R)), .int (nI (sL R)), .ref ak, .ref af, .ref ab, .ref aa])), (ak, aI G 10 (sK R)), (af, aI G 10 (sG R)), (ab, aI G 10 (sO R)), (aa, aI G 10 (sA R)), (to, .inr (0, [.int (nI (sN S)), .int (nI m0), .int (nI (sF S)), .int (nI (sS S)), .int (nI (sL S)), .ref tk, .ref tf, .ref tb, .ref ta])), (tk, aI G 10 (sK S)), (tf, aI G 10 (sG S)), (tb, aI G 10 (sO S)), (ta, aI G 10 (sA S))]) s [(h0, .inr (1, [.ref so, .ref to, .ref uo, .int (nI im), .ref x5, .int (nI lm), .ref x6, .int (nI rm), .ref x7, .ref x8, .int sd])), (so, .inr (0, [.int (nI (sN R)), .int (nI (R 0 1)), .int (nI (sF R)), .int (nI (sS R)), .int (nI (sL R)), .ref ak, .ref af, .ref ab, .ref aa])), (ak, aI G 10 (sK R)), (af, aI G 10 (sG R)), (ab, aI G 10 (sO R)), (aa, aI G 10 (sA R)), (to, .inr (0, [.int (nI (sN (obF R (plX a b c3 x) (plX a b c3 y) (plX a b c3 z1) v 10))), .int (nI (R 0 1 + 7)), .int (nI (sF (obF R (plX a b c3 x) (plX a b c3 y) (plX a b c3 z1) v 10))), .int (nI (sS (obF R (plX a b c3 x) (plX a b c3 y) (plX a b c3 z1) v 10))), .int (nI (sL (obF R (plX a b c3 x) (plX a b c3 y) (plX a b c3 z1) v 10))), .ref tk, .ref tf, .ref tb, .ref ta])), (tk, aI G 10 (sK (obF R (plX a b c3 x) (plX a b c3 y) (plX a b c3 z1) v 10))), (tf, aI G 10 (sG (obF R (plX a b c3 x) (plX a b c3 y) (plX a b c3 z1) v 10))), (tb, aI G 10 (sO (obF R (plX a b c3 x) (plX a b c3 y) (plX a b c3 z1) v 10))), (ta, aI G 10 (sA (obF R (plX a b c3 x) (plX a b c3 y) (plX a b c3 z1) v 10)))] H locs := hw
        subst hr
        exact rt_i C hw (obF R (plX a b c3 x) (plX a b c3 y) (plX a b c3 z1) v 10) (⟨rfl, trivial⟩) rfl dX1_standingByOrder_119
      · skip
        have c_20 := nle_c (tN (by omega)) Int32.toInt_zero c_20
        have hk3 := or_p (k := k1) (by omega)
        have hor := or_d hx hy hz hk3
        have J_58 : ∀  (H : Heap) (locs : List Loc) (ls : Array Slot), Wd G (fA [(h0, .inr (1, [.ref so, .ref to, .ref uo, .int (nI im), .ref x5, .int (nI lm), .ref x6, .int (nI rm), .ref x7, .ref x8, .int sd])), (so, .inr (0, [.int (nI (sN R)), .int (nI (R 0 1)), .int (nI (sF R)), .int (nI (sS R)), .int (nI (sL R)), .ref ak, .ref af, .ref ab, .ref aa])), (ak, aI G 10 (sK R)), (af, aI G 10 (sG R)), (ab, aI G 10 (sO R)), (aa, aI G 10 (sA R)), (to, .inr (0, [.int (nI (sN S)), .int (nI m0), .int (nI (sF S)), .int (nI (sS S)), .int (nI (sL S)), .ref tk, .ref tf, .ref tb, .ref ta])), (tk, aI G 10 (sK S)), (tf, aI G 10 (sG S)), (tb, aI G 10 (sO S)), (ta, aI G 10 (sA S))]) s [(h0, .inr (1, [.ref so, .ref to, .ref uo, .int (nI im), .ref x5, .int (nI lm), .ref x6, .int (nI rm), .ref x7, .ref x8, .int sd])), (so, .inr (0, [.int (nI (sN R)), .int (nI (R 0 1)), .int (nI (sF R)), .int (nI (sS R)), .int (nI (sL R)), .ref ak, .ref af, .ref ab, .ref aa])), (ak, aI G 10 (sK R)), (af, aI G 10 (sG R)), (ab, aI G 10 (sO R)), (aa, aI G 10 (sA R)), (to, .inr (0, [.int (nI (sN (obF R (plX a b c3 x) (plX a b c3 y) (plX a b c3 z1) v k1))), .int (nI (R 0 1)), .int (nI (sF (obF R (plX a b c3 x) (plX a b c3 y) (plX a b c3 z1) v k1))), .int (nI (sS (obF R (plX a b c3 x) (plX a b c3 y) (plX a b c3 z1) v k1))), .int (nI (sL (obF R (plX a b c3 x) (plX a b c3 y) (plX a b c3 z1) v k1))), .ref tk, .ref tf, .ref tb, .ref ta])), (tk, aI G 10 (sK (obF R (plX a b c3 x) (plX a b c3 y) (plX a b c3 z1) v k1))), (tf, aI G 10 (sG (obF R (plX a b c3 x) (plX a b c3 y) (plX a b c3 z1) v k1))), (tb, aI G 10 (sO (obF R (plX a b c3 x) (plX a b c3 y) (plX a b c3 z1) v k1))), (ta, aI G 10 (sA (obF R (plX a b c3 x) (plX a b c3 y) (plX a b c3 z1) v k1)))] H locs → lv_has ls 10 [(0, .ref h0), (2, .int (nI a)), (3, .int (nI b)), (4, .int (nI c3)), (5, .int (nI v)), (6, .int (nI (rsN x y z1 (k1 + 1)))), (7, .int (nI (ptN k1)))] → W p l e ({ frames := 4, cells := 0, slots := 0, locals := 100 }) s m (([.ref h0, .int (nI (100 * x + 10 * y + z1)), .int (nI a), .int (nI b), .int (nI c3), .int (nI v)] : List Value).toArray) below meth c H locs 0 0 (MQ below (QI G [(h0, .inr (1, [.ref so, .ref to, .ref uo, .int (nI im), .ref x5, .int (nI lm), .ref x6, .int (nI rm), .ref x7, .ref x8, .int sd])), (so, .inr (0, [.int (nI (sN R)), .int (nI (R 0 1)), .int (nI (sF R)), .int (nI (sS R)), .int (nI (sL R)), .ref ak, .ref af, .ref ab, .ref aa])), (ak, aI G 10 (sK R)), (af, aI G 10 (sG R)), (ab, aI G 10 (sO R)), (aa, aI G 10 (sA R)), (to, .inr (0, [.int (nI (sN S)), .int (nI m0), .int (nI (sF S)), .int (nI (sS S)), .int (nI (sL S)), .ref tk, .ref tf, .ref tb, .ref ta])), (tk, aI G 10 (sK S)), (tf, aI G 10 (sG S)), (tb, aI G 10 (sO S)), (ta, aI G 10 (sA S))] (fun (r : Int32) (u : RT) => r = nI (stN (obF R (plX a b c3 x) (plX a b c3 y) (plX a b c3 z1) v 10)) ∧ True) (fun u => [(h0, .inr (1, [.ref so, .ref to, .ref uo, .int (nI im), .ref x5, .int (nI lm), .ref x6, .int (nI rm), .ref x7, .ref x8, .int sd])), (so, .inr (0, [.int (nI (sN R)), .int (nI (R 0 1)), .int (nI (sF R)), .int (nI (sS R)), .int (nI (sL R)), .ref ak, .ref af, .ref ab, .ref aa])), (ak, aI G 10 (sK R)), (af, aI G 10 (sG R)), (ab, aI G 10 (sO R)), (aa, aI G 10 (sA R)), (to, .inr (0, [.int (nI (sN u)), .int (nI (R 0 1 + 7)), .int (nI (sF u)), .int (nI (sS u)), .int (nI (sL u)), .ref tk, .ref tf, .ref tb, .ref ta])), (tk, aI G 10 (sK u)), (tf, aI G 10 (sG u)), (tb, aI G 10 (sO u)), (ta, aI G 10 (sA u))])) (([.ref h0, .int (nI (100 * x + 10 * y + z1)), .int (nI a), .int (nI b), .int (nI c3), .int (nI v)] : List Value).toArray) s 0 0 (fA [(h0, .inr (1, [.ref so, .ref to, .ref uo, .int (nI im), .ref x5, .int (nI lm), .ref x6, .int (nI rm), .ref x7, .ref x8, .int sd])), (so, .inr (0, [.int (nI (sN R)), .int (nI (R 0 1)), .int (nI (sF R)), .int (nI (sS R)), .int (nI (sL R)), .ref ak, .ref af, .ref ab, .ref aa])), (ak, aI G 10 (sK R)), (af, aI G 10 (sG R)), (ab, aI G 10 (sO R)), (aa, aI G 10 (sA R)), (to, .inr (0, [.int (nI (sN S)), .int (nI m0), .int (nI (sF S)), .int (nI (sS S)), .int (nI (sL S)), .ref tk, .ref tf, .ref tb, .ref ta])), (tk, aI G 10 (sK S)), (tf, aI G 10 (sG S)), (tb, aI G 10 (sO S)), (ta, aI G 10 (sA S))])) (F0 m 58 ls [.int (nI (obX (plX a b c3 x) (plX a b c3 y) (plX a b c3 z1) k1))]) := by
          intro  H locs ls  hw hl
          refine lv_istore (lv' := [(9, .int (nI (obX (plX a b c3 x) (plX a b c3 y) (plX a b c3 z1) k1))), (0, .ref h0), (2, .int (nI a)), (3, .int (nI b)), (4, .int (nI c3)), (5, .int (nI v)), (6, .int (nI (rsN x y z1 (k1 + 1)))), (7, .int (nI (ptN k1)))]) xx xb dX1_standingByOrder_58 hl (by decide) rfl (fun ls hl => ?_)
          have hX := obX_lt hpx hpy hpz k1
          have hS := OK_obF hR hpx hpy hpz v k1
          have hT := AK_obF hR hK hpx hpy hpz v k1
          have hN := obF_00 R (plX a b c3 x) (plX a b c3 y) (plX a b c3 z1) v k1
          have hXx : obX (plX a b c3 x) (plX a b c3 y) (plX a b c3 z1) k1 < R 0 0 := by rw [ox_e (by omega)]; exact plX_lt ha hb hc
          have hSp := ob03 hp (plX a b c3 x) (plX a b c3 y) (plX a b c3 z1) v k1
          refine lv_aload_n xx xb dX1_standingByOrder_60 rfl (lv_at hl 1 rfl) ?_
          refine m_get C hw 0 rfl fk_X1_16 rfl dX1_standingByOrder_61 ?_
          refine lv_iload xx xb dX1_standingByOrder_64 (lv_at hl 0 rfl) ?_
          have hM := kX0_stands l G to tk tf tb ta (R 0 1) (obF R (plX a b c3 x) (plX a b c3 y) (plX a b c3 z1) v k1) (nI (obX (plX a b c3 x) (plX a b c3 y) (plX a b c3 z1) k1)) ((obX (plX a b c3 x) (plX a b c3 y) (plX a b c3 z1) k1 : Nat) : Int) (tN (by omega)) hS
          refine cv_i C hw hM yvX0_stands ml_X1_166 6 rfl rfl rfl [6, 7, 8, 9, 10] rfl rfl (fun _ => (rfl : ([to, tk, tf, tb, ta] : List Nat) = [to, tk, tf, tb, ta])) (by decide) ⟨Nat.zero_le _, Nat.zero_le _⟩ hl.1 rfl (Nat.le_of_ble_eq_true rfl) dX1_standingByOrder_66 (fun r _ H locs hr hw => ?_)
          have hw : Wd G (fA [(h0, .inr (1, [.ref so, .ref to, .ref uo, .int (nI im), .ref x5, .int (nI lm), .ref x6, .int (nI rm), .ref x7, .ref x8, .int sd])), (so, .inr (0, [.int (nI (sN R)), .int (nI (R 0 1)), .int (nI (sF R)), .int (nI (sS R)), .int (nI (sL R)), .ref ak, .ref af, .ref ab, .ref aa])), (ak, aI G 10 (sK R)), (af, aI G 10 (sG R)), (ab, aI G 10 (sO R)), (aa, aI G 10 (sA R)), (to, .inr (0, [.int (nI (sN S)), .int (nI m0), .int (nI (sF S)), .int (nI (sS S)), .int (nI (sL S)), .ref tk, .ref tf, .ref tb, .ref ta])), (tk, aI G 10 (sK S)), (tf, aI G 10 (sG S)), (tb, aI G 10 (sO S)), (ta, aI G 10 (sA S))]) s [(h0, .inr (1, [.ref so, .ref to, .ref uo, .int (nI im), .ref x5, .int (nI lm), .ref x6, .int (nI rm), .ref x7, .ref x8, .int sd])), (so, .inr (0, [.int (nI (sN R)), .int (nI (R 0 1)), .int (nI (sF R)), .int (nI (sS R)), .int (nI (sL R)), .ref ak, .ref af, .ref ab, .ref aa])), (ak, aI G 10 (sK R)), (af, aI G 10 (sG R)), (ab, aI G 10 (sO R)), (aa, aI G 10 (sA R)), (to, .inr (0, [.int (nI (sN (obF R (plX a b c3 x) (plX a b c3 y) (plX a b c3 z1) v k1))), .int (nI (R 0 1)), .int (nI (sF (obF R (plX a b c3 x) (plX a b c3 y) (plX a b c3 z1) v k1))), .int (nI (sS (obF R (plX a b c3 x) (plX a b c3 y) (plX a b c3 z1) v k1))), .int (nI (sL (obF R (plX a b c3 x) (plX a b c3 y) (plX a b c3 z1) v k1))), .ref tk, .ref tf, .ref tb, .ref ta])), (tk, aI G 10 (sK (obF R (plX a b c3 x) (plX a b c3 y) (plX a b c3 z1) v k1))), (tf, aI G 10 (sG (obF R (plX a b c3 x) (plX a b c3 y) (plX a b c3 z1) v k1))), (tb, aI G 10 (sO (obF R (plX a b c3 x) (plX a b c3 y) (plX a b c3 z1) v k1))), (ta, aI G 10 (sA (obF R (plX a b c3 x) (plX a b c3 y) (plX a b c3 z1) v k1)))] H locs := hw
          subst hr
          refine re_i (if obF R (plX a b c3 x) (plX a b c3 y) (plX a b c3 z1) v k1 4 (obX (plX a b c3 x) (plX a b c3 y) (plX a b c3 z1) k1) = 0 then 1 else 0) (st_i (R := obF R (plX a b c3 x) (plX a b c3 y) (plX a b c3 z1) v k1) (by rw [hN]; exact hXx)) ?_
          refine lv_if_eq (tgt := 84) xx xb dX1_standingByOrder_69 (by decide) (fun c_69 => ?_) (fun c_69 => ?_)
          · skip
            have c_69 := b0_c c_69
            have hw : Wd G (fA [(h0, .inr (1, [.ref so, .ref to, .ref uo, .int (nI im), .ref x5, .int (nI lm), .ref x6, .int (nI rm), .ref x7, .ref x8, .int sd])), (so, .inr (0, [.int (nI (sN R)), .int (nI (R 0 1)), .int (nI (sF R)), .int (nI (sS R)), .int (nI (sL R)), .ref ak, .ref af, .ref ab, .ref aa])), (ak, aI G 10 (sK R)), (af, aI G 10 (sG R)), (ab, aI G 10 (sO R)), (aa, aI G 10 (sA R)), (to, .inr (0, [.int (nI (sN S)), .int (nI m0), .int (nI (sF S)), .int (nI (sS S)), .int (nI (sL S)), .ref tk, .ref tf, .ref tb, .ref ta])), (tk, aI G 10 (sK S)), (tf, aI G 10 (sG S)), (tb, aI G 10 (sO S)), (ta, aI G 10 (sA S))]) s [(h0, .inr (1, [.ref so, .ref to, .ref uo, .int (nI im), .ref x5, .int (nI lm), .ref x6, .int (nI rm), .ref x7, .ref x8, .int sd])), (so, .inr (0, [.int (nI (sN R)), .int (nI (R 0 1)), .int (nI (sF R)), .int (nI (sS R)), .int (nI (sL R)), .ref ak, .ref af, .ref ab, .ref aa])), (ak, aI G 10 (sK R)), (af, aI G 10 (sG R)), (ab, aI G 10 (sO R)), (aa, aI G 10 (sA R)), (to, .inr (0, [.int (nI (sN (obP (obF R (plX a b c3 x) (plX a b c3 y) (plX a b c3 z1) v k1) (obX (plX a b c3 x) (plX a b c3 y) (plX a b c3 z1) k1) v))), .int (nI (R 0 1)), .int (nI (sF (obP (obF R (plX a b c3 x) (plX a b c3 y) (plX a b c3 z1) v k1) (obX (plX a b c3 x) (plX a b c3 y) (plX a b c3 z1) k1) v))), .int (nI (sS (obP (obF R (plX a b c3 x) (plX a b c3 y) (plX a b c3 z1) v k1) (obX (plX a b c3 x) (plX a b c3 y) (plX a b c3 z1) k1) v))), .int (nI (sL (obP (obF R (plX a b c3 x) (plX a b c3 y) (plX a b c3 z1) v k1) (obX (plX a b c3 x) (plX a b c3 y) (plX a b c3 z1) k1) v))), .ref tk, .ref tf, .ref tb, .ref ta])), (tk, aI G 10 (sK (obP (obF R (plX a b c3 x) (plX a b c3 y) (plX a b c3 z1) v k1) (obX (plX a b c3 x) (plX a b c3 y) (plX a b c3 z1) k1) v))), (tf, aI G 10 (sG (obP (obF R (plX a b c3 x) (plX a b c3 y) (plX a b c3 z1) v k1) (obX (plX a b c3 x) (plX a b c3 y) (plX a b c3 z1) k1) v))), (tb, aI G 10 (sO (obP (obF R (plX a b c3 x) (plX a b c3 y) (plX a b c3 z1) v k1) (obX (plX a b c3 x) (plX a b c3 y) (plX a b c3 z1) k1) v))), (ta, aI G 10 (sA (obP (obF R (plX a b c3 x) (plX a b c3 y) (plX a b c3 z1) v k1) (obX (plX a b c3 x) (plX a b c3 y) (plX a b c3 z1) k1) v)))] H locs := by unfold obP; first | (rw [if_pos (And.intro (by omega) c_69)]; exact hw) | (rw [if_neg (fun q => c_69 q.2)]; exact hw)
            refine lv_aload_n xx xb dX1_standingByOrder_84 rfl (lv_at hl 1 rfl) ?_
            refine m_get C hw 0 rfl fk_X1_16 rfl dX1_standingByOrder_85 ?_
            refine lv_iconst (v := nI 0) xx xb dX1_standingByOrder_88 (by decide) ?_
            have hM := kX0_passMinute l G to tk tf tb ta (R 0 1) (obP (obF R (plX a b c3 x) (plX a b c3 y) (plX a b c3 z1) v k1) (obX (plX a b c3 x) (plX a b c3 y) (plX a b c3 z1) k1) v) 0 (OK_obP hS (Or.inr (by rw [hN]; exact hXx)) v) (AK_obP hT _ v) (obP03 hSp _ _) (by first | assumption | omega)
            refine cv_i C hw hM yvX0_passMinute ml_X1_296 6 rfl rfl rfl [6, 7, 8, 9, 10] rfl rfl (fun _ => (rfl : ([to, tk, tf, tb, ta] : List Nat) = [to, tk, tf, tb, ta])) (by decide) ⟨Nat.zero_le _, Nat.zero_le _⟩ hl.1 rfl (Nat.le_of_ble_eq_true rfl) dX1_standingByOrder_89 (fun r _ H locs hr hw => ?_)
            have hw : Wd G (fA [(h0, .inr (1, [.ref so, .ref to, .ref uo, .int (nI im), .ref x5, .int (nI lm), .ref x6, .int (nI rm), .ref x7, .ref x8, .int sd])), (so, .inr (0, [.int (nI (sN R)), .int (nI (R 0 1)), .int (nI (sF R)), .int (nI (sS R)), .int (nI (sL R)), .ref ak, .ref af, .ref ab, .ref aa])), (ak, aI G 10 (sK R)), (af, aI G 10 (sG R)), (ab, aI G 10 (sO R)), (aa, aI G 10 (sA R)), (to, .inr (0, [.int (nI (sN S)), .int (nI m0), .int (nI (sF S)), .int (nI (sS S)), .int (nI (sL S)), .ref tk, .ref tf, .ref tb, .ref ta])), (tk, aI G 10 (sK S)), (tf, aI G 10 (sG S)), (tb, aI G 10 (sO S)), (ta, aI G 10 (sA S))]) s [(h0, .inr (1, [.ref so, .ref to, .ref uo, .int (nI im), .ref x5, .int (nI lm), .ref x6, .int (nI rm), .ref x7, .ref x8, .int sd])), (so, .inr (0, [.int (nI (sN R)), .int (nI (R 0 1)), .int (nI (sF R)), .int (nI (sS R)), .int (nI (sL R)), .ref ak, .ref af, .ref ab, .ref aa])), (ak, aI G 10 (sK R)), (af, aI G 10 (sG R)), (ab, aI G 10 (sO R)), (aa, aI G 10 (sA R)), (to, .inr (0, [.int (nI (sN (miF (obP (obF R (plX a b c3 x) (plX a b c3 y) (plX a b c3 z1) v k1) (obX (plX a b c3 x) (plX a b c3 y) (plX a b c3 z1) k1) v) 0))), .int (nI (R 0 1)), .int (nI (sF (miF (obP (obF R (plX a b c3 x) (plX a b c3 y) (plX a b c3 z1) v k1) (obX (plX a b c3 x) (plX a b c3 y) (plX a b c3 z1) k1) v) 0))), .int (nI (sS (miF (obP (obF R (plX a b c3 x) (plX a b c3 y) (plX a b c3 z1) v k1) (obX (plX a b c3 x) (plX a b c3 y) (plX a b c3 z1) k1) v) 0))), .int (nI (sL (miF (obP (obF R (plX a b c3 x) (plX a b c3 y) (plX a b c3 z1) v k1) (obX (plX a b c3 x) (plX a b c3 y) (plX a b c3 z1) k1) v) 0))), .ref tk, .ref tf, .ref tb, .ref ta])), (tk, aI G 10 (sK (miF (obP (obF R (plX a b c3 x) (plX a b c3 y) (plX a b c3 z1) v k1) (obX (plX a b c3 x) (plX a b c3 y) (plX a b c3 z1) k1) v) 0))), (tf, aI G 10 (sG (miF (obP (obF R (plX a b c3 x) (plX a b c3 y) (plX a b c3 z1) v k1) (obX (plX a b c3 x) (plX a b c3 y) (plX a b c3 z1) k1) v) 0))), (tb, aI G 10 (sO (miF (obP (obF R (plX a b c3 x) (plX a b c3 y) (plX a b c3 z1) v k1) (obX (plX a b c3 x) (plX a b c3 y) (plX a b c3 z1) k1) v) 0))), (ta, aI G 10 (sA (miF (obP (obF R (plX a b c3 x) (plX a b c3 y) (plX a b c3 z1) v k1) (obX (plX a b c3 x) (plX a b c3 y) (plX a b c3 z1) k1) v) 0)))] H locs := hw
            subst hr
            refine lv_pop xx xb dX1_standingByOrder_92 rfl ?_
            have hw : Wd G (fA [(h0, .inr (1, [.ref so, .ref to, .ref uo, .int (nI im), .ref x5, .int (nI lm), .ref x6, .int (nI rm), .ref x7, .ref x8, .int sd])), (so, .inr (0, [.int (nI (sN R)), .int (nI (R 0 1)), .int (nI (sF R)), .int (nI (sS R)), .int (nI (sL R)), .ref ak, .ref af, .ref ab, .ref aa])), (ak, aI G 10 (sK R)), (af, aI G 10 (sG R)), (ab, aI G 10 (sO R)), (aa, aI G 10 (sA R)), (to, .inr (0, [.int (nI (sN S)), .int (nI m0), .int (nI (sF S)), .int (nI (sS S)), .int (nI (sL S)), .ref tk, .ref tf, .ref tb, .ref ta])), (tk, aI G 10 (sK S)), (tf, aI G 10 (sG S)), (tb, aI G 10 (sO S)), (ta, aI G 10 (sA S))]) s [(h0, .inr (1, [.ref so, .ref to, .ref uo, .int (nI im), .ref x5, .int (nI lm), .ref x6, .int (nI rm), .ref x7, .ref x8, .int sd])), (so, .inr (0, [.int (nI (sN R)), .int (nI (R 0 1)), .int (nI (sF R)), .int (nI (sS R)), .int (nI (sL R)), .ref ak, .ref af, .ref ab, .ref aa])), (ak, aI G 10 (sK R)), (af, aI G 10 (sG R)), (ab, aI G 10 (sO R)), (aa, aI G 10 (sA R)), (to, .inr (0, [.int (nI (sN (obF R (plX a b c3 x) (plX a b c3 y) (plX a b c3 z1) v (k1 + 1)))), .int (nI (R 0 1)), .int (nI (sF (obF R (plX a b c3 x) (plX a b c3 y) (plX a b c3 z1) v (k1 + 1)))), .int (nI (sS (obF R (plX a b c3 x) (plX a b c3 y) (plX a b c3 z1) v (k1 + 1)))), .int (nI (sL (obF R (plX a b c3 x) (plX a b c3 y) (plX a b c3 z1) v (k1 + 1)))), .ref tk, .ref tf, .ref tb, .ref ta])), (tk, aI G 10 (sK (obF R (plX a b c3 x) (plX a b c3 y) (plX a b c3 z1) v (k1 + 1)))), (tf, aI G 10 (sG (obF R (plX a b c3 x) (plX a b c3 y) (plX a b c3 z1) v (k1 + 1)))), (tb, aI G 10 (sO (obF R (plX a b c3 x) (plX a b c3 y) (plX a b c3 z1) v (k1 + 1)))), (ta, aI G 10 (sA (obF R (plX a b c3 x) (plX a b c3 y) (plX a b c3 z1) v (k1 + 1))))] H locs := hw
            refine lv_iload xx xb dX1_standingByOrder_93 (lv_at hl 7 rfl) ?_
            refine lv_bipush (v := nI 10) xx xb dX1_standingByOrder_95 (by decide) ?_
            refine lv_idiv xx xb dX1_standingByOrder_97 (by decide +kernel) ?_
            refine re_i (nI ((ptN k1) / 10)) (pk_div (by omega) (by omega) (by omega)) ?_
            refine re_i (nI (ptN (k1 + 1))) (congrArg nI hor.2.2.1) ?_
            refine lv_istore (lv' := [(7, .int (nI (ptN (k1 + 1)))), (9, .int (nI (obX (plX a b c3 x) (plX a b c3 y) (plX a b c3 z1) k1))), (0, .ref h0), (2, .int (nI a)), (3, .int (nI b)), (4, .int (nI c3)), (5, .int (nI v)), (6, .int (nI (rsN x y z1 (k1 + 1))))]) xx xb dX1_standingByOrder_98 hl (by decide) rfl (fun ls hl => ?_)
            refine lv_goto (tgt := 18) xx xb dX1_standingByOrder_100 (by decide) ?_
            exact ih_18 (k1 + 1) H _ ls (by omega) (by omega) hw (lv_sub hl [2, 3, 4, 5, 6, 7, 0] rfl)
          · skip
            have c_69 := b1_c c_69
            refine lv_aload_n xx xb dX1_standingByOrder_72 rfl (lv_at hl 1 rfl) ?_
            refine m_get C hw 0 rfl fk_X1_16 rfl dX1_standingByOrder_73 ?_
            refine lv_iload xx xb dX1_standingByOrder_76 (lv_at hl 0 rfl) ?_
            refine lv_iload xx xb dX1_standingByOrder_78 (lv_at hl 5 rfl) ?_
            have hM := kX0_pullThing l G to tk tf tb ta (R 0 1) (obF R (plX a b c3 x) (plX a b c3 y) (plX a b c3 z1) v k1) (obX (plX a b c3 x) (plX a b c3 y) (plX a b c3 z1) k1) v hS (by rw [hN]; exact hXx) c_69 (by first | assumption | omega)
            refine cv_i C hw hM yvX0_pullThing ml_X1_90 6 rfl rfl rfl [6, 7, 8, 9, 10] rfl rfl (fun _ => (rfl : ([to, tk, tf, tb, ta] : List Nat) = [to, tk, tf, tb, ta])) (by decide) ⟨Nat.zero_le _, Nat.zero_le _⟩ hl.1 rfl (Nat.le_of_ble_eq_true rfl) dX1_standingByOrder_80 (fun r _ H locs hr hw => ?_)
            have hw : Wd G (fA [(h0, .inr (1, [.ref so, .ref to, .ref uo, .int (nI im), .ref x5, .int (nI lm), .ref x6, .int (nI rm), .ref x7, .ref x8, .int sd])), (so, .inr (0, [.int (nI (sN R)), .int (nI (R 0 1)), .int (nI (sF R)), .int (nI (sS R)), .int (nI (sL R)), .ref ak, .ref af, .ref ab, .ref aa])), (ak, aI G 10 (sK R)), (af, aI G 10 (sG R)), (ab, aI G 10 (sO R)), (aa, aI G 10 (sA R)), (to, .inr (0, [.int (nI (sN S)), .int (nI m0), .int (nI (sF S)), .int (nI (sS S)), .int (nI (sL S)), .ref tk, .ref tf, .ref tb, .ref ta])), (tk, aI G 10 (sK S)), (tf, aI G 10 (sG S)), (tb, aI G 10 (sO S)), (ta, aI G 10 (sA S))]) s [(h0, .inr (1, [.ref so, .ref to, .ref uo, .int (nI im), .ref x5, .int (nI lm), .ref x6, .int (nI rm), .ref x7, .ref x8, .int sd])), (so, .inr (0, [.int (nI (sN R)), .int (nI (R 0 1)), .int (nI (sF R)), .int (nI (sS R)), .int (nI (sL R)), .ref ak, .ref af, .ref ab, .ref aa])), (ak, aI G 10 (sK R)), (af, aI G 10 (sG R)), (ab, aI G 10 (sO R)), (aa, aI G 10 (sA R)), (to, .inr (0, [.int (nI (sN (pulF (obF R (plX a b c3 x) (plX a b c3 y) (plX a b c3 z1) v k1) (obX (plX a b c3 x) (plX a b c3 y) (plX a b c3 z1) k1) v))), .int (nI (R 0 1)), .int (nI (sF (pulF (obF R (plX a b c3 x) (plX a b c3 y) (plX a b c3 z1) v k1) (obX (plX a b c3 x) (plX a b c3 y) (plX a b c3 z1) k1) v))), .int (nI (sS (pulF (obF R (plX a b c3 x) (plX a b c3 y) (plX a b c3 z1) v k1) (obX (plX a b c3 x) (plX a b c3 y) (plX a b c3 z1) k1) v))), .int (nI (sL (pulF (obF R (plX a b c3 x) (plX a b c3 y) (plX a b c3 z1) v k1) (obX (plX a b c3 x) (plX a b c3 y) (plX a b c3 z1) k1) v))), .ref tk, .ref tf, .ref tb, .ref ta])), (tk, aI G 10 (sK (pulF (obF R (plX a b c3 x) (plX a b c3 y) (plX a b c3 z1) v k1) (obX (plX a b c3 x) (plX a b c3 y) (plX a b c3 z1) k1) v))), (tf, aI G 10 (sG (pulF (obF R (plX a b c3 x) (plX a b c3 y) (plX a b c3 z1) v k1) (obX (plX a b c3 x) (plX a b c3 y) (plX a b c3 z1) k1) v))), (tb, aI G 10 (sO (pulF (obF R (plX a b c3 x) (plX a b c3 y) (plX a b c3 z1) v k1) (obX (plX a b c3 x) (plX a b c3 y) (plX a b c3 z1) k1) v))), (ta, aI G 10 (sA (pulF (obF R (plX a b c3 x) (plX a b c3 y) (plX a b c3 z1) v k1) (obX (plX a b c3 x) (plX a b c3 y) (plX a b c3 z1) k1) v)))] H locs := hw
            subst hr
            refine lv_pop xx xb dX1_standingByOrder_83 rfl ?_
            have hw : Wd G (fA [(h0, .inr (1, [.ref so, .ref to, .ref uo, .int (nI im), .ref x5, .int (nI lm), .ref x6, .int (nI rm), .ref x7, .ref x8, .int sd])), (so, .inr (0, [.int (nI (sN R)), .int (nI (R 0 1)), .int (nI (sF R)), .int (nI (sS R)), .int (nI (sL R)), .ref ak, .ref af, .ref ab, .ref aa])), (ak, aI G 10 (sK R)), (af, aI G 10 (sG R)), (ab, aI G 10 (sO R)), (aa, aI G 10 (sA R)), (to, .inr (0, [.int (nI (sN S)), .int (nI m0), .int (nI (sF S)), .int (nI (sS S)), .int (nI (sL S)), .ref tk, .ref tf, .ref tb, .ref ta])), (tk, aI G 10 (sK S)), (tf, aI G 10 (sG S)), (tb, aI G 10 (sO S)), (ta, aI G 10 (sA S))]) s [(h0, .inr (1, [.ref so, .ref to, .ref uo, .int (nI im), .ref x5, .int (nI lm), .ref x6, .int (nI rm), .ref x7, .ref x8, .int sd])), (so, .inr (0, [.int (nI (sN R)), .int (nI (R 0 1)), .int (nI (sF R)), .int (nI (sS R)), .int (nI (sL R)), .ref ak, .ref af, .ref ab, .ref aa])), (ak, aI G 10 (sK R)), (af, aI G 10 (sG R)), (ab, aI G 10 (sO R)), (aa, aI G 10 (sA R)), (to, .inr (0, [.int (nI (sN (obP (obF R (plX a b c3 x) (plX a b c3 y) (plX a b c3 z1) v k1) (obX (plX a b c3 x) (plX a b c3 y) (plX a b c3 z1) k1) v))), .int (nI (R 0 1)), .int (nI (sF (obP (obF R (plX a b c3 x) (plX a b c3 y) (plX a b c3 z1) v k1) (obX (plX a b c3 x) (plX a b c3 y) (plX a b c3 z1) k1) v))), .int (nI (sS (obP (obF R (plX a b c3 x) (plX a b c3 y) (plX a b c3 z1) v k1) (obX (plX a b c3 x) (plX a b c3 y) (plX a b c3 z1) k1) v))), .int (nI (sL (obP (obF R (plX a b c3 x) (plX a b c3 y) (plX a b c3 z1) v k1) (obX (plX a b c3 x) (plX a b c3 y) (plX a b c3 z1) k1) v))), .ref tk, .ref tf, .ref tb, .ref ta])), (tk, aI G 10 (sK (obP (obF R (plX a b c3 x) (plX a b c3 y) (plX a b c3 z1) v k1) (obX (plX a b c3 x) (plX a b c3 y) (plX a b c3 z1) k1) v))), (tf, aI G 10 (sG (obP (obF R (plX a b c3 x) (plX a b c3 y) (plX a b c3 z1) v k1) (obX (plX a b c3 x) (plX a b c3 y) (plX a b c3 z1) k1) v))), (tb, aI G 10 (sO (obP (obF R (plX a b c3 x) (plX a b c3 y) (plX a b c3 z1) v k1) (obX (plX a b c3 x) (plX a b c3 y) (plX a b c3 z1) k1) v))), (ta, aI G 10 (sA (obP (obF R (plX a b c3 x) (plX a b c3 y) (plX a b c3 z1) v k1) (obX (plX a b c3 x) (plX a b c3 y) (plX a b c3 z1) k1) v)))] H locs := by unfold obP; first | (rw [if_pos (And.intro (by omega) c_69)]; exact hw) | (rw [if_neg (fun q => c_69 q.2)]; exact hw)
            refine lv_aload_n xx xb dX1_standingByOrder_84 rfl (lv_at hl 1 rfl) ?_
            refine m_get C hw 0 rfl fk_X1_16 rfl dX1_standingByOrder_85 ?_
            refine lv_iconst (v := nI 0) xx xb dX1_standingByOrder_88 (by decide) ?_
            have hM := kX0_passMinute l G to tk tf tb ta (R 0 1) (obP (obF R (plX a b c3 x) (plX a b c3 y) (plX a b c3 z1) v k1) (obX (plX a b c3 x) (plX a b c3 y) (plX a b c3 z1) k1) v) 0 (OK_obP hS (Or.inr (by rw [hN]; exact hXx)) v) (AK_obP hT _ v) (obP03 hSp _ _) (by first | assumption | omega)
            refine cv_i C hw hM yvX0_passMinute ml_X1_296 6 rfl rfl rfl [6, 7, 8, 9, 10] rfl rfl (fun _ => (rfl : ([to, tk, tf, tb, ta] : List Nat) = [to, tk, tf, tb, ta])) (by decide) ⟨Nat.zero_le _, Nat.zero_le _⟩ hl.1 rfl (Nat.le_of_ble_eq_true rfl) dX1_standingByOrder_89 (fun r _ H locs hr hw => ?_)
            have hw : Wd G (fA [(h0, .inr (1, [.ref so, .ref to, .ref uo, .int (nI im), .ref x5, .int (nI lm), .ref x6, .int (nI rm), .ref x7, .ref x8, .int sd])), (so, .inr (0, [.int (nI (sN R)), .int (nI (R 0 1)), .int (nI (sF R)), .int (nI (sS R)), .int (nI (sL R)), .ref ak, .ref af, .ref ab, .ref aa])), (ak, aI G 10 (sK R)), (af, aI G 10 (sG R)), (ab, aI G 10 (sO R)), (aa, aI G 10 (sA R)), (to, .inr (0, [.int (nI (sN S)), .int (nI m0), .int (nI (sF S)), .int (nI (sS S)), .int (nI (sL S)), .ref tk, .ref tf, .ref tb, .ref ta])), (tk, aI G 10 (sK S)), (tf, aI G 10 (sG S)), (tb, aI G 10 (sO S)), (ta, aI G 10 (sA S))]) s [(h0, .inr (1, [.ref so, .ref to, .ref uo, .int (nI im), .ref x5, .int (nI lm), .ref x6, .int (nI rm), .ref x7, .ref x8, .int sd])), (so, .inr (0, [.int (nI (sN R)), .int (nI (R 0 1)), .int (nI (sF R)), .int (nI (sS R)), .int (nI (sL R)), .ref ak, .ref af, .ref ab, .ref aa])), (ak, aI G 10 (sK R)), (af, aI G 10 (sG R)), (ab, aI G 10 (sO R)), (aa, aI G 10 (sA R)), (to, .inr (0, [.int (nI (sN (miF (obP (obF R (plX a b c3 x) (plX a b c3 y) (plX a b c3 z1) v k1) (obX (plX a b c3 x) (plX a b c3 y) (plX a b c3 z1) k1) v) 0))), .int (nI (R 0 1)), .int (nI (sF (miF (obP (obF R (plX a b c3 x) (plX a b c3 y) (plX a b c3 z1) v k1) (obX (plX a b c3 x) (plX a b c3 y) (plX a b c3 z1) k1) v) 0))), .int (nI (sS (miF (obP (obF R (plX a b c3 x) (plX a b c3 y) (plX a b c3 z1) v k1) (obX (plX a b c3 x) (plX a b c3 y) (plX a b c3 z1) k1) v) 0))), .int (nI (sL (miF (obP (obF R (plX a b c3 x) (plX a b c3 y) (plX a b c3 z1) v k1) (obX (plX a b c3 x) (plX a b c3 y) (plX a b c3 z1) k1) v) 0))), .ref tk, .ref tf, .ref tb, .ref ta])), (tk, aI G 10 (sK (miF (obP (obF R (plX a b c3 x) (plX a b c3 y) (plX a b c3 z1) v k1) (obX (plX a b c3 x) (plX a b c3 y) (plX a b c3 z1) k1) v) 0))), (tf, aI G 10 (sG (miF (obP (obF R (plX a b c3 x) (plX a b c3 y) (plX a b c3 z1) v k1) (obX (plX a b c3 x) (plX a b c3 y) (plX a b c3 z1) k1) v) 0))), (tb, aI G 10 (sO (miF (obP (obF R (plX a b c3 x) (plX a b c3 y) (plX a b c3 z1) v k1) (obX (plX a b c3 x) (plX a b c3 y) (plX a b c3 z1) k1) v) 0))), (ta, aI G 10 (sA (miF (obP (obF R (plX a b c3 x) (plX a b c3 y) (plX a b c3 z1) v k1) (obX (plX a b c3 x) (plX a b c3 y) (plX a b c3 z1) k1) v) 0)))] H locs := hw
            subst hr
            refine lv_pop xx xb dX1_standingByOrder_92 rfl ?_
            have hw : Wd G (fA [(h0, .inr (1, [.ref so, .ref to, .ref uo, .int (nI im), .ref x5, .int (nI lm), .ref x6, .int (nI rm), .ref x7, .ref x8, .int sd])), (so, .inr (0, [.int (nI (sN R)), .int (nI (R 0 1)), .int (nI (sF R)), .int (nI (sS R)), .int (nI (sL R)), .ref ak, .ref af, .ref ab, .ref aa])), (ak, aI G 10 (sK R)), (af, aI G 10 (sG R)), (ab, aI G 10 (sO R)), (aa, aI G 10 (sA R)), (to, .inr (0, [.int (nI (sN S)), .int (nI m0), .int (nI (sF S)), .int (nI (sS S)), .int (nI (sL S)), .ref tk, .ref tf, .ref tb, .ref ta])), (tk, aI G 10 (sK S)), (tf, aI G 10 (sG S)), (tb, aI G 10 (sO S)), (ta, aI G 10 (sA S))]) s [(h0, .inr (1, [.ref so, .ref to, .ref uo, .int (nI im), .ref x5, .int (nI lm), .ref x6, .int (nI rm), .ref x7, .ref x8, .int sd])), (so, .inr (0, [.int (nI (sN R)), .int (nI (R 0 1)), .int (nI (sF R)), .int (nI (sS R)), .int (nI (sL R)), .ref ak, .ref af, .ref ab, .ref aa])), (ak, aI G 10 (sK R)), (af, aI G 10 (sG R)), (ab, aI G 10 (sO R)), (aa, aI G 10 (sA R)), (to, .inr (0, [.int (nI (sN (obF R (plX a b c3 x) (plX a b c3 y) (plX a b c3 z1) v (k1 + 1)))), .int (nI (R 0 1)), .int (nI (sF (obF R (plX a b c3 x) (plX a b c3 y) (plX a b c3 z1) v (k1 + 1)))), .int (nI (sS (obF R (plX a b c3 x) (plX a b c3 y) (plX a b c3 z1) v (k1 + 1)))), .int (nI (sL (obF R (plX a b c3 x) (plX a b c3 y) (plX a b c3 z1) v (k1 + 1)))), .ref tk, .ref tf, .ref tb, .ref ta])), (tk, aI G 10 (sK (obF R (plX a b c3 x) (plX a b c3 y) (plX a b c3 z1) v (k1 + 1)))), (tf, aI G 10 (sG (obF R (plX a b c3 x) (plX a b c3 y) (plX a b c3 z1) v (k1 + 1)))), (tb, aI G 10 (sO (obF R (plX a b c3 x) (plX a b c3 y) (plX a b c3 z1) v (k1 + 1)))), (ta, aI G 10 (sA (obF R (plX a b c3 x) (plX a b c3 y) (plX a b c3 z1) v (k1 + 1))))] H locs := hw
            refine lv_iload xx xb dX1_standingByOrder_93 (lv_at hl 7 rfl) ?_
            refine lv_bipush (v := nI 10) xx xb dX1_standingByOrder_95 (by decide) ?_
            refine lv_idiv xx xb dX1_standingByOrder_97 (by decide +kernel) ?_
            refine re_i (nI ((ptN k1) / 10)) (pk_div (by omega) (by omega) (by omega)) ?_
            refine re_i (nI (ptN (k1 + 1))) (congrArg nI hor.2.2.1) ?_
            refine lv_istore (lv' := [(7, .int (nI (ptN (k1 + 1)))), (9, .int (nI (obX (plX a b c3 x) (plX a b c3 y) (plX a b c3 z1) k1))), (0, .ref h0), (2, .int (nI a)), (3, .int (nI b)), (4, .int (nI c3)), (5, .int (nI v)), (6, .int (nI (rsN x y z1 (k1 + 1))))]) xx xb dX1_standingByOrder_98 hl (by decide) rfl (fun ls hl => ?_)
            refine lv_goto (tgt := 18) xx xb dX1_standingByOrder_100 (by decide) ?_
            exact ih_18 (k1 + 1) H _ ls (by omega) (by omega) hw (lv_sub hl [2, 3, 4, 5, 6, 7, 0] rfl)
        refine lv_iload xx xb dX1_standingByOrder_23 (lv_at hl 5 rfl) ?_
        refine lv_iload xx xb dX1_standingByOrder_25 (lv_at hl 6 rfl) ?_
        refine lv_idiv xx xb dX1_standingByOrder_27 (nI_ne0 (by omega) (by omega)) ?_
        refine re_i (nI ((rsN x y z1 k1) / (ptN k1))) (pk_div (by omega) (by omega) (by omega)) ?_
        refine re_i (nI (dgN x y z1 k1)) (congrArg nI hor.1) ?_
        refine lv_istore (lv' := [(8, .int (nI (dgN x y z1 k1))), (0, .ref h0), (2, .int (nI a)), (3, .int (nI b)), (4, .int (nI c3)), (5, .int (nI v)), (6, .int (nI (rsN x y z1 k1))), (7, .int (nI (ptN k1)))]) xx xb dX1_standingByOrder_28 hl (by decide) rfl (fun ls hl => ?_)
        refine lv_iload xx xb dX1_standingByOrder_30 (lv_at hl 6 rfl) ?_
        refine lv_iload xx xb dX1_standingByOrder_32 (lv_at hl 7 rfl) ?_
        refine lv_irem xx xb dX1_standingByOrder_34 (nI_ne0 (by omega) (by omega)) ?_
        refine re_i (nI ((rsN x y z1 k1) % (ptN k1))) (pk_rem (by omega) (by omega) (by omega)) ?_
        refine re_i (nI (rsN x y z1 (k1 + 1))) (congrArg nI hor.2.1) ?_
        refine lv_istore (lv' := [(6, .int (nI (rsN x y z1 (k1 + 1)))), (8, .int (nI (dgN x y z1 k1))), (0, .ref h0), (2, .int (nI a)), (3, .int (nI b)), (4, .int (nI c3)), (5, .int (nI v)), (7, .int (nI (ptN k1)))]) xx xb dX1_standingByOrder_35 hl (by decide) rfl (fun ls hl => ?_)
        have hdg : dgN x y z1 k1 < 3 := by unfold dgN; (repeat' split) <;> assumption
        refine lv_iload xx xb dX1_standingByOrder_37 (lv_at hl 1 rfl) ?_
        refine lv_if_ne (tgt := 46) xx xb dX1_standingByOrder_39 (by decide) (fun c_39 => ?_) (fun c_39 => ?_)
        · skip
          have c_39 := ne_c (tN (by omega)) Int32.toInt_zero c_39
          refine lv_iload xx xb dX1_standingByOrder_46 (lv_at hl 1 rfl) ?_
          refine lv_iconst (v := nI 1) xx xb dX1_standingByOrder_48 (by decide) ?_
          refine lv_icmp_ne (tgt := 56) xx xb dX1_standingByOrder_49 (by decide) (fun c_49 => ?_) (fun c_49 => ?_)
          · skip
            have c_49 := ne_c (tN (by omega)) (tN (by omega)) c_49
            refine lv_iload xx xb dX1_standingByOrder_56 (lv_at hl 5 rfl) ?_
            refine re_i (nI (obX (plX a b c3 x) (plX a b c3 y) (plX a b c3 z1) k1)) (congrArg nI (by rw [ox_e (by omega)]; unfold plX; first | (rw [if_pos (by omega)]; done) | (rw [if_neg (by omega), if_pos (by omega)]; done) | (rw [if_neg (by omega), if_neg (by omega)]; done))) ?_
            exact J_58  H _ ls  hw (lv_sub hl [2, 3, 4, 5, 6, 0, 7] rfl)
          · skip
            have c_49 := eq_c (tN (by omega)) (tN (by omega)) c_49
            refine lv_iload_n xx xb dX1_standingByOrder_52 rfl (lv_at hl 4 rfl) ?_
            refine lv_goto (tgt := 58) xx xb dX1_standingByOrder_53 (by decide) ?_
            refine re_i (nI (obX (plX a b c3 x) (plX a b c3 y) (plX a b c3 z1) k1)) (congrArg nI (by rw [ox_e (by omega)]; unfold plX; first | (rw [if_pos (by omega)]; done) | (rw [if_neg (by omega), if_pos (by omega)]; done) | (rw [if_neg (by omega), if_neg (by omega)]; done))) ?_
            exact J_58  H _ ls  hw (lv_sub hl [2, 3, 4, 5, 6, 0, 7] rfl)
        · skip
          have c_39 := eq_c (tN (by omega)) Int32.toInt_zero c_39
          refine lv_iload_n xx xb dX1_standingByOrder_42 rfl (lv_at hl 3 rfl) ?_
          refine lv_goto (tgt := 58) xx xb dX1_standingByOrder_43 (by decide) ?_
          refine re_i (nI (obX (plX a b c3 x) (plX a b c3 y) (plX a b c3 z1) k1)) (congrArg nI (by rw [ox_e (by omega)]; unfold plX; first | (rw [if_pos (by omega)]; done) | (rw [if_neg (by omega), if_pos (by omega)]; done) | (rw [if_neg (by omega), if_neg (by omega)]; done))) ?_
          exact J_58  H _ ls  hw (lv_sub hl [2, 3, 4, 5, 6, 0, 7] rfl)
  exact L_18 (_ + 1) 0 H _ ls (Nat.lt_succ_self _) (by omega) hw (lv_sub hl [2, 4, 5, 6, 7, 1, 0] rfl)
theorem kdZ_n (c : Nat) : kdZ ((c : Nat) : Int) = kd c := by
  unfold kdZ kd
  repeat' split
  all_goals omega
def ltA (lf : Nat → Nat) (n p : Nat) : Nat := if p < n then lf p else 0
theorem ltA_y {lf : Nat → Nat} {n p : Nat} (h : p < n) : ltA lf n p = lf p := if_pos h
theorem ltA_le {lf : Nat → Nat} {n : Nat} (h : LOK lf n) (p : Nat) : ltA lf n p ≤ 255 := by
  unfold ltA
  split
  · exact h _ (by assumption)
  · omega
def dgA (lf : Nat → Nat) (n p : Nat) : Int32 := nI (ltA lf n p) - nI 48
theorem dgA_t {lf : Nat → Nat} {n : Nat} (h : LOK lf n) (p : Nat) : (dgA lf n p).toInt = ((ltA lf n p : Nat) : Int) - 48 := by
  have : ∀ x, x ≤ 255 → (nI x - nI 48).toInt = ((x : Nat) : Int) - 48 := by decide +kernel
  exact this _ (ltA_le h p)
def isd (lf : Nat → Nat) (n p : Nat) : Prop := p < n ∧ 48 ≤ lf p ∧ lf p ≤ 57
theorem isd_of {lf : Nat → Nat} {n p : Nat} (h : fitB 1 (hd lf n p) = true) : isd lf n p := by
  have h : isD (hd lf n p) = true := by simpa [fitB] using h
  have q := hd_lt h
  unfold isD at h
  rw [decide_eq_true_eq, hd_y q] at h
  exact ⟨q, h⟩
theorem dgA_n {lf : Nat → Nat} {n p : Nat} (h : isd lf n p) : dgA lf n p = nI (lf p - 48) := by
  unfold dgA
  rw [ltA_y h.1, pk_sub h.2.1]
theorem kdl_of {lf : Nat → Nat} {n p : Nat} (h : kd (hd lf n p) < 10) : p < n ∧ kd (ltA lf n p) = kd (lf p) ∧ kd (lf p) ≤ 5 := by
  have q : p < n := by
    apply Classical.byContradiction
    intro q
    unfold hd at h; rw [if_neg q] at h; exact absurd h (by decide)
  refine ⟨q, by rw [ltA_y q], ?_⟩
  have := kd_5 h
  rw [hd_y q] at this
  exact this
theorem nm_dg {lf : Nat → Nat} {n p : Nat} (hp : p < n) (h : rdB lf n p) : (lf p = 116 ∨ lf p = 111 → (p + 1 < n ∧ kd (ltA lf n (p + 1)) = kd (lf (p + 1)) ∧ kd (lf (p + 1)) ≤ 5) ∧ isd lf n (p + 2)) ∧ (lf p = 111 → isd lf n (p + 3)) ∧ (lf p = 112 ∨ lf p = 109 → isd lf n (p + 1) ∧ isd lf n (p + 2)) ∧ (lf p = 102 ∨ lf p = 104 → isd lf n (p + 1)) := by
  have e : hd lf n p = lf p := hd_y hp
  have hs := shp_six h.1
  rw [e] at hs
  rcases hs with c | c | c | c | c | c
  · have hsh : shp (hd lf n p) = [0, 1, 2] := by rw [e, c]; rfl
    have a1 := mt_all ((rdB_s hsh).mp h)
    have a2 := mt_all a1.2
    exact ⟨fun _ => ⟨kdl_of (fit0 a1.1), isd_of a2.1⟩, fun q => by omega, fun q => by omega, fun q => by omega⟩
  · have hsh : shp (hd lf n p) = [0, 1, 1, 2] := by rw [e, c]; rfl
    have a1 := mt_all ((rdB_s hsh).mp h)
    have a2 := mt_all a1.2
    have a3 := mt_all a2.2
    exact ⟨fun _ => ⟨kdl_of (fit0 a1.1), isd_of a2.1⟩, fun _ => isd_of a3.1, fun q => by omega, fun q => by omega⟩
  · have hsh : shp (hd lf n p) = [1, 1, 2] := by rw [e, c]; rfl
    have a1 := mt_all ((rdB_s hsh).mp h)
    have a2 := mt_all a1.2
    exact ⟨fun q => by omega, fun q => by omega, fun _ => ⟨isd_of a1.1, isd_of a2.1⟩, fun q => by omega⟩
  · have hsh : shp (hd lf n p) = [1, 2] := by rw [e, c]; rfl
    have a1 := mt_all ((rdB_s hsh).mp h)
    exact ⟨fun q => by omega, fun q => by omega, fun q => by omega, fun _ => isd_of a1.1⟩
  · have hsh : shp (hd lf n p) = [1, 2] := by rw [e, c]; rfl
    have a1 := mt_all ((rdB_s hsh).mp h)
    exact ⟨fun q => by omega, fun q => by omega, fun q => by omega, fun _ => isd_of a1.1⟩
  · have hsh : shp (hd lf n p) = [1, 1, 2] := by rw [e, c]; rfl
    have a1 := mt_all ((rdB_s hsh).mp h)
    have a2 := mt_all a1.2
    exact ⟨fun q => by omega, fun q => by omega, fun _ => ⟨isd_of a1.1, isd_of a2.1⟩, fun q => by omega⟩
theorem z01_i {P Q : Prop} [Decidable P] (h : P ↔ Q) : (if P then (1 : Int32) else 0) = z01 Q := by
  by_cases q : P
  · rw [if_pos q]; exact z1 (h.mp q)
  · rw [if_neg q]; exact z0 (fun z => q (h.mpr z))
theorem selP_s {P Q : Prop} {a a2 b : RT} (h : P ↔ Q) (ha : P → a = a2) : selP P a b = selP Q a2 b := by
  by_cases q : P
  · rw [selP_1 q, selP_1 (h.mp q), ha q]
  · rw [selP_0 q, selP_0 (fun z => q (h.mpr z))]
theorem pul01 {R : RT} (f v : Nat) : pulF R f v 0 1 = R 0 1 := by
  unfold pulF
  rw [if_neg (by omega), if_neg (by omega)]
theorem setU01 {R : RT} (k : Nat) : setU R k 0 1 = R 0 1 := by
  unfold setU
  rw [upR_n (by omega), upR_n (by omega)]
set_option maxRecDepth 100000 in
set_option maxHeartbeats 4000000 in
theorem kX1_kindOf (l : Launch) (G : GT) (ch : Int32) (chz : Int) (h_ch : ch.toInt = chz) : Ct l yX1_kindOf cX1_kindOf 1 (some .int) 0 0 [.int ch] G [] (QI G [] (fun (r : Int32) (u : Unit) => r = onI (kdZ chz)) (fun u => [])) := by
  refine en (by decide +kernel) (Nat.le_of_ble_eq_true rfl) ?_
  intro p e s m below meth c ls H locs C hl hw
  have xx := C.1
  have xb := C.2.1
  have hw : Wd G (fA []) s [] H locs := hw
  have hl : lv_has ls 1 [(0, .int ch)] := hl
  refine lv_iload_n xx xb dX1_kindOf_0 rfl (lv_at hl 0 rfl) ?_
  by_cases k_1_98 : ch = nI 98
  · skip
    refine re_i (nI 98) k_1_98 ?_
    refine lv_lookup (off := 69) (tgt := 70) xx xb dX1_kindOf_1 (by decide +kernel) (by decide +kernel) (by decide) ?_
    have zz : chz = 98 := eq_c h_ch (tN (by decide)) k_1_98
    refine lv_iconst (v := nI 5) xx xb dX1_kindOf_70 (by decide) ?_
    exact rt_i C hw () (by first | (rw [zz]; rfl) | (unfold kdZ; rw [if_neg (by omega), if_neg (by omega), if_neg (by omega), if_neg (by omega), if_neg (by omega), if_neg (by omega)]; rfl)) rfl dX1_kindOf_71
  have zk_1_98 := ne_c h_ch (tN (by decide)) k_1_98
  by_cases k_1_99 : ch = nI 99
  · skip
    refine re_i (nI 99) k_1_99 ?_
    refine lv_lookup (off := 65) (tgt := 66) xx xb dX1_kindOf_1 (by decide +kernel) (by decide +kernel) (by decide) ?_
    have zz : chz = 99 := eq_c h_ch (tN (by decide)) k_1_99
    refine lv_iconst (v := nI 3) xx xb dX1_kindOf_66 (by decide) ?_
    exact rt_i C hw () (by first | (rw [zz]; rfl) | (unfold kdZ; rw [if_neg (by omega), if_neg (by omega), if_neg (by omega), if_neg (by omega), if_neg (by omega), if_neg (by omega)]; rfl)) rfl dX1_kindOf_67
  have zk_1_99 := ne_c h_ch (tN (by decide)) k_1_99
  by_cases k_1_103 : ch = nI 103
  · skip
    refine re_i (nI 103) k_1_103 ?_
    refine lv_lookup (off := 61) (tgt := 62) xx xb dX1_kindOf_1 (by decide +kernel) (by decide +kernel) (by decide) ?_
    have zz : chz = 103 := eq_c h_ch (tN (by decide)) k_1_103
    refine lv_iconst (v := nI 1) xx xb dX1_kindOf_62 (by decide) ?_
    exact rt_i C hw () (by first | (rw [zz]; rfl) | (unfold kdZ; rw [if_neg (by omega), if_neg (by omega), if_neg (by omega), if_neg (by omega), if_neg (by omega), if_neg (by omega)]; rfl)) rfl dX1_kindOf_63
  have zk_1_103 := ne_c h_ch (tN (by decide)) k_1_103
  by_cases k_1_112 : ch = nI 112
  · skip
    refine re_i (nI 112) k_1_112 ?_
    refine lv_lookup (off := 63) (tgt := 64) xx xb dX1_kindOf_1 (by decide +kernel) (by decide +kernel) (by decide) ?_
    have zz : chz = 112 := eq_c h_ch (tN (by decide)) k_1_112
    refine lv_iconst (v := nI 2) xx xb dX1_kindOf_64 (by decide) ?_
    exact rt_i C hw () (by first | (rw [zz]; rfl) | (unfold kdZ; rw [if_neg (by omega), if_neg (by omega), if_neg (by omega), if_neg (by omega), if_neg (by omega), if_neg (by omega)]; rfl)) rfl dX1_kindOf_65
  have zk_1_112 := ne_c h_ch (tN (by decide)) k_1_112
  by_cases k_1_116 : ch = nI 116
  · skip
    refine re_i (nI 116) k_1_116 ?_
    refine lv_lookup (off := 59) (tgt := 60) xx xb dX1_kindOf_1 (by decide +kernel) (by decide +kernel) (by decide) ?_
    have zz : chz = 116 := eq_c h_ch (tN (by decide)) k_1_116
    refine lv_iconst (v := nI 0) xx xb dX1_kindOf_60 (by decide) ?_
    exact rt_i C hw () (by first | (rw [zz]; rfl) | (unfold kdZ; rw [if_neg (by omega), if_neg (by omega), if_neg (by omega), if_neg (by omega), if_neg (by omega), if_neg (by omega)]; rfl)) rfl dX1_kindOf_61
  have zk_1_116 := ne_c h_ch (tN (by decide)) k_1_116
  by_cases k_1_119 : ch = nI 119
  · skip
    refine re_i (nI 119) k_1_119 ?_
    refine lv_lookup (off := 67) (tgt := 68) xx xb dX1_kindOf_1 (by decide +kernel) (by decide +kernel) (by decide) ?_
    have zz : chz = 119 := eq_c h_ch (tN (by decide)) k_1_119
    refine lv_iconst (v := nI 4) xx xb dX1_kindOf_68 (by decide) ?_
    exact rt_i C hw () (by first | (rw [zz]; rfl) | (unfold kdZ; rw [if_neg (by omega), if_neg (by omega), if_neg (by omega), if_neg (by omega), if_neg (by omega), if_neg (by omega)]; rfl)) rfl dX1_kindOf_69
  have zk_1_119 := ne_c h_ch (tN (by decide)) k_1_119
  · skip
    refine lv_lookup (off := 71) (tgt := 72) xx xb dX1_kindOf_1 (by decide +kernel) (by show Op.lookupswitch.offset [(98, 69), (99, 65), (103, 61), (112, 63), (116, 59), (119, 67)] 71 (ch).toInt = 71; rw [lv_osw (k := nI 98) k_1_98 (by decide +kernel), lv_osw (k := nI 99) k_1_99 (by decide +kernel), lv_osw (k := nI 103) k_1_103 (by decide +kernel), lv_osw (k := nI 112) k_1_112 (by decide +kernel), lv_osw (k := nI 116) k_1_116 (by decide +kernel), lv_osw (k := nI 119) k_1_119 (by decide +kernel)]; rfl) (by decide) ?_
    refine lv_bipush (v := (-9)) xx xb dX1_kindOf_72 (by decide) ?_
    exact rt_i C hw () (by first | (rw [zz]; rfl) | (unfold kdZ; rw [if_neg (by omega), if_neg (by omega), if_neg (by omega), if_neg (by omega), if_neg (by omega), if_neg (by omega)]; rfl)) rfl dX1_kindOf_74
set_option maxRecDepth 100000 in
set_option maxHeartbeats 4000000 in
theorem kX1_letterAt (l : Launch) (G : GT) (h0 : Nat) (so : Nat) (to : Nat) (uo : Nat) (x5 : Nat) (x6 : Nat) (x7 : Nat) (x8 : Nat) (im : Nat) (lm : Nat) (rm : Nat) (sd : Int32) (lf2 : Nat → Nat) (p0 : Nat) (hp0 : p0 < 200) (hlm : lm ≤ 96) : Ct l yX1_letterAt cX1_letterAt 2 (some .int) 0 0 [.ref h0, .int (nI p0)] G [(h0, .inr (1, [.ref so, .ref to, .ref uo, .int (nI im), .ref x5, .int (nI lm), .ref x6, .int (nI rm), .ref x7, .ref x8, .int sd])), (x5, aI G 96 (cN lf2))] (QI G [(h0, .inr (1, [.ref so, .ref to, .ref uo, .int (nI im), .ref x5, .int (nI lm), .ref x6, .int (nI rm), .ref x7, .ref x8, .int sd])), (x5, aI G 96 (cN lf2))] (fun (r : Int32) (u : Unit) => r = nI (ltA lf2 lm p0)) (fun u => [(h0, .inr (1, [.ref so, .ref to, .ref uo, .int (nI im), .ref x5, .int (nI lm), .ref x6, .int (nI rm), .ref x7, .ref x8, .int sd])), (x5, aI G 96 (cN lf2))])) := by
  refine en (by decide +kernel) (Nat.le_of_ble_eq_true rfl) ?_
  intro p e s m below meth c ls H locs C hl hw
  have xx := C.1
  have xb := C.2.1
  have hw : Wd G (fA [(h0, .inr (1, [.ref so, .ref to, .ref uo, .int (nI im), .ref x5, .int (nI lm), .ref x6, .int (nI rm), .ref x7, .ref x8, .int sd])), (x5, aI G 96 (cN lf2))]) s [(h0, .inr (1, [.ref so, .ref to, .ref uo, .int (nI im), .ref x5, .int (nI lm), .ref x6, .int (nI rm), .ref x7, .ref x8, .int sd])), (x5, aI G 96 (cN lf2))] H locs := hw
  have hl : lv_has ls 2 [(0, .ref h0), (1, .int (nI p0))] := hl
  refine lv_iload_n xx xb dX1_letterAt_0 rfl (lv_at hl 1 rfl) ?_
  refine lv_if_lt (tgt := 21) xx xb dX1_letterAt_1 (by decide) (fun c_1 => ?_) (fun c_1 => ?_)
  · skip
    have c_1 := lt_c (tN (by omega)) Int32.toInt_zero c_1
    exact absurd c_1 (by omega)
  · skip
    have c_1 := nlt_c (tN (by omega)) Int32.toInt_zero c_1
    refine lv_iload_n xx xb dX1_letterAt_4 rfl (lv_at hl 1 rfl) ?_
    refine lv_aload_n xx xb dX1_letterAt_5 rfl (lv_at hl 0 rfl) ?_
    refine m_get C hw 0 rfl fk_X1_39 rfl dX1_letterAt_6 ?_
    refine lv_icmp_ge (tgt := 21) xx xb dX1_letterAt_9 (by decide) (fun c_9 => ?_) (fun c_9 => ?_)
    · skip
      have c_9 := le_c (tN (by omega)) (tN (by omega)) c_9
      refine lv_iconst (v := nI 0) xx xb dX1_letterAt_21 (by decide) ?_
      exact rt_i C hw () (by unfold ltA; first | (rw [if_pos (by omega)]; done) | (rw [if_neg (by omega)]; done)) rfl dX1_letterAt_22
    · skip
      have c_9 := nle_c (tN (by omega)) (tN (by omega)) c_9
      refine lv_aload_n xx xb dX1_letterAt_12 rfl (lv_at hl 0 rfl) ?_
      refine m_get C hw 0 rfl fk_X1_22 rfl dX1_letterAt_13 ?_
      refine lv_iload_n xx xb dX1_letterAt_16 rfl (lv_at hl 1 rfl) ?_
      refine m_ald C hw 1 rfl p0 rfl (by omega) (by decide) dX1_letterAt_17 ?_
      refine re_i (nI (lf2 p0)) rfl ?_
      refine lv_goto (tgt := 22) xx xb dX1_letterAt_18 (by decide) ?_
      exact rt_i C hw () (by unfold ltA; first | (rw [if_pos (by omega)]; done) | (rw [if_neg (by omega)]; done)) rfl dX1_letterAt_22
set_option maxRecDepth 100000 in
set_option maxHeartbeats 4000000 in
theorem kX1_digitAt (l : Launch) (G : GT) (h0 : Nat) (so : Nat) (to : Nat) (uo : Nat) (x5 : Nat) (x6 : Nat) (x7 : Nat) (x8 : Nat) (im : Nat) (lm : Nat) (rm : Nat) (sd : Int32) (lf2 : Nat → Nat) (p0 : Nat) (hp0 : p0 < 200) (hlm : lm ≤ 96) (hLF : LOK lf2 lm) : Ct l yX1_digitAt cX1_digitAt 2 (some .int) 1 21 [.ref h0, .int (nI p0)] G [(h0, .inr (1, [.ref so, .ref to, .ref uo, .int (nI im), .ref x5, .int (nI lm), .ref x6, .int (nI rm), .ref x7, .ref x8, .int sd])), (x5, aI G 96 (cN lf2))] (QI G [(h0, .inr (1, [.ref so, .ref to, .ref uo, .int (nI im), .ref x5, .int (nI lm), .ref x6, .int (nI rm), .ref x7, .ref x8, .int sd])), (x5, aI G 96 (cN lf2))] (fun (r : Int32) (u : Unit) => r = dgA lf2 lm p0) (fun u => [(h0, .inr (1, [.ref so, .ref to, .ref uo, .int (nI im), .ref x5, .int (nI lm), .ref x6, .int (nI rm), .ref x7, .ref x8, .int sd])), (x5, aI G 96 (cN lf2))])) := by
  refine en (by decide +kernel) (Nat.le_of_ble_eq_true rfl) ?_
  intro p e s m below meth c ls H locs C hl hw
  have xx := C.1
  have xb := C.2.1
  have hw : Wd G (fA [(h0, .inr (1, [.ref so, .ref to, .ref uo, .int (nI im), .ref x5, .int (nI lm), .ref x6, .int (nI rm), .ref x7, .ref x8, .int sd])), (x5, aI G 96 (cN lf2))]) s [(h0, .inr (1, [.ref so, .ref to, .ref uo, .int (nI im), .ref x5, .int (nI lm), .ref x6, .int (nI rm), .ref x7, .ref x8, .int sd])), (x5, aI G 96 (cN lf2))] H locs := hw
  have hl : lv_has ls 2 [(0, .ref h0), (1, .int (nI p0))] := hl
  refine lv_aload_n xx xb dX1_digitAt_0 rfl (lv_at hl 0 rfl) ?_
  refine lv_iload_n xx xb dX1_digitAt_1 rfl (lv_at hl 1 rfl) ?_
  have hM := kX1_letterAt l G h0 so to uo x5 x6 x7 x8 im lm rm sd lf2 p0 (by first | assumption | omega) (by first | assumption | omega)
  refine cv_i C hw hM yvX1_letterAt ml_X1_274 0 rfl rfl rfl [0, 1] rfl rfl (fun _ => (rfl : ([h0, x5] : List Nat) = [h0, x5])) (by decide) ⟨Nat.zero_le _, Nat.zero_le _⟩ hl.1 rfl (Nat.le_of_ble_eq_true rfl) dX1_digitAt_2 (fun r _ H locs hr hw => ?_)
  have hw : Wd G (fA [(h0, .inr (1, [.ref so, .ref to, .ref uo, .int (nI im), .ref x5, .int (nI lm), .ref x6, .int (nI rm), .ref x7, .ref x8, .int sd])), (x5, aI G 96 (cN lf2))]) s [(h0, .inr (1, [.ref so, .ref to, .ref uo, .int (nI im), .ref x5, .int (nI lm), .ref x6, .int (nI rm), .ref x7, .ref x8, .int sd])), (x5, aI G 96 (cN lf2))] H locs := hw
  subst hr
  refine lv_bipush (v := nI 48) xx xb dX1_digitAt_5 (by decide) ?_
  refine lv_isub xx xb dX1_digitAt_7 ?_
  exact rt_i C hw () rfl rfl dX1_digitAt_8
def wch (w : Nat) : Nat := if w = 0 then 107 else if w = 1 then 100 else 59
set_option maxRecDepth 100000 in
set_option maxHeartbeats 4000000 in
theorem kX1_fits (l : Launch) (G : GT) (ch : Nat) (w : Nat) (hw2 : w ≤ 2) (hch : ch ≤ 255) : Ct l yX1_fits cX1_fits 2 (some .boolean) 1 20 [.int (nI ch), .int (nI (wch w))] G [] (QI G [] (fun (r : Int32) (u : Unit) => r = if fitB w ch = true then 1 else 0) (fun u => [])) := by
  refine en (by decide +kernel) (Nat.le_of_ble_eq_true rfl) ?_
  intro p e s m below meth c ls H locs C hl hw
  have xx := C.1
  have xb := C.2.1
  have hw : Wd G (fA []) s [] H locs := hw
  have hl : lv_has ls 2 [(0, .int (nI ch)), (1, .int (nI (wch w)))] := hl
  have hwc : (w = 0 ∧ wch w = 107) ∨ (w = 1 ∧ wch w = 100) ∨ (w = 2 ∧ wch w = 59) := by unfold wch; (repeat' split) <;> omega
  have hkl := kdZ_le ((ch : Nat) : Int)
  have hkn := kdZ_n ch
  refine lv_iload_n xx xb dX1_fits_0 rfl (lv_at hl 1 rfl) ?_
  by_cases k_1_100 : (wch w) = 100
  · skip
    refine re_i (nI 100) (by rw [k_1_100]) ?_
    refine lv_lookup (off := 42) (tgt := 43) xx xb dX1_fits_1 (by decide +kernel) (by decide +kernel) (by decide) ?_
    refine lv_iload_n xx xb dX1_fits_43 rfl (lv_at hl 0 rfl) ?_
    refine lv_bipush (v := nI 48) xx xb dX1_fits_44 (by decide) ?_
    refine lv_icmp_lt (tgt := 59) xx xb dX1_fits_46 (by decide) (fun c_46 => ?_) (fun c_46 => ?_)
    · skip
      have c_46 := lt_c (tN (by omega)) (tN (by omega)) c_46
      refine lv_iconst (v := nI 0) xx xb dX1_fits_59 (by decide) ?_
      exact rt_z C hw () (Or.inl rfl) (by (have e : w = 0 ∨ w = 1 ∨ w = 2 := (by omega)); rcases e with e | e | e <;> subst e <;> first | exact r1 (by simp [fitB, isD]; omega) | exact r0 (by simp [fitB, isD]; omega)) rfl dX1_fits_60
    · skip
      have c_46 := nlt_c (tN (by omega)) (tN (by omega)) c_46
      refine lv_iload_n xx xb dX1_fits_49 rfl (lv_at hl 0 rfl) ?_
      refine lv_bipush (v := nI 57) xx xb dX1_fits_50 (by decide) ?_
      refine lv_icmp_gt (tgt := 59) xx xb dX1_fits_52 (by decide) (fun c_52 => ?_) (fun c_52 => ?_)
      · skip
        have c_52 := lt_c (tN (by omega)) (tN (by omega)) c_52
        refine lv_iconst (v := nI 0) xx xb dX1_fits_59 (by decide) ?_
        exact rt_z C hw () (Or.inl rfl) (by (have e : w = 0 ∨ w = 1 ∨ w = 2 := (by omega)); rcases e with e | e | e <;> subst e <;> first | exact r1 (by simp [fitB, isD]; omega) | exact r0 (by simp [fitB, isD]; omega)) rfl dX1_fits_60
      · skip
        have c_52 := nlt_c (tN (by omega)) (tN (by omega)) c_52
        refine lv_iconst (v := nI 1) xx xb dX1_fits_55 (by decide) ?_
        refine lv_goto (tgt := 60) xx xb dX1_fits_56 (by decide) ?_
        exact rt_z C hw () (Or.inr rfl) (by (have e : w = 0 ∨ w = 1 ∨ w = 2 := (by omega)); rcases e with e | e | e <;> subst e <;> first | exact r1 (by simp [fitB, isD]; omega) | exact r0 (by simp [fitB, isD]; omega)) rfl dX1_fits_60
  by_cases k_1_107 : (wch w) = 107
  · skip
    refine re_i (nI 107) (by rw [k_1_107]) ?_
    refine lv_lookup (off := 27) (tgt := 28) xx xb dX1_fits_1 (by decide +kernel) (by decide +kernel) (by decide) ?_
    refine lv_iload_n xx xb dX1_fits_28 rfl (lv_at hl 0 rfl) ?_
    have hM := kX1_kindOf l G (nI ch) ((ch : Nat) : Int) (tN (by omega))
    refine cs_i C hw hM ysX1_kindOf ml_X1_271 rfl [] rfl rfl (fun _ => (rfl : ([] : List Nat) = [])) (by decide) ⟨Nat.zero_le _, Nat.zero_le _⟩ hl.1 rfl (Nat.le_of_ble_eq_true rfl) dX1_fits_29 (fun r _ H locs hr hw => ?_)
    have hw : Wd G (fA []) s [] H locs := hw
    subst hr
    refine lv_bipush (v := (-9)) xx xb dX1_fits_32 (by decide) ?_
    refine lv_icmp_eq (tgt := 41) xx xb dX1_fits_34 (by decide) (fun c_34 => ?_) (fun c_34 => ?_)
    · skip
      have c_34 := (onI_inj (f := 10) (by omega) (by omega)).mp c_34
      refine lv_iconst (v := nI 0) xx xb dX1_fits_41 (by decide) ?_
      exact rt_z C hw () (Or.inl rfl) (by (have e : w = 0 ∨ w = 1 ∨ w = 2 := (by omega)); rcases e with e | e | e <;> subst e <;> first | exact r1 (by simp [fitB, isD]; omega) | exact r0 (by simp [fitB, isD]; omega)) rfl dX1_fits_42
    · skip
      have c_34 := (mt (onI_inj (f := 10) (by omega) (by omega)).mpr c_34)
      refine lv_iconst (v := nI 1) xx xb dX1_fits_37 (by decide) ?_
      refine lv_goto (tgt := 42) xx xb dX1_fits_38 (by decide) ?_
      exact rt_z C hw () (Or.inr rfl) (by (have e : w = 0 ∨ w = 1 ∨ w = 2 := (by omega)); rcases e with e | e | e <;> subst e <;> first | exact r1 (by simp [fitB, isD]; omega) | exact r0 (by simp [fitB, isD]; omega)) rfl dX1_fits_42
  · skip
    refine lv_lookup (off := 60) (tgt := 61) xx xb dX1_fits_1 (by decide +kernel) (by show Op.lookupswitch.offset [(100, 42), (107, 27)] 60 (nI (wch w)).toInt = 60; rw [lv_osw (k := nI 100) (nI_nq (by omega) (by decide) k_1_100) (by decide +kernel), lv_osw (k := nI 107) (nI_nq (by omega) (by decide) k_1_107) (by decide +kernel)]; rfl) (by decide) ?_
    refine lv_iload_n xx xb dX1_fits_61 rfl (lv_at hl 0 rfl) ?_
    refine lv_iload_n xx xb dX1_fits_62 rfl (lv_at hl 1 rfl) ?_
    refine lv_icmp_ne (tgt := 70) xx xb dX1_fits_63 (by decide) (fun c_63 => ?_) (fun c_63 => ?_)
    · skip
      have c_63 := ne_c (tN (by omega)) (tN (by omega)) c_63
      refine lv_iconst (v := nI 0) xx xb dX1_fits_70 (by decide) ?_
      exact rt_z C hw () (Or.inl rfl) (by (have e : w = 0 ∨ w = 1 ∨ w = 2 := (by omega)); rcases e with e | e | e <;> subst e <;> first | exact r1 (by simp [fitB, isD]; omega) | exact r0 (by simp [fitB, isD]; omega)) rfl dX1_fits_71
    · skip
      have c_63 := eq_c (tN (by omega)) (tN (by omega)) c_63
      refine lv_iconst (v := nI 1) xx xb dX1_fits_66 (by decide) ?_
      refine lv_goto (tgt := 71) xx xb dX1_fits_67 (by decide) ?_
      exact rt_z C hw () (Or.inr rfl) (by (have e : w = 0 ∨ w = 1 ∨ w = 2 := (by omega)); rcases e with e | e | e <;> subst e <;> first | exact r1 (by simp [fitB, isD]; omega) | exact r0 (by simp [fitB, isD]; omega)) rfl dX1_fits_71
set_option maxRecDepth 100000 in
set_option maxHeartbeats 4000000 in
theorem kX1_pullsInMind (l : Launch) (G : GT) (h0 : Nat) (so : Nat) (to : Nat) (uo : Nat) (x5 : Nat) (x6 : Nat) (x7 : Nat) (x8 : Nat) (im : Nat) (lm : Nat) (rm : Nat) (sd : Int32) (tk : Nat) (tf : Nat) (tb : Nat) (ta : Nat) (S : RT) (a : Nat) (v : Nat) (hS : OK S) (hSK : AK S) (hSp : S 0 3 = 0) (hv : v ≤ 9) (ha9 : a ≤ 99) : Ct l yX1_pullsInMind cX1_pullsInMind 3 (some .boolean) 3 69 [.ref h0, .int (nI a), .int (nI v)] G [(h0, .inr (1, [.ref so, .ref to, .ref uo, .int (nI im), .ref x5, .int (nI lm), .ref x6, .int (nI rm), .ref x7, .ref x8, .int sd])), (to, .inr (0, [.int (nI (sN S)), .int (nI (S 0 1)), .int (nI (sF S)), .int (nI (sS S)), .int (nI (sL S)), .ref tk, .ref tf, .ref tb, .ref ta])), (tk, aI G 10 (sK S)), (tf, aI G 10 (sG S)), (tb, aI G 10 (sO S)), (ta, aI G 10 (sA S))] (QI G [(h0, .inr (1, [.ref so, .ref to, .ref uo, .int (nI im), .ref x5, .int (nI lm), .ref x6, .int (nI rm), .ref x7, .ref x8, .int sd])), (to, .inr (0, [.int (nI (sN S)), .int (nI (S 0 1)), .int (nI (sF S)), .int (nI (sS S)), .int (nI (sL S)), .ref tk, .ref tf, .ref tb, .ref ta])), (tk, aI G 10 (sK S)), (tf, aI G 10 (sG S)), (tb, aI G 10 (sO S)), (ta, aI G 10 (sA S))] (fun (r : Int32) (u : Unit) => r = if a < S 0 0 ∧ S 4 a = 0 then 1 else 0) (fun u => [(h0, .inr (1, [.ref so, .ref to, .ref uo, .int (nI im), .ref x5, .int (nI lm), .ref x6, .int (nI rm), .ref x7, .ref x8, .int sd])), (to, .inr (0, [.int (nI (sN (selP (a < S 0 0 ∧ S 4 a = 0) (pulF S a v) S))), .int (nI ((selP (a < S 0 0 ∧ S 4 a = 0) (pulF S a v) S) 0 1)), .int (nI (sF (selP (a < S 0 0 ∧ S 4 a = 0) (pulF S a v) S))), .int (nI (sS (selP (a < S 0 0 ∧ S 4 a = 0) (pulF S a v) S))), .int (nI (sL (selP (a < S 0 0 ∧ S 4 a = 0) (pulF S a v) S))), .ref tk, .ref tf, .ref tb, .ref ta])), (tk, aI G 10 (sK (selP (a < S 0 0 ∧ S 4 a = 0) (pulF S a v) S))), (tf, aI G 10 (sG (selP (a < S 0 0 ∧ S 4 a = 0) (pulF S a v) S))), (tb, aI G 10 (sO (selP (a < S 0 0 ∧ S 4 a = 0) (pulF S a v) S))), (ta, aI G 10 (sA (selP (a < S 0 0 ∧ S 4 a = 0) (pulF S a v) S)))])) := by
  refine en (by decide +kernel) (Nat.le_of_ble_eq_true rfl) ?_
  intro p e s m below meth c ls H locs C hl hw
  have xx := C.1
  have xb := C.2.1
  have hw : Wd G (fA [(h0, .inr (1, [.ref so, .ref to, .ref uo, .int (nI im), .ref x5, .int (nI lm), .ref x6, .int (nI rm), .ref x7, .ref x8, .int sd])), (to, .inr (0, [.int (nI (sN S)), .int (nI (S 0 1)), .int (nI (sF S)), .int (nI (sS S)), .int (nI (sL S)), .ref tk, .ref tf, .ref tb, .ref ta])), (tk, aI G 10 (sK S)), (tf, aI G 10 (sG S)), (tb, aI G 10 (sO S)), (ta, aI G 10 (sA S))]) s [(h0, .inr (1, [.ref so, .ref to, .ref uo, .int (nI im), .ref x5, .int (nI lm), .ref x6, .int (nI rm), .ref x7, .ref x8, .int sd])), (to, .inr (0, [.int (nI (sN S)), .int (nI (S 0 1)), .int (nI (sF S)), .int (nI (sS S)), .int (nI (sL S)), .ref tk, .ref tf, .ref tb, .ref ta])), (tk, aI G 10 (sK S)), (tf, aI G 10 (sG S)), (tb, aI G 10 (sO S)), (ta, aI G 10 (sA S))] H locs := hw
  have hl : lv_has ls 3 [(0, .ref h0), (1, .int (nI a)), (2, .int (nI v))] := hl
  obtain ⟨hn, hf0, hpr, hA⟩ := id hS
  refine lv_aload_n xx xb dX1_pullsInMind_0 rfl (lv_at hl 0 rfl) ?_
  refine m_get C hw 0 rfl fk_X1_16 rfl dX1_pullsInMind_1 ?_
  refine lv_iload_n xx xb dX1_pullsInMind_4 rfl (lv_at hl 1 rfl) ?_
  have hM := kX0_stands l G to tk tf tb ta (S 0 1) S (nI a) ((a : Nat) : Int) (tN (by omega)) (by first | assumption | omega)
  refine cv_i C hw hM yvX0_stands ml_X1_166 1 rfl rfl rfl [1, 2, 3, 4, 5] rfl rfl (fun _ => (rfl : ([to, tk, tf, tb, ta] : List Nat) = [to, tk, tf, tb, ta])) (by decide) ⟨Nat.zero_le _, Nat.zero_le _⟩ hl.1 rfl (Nat.le_of_ble_eq_true rfl) dX1_pullsInMind_5 (fun r _ H locs hr hw => ?_)
  have hw : Wd G (fA [(h0, .inr (1, [.ref so, .ref to, .ref uo, .int (nI im), .ref x5, .int (nI lm), .ref x6, .int (nI rm), .ref x7, .ref x8, .int sd])), (to, .inr (0, [.int (nI (sN S)), .int (nI (S 0 1)), .int (nI (sF S)), .int (nI (sS S)), .int (nI (sL S)), .ref tk, .ref tf, .ref tb, .ref ta])), (tk, aI G 10 (sK S)), (tf, aI G 10 (sG S)), (tb, aI G 10 (sO S)), (ta, aI G 10 (sA S))]) s [(h0, .inr (1, [.ref so, .ref to, .ref uo, .int (nI im), .ref x5, .int (nI lm), .ref x6, .int (nI rm), .ref x7, .ref x8, .int sd])), (to, .inr (0, [.int (nI (sN S)), .int (nI (S 0 1)), .int (nI (sF S)), .int (nI (sS S)), .int (nI (sL S)), .ref tk, .ref tf, .ref tb, .ref ta])), (tk, aI G 10 (sK S)), (tf, aI G 10 (sG S)), (tb, aI G 10 (sO S)), (ta, aI G 10 (sA S))] H locs := hw
  subst hr
  refine re_i (if (0 ≤ ((a : Nat) : Int) ∧ ((a : Nat) : Int) < ((S 0 0 : Nat) : Int)) ∧ S 4 a = 0 then 1 else 0) (ifc (by rw [Int.toNat_natCast])) ?_
  refine lv_if_ne (tgt := 13) xx xb dX1_pullsInMind_8 (by decide) (fun c_8 => ?_) (fun c_8 => ?_)
  · skip
    have c_8 := b1_c c_8
    have hP : a < S 0 0 ∧ S 4 a = 0 := ⟨by omega, c_8.2⟩
    refine lv_aload_n xx xb dX1_pullsInMind_13 rfl (lv_at hl 0 rfl) ?_
    refine m_get C hw 0 rfl fk_X1_16 rfl dX1_pullsInMind_14 ?_
    refine lv_iload_n xx xb dX1_pullsInMind_17 rfl (lv_at hl 1 rfl) ?_
    refine lv_iload_n xx xb dX1_pullsInMind_18 rfl (lv_at hl 2 rfl) ?_
    have hM := kX0_pullThing l G to tk tf tb ta (S 0 1) S a v hS hP.1 hP.2 (by first | assumption | omega)
    refine cv_i C hw hM yvX0_pullThing ml_X1_90 1 rfl rfl rfl [1, 2, 3, 4, 5] rfl rfl (fun _ => (rfl : ([to, tk, tf, tb, ta] : List Nat) = [to, tk, tf, tb, ta])) (by decide) ⟨Nat.zero_le _, Nat.zero_le _⟩ hl.1 rfl (Nat.le_of_ble_eq_true rfl) dX1_pullsInMind_19 (fun r _ H locs hr hw => ?_)
    have hw : Wd G (fA [(h0, .inr (1, [.ref so, .ref to, .ref uo, .int (nI im), .ref x5, .int (nI lm), .ref x6, .int (nI rm), .ref x7, .ref x8, .int sd])), (to, .inr (0, [.int (nI (sN S)), .int (nI (S 0 1)), .int (nI (sF S)), .int (nI (sS S)), .int (nI (sL S)), .ref tk, .ref tf, .ref tb, .ref ta])), (tk, aI G 10 (sK S)), (tf, aI G 10 (sG S)), (tb, aI G 10 (sO S)), (ta, aI G 10 (sA S))]) s [(h0, .inr (1, [.ref so, .ref to, .ref uo, .int (nI im), .ref x5, .int (nI lm), .ref x6, .int (nI rm), .ref x7, .ref x8, .int sd])), (to, .inr (0, [.int (nI (sN (pulF S a v))), .int (nI (S 0 1)), .int (nI (sF (pulF S a v))), .int (nI (sS (pulF S a v))), .int (nI (sL (pulF S a v))), .ref tk, .ref tf, .ref tb, .ref ta])), (tk, aI G 10 (sK (pulF S a v))), (tf, aI G 10 (sG (pulF S a v))), (tb, aI G 10 (sO (pulF S a v))), (ta, aI G 10 (sA (pulF S a v)))] H locs := hw
    subst hr
    refine lv_pop xx xb dX1_pullsInMind_22 rfl ?_
    refine lv_iconst (v := nI 1) xx xb dX1_pullsInMind_23 (by decide) ?_
    exact rt_z C hw () (Or.inr rfl) (r1 hP) (by rw [selP_1 hP, pul01]) dX1_pullsInMind_24
  · skip
    have c_8 := b0_c c_8
    have hP : ¬ (a < S 0 0 ∧ S 4 a = 0) := fun q => c_8 ⟨⟨by omega, by omega⟩, q.2⟩
    refine lv_iconst (v := nI 0) xx xb dX1_pullsInMind_11 (by decide) ?_
    exact rt_z C hw () (Or.inl rfl) (r0 hP) (by rw [selP_0 hP]) dX1_pullsInMind_12
set_option maxRecDepth 100000 in
set_option maxHeartbeats 4000000 in
theorem kX1_floorInMind (l : Launch) (G : GT) (h0 : Nat) (so : Nat) (to : Nat) (uo : Nat) (x5 : Nat) (x6 : Nat) (x7 : Nat) (x8 : Nat) (im : Nat) (lm : Nat) (rm : Nat) (sd : Int32) (tk : Nat) (tf : Nat) (tb : Nat) (ta : Nat) (S : RT) (v : Nat) (hS : OK S) (hSK : AK S) (hSp : S 0 3 = 0) (hv : v ≤ 9) : Ct l yX1_floorInMind cX1_floorInMind 2 (some .boolean) 3 68 [.ref h0, .int (nI v)] G [(h0, .inr (1, [.ref so, .ref to, .ref uo, .int (nI im), .ref x5, .int (nI lm), .ref x6, .int (nI rm), .ref x7, .ref x8, .int sd])), (to, .inr (0, [.int (nI (sN S)), .int (nI (S 0 1)), .int (nI (sF S)), .int (nI (sS S)), .int (nI (sL S)), .ref tk, .ref tf, .ref tb, .ref ta])), (tk, aI G 10 (sK S)), (tf, aI G 10 (sG S)), (tb, aI G 10 (sO S)), (ta, aI G 10 (sA S))] (QI G [(h0, .inr (1, [.ref so, .ref to, .ref uo, .int (nI im), .ref x5, .int (nI lm), .ref x6, .int (nI rm), .ref x7, .ref x8, .int sd])), (to, .inr (0, [.int (nI (sN S)), .int (nI (S 0 1)), .int (nI (sF S)), .int (nI (sS S)), .int (nI (sL S)), .ref tk, .ref tf, .ref tb, .ref ta])), (tk, aI G 10 (sK S)), (tf, aI G 10 (sG S)), (tb, aI G 10 (sO S)), (ta, aI G 10 (sA S))] (fun (r : Int32) (u : Unit) => r = if S 0 2 ≠ 0 then 1 else 0) (fun u => [(h0, .inr (1, [.ref so, .ref to, .ref uo, .int (nI im), .ref x5, .int (nI lm), .ref x6, .int (nI rm), .ref x7, .ref x8, .int sd])), (to, .inr (0, [.int (nI (sN (selP (S 0 2 ≠ 0) (pulF S 10 v) S))), .int (nI ((selP (S 0 2 ≠ 0) (pulF S 10 v) S) 0 1)), .int (nI (sF (selP (S 0 2 ≠ 0) (pulF S 10 v) S))), .int (nI (sS (selP (S 0 2 ≠ 0) (pulF S 10 v) S))), .int (nI (sL (selP (S 0 2 ≠ 0) (pulF S 10 v) S))), .ref tk, .ref tf, .ref tb, .ref ta])), (tk, aI G 10 (sK (selP (S 0 2 ≠ 0) (pulF S 10 v) S))), (tf, aI G 10 (sG (selP (S 0 2 ≠ 0) (pulF S 10 v) S))), (tb, aI G 10 (sO (selP (S 0 2 ≠ 0) (pulF S 10 v) S))), (ta, aI G 10 (sA (selP (S 0 2 ≠ 0) (pulF S 10 v) S)))])) := by
  refine en (by decide +kernel) (Nat.le_of_ble_eq_true rfl) ?_
  intro p e s m below meth c ls H locs C hl hw
  have xx := C.1
  have xb := C.2.1
  have hw : Wd G (fA [(h0, .inr (1, [.ref so, .ref to, .ref uo, .int (nI im), .ref x5, .int (nI lm), .ref x6, .int (nI rm), .ref x7, .ref x8, .int sd])), (to, .inr (0, [.int (nI (sN S)), .int (nI (S 0 1)), .int (nI (sF S)), .int (nI (sS S)), .int (nI (sL S)), .ref tk, .ref tf, .ref tb, .ref ta])), (tk, aI G 10 (sK S)), (tf, aI G 10 (sG S)), (tb, aI G 10 (sO S)), (ta, aI G 10 (sA S))]) s [(h0, .inr (1, [.ref so, .ref to, .ref uo, .int (nI im), .ref x5, .int (nI lm), .ref x6, .int (nI rm), .ref x7, .ref x8, .int sd])), (to, .inr (0, [.int (nI (sN S)), .int (nI (S 0 1)), .int (nI (sF S)), .int (nI (sS S)), .int (nI (sL S)), .ref tk, .ref tf, .ref tb, .ref ta])), (tk, aI G 10 (sK S)), (tf, aI G 10 (sG S)), (tb, aI G 10 (sO S)), (ta, aI G 10 (sA S))] H locs := hw
  have hl : lv_has ls 2 [(0, .ref h0), (1, .int (nI v))] := hl
  obtain ⟨hn, hf0, hpr, hA⟩ := id hS
  refine lv_aload_n xx xb dX1_floorInMind_0 rfl (lv_at hl 0 rfl) ?_
  refine m_get C hw 0 rfl fk_X1_16 rfl dX1_floorInMind_1 ?_
  refine m_get C hw 1 rfl fk_X1_98 rfl dX1_floorInMind_4 ?_
  refine re_i (nI (S 0 2)) rfl ?_
  refine lv_if_ne (tgt := 12) xx xb dX1_floorInMind_7 (by decide) (fun c_7 => ?_) (fun c_7 => ?_)
  · skip
    have c_7 := ne_c (tN (by omega)) Int32.toInt_zero c_7
    have hP : S 0 2 ≠ 0 := by omega
    refine lv_aload_n xx xb dX1_floorInMind_12 rfl (lv_at hl 0 rfl) ?_
    refine m_get C hw 0 rfl fk_X1_16 rfl dX1_floorInMind_13 ?_
    refine lv_iload_n xx xb dX1_floorInMind_16 rfl (lv_at hl 1 rfl) ?_
    have hM := kX0_pullFloor l G to tk tf tb ta (S 0 1) S v hS (by first | assumption | omega)
    refine cv_i C hw hM yvX0_pullFloor ml_X1_102 1 rfl rfl rfl [1, 2, 3, 4, 5] rfl rfl (fun _ => (rfl : ([to, tk, tf, tb, ta] : List Nat) = [to, tk, tf, tb, ta])) (by decide) ⟨Nat.zero_le _, Nat.zero_le _⟩ hl.1 rfl (Nat.le_of_ble_eq_true rfl) dX1_floorInMind_17 (fun r _ H locs hr hw => ?_)
    have hw : Wd G (fA [(h0, .inr (1, [.ref so, .ref to, .ref uo, .int (nI im), .ref x5, .int (nI lm), .ref x6, .int (nI rm), .ref x7, .ref x8, .int sd])), (to, .inr (0, [.int (nI (sN S)), .int (nI (S 0 1)), .int (nI (sF S)), .int (nI (sS S)), .int (nI (sL S)), .ref tk, .ref tf, .ref tb, .ref ta])), (tk, aI G 10 (sK S)), (tf, aI G 10 (sG S)), (tb, aI G 10 (sO S)), (ta, aI G 10 (sA S))]) s [(h0, .inr (1, [.ref so, .ref to, .ref uo, .int (nI im), .ref x5, .int (nI lm), .ref x6, .int (nI rm), .ref x7, .ref x8, .int sd])), (to, .inr (0, [.int (nI (sN (pulF S 10 v))), .int (nI (S 0 1)), .int (nI (sF (pulF S 10 v))), .int (nI (sS (pulF S 10 v))), .int (nI (sL (pulF S 10 v))), .ref tk, .ref tf, .ref tb, .ref ta])), (tk, aI G 10 (sK (pulF S 10 v))), (tf, aI G 10 (sG (pulF S 10 v))), (tb, aI G 10 (sO (pulF S 10 v))), (ta, aI G 10 (sA (pulF S 10 v)))] H locs := hw
    subst hr
    refine lv_pop xx xb dX1_floorInMind_20 rfl ?_
    refine lv_iconst (v := nI 1) xx xb dX1_floorInMind_21 (by decide) ?_
    exact rt_z C hw () (Or.inr rfl) (r1 hP) (by rw [selP_1 hP, pul01]) dX1_floorInMind_22
  · skip
    have c_7 := eq_c (tN (by omega)) Int32.toInt_zero c_7
    have hP : ¬ (S 0 2 ≠ 0) := by omega
    refine lv_iconst (v := nI 0) xx xb dX1_floorInMind_10 (by decide) ?_
    exact rt_z C hw () (Or.inl rfl) (r0 hP) (by rw [selP_0 hP]) dX1_floorInMind_11
set_option maxRecDepth 100000 in
set_option maxHeartbeats 4000000 in
theorem kX1_setsUpInMind (l : Launch) (G : GT) (h0 : Nat) (so : Nat) (to : Nat) (uo : Nat) (x5 : Nat) (x6 : Nat) (x7 : Nat) (x8 : Nat) (im : Nat) (lm : Nat) (rm : Nat) (sd : Int32) (tk : Nat) (tf : Nat) (tb : Nat) (ta : Nat) (S : RT) (a : Nat) (hS : OK S) (hSK : AK S) (hSp : S 0 3 = 0) (ha9 : a ≤ 99) : Ct l yX1_setsUpInMind cX1_setsUpInMind 2 (some .boolean) 2 42 [.ref h0, .int (nI a)] G [(h0, .inr (1, [.ref so, .ref to, .ref uo, .int (nI im), .ref x5, .int (nI lm), .ref x6, .int (nI rm), .ref x7, .ref x8, .int sd])), (to, .inr (0, [.int (nI (sN S)), .int (nI (S 0 1)), .int (nI (sF S)), .int (nI (sS S)), .int (nI (sL S)), .ref tk, .ref tf, .ref tb, .ref ta])), (tk, aI G 10 (sK S)), (tf, aI G 10 (sG S)), (tb, aI G 10 (sO S)), (ta, aI G 10 (sA S))] (QI G [(h0, .inr (1, [.ref so, .ref to, .ref uo, .int (nI im), .ref x5, .int (nI lm), .ref x6, .int (nI rm), .ref x7, .ref x8, .int sd])), (to, .inr (0, [.int (nI (sN S)), .int (nI (S 0 1)), .int (nI (sF S)), .int (nI (sS S)), .int (nI (sL S)), .ref tk, .ref tf, .ref tb, .ref ta])), (tk, aI G 10 (sK S)), (tf, aI G 10 (sG S)), (tb, aI G 10 (sO S)), (ta, aI G 10 (sA S))] (fun (r : Int32) (u : Unit) => r = if a < S 0 0 ∧ S 4 a ≠ 2 then 1 else 0) (fun u => [(h0, .inr (1, [.ref so, .ref to, .ref uo, .int (nI im), .ref x5, .int (nI lm), .ref x6, .int (nI rm), .ref x7, .ref x8, .int sd])), (to, .inr (0, [.int (nI (sN (selP (a < S 0 0 ∧ S 4 a ≠ 2) (setU S a) S))), .int (nI ((selP (a < S 0 0 ∧ S 4 a ≠ 2) (setU S a) S) 0 1)), .int (nI (sF (selP (a < S 0 0 ∧ S 4 a ≠ 2) (setU S a) S))), .int (nI (sS (selP (a < S 0 0 ∧ S 4 a ≠ 2) (setU S a) S))), .int (nI (sL (selP (a < S 0 0 ∧ S 4 a ≠ 2) (setU S a) S))), .ref tk, .ref tf, .ref tb, .ref ta])), (tk, aI G 10 (sK (selP (a < S 0 0 ∧ S 4 a ≠ 2) (setU S a) S))), (tf, aI G 10 (sG (selP (a < S 0 0 ∧ S 4 a ≠ 2) (setU S a) S))), (tb, aI G 10 (sO (selP (a < S 0 0 ∧ S 4 a ≠ 2) (setU S a) S))), (ta, aI G 10 (sA (selP (a < S 0 0 ∧ S 4 a ≠ 2) (setU S a) S)))])) := by
  refine en (by decide +kernel) (Nat.le_of_ble_eq_true rfl) ?_
  intro p e s m below meth c ls H locs C hl hw
  have xx := C.1
  have xb := C.2.1
  have hw : Wd G (fA [(h0, .inr (1, [.ref so, .ref to, .ref uo, .int (nI im), .ref x5, .int (nI lm), .ref x6, .int (nI rm), .ref x7, .ref x8, .int sd])), (to, .inr (0, [.int (nI (sN S)), .int (nI (S 0 1)), .int (nI (sF S)), .int (nI (sS S)), .int (nI (sL S)), .ref tk, .ref tf, .ref tb, .ref ta])), (tk, aI G 10 (sK S)), (tf, aI G 10 (sG S)), (tb, aI G 10 (sO S)), (ta, aI G 10 (sA S))]) s [(h0, .inr (1, [.ref so, .ref to, .ref uo, .int (nI im), .ref x5, .int (nI lm), .ref x6, .int (nI rm), .ref x7, .ref x8, .int sd])), (to, .inr (0, [.int (nI (sN S)), .int (nI (S 0 1)), .int (nI (sF S)), .int (nI (sS S)), .int (nI (sL S)), .ref tk, .ref tf, .ref tb, .ref ta])), (tk, aI G 10 (sK S)), (tf, aI G 10 (sG S)), (tb, aI G 10 (sO S)), (ta, aI G 10 (sA S))] H locs := hw
  have hl : lv_has ls 2 [(0, .ref h0), (1, .int (nI a))] := hl
  obtain ⟨hn, hf0, hpr, hA⟩ := id hS
  refine lv_aload_n xx xb dX1_setsUpInMind_0 rfl (lv_at hl 0 rfl) ?_
  refine m_get C hw 0 rfl fk_X1_16 rfl dX1_setsUpInMind_1 ?_
  refine lv_iload_n xx xb dX1_setsUpInMind_4 rfl (lv_at hl 1 rfl) ?_
  have hM := kX0_stands l G to tk tf tb ta (S 0 1) S (nI a) ((a : Nat) : Int) (tN (by omega)) (by first | assumption | omega)
  refine cv_i C hw hM yvX0_stands ml_X1_166 1 rfl rfl rfl [1, 2, 3, 4, 5] rfl rfl (fun _ => (rfl : ([to, tk, tf, tb, ta] : List Nat) = [to, tk, tf, tb, ta])) (by decide) ⟨Nat.zero_le _, Nat.zero_le _⟩ hl.1 rfl (Nat.le_of_ble_eq_true rfl) dX1_setsUpInMind_5 (fun r _ H locs hr hw => ?_)
  have hw : Wd G (fA [(h0, .inr (1, [.ref so, .ref to, .ref uo, .int (nI im), .ref x5, .int (nI lm), .ref x6, .int (nI rm), .ref x7, .ref x8, .int sd])), (to, .inr (0, [.int (nI (sN S)), .int (nI (S 0 1)), .int (nI (sF S)), .int (nI (sS S)), .int (nI (sL S)), .ref tk, .ref tf, .ref tb, .ref ta])), (tk, aI G 10 (sK S)), (tf, aI G 10 (sG S)), (tb, aI G 10 (sO S)), (ta, aI G 10 (sA S))]) s [(h0, .inr (1, [.ref so, .ref to, .ref uo, .int (nI im), .ref x5, .int (nI lm), .ref x6, .int (nI rm), .ref x7, .ref x8, .int sd])), (to, .inr (0, [.int (nI (sN S)), .int (nI (S 0 1)), .int (nI (sF S)), .int (nI (sS S)), .int (nI (sL S)), .ref tk, .ref tf, .ref tb, .ref ta])), (tk, aI G 10 (sK S)), (tf, aI G 10 (sG S)), (tb, aI G 10 (sO S)), (ta, aI G 10 (sA S))] H locs := hw
  subst hr
  refine re_i (if (0 ≤ ((a : Nat) : Int) ∧ ((a : Nat) : Int) < ((S 0 0 : Nat) : Int)) ∧ S 4 a = 0 then 1 else 0) (ifc (by rw [Int.toNat_natCast])) ?_
  refine lv_if_ne (tgt := 24) xx xb dX1_setsUpInMind_8 (by decide) (fun c_8 => ?_) (fun c_8 => ?_)
  · skip
    have c_8 := b1_c c_8
    have hP : a < S 0 0 ∧ S 4 a ≠ 2 := by first | exact ⟨by omega, by have z := c_8.2; omega⟩ | exact ⟨by omega, by have z := c_19.2; omega⟩
    refine lv_aload_n xx xb dX1_setsUpInMind_24 rfl (lv_at hl 0 rfl) ?_
    refine m_get C hw 0 rfl fk_X1_16 rfl dX1_setsUpInMind_25 ?_
    refine lv_iload_n xx xb dX1_setsUpInMind_28 rfl (lv_at hl 1 rfl) ?_
    have hM := kX0_setUp l G to tk tf tb ta (S 0 1) S a (by first | assumption | omega) hP.1
    refine cv_v C hw hM yvX0_setUp ml_X1_111 1 rfl rfl rfl [1, 2, 3, 4, 5] rfl rfl (fun _ => (rfl : ([to, tk, tf, tb, ta] : List Nat) = [to, tk, tf, tb, ta])) (by decide) ⟨Nat.zero_le _, Nat.zero_le _⟩ hl.1 rfl (Nat.le_of_ble_eq_true rfl) dX1_setsUpInMind_29 (fun _ H locs hr hw => ?_)
    have hw : Wd G (fA [(h0, .inr (1, [.ref so, .ref to, .ref uo, .int (nI im), .ref x5, .int (nI lm), .ref x6, .int (nI rm), .ref x7, .ref x8, .int sd])), (to, .inr (0, [.int (nI (sN S)), .int (nI (S 0 1)), .int (nI (sF S)), .int (nI (sS S)), .int (nI (sL S)), .ref tk, .ref tf, .ref tb, .ref ta])), (tk, aI G 10 (sK S)), (tf, aI G 10 (sG S)), (tb, aI G 10 (sO S)), (ta, aI G 10 (sA S))]) s [(h0, .inr (1, [.ref so, .ref to, .ref uo, .int (nI im), .ref x5, .int (nI lm), .ref x6, .int (nI rm), .ref x7, .ref x8, .int sd])), (to, .inr (0, [.int (nI (sN (setU S a))), .int (nI (S 0 1)), .int (nI (sF (setU S a))), .int (nI (sS (setU S a))), .int (nI (sL (setU S a))), .ref tk, .ref tf, .ref tb, .ref ta])), (tk, aI G 10 (sK (setU S a))), (tf, aI G 10 (sG (setU S a))), (tb, aI G 10 (sO (setU S a))), (ta, aI G 10 (sA (setU S a)))] H locs := hw
    refine lv_iconst (v := nI 1) xx xb dX1_setsUpInMind_32 (by decide) ?_
    exact rt_z C hw () (Or.inr rfl) (r1 hP) (by rw [selP_1 hP, setU01]) dX1_setsUpInMind_33
  · skip
    have c_8 := b0_c c_8
    refine lv_aload_n xx xb dX1_setsUpInMind_11 rfl (lv_at hl 0 rfl) ?_
    refine m_get C hw 0 rfl fk_X1_16 rfl dX1_setsUpInMind_12 ?_
    refine lv_iload_n xx xb dX1_setsUpInMind_15 rfl (lv_at hl 1 rfl) ?_
    have hM := kX0_lies l G to tk tf tb ta (S 0 1) S (nI a) ((a : Nat) : Int) (tN (by omega)) (by first | assumption | omega)
    refine cv_i C hw hM yvX0_lies ml_X1_108 1 rfl rfl rfl [1, 2, 3, 4, 5] rfl rfl (fun _ => (rfl : ([to, tk, tf, tb, ta] : List Nat) = [to, tk, tf, tb, ta])) (by decide) ⟨Nat.zero_le _, Nat.zero_le _⟩ hl.1 rfl (Nat.le_of_ble_eq_true rfl) dX1_setsUpInMind_16 (fun r _ H locs hr hw => ?_)
    have hw : Wd G (fA [(h0, .inr (1, [.ref so, .ref to, .ref uo, .int (nI im), .ref x5, .int (nI lm), .ref x6, .int (nI rm), .ref x7, .ref x8, .int sd])), (to, .inr (0, [.int (nI (sN S)), .int (nI (S 0 1)), .int (nI (sF S)), .int (nI (sS S)), .int (nI (sL S)), .ref tk, .ref tf, .ref tb, .ref ta])), (tk, aI G 10 (sK S)), (tf, aI G 10 (sG S)), (tb, aI G 10 (sO S)), (ta, aI G 10 (sA S))]) s [(h0, .inr (1, [.ref so, .ref to, .ref uo, .int (nI im), .ref x5, .int (nI lm), .ref x6, .int (nI rm), .ref x7, .ref x8, .int sd])), (to, .inr (0, [.int (nI (sN S)), .int (nI (S 0 1)), .int (nI (sF S)), .int (nI (sS S)), .int (nI (sL S)), .ref tk, .ref tf, .ref tb, .ref ta])), (tk, aI G 10 (sK S)), (tf, aI G 10 (sG S)), (tb, aI G 10 (sO S)), (ta, aI G 10 (sA S))] H locs := hw
    subst hr
    refine re_i (if (0 ≤ ((a : Nat) : Int) ∧ ((a : Nat) : Int) < ((S 0 0 : Nat) : Int)) ∧ S 4 a = 1 then 1 else 0) (ifc (by rw [Int.toNat_natCast])) ?_
    refine lv_if_ne (tgt := 24) xx xb dX1_setsUpInMind_19 (by decide) (fun c_19 => ?_) (fun c_19 => ?_)
    · skip
      have c_19 := b1_c c_19
      have hP : a < S 0 0 ∧ S 4 a ≠ 2 := by first | exact ⟨by omega, by have z := c_8.2; omega⟩ | exact ⟨by omega, by have z := c_19.2; omega⟩
      refine lv_aload_n xx xb dX1_setsUpInMind_24 rfl (lv_at hl 0 rfl) ?_
      refine m_get C hw 0 rfl fk_X1_16 rfl dX1_setsUpInMind_25 ?_
      refine lv_iload_n xx xb dX1_setsUpInMind_28 rfl (lv_at hl 1 rfl) ?_
      have hM := kX0_setUp l G to tk tf tb ta (S 0 1) S a (by first | assumption | omega) hP.1
      refine cv_v C hw hM yvX0_setUp ml_X1_111 1 rfl rfl rfl [1, 2, 3, 4, 5] rfl rfl (fun _ => (rfl : ([to, tk, tf, tb, ta] : List Nat) = [to, tk, tf, tb, ta])) (by decide) ⟨Nat.zero_le _, Nat.zero_le _⟩ hl.1 rfl (Nat.le_of_ble_eq_true rfl) dX1_setsUpInMind_29 (fun _ H locs hr hw => ?_)
      have hw : Wd G (fA [(h0, .inr (1, [.ref so, .ref to, .ref uo, .int (nI im), .ref x5, .int (nI lm), .ref x6, .int (nI rm), .ref x7, .ref x8, .int sd])), (to, .inr (0, [.int (nI (sN S)), .int (nI (S 0 1)), .int (nI (sF S)), .int (nI (sS S)), .int (nI (sL S)), .ref tk, .ref tf, .ref tb, .ref ta])), (tk, aI G 10 (sK S)), (tf, aI G 10 (sG S)), (tb, aI G 10 (sO S)), (ta, aI G 10 (sA S))]) s [(h0, .inr (1, [.ref so, .ref to, .ref uo, .int (nI im), .ref x5, .int (nI lm), .ref x6, .int (nI rm), .ref x7, .ref x8, .int sd])), (to, .inr (0, [.int (nI (sN (setU S a))), .int (nI (S 0 1)), .int (nI (sF (setU S a))), .int (nI (sS (setU S a))), .int (nI (sL (setU S a))), .ref tk, .ref tf, .ref tb, .ref ta])), (tk, aI G 10 (sK (setU S a))), (tf, aI G 10 (sG (setU S a))), (tb, aI G 10 (sO (setU S a))), (ta, aI G 10 (sA (setU S a)))] H locs := hw
      refine lv_iconst (v := nI 1) xx xb dX1_setsUpInMind_32 (by decide) ?_
      exact rt_z C hw () (Or.inr rfl) (r1 hP) (by rw [selP_1 hP, setU01]) dX1_setsUpInMind_33
    · skip
      have c_19 := b0_c c_19
      have hP : ¬ (a < S 0 0 ∧ S 4 a ≠ 2) := fun q => by have z := (hA a q.1).2.2.2.2; have z1 : ¬ S 4 a = 0 := fun y => c_8 ⟨⟨by omega, by omega⟩, y⟩; have z2 : ¬ S 4 a = 1 := fun y => c_19 ⟨⟨by omega, by omega⟩, y⟩; omega
      refine lv_iconst (v := nI 0) xx xb dX1_setsUpInMind_22 (by decide) ?_
      exact rt_z C hw () (Or.inl rfl) (r0 hP) (by rw [selP_0 hP]) dX1_setsUpInMind_23
set_option maxRecDepth 100000 in
set_option maxHeartbeats 4000000 in
theorem kX1_minutesInMind (l : Launch) (G : GT) (h0 : Nat) (so : Nat) (to : Nat) (uo : Nat) (x5 : Nat) (x6 : Nat) (x7 : Nat) (x8 : Nat) (im : Nat) (lm : Nat) (rm : Nat) (sd : Int32) (tk : Nat) (tf : Nat) (tb : Nat) (ta : Nat) (S : RT) (n : Nat) (hS : OK S) (hSK : AK S) (hSp : S 0 3 = 0) (hn9 : n ≤ 99) (hm : S 0 1 ≤ 999) : Ct l yX1_minutesInMind cX1_minutesInMind 2 (some .boolean) 4 100 [.ref h0, .int (nI n)] G [(h0, .inr (1, [.ref so, .ref to, .ref uo, .int (nI im), .ref x5, .int (nI lm), .ref x6, .int (nI rm), .ref x7, .ref x8, .int sd])), (to, .inr (0, [.int (nI (sN S)), .int (nI (S 0 1)), .int (nI (sF S)), .int (nI (sS S)), .int (nI (sL S)), .ref tk, .ref tf, .ref tb, .ref ta])), (tk, aI G 10 (sK S)), (tf, aI G 10 (sG S)), (tb, aI G 10 (sO S)), (ta, aI G 10 (sA S))] (QI G [(h0, .inr (1, [.ref so, .ref to, .ref uo, .int (nI im), .ref x5, .int (nI lm), .ref x6, .int (nI rm), .ref x7, .ref x8, .int sd])), (to, .inr (0, [.int (nI (sN S)), .int (nI (S 0 1)), .int (nI (sF S)), .int (nI (sS S)), .int (nI (sL S)), .ref tk, .ref tf, .ref tb, .ref ta])), (tk, aI G 10 (sK S)), (tf, aI G 10 (sG S)), (tb, aI G 10 (sO S)), (ta, aI G 10 (sA S))] (fun (r : Int32) (u : Unit) => r = if 1 ≤ n ∧ n ≤ 60 ∧ S 0 1 + n ≤ 999 then 1 else 0) (fun u => [(h0, .inr (1, [.ref so, .ref to, .ref uo, .int (nI im), .ref x5, .int (nI lm), .ref x6, .int (nI rm), .ref x7, .ref x8, .int sd])), (to, .inr (0, [.int (nI (sN (selP (1 ≤ n ∧ n ≤ 60 ∧ S 0 1 + n ≤ 999) (itF S n) S))), .int (nI ((selP (1 ≤ n ∧ n ≤ 60 ∧ S 0 1 + n ≤ 999) (itF S n) S) 0 1)), .int (nI (sF (selP (1 ≤ n ∧ n ≤ 60 ∧ S 0 1 + n ≤ 999) (itF S n) S))), .int (nI (sS (selP (1 ≤ n ∧ n ≤ 60 ∧ S 0 1 + n ≤ 999) (itF S n) S))), .int (nI (sL (selP (1 ≤ n ∧ n ≤ 60 ∧ S 0 1 + n ≤ 999) (itF S n) S))), .ref tk, .ref tf, .ref tb, .ref ta])), (tk, aI G 10 (sK (selP (1 ≤ n ∧ n ≤ 60 ∧ S 0 1 + n ≤ 999) (itF S n) S))), (tf, aI G 10 (sG (selP (1 ≤ n ∧ n ≤ 60 ∧ S 0 1 + n ≤ 999) (itF S n) S))), (tb, aI G 10 (sO (selP (1 ≤ n ∧ n ≤ 60 ∧ S 0 1 + n ≤ 999) (itF S n) S))), (ta, aI G 10 (sA (selP (1 ≤ n ∧ n ≤ 60 ∧ S 0 1 + n ≤ 999) (itF S n) S)))])) := by
  refine en (by decide +kernel) (Nat.le_of_ble_eq_true rfl) ?_
  intro p e s m below meth c ls H locs C hl hw
  have xx := C.1
  have xb := C.2.1
  have hw : Wd G (fA [(h0, .inr (1, [.ref so, .ref to, .ref uo, .int (nI im), .ref x5, .int (nI lm), .ref x6, .int (nI rm), .ref x7, .ref x8, .int sd])), (to, .inr (0, [.int (nI (sN S)), .int (nI (S 0 1)), .int (nI (sF S)), .int (nI (sS S)), .int (nI (sL S)), .ref tk, .ref tf, .ref tb, .ref ta])), (tk, aI G 10 (sK S)), (tf, aI G 10 (sG S)), (tb, aI G 10 (sO S)), (ta, aI G 10 (sA S))]) s [(h0, .inr (1, [.ref so, .ref to, .ref uo, .int (nI im), .ref x5, .int (nI lm), .ref x6, .int (nI rm), .ref x7, .ref x8, .int sd])), (to, .inr (0, [.int (nI (sN S)), .int (nI (S 0 1)), .int (nI (sF S)), .int (nI (sS S)), .int (nI (sL S)), .ref tk, .ref tf, .ref tb, .ref ta])), (tk, aI G 10 (sK S)), (tf, aI G 10 (sG S)), (tb, aI G 10 (sO S)), (ta, aI G 10 (sA S))] H locs := hw
  have hl : lv_has ls 2 [(0, .ref h0), (1, .int (nI n))] := hl
  obtain ⟨hn, hf0, hpr, hA⟩ := id hS
  refine lv_iload_n xx xb dX1_minutesInMind_0 rfl (lv_at hl 1 rfl) ?_
  refine lv_iconst (v := nI 1) xx xb dX1_minutesInMind_1 (by decide) ?_
  refine lv_icmp_lt (tgt := 22) xx xb dX1_minutesInMind_2 (by decide) (fun c_2 => ?_) (fun c_2 => ?_)
  · skip
    have c_2 := lt_c (tN (by omega)) (tN (by omega)) c_2
    have hP : ¬ (1 ≤ n ∧ n ≤ 60 ∧ S 0 1 + n ≤ 999) := by omega
    refine lv_iconst (v := nI 0) xx xb dX1_minutesInMind_22 (by decide) ?_
    exact rt_z C hw () (Or.inl rfl) (r0 hP) (by rw [selP_0 hP]) dX1_minutesInMind_23
  · skip
    have c_2 := nlt_c (tN (by omega)) (tN (by omega)) c_2
    refine lv_iload_n xx xb dX1_minutesInMind_5 rfl (lv_at hl 1 rfl) ?_
    refine lv_bipush (v := nI 60) xx xb dX1_minutesInMind_6 (by decide) ?_
    refine lv_icmp_gt (tgt := 22) xx xb dX1_minutesInMind_8 (by decide) (fun c_8 => ?_) (fun c_8 => ?_)
    · skip
      have c_8 := lt_c (tN (by omega)) (tN (by omega)) c_8
      have hP : ¬ (1 ≤ n ∧ n ≤ 60 ∧ S 0 1 + n ≤ 999) := by omega
      refine lv_iconst (v := nI 0) xx xb dX1_minutesInMind_22 (by decide) ?_
      exact rt_z C hw () (Or.inl rfl) (r0 hP) (by rw [selP_0 hP]) dX1_minutesInMind_23
    · skip
      have c_8 := nlt_c (tN (by omega)) (tN (by omega)) c_8
      refine lv_aload_n xx xb dX1_minutesInMind_11 rfl (lv_at hl 0 rfl) ?_
      refine m_get C hw 0 rfl fk_X1_16 rfl dX1_minutesInMind_12 ?_
      refine lv_iload_n xx xb dX1_minutesInMind_15 rfl (lv_at hl 1 rfl) ?_
      have hM := kX0_hasTimeFor l G to tk tf tb ta (S 0 1) S (nI n) ((n : Nat) : Int) (tN (by omega)) (by first | assumption | omega) (by omega)
      refine cv_i C hw hM yvX0_hasTimeFor ml_X1_122 1 rfl rfl rfl [1, 2, 3, 4, 5] rfl rfl (fun _ => (rfl : ([to, tk, tf, tb, ta] : List Nat) = [to, tk, tf, tb, ta])) (by decide) ⟨Nat.zero_le _, Nat.zero_le _⟩ hl.1 rfl (Nat.le_of_ble_eq_true rfl) dX1_minutesInMind_16 (fun r _ H locs hr hw => ?_)
      have hw : Wd G (fA [(h0, .inr (1, [.ref so, .ref to, .ref uo, .int (nI im), .ref x5, .int (nI lm), .ref x6, .int (nI rm), .ref x7, .ref x8, .int sd])), (to, .inr (0, [.int (nI (sN S)), .int (nI (S 0 1)), .int (nI (sF S)), .int (nI (sS S)), .int (nI (sL S)), .ref tk, .ref tf, .ref tb, .ref ta])), (tk, aI G 10 (sK S)), (tf, aI G 10 (sG S)), (tb, aI G 10 (sO S)), (ta, aI G 10 (sA S))]) s [(h0, .inr (1, [.ref so, .ref to, .ref uo, .int (nI im), .ref x5, .int (nI lm), .ref x6, .int (nI rm), .ref x7, .ref x8, .int sd])), (to, .inr (0, [.int (nI (sN S)), .int (nI (S 0 1)), .int (nI (sF S)), .int (nI (sS S)), .int (nI (sL S)), .ref tk, .ref tf, .ref tb, .ref ta])), (tk, aI G 10 (sK S)), (tf, aI G 10 (sG S)), (tb, aI G 10 (sO S)), (ta, aI G 10 (sA S))] H locs := hw
      subst hr
      refine lv_if_ne (tgt := 24) xx xb dX1_minutesInMind_19 (by decide) (fun c_19 => ?_) (fun c_19 => ?_)
      · skip
        have c_19 := b1_c c_19
        have hP : 1 ≤ n ∧ n ≤ 60 ∧ S 0 1 + n ≤ 999 := by omega
        refine lv_aload_n xx xb dX1_minutesInMind_24 rfl (lv_at hl 0 rfl) ?_
        refine m_get C hw 0 rfl fk_X1_16 rfl dX1_minutesInMind_25 ?_
        refine lv_iload_n xx xb dX1_minutesInMind_28 rfl (lv_at hl 1 rfl) ?_
        have hM := kX0_passMinutes l G to tk tf tb ta (S 0 1) S n hS hSK hSp (by omega)
        refine cv_v C hw hM yvX0_passMinutes ml_X1_125 1 rfl rfl rfl [1, 2, 3, 4, 5] rfl rfl (fun _ => (rfl : ([to, tk, tf, tb, ta] : List Nat) = [to, tk, tf, tb, ta])) (by decide) ⟨Nat.zero_le _, Nat.zero_le _⟩ hl.1 rfl (Nat.le_of_ble_eq_true rfl) dX1_minutesInMind_29 (fun _ H locs hr hw => ?_)
        have hw : Wd G (fA [(h0, .inr (1, [.ref so, .ref to, .ref uo, .int (nI im), .ref x5, .int (nI lm), .ref x6, .int (nI rm), .ref x7, .ref x8, .int sd])), (to, .inr (0, [.int (nI (sN S)), .int (nI (S 0 1)), .int (nI (sF S)), .int (nI (sS S)), .int (nI (sL S)), .ref tk, .ref tf, .ref tb, .ref ta])), (tk, aI G 10 (sK S)), (tf, aI G 10 (sG S)), (tb, aI G 10 (sO S)), (ta, aI G 10 (sA S))]) s [(h0, .inr (1, [.ref so, .ref to, .ref uo, .int (nI im), .ref x5, .int (nI lm), .ref x6, .int (nI rm), .ref x7, .ref x8, .int sd])), (to, .inr (0, [.int (nI (sN (itF S n))), .int (nI ((S 0 1) + n)), .int (nI (sF (itF S n))), .int (nI (sS (itF S n))), .int (nI (sL (itF S n))), .ref tk, .ref tf, .ref tb, .ref ta])), (tk, aI G 10 (sK (itF S n))), (tf, aI G 10 (sG (itF S n))), (tb, aI G 10 (sO (itF S n))), (ta, aI G 10 (sA (itF S n)))] H locs := hw
        refine lv_iconst (v := nI 1) xx xb dX1_minutesInMind_32 (by decide) ?_
        exact rt_z C hw () (Or.inr rfl) (r1 hP) (by rw [selP_1 hP, itF_01]) dX1_minutesInMind_33
      · skip
        have c_19 := b0_c c_19
        have hP : ¬ (1 ≤ n ∧ n ≤ 60 ∧ S 0 1 + n ≤ 999) := by omega
        refine lv_iconst (v := nI 0) xx xb dX1_minutesInMind_22 (by decide) ?_
        exact rt_z C hw () (Or.inl rfl) (r0 hP) (by rw [selP_0 hP]) dX1_minutesInMind_23
