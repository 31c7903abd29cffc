theorem rch_fn (R : RT) (b n : Nat) (hn : n ≤ 10) (hA : ∀ k, k < n → R 3 k < 10 → R 3 k < k) (hB : ∀ k, k < n → R 3 k ≤ 10) (hb : b < 10) : ∀ (f k : Nat), k + 1 ≤ f → k < n → ∀ f', k + 1 ≤ f' → rch R b f k = rch R b f' k
  | 0, k, h, _, _, _ => by omega
  | f + 1, k, h, hk, 0, h' => by omega
  | f + 1, k, h, hk, f' + 1, h' => by
    by_cases q : k = b
    · subst q; rw [rch_b, rch_b]
    · rw [rch_s R q (by omega), rch_s R q (by omega)]
      by_cases z : R 3 k < 10
      · have := hA k hk z
        exact rch_fn R b n hn hA hB hb f (R 3 k) (by omega) (by omega) f' (by omega)
      · have z2 : R 3 k = 10 := by
          have := hB k hk
          omega
        rw [z2, rch_10 R hb, rch_10 R hb]
theorem abv_i {R : RT} {a i : Nat} (hR : OK R) (ha : a < R 0 0) (hi : i < R 0 0) : abvP R a i = true ↔ R 3 i = a ∨ (R 3 i < 10 ∧ abvP R a (R 3 i) = true) := by
  obtain ⟨hn, hf0, hpr, hA⟩ := id hR
  have hb : a < 10 := by omega
  have hA1 : ∀ k, k < R 0 0 → R 3 k < 10 → R 3 k < k := fun k hk => (hA k hk).2.2.2.1
  have hA2 : ∀ k, k < R 0 0 → R 3 k ≤ 10 := fun k hk => (hA k hk).2.2.1
  have p2 := hA2 i hi
  show rch R a 11 (R 3 i) = true ↔ R 3 i = a ∨ (R 3 i < 10 ∧ rch R a 11 (R 3 (R 3 i)) = true)
  by_cases q : R 3 i = a
  · rw [q, rch_b]; exact ⟨fun _ => Or.inl rfl, fun _ => rfl⟩
  · by_cases z : R 3 i < 10
    · have p1 := hA1 i hi z
      rw [rch_s R q z]
      have e : rch R a 10 (R 3 (R 3 i)) = rch R a 11 (R 3 (R 3 i)) := by
        have p3 := hA2 (R 3 i) (by omega)
        by_cases z2 : R 3 (R 3 i) < 10
        · have p4 := hA1 (R 3 i) (by omega) z2
          exact rch_fn R a (R 0 0) hn hA1 hA2 hb 10 _ (by omega) (by omega) 11 (by omega)
        · rw [show R 3 (R 3 i) = 10 by omega, rch_10 R hb, rch_10 R hb]
      rw [e]
      exact ⟨fun h => Or.inr ⟨z, h⟩, fun h => h.elim (fun h => absurd h q) (fun h => h.2)⟩
    · rw [show R 3 i = 10 by omega, rch_10 R hb]
      exact ⟨fun h => absurd h (by decide), fun h => h.elim (fun h => by omega) (fun h => absurd h.1 (by omega))⟩
theorem abv_t {R : RT} {a i : Nat} (hR : OK R) (ha : a < R 0 0) (hi : i < R 0 0) (h : R 3 i = a ∨ (R 3 i < 10 ∧ abvP R a (R 3 i) = true)) : abvP R a i = true := (abv_i hR ha hi).mpr h
theorem abv_f {R : RT} {a i : Nat} (hR : OK R) (ha : a < R 0 0) (hi : i < R 0 0) (h1 : R 3 i ≠ a) (h2 : R 3 i = 10 ∨ abvP R a (R 3 i) = false) : abvP R a i = false := by
  apply Bool.eq_false_iff.mpr
  intro h
  rcases (abv_i hR ha hi).mp h with q | ⟨q, q2⟩
  · exact h1 q
  · rcases h2 with z | z
    · omega
    · rw [z] at q2; exact absurd q2 (by decide)
theorem bsb_0 {P : Nat → Bool} {n k : Nat} (hn : n ≤ 10) (hk : k < n) (q : nI (bs P n &&& 2 ^ k) = 0) : P k = false := by
  have h1 := bs_lt31 P (n := n) (by omega)
  have hl2 := and_lt (b := 2 ^ k) h1
  have z : bs P n &&& 2 ^ k = 0 := by
    have := eq_c (tN hl2) Int32.toInt_zero q
    omega
  rw [and_pow, bs_bit] at z
  simpa [hk] using z
theorem bsb_1 {P : Nat → Bool} {n k : Nat} (q : ¬ nI (bs P n &&& 2 ^ k) = 0) : P k = true := by
  apply Classical.byContradiction
  intro e
  apply q
  have z : bs P n &&& 2 ^ k = 0 := by rw [and_pow, bs_bit, Bool.eq_false_iff.mpr e, Bool.and_false]
  rw [z]; rfl
theorem nb_n {x : Nat} (h : x ≤ 1) : narrow .boolean (.int (nI x)) = .int (nI x) := by
  have : x = 0 ∨ x = 1 := by omega
  rcases this with rfl | rfl <;> rfl
theorem nb_f {x : Nat} (h : x ≤ 1) : fits .boolean (.int (nI x)) = true := by
  have : x = 0 ∨ x = 1 := by omega
  rcases this with rfl | rfl <;> rfl
def adX (R : RT) (k f o : Nat) : RT := if R 0 0 < 10 then adF R k f o else R
theorem adX_t {R : RT} {k f o : Nat} (h : R 0 0 < 10) : adX R k f o = adF R k f o := if_pos h
theorem adX_f {R : RT} {k f o : Nat} (h : ¬ R 0 0 < 10) : adX R k f o = R := if_neg h
section CPY
variable {p : Program} {l : Launch} {e : Env} {R : Room} {s : State} {m : MethodId} {args : Array Value} {below : List Frame} {meth : Method} {c : Code} {H : Heap} {locs : List Loc} {cells slots : Nat} {Q : State → Prop}
variable {cc : ByteArray} {pc nL : Nat} {ls : Array Slot} {rest : List Value} {own : String} {ret : Option FieldType} {G : GT} {A : Nat → Prop} {w w0 : va_W} {a : Nat} {lv : List (Nat × Value)}
theorem m_cpy (C : Cx p s m args meth c cc nL own ret G) (hw : Wd G A s w H locs) (q0 q1 : Nat) {a0 n : Nat} {f g : Nat → Int32} (h0 : w[q0]? = some (a0, aI G n f)) (h1 : w[q1]? = some (a, aI G n g)) {index : Nat} (hl : Cond.methodLink own index arraycopyName ∈ TB) (hsz : ls.size = nL) {k : Int32} (hk : k = nI n) (hn : n < 2147483648) (hf : 1 ≤ R.frames)
    (hlo : (rest.map fun v => v.category).sum + (nativeFrameWords "java/lang/System" "arraycopy" 5 + 11) ≤ R.locals) (hdg : decode cc pc = .ok (.invokestatic index, 3))
    (kk : ∀ (H1 : Heap) (locs1 : List Loc), Wd G A s (w.set q1 (a, aI G n f)) H1 locs1 → W p l e R s m args below meth c H1 locs1 cells slots Q (F0 m (pc + 3) ls rest)) : W p l e R s m args below meth c H locs cells slots Q (F0 m pc ls (.int k :: .int (nI 0) :: .ref a :: .int (nI 0) :: .ref a0 :: rest)) := by
  obtain ⟨hx, hb, hml, hown, hts, -, -, hK⟩ := C
  subst hk
  have e0 : (nI 0).toNatClampNeg = 0 := nI_clamp (by decide)
  have en : (nI n).toNatClampNeg = n := nI_clamp hn
  have hq : q1 < w.length := (List.getElem?_eq_some_iff.mp h1).1
  refine va_copyi hx hb (hml.trans hsz.symm) hown (hts _ hl) (hts _ cp_nat) (hts _ cp_stat) (hts _ cp_init) hK hw.1 hw.2.1 hw.2.2 q0 q1 0 0 h0 h1 rfl rfl rfl (by decide) (by decide) ?_ (by rw [e0, en]; omega) (by rw [e0, en]; omega) (fun i _ => rfl) hf hlo hdg (fun H1 locs1 x1 x2 x3 => ?_)
  · intro z
    have := Int32.lt_iff_toInt_lt.mp z
    rw [tN hn] at this
    have z0 : (0 : Int32).toInt = 0 := rfl
    omega
  · rw [e0, en] at x1 x2
    have hw1 : Wd G A s (w.set q1 (a, aI G n (va_cpy f g 0 0 n))) H1 locs1 := ⟨x1, x2, x3⟩
    have hw2 := wd_arr hw1 q1 (List.getElem?_set_self hq) f (fun j hj => by unfold va_cpy; rw [if_pos ⟨Nat.zero_le _, by omega⟩]; congr 1; omega)
    rw [List.set_set] at hw2
    exact kk _ _ hw2
end CPY
set_option maxRecDepth 100000 in
set_option maxHeartbeats 4000000 in
theorem kX0_bottomOf (l : Launch) (G : GT) (so : Nat) (ak : Nat) (af : Nat) (ab : Nat) (aa : Nat) (mi : Nat) (R : RT) (a : Nat) (hR : OK R) (ha : a < R 0 0) : Ct l yX0_bottomOf cX0_bottomOf 4 (some .int) 1 21 [.ref so, .int (nI a)] G [(so, .inr (0, [.int (nI (sN R)), .int (nI mi), .int (nI (sF R)), .int (nI (sS R)), .int (nI (sL R)), .ref ak, .ref af, .ref ab, .ref aa])), (ak, aI G 10 (sK R)), (af, aI G 10 (sG R)), (ab, aI G 10 (sO R)), (aa, aI G 10 (sA R))] (QI G [(so, .inr (0, [.int (nI (sN R)), .int (nI mi), .int (nI (sF R)), .int (nI (sS R)), .int (nI (sL R)), .ref ak, .ref af, .ref ab, .ref aa])), (ak, aI G 10 (sK R)), (af, aI G 10 (sG R)), (ab, aI G 10 (sO R)), (aa, aI G 10 (sA R))] (fun (r : Int32) (u : Unit) => r = nI (bot R 11 a)) (fun u => [(so, .inr (0, [.int (nI (sN R)), .int (nI mi), .int (nI (sF R)), .int (nI (sS R)), .int (nI (sL R)), .ref ak, .ref af, .ref ab, .ref aa])), (ak, aI G 10 (sK R)), (af, aI G 10 (sG R)), (ab, aI G 10 (sO R)), (aa, aI G 10 (sA R))])) := by
  refine en (by decide +kernel) (Nat.le_of_ble_eq_true rfl) ?_
  intro p e s m below meth c ls H locs C hl hw
  have xx := C.1
  have xb := C.2.1
  have hw : Wd G (fA [(so, .inr (0, [.int (nI (sN R)), .int (nI mi), .int (nI (sF R)), .int (nI (sS R)), .int (nI (sL R)), .ref ak, .ref af, .ref ab, .ref aa])), (ak, aI G 10 (sK R)), (af, aI G 10 (sG R)), (ab, aI G 10 (sO R)), (aa, aI G 10 (sA R))]) s [(so, .inr (0, [.int (nI (sN R)), .int (nI mi), .int (nI (sF R)), .int (nI (sS R)), .int (nI (sL R)), .ref ak, .ref af, .ref ab, .ref aa])), (ak, aI G 10 (sK R)), (af, aI G 10 (sG R)), (ab, aI G 10 (sO R)), (aa, aI G 10 (sA R))] H locs := hw
  have hl : lv_has ls 4 [(0, .ref so), (1, .int (nI a))] := hl
  obtain ⟨hn, hf0, hpr, hA⟩ := id hR
  refine lv_iload_n xx xb dX0_bottomOf_0 rfl (lv_at hl 1 rfl) ?_
  refine lv_istore_n (lv' := [(2, .int (nI a)), (0, .ref so), (1, .int (nI a))]) xx xb dX0_bottomOf_1 rfl hl (by decide) rfl (fun ls hl => ?_)
  refine lv_iconst (v := nI 0) xx xb dX0_bottomOf_2 (by decide) ?_
  refine lv_istore_n (lv' := [(3, .int (nI 0)), (2, .int (nI a)), (0, .ref so), (1, .int (nI a))]) xx xb dX0_bottomOf_3 rfl hl (by decide) rfl (fun ls hl => ?_)
  have L_4 : ∀ (fu : Nat) (u : Nat) (i : Nat) (f : Nat) (H : Heap) (locs : List Loc) (ls : Array Slot), f < fu → (u < R 0 0) → (u + 1 ≤ f) → (f + i = 11) → (bot R f u = bot R 11 a) → Wd G (fA [(so, .inr (0, [.int (nI (sN R)), .int (nI mi), .int (nI (sF R)), .int (nI (sS R)), .int (nI (sL R)), .ref ak, .ref af, .ref ab, .ref aa])), (ak, aI G 10 (sK R)), (af, aI G 10 (sG R)), (ab, aI G 10 (sO R)), (aa, aI G 10 (sA R))]) s [(so, .inr (0, [.int (nI (sN R)), .int (nI mi), .int (nI (sF R)), .int (nI (sS R)), .int (nI (sL R)), .ref ak, .ref af, .ref ab, .ref aa])), (ak, aI G 10 (sK R)), (af, aI G 10 (sG R)), (ab, aI G 10 (sO R)), (aa, aI G 10 (sA R))] H locs → lv_has ls 4 [(0, .ref so), (2, .int (nI u)), (3, .int (nI i))] → W p l e ({ frames := 1, cells := 0, slots := 0, locals := 21 }) s m (([.ref so, .int (nI a)] : List Value).toArray) below meth c H locs 0 0 (MQ below (QI G [(so, .inr (0, [.int (nI (sN R)), .int (nI mi), .int (nI (sF R)), .int (nI (sS R)), .int (nI (sL R)), .ref ak, .ref af, .ref ab, .ref aa])), (ak, aI G 10 (sK R)), (af, aI G 10 (sG R)), (ab, aI G 10 (sO R)), (aa, aI G 10 (sA R))] (fun (r : Int32) (u : Unit) => r = nI (bot R 11 a)) (fun u => [(so, .inr (0, [.int (nI (sN R)), .int (nI mi), .int (nI (sF R)), .int (nI (sS R)), .int (nI (sL R)), .ref ak, .ref af, .ref ab, .ref aa])), (ak, aI G 10 (sK R)), (af, aI G 10 (sG R)), (ab, aI G 10 (sO R)), (aa, aI G 10 (sA R))])) (([.ref so, .int (nI a)] : List Value).toArray) s 0 0 (fA [(so, .inr (0, [.int (nI (sN R)), .int (nI mi), .int (nI (sF R)), .int (nI (sS R)), .int (nI (sL R)), .ref ak, .ref af, .ref ab, .ref aa])), (ak, aI G 10 (sK R)), (af, aI G 10 (sG R)), (ab, aI G 10 (sO R)), (aa, aI G 10 (sA R))])) (F0 m 4 ls []) := by
    intro fu
    induction fu with
    | zero => intro u i f H locs ls hfu; exact absurd hfu (Nat.not_lt_zero _)
    | succ fu ih_4 =>
      intro u i f H locs ls hfu hu hf hfi hb hw hl
      refine lv_iload_n xx xb dX0_bottomOf_4 rfl (lv_at hl 2 rfl) ?_
      refine lv_bipush (v := nI 10) xx xb dX0_bottomOf_5 (by decide) ?_
      refine lv_icmp_ge (tgt := 44) xx xb dX0_bottomOf_7 (by decide) (fun c_7 => ?_) (fun c_7 => ?_)
      · skip
        have c_7 := le_c (tN (by omega)) (tN (by omega)) c_7
        refine lv_iload_n xx xb dX0_bottomOf_44 rfl (lv_at hl 1 rfl) ?_
        exact rt_i C hw () (congrArg nI (by first | (have e := onZ_10 (by omega) hn c_28; rw [← hb, bot_0 (by omega)]; done) | (have e := (hA u hu).2.2; rw [← hb, bot_0 (by omega)]; done))) rfl dX0_bottomOf_45
      · skip
        have c_7 := nle_c (tN (by omega)) (tN (by omega)) c_7
        refine lv_aload_n xx xb dX0_bottomOf_10 rfl (lv_at hl 0 rfl) ?_
        refine lv_iload_n xx xb dX0_bottomOf_11 rfl (lv_at hl 1 rfl) ?_
        have hM := kX0_isThing l G so ak af ab aa mi R (nI u) ((u : Nat) : Int) (tN (by omega)) (by first | assumption | omega)
        refine cv_i C hw hM yvX0_isThing ml_X0_73 0 rfl rfl rfl [0, 1, 2, 3, 4] rfl rfl (fun _ => (rfl : ([so, ak, af, ab, aa] : List Nat) = [so, ak, af, ab, aa])) (by decide) ⟨Nat.zero_le _, Nat.zero_le _⟩ hl.1 rfl (Nat.le_of_ble_eq_true rfl) dX0_bottomOf_12 (fun r _ H locs hr hw => ?_)
        have hw : Wd G (fA [(so, .inr (0, [.int (nI (sN R)), .int (nI mi), .int (nI (sF R)), .int (nI (sS R)), .int (nI (sL R)), .ref ak, .ref af, .ref ab, .ref aa])), (ak, aI G 10 (sK R)), (af, aI G 10 (sG R)), (ab, aI G 10 (sO R)), (aa, aI G 10 (sA R))]) s [(so, .inr (0, [.int (nI (sN R)), .int (nI mi), .int (nI (sF R)), .int (nI (sS R)), .int (nI (sL R)), .ref ak, .ref af, .ref ab, .ref aa])), (ak, aI G 10 (sK R)), (af, aI G 10 (sG R)), (ab, aI G 10 (sO R)), (aa, aI G 10 (sA R))] H locs := hw
        subst hr
        refine lv_if_eq (tgt := 44) xx xb dX0_bottomOf_15 (by decide) (fun c_15 => ?_) (fun c_15 => ?_)
        · skip
          have c_15 := b0_c c_15
          exact absurd (And.intro (by omega) (by omega)) c_15
        · skip
          have c_15 := b1_c c_15
          refine lv_aload_n xx xb dX0_bottomOf_18 rfl (lv_at hl 0 rfl) ?_
          refine lv_aload_n xx xb dX0_bottomOf_19 rfl (lv_at hl 0 rfl) ?_
          refine m_get C hw 0 rfl fk_X0_22 rfl dX0_bottomOf_20 ?_
          refine lv_iload_n xx xb dX0_bottomOf_23 rfl (lv_at hl 1 rfl) ?_
          refine m_ald C hw 3 rfl u rfl (by omega) (by decide) dX0_bottomOf_24 ?_
          refine re_i (onI (R 3 u)) rfl ?_
          obtain ⟨p1, p2, p3, p4, p5⟩ := hA u (by omega)
          have hM := kX0_isThing l G so ak af ab aa mi R (onI (R 3 u)) (onZ (R 3 u)) (onI_z (by omega)) (by first | assumption | omega)
          refine cv_i C hw hM yvX0_isThing ml_X0_73 0 rfl rfl rfl [0, 1, 2, 3, 4] rfl rfl (fun _ => (rfl : ([so, ak, af, ab, aa] : List Nat) = [so, ak, af, ab, aa])) (by decide) ⟨Nat.zero_le _, Nat.zero_le _⟩ hl.1 rfl (Nat.le_of_ble_eq_true rfl) dX0_bottomOf_25 (fun r _ H locs hr hw => ?_)
          have hw : Wd G (fA [(so, .inr (0, [.int (nI (sN R)), .int (nI mi), .int (nI (sF R)), .int (nI (sS R)), .int (nI (sL R)), .ref ak, .ref af, .ref ab, .ref aa])), (ak, aI G 10 (sK R)), (af, aI G 10 (sG R)), (ab, aI G 10 (sO R)), (aa, aI G 10 (sA R))]) s [(so, .inr (0, [.int (nI (sN R)), .int (nI mi), .int (nI (sF R)), .int (nI (sS R)), .int (nI (sL R)), .ref ak, .ref af, .ref ab, .ref aa])), (ak, aI G 10 (sK R)), (af, aI G 10 (sG R)), (ab, aI G 10 (sO R)), (aa, aI G 10 (sA R))] H locs := hw
          subst hr
          refine lv_if_eq (tgt := 44) xx xb dX0_bottomOf_28 (by decide) (fun c_28 => ?_) (fun c_28 => ?_)
          · skip
            have c_28 := b0_c c_28
            refine lv_iload_n xx xb dX0_bottomOf_44 rfl (lv_at hl 1 rfl) ?_
            exact rt_i C hw () (congrArg nI (by first | (have e := onZ_10 (by omega) hn c_28; rw [← hb, bot_0 (by omega)]; done) | (have e := (hA u hu).2.2; rw [← hb, bot_0 (by omega)]; done))) rfl dX0_bottomOf_45
          · skip
            have c_28 := b1_c c_28
            have hz := onZ_y c_28.1
            obtain ⟨f1, rfl⟩ : ∃ z, f = z + 1 := ⟨f - 1, by omega⟩
            have hb2 := bot_s (R := R) (f := f1) hz.1
            refine lv_aload_n xx xb dX0_bottomOf_31 rfl (lv_at hl 0 rfl) ?_
            refine m_get C hw 0 rfl fk_X0_22 rfl dX0_bottomOf_32 ?_
            refine lv_iload_n xx xb dX0_bottomOf_35 rfl (lv_at hl 1 rfl) ?_
            refine m_ald C hw 3 rfl u rfl (by omega) (by decide) dX0_bottomOf_36 ?_
            refine re_i (onI (R 3 u)) rfl ?_
            refine re_i (nI (R 3 u)) (onI_lt (by omega)) ?_
            refine lv_istore_n (lv' := [(2, .int (nI (R 3 u))), (0, .ref so), (3, .int (nI i))]) xx xb dX0_bottomOf_37 rfl hl (by decide) rfl (fun ls hl => ?_)
            refine lv_iinc (v := nI (i + 1)) (lv' := [(3, .int (nI (i + 1))), (2, .int (nI (R 3 u))), (0, .ref so)]) xx xb dX0_bottomOf_38 hl (k := 2) rfl (nI_add _ 1) (by decide) rfl (fun ls hl => ?_)
            refine lv_goto (tgt := 4) xx xb dX0_bottomOf_41 (by decide) ?_
            exact ih_4 (R 3 u) (i + 1) f1 H _ ls (by omega) (by omega) (by omega) (by omega) (by rw [← hb, hb2]) hw (lv_sub hl [2, 1, 0] rfl)
  exact L_4 (_ + 1) a 0 11 H _ ls (Nat.lt_succ_self _) ha (by omega) rfl rfl hw (lv_sub hl [2, 1, 0] rfl)
set_option maxRecDepth 100000 in
set_option maxHeartbeats 4000000 in
theorem kX0_allAbove (l : Launch) (G : GT) (so : Nat) (ak : Nat) (af : Nat) (ab : Nat) (aa : Nat) (mi : Nat) (R : RT) (a : Nat) (hR : OK R) (ha : a < R 0 0) : Ct l yX0_allAbove cX0_allAbove 6 (some .int) 1 21 [.ref so, .int (nI a)] G [(so, .inr (0, [.int (nI (sN R)), .int (nI mi), .int (nI (sF R)), .int (nI (sS R)), .int (nI (sL R)), .ref ak, .ref af, .ref ab, .ref aa])), (ak, aI G 10 (sK R)), (af, aI G 10 (sG R)), (ab, aI G 10 (sO R)), (aa, aI G 10 (sA R))] (QI G [(so, .inr (0, [.int (nI (sN R)), .int (nI mi), .int (nI (sF R)), .int (nI (sS R)), .int (nI (sL R)), .ref ak, .ref af, .ref ab, .ref aa])), (ak, aI G 10 (sK R)), (af, aI G 10 (sG R)), (ab, aI G 10 (sO R)), (aa, aI G 10 (sA R))] (fun (r : Int32) (u : Unit) => r = nI (bs (abvP R a) (R 0 0))) (fun u => [(so, .inr (0, [.int (nI (sN R)), .int (nI mi), .int (nI (sF R)), .int (nI (sS R)), .int (nI (sL R)), .ref ak, .ref af, .ref ab, .ref aa])), (ak, aI G 10 (sK R)), (af, aI G 10 (sG R)), (ab, aI G 10 (sO R)), (aa, aI G 10 (sA R))])) := by
  refine en (by decide +kernel) (Nat.le_of_ble_eq_true rfl) ?_
  intro p e s m below meth c ls H locs C hl hw
  have xx := C.1
  have xb := C.2.1
  have hw : Wd G (fA [(so, .inr (0, [.int (nI (sN R)), .int (nI mi), .int (nI (sF R)), .int (nI (sS R)), .int (nI (sL R)), .ref ak, .ref af, .ref ab, .ref aa])), (ak, aI G 10 (sK R)), (af, aI G 10 (sG R)), (ab, aI G 10 (sO R)), (aa, aI G 10 (sA R))]) s [(so, .inr (0, [.int (nI (sN R)), .int (nI mi), .int (nI (sF R)), .int (nI (sS R)), .int (nI (sL R)), .ref ak, .ref af, .ref ab, .ref aa])), (ak, aI G 10 (sK R)), (af, aI G 10 (sG R)), (ab, aI G 10 (sO R)), (aa, aI G 10 (sA R))] H locs := hw
  have hl : lv_has ls 6 [(0, .ref so), (1, .int (nI a))] := hl
  obtain ⟨hn, hf0, hpr, hA⟩ := id hR
  refine lv_iconst (v := nI 0) xx xb dX0_allAbove_0 (by decide) ?_
  refine lv_istore_n (lv' := [(2, .int (nI 0)), (0, .ref so), (1, .int (nI a))]) xx xb dX0_allAbove_1 rfl hl (by decide) rfl (fun ls hl => ?_)
  refine lv_iconst (v := nI 0) xx xb dX0_allAbove_2 (by decide) ?_
  refine lv_istore_n (lv' := [(3, .int (nI 0)), (2, .int (nI 0)), (0, .ref so), (1, .int (nI a))]) xx xb dX0_allAbove_3 rfl hl (by decide) rfl (fun ls hl => ?_)
  have hl : lv_has ls 6 [(3, .int (nI 0)), (2, .int (nI (bs (abvP R a) 0))), (0, .ref so), (1, .int (nI a))] := hl
  have L_4 : ∀ (fu : Nat) (i : Nat) (H : Heap) (locs : List Loc) (ls : Array Slot), 10 - i < fu → (i ≤ R 0 0) → Wd G (fA [(so, .inr (0, [.int (nI (sN R)), .int (nI mi), .int (nI (sF R)), .int (nI (sS R)), .int (nI (sL R)), .ref ak, .ref af, .ref ab, .ref aa])), (ak, aI G 10 (sK R)), (af, aI G 10 (sG R)), (ab, aI G 10 (sO R)), (aa, aI G 10 (sA R))]) s [(so, .inr (0, [.int (nI (sN R)), .int (nI mi), .int (nI (sF R)), .int (nI (sS R)), .int (nI (sL R)), .ref ak, .ref af, .ref ab, .ref aa])), (ak, aI G 10 (sK R)), (af, aI G 10 (sG R)), (ab, aI G 10 (sO R)), (aa, aI G 10 (sA R))] H locs → lv_has ls 6 [(0, .ref so), (1, .int (nI a)), (2, .int (nI (bs (abvP R a) i))), (3, .int (nI i))] → W p l e ({ frames := 1, cells := 0, slots := 0, locals := 21 }) s m (([.ref so, .int (nI a)] : List Value).toArray) below meth c H locs 0 0 (MQ below (QI G [(so, .inr (0, [.int (nI (sN R)), .int (nI mi), .int (nI (sF R)), .int (nI (sS R)), .int (nI (sL R)), .ref ak, .ref af, .ref ab, .ref aa])), (ak, aI G 10 (sK R)), (af, aI G 10 (sG R)), (ab, aI G 10 (sO R)), (aa, aI G 10 (sA R))] (fun (r : Int32) (u : Unit) => r = nI (bs (abvP R a) (R 0 0))) (fun u => [(so, .inr (0, [.int (nI (sN R)), .int (nI mi), .int (nI (sF R)), .int (nI (sS R)), .int (nI (sL R)), .ref ak, .ref af, .ref ab, .ref aa])), (ak, aI G 10 (sK R)), (af, aI G 10 (sG R)), (ab, aI G 10 (sO R)), (aa, aI G 10 (sA R))])) (([.ref so, .int (nI a)] : List Value).toArray) s 0 0 (fA [(so, .inr (0, [.int (nI (sN R)), .int (nI mi), .int (nI (sF R)), .int (nI (sS R)), .int (nI (sL R)), .ref ak, .ref af, .ref ab, .ref aa])), (ak, aI G 10 (sK R)), (af, aI G 10 (sG R)), (ab, aI G 10 (sO R)), (aa, aI G 10 (sA R))])) (F0 m 4 ls []) := by
    intro fu
    induction fu with
    | zero => intro i H locs ls hfu; exact absurd hfu (Nat.not_lt_zero _)
    | succ fu ih_4 =>
      intro i H locs ls hfu hi hw hl
      refine lv_iload_n xx xb dX0_allAbove_4 rfl (lv_at hl 3 rfl) ?_
      refine lv_aload_n xx xb dX0_allAbove_5 rfl (lv_at hl 0 rfl) ?_
      refine m_get C hw 0 rfl fk_X0_28 rfl dX0_allAbove_6 ?_
      refine re_i (nI (R 0 0)) rfl ?_
      refine lv_icmp_ge (tgt := 84) xx xb dX0_allAbove_9 (by decide) (fun c_9 => ?_) (fun c_9 => ?_)
      · skip
        have c_9 := le_c (tN (by omega)) (tN (by omega)) c_9
        refine lv_iload_n xx xb dX0_allAbove_84 rfl (lv_at hl 2 rfl) ?_
        exact rt_i C hw () (by rw [show R 0 0 = i by omega]) rfl dX0_allAbove_85
      · skip
        have c_9 := nle_c (tN (by omega)) (tN (by omega)) c_9
        obtain ⟨q1, q2, q3, q4, q5⟩ := hA i (by omega)
        have hbl := bs_lt31 (abvP R a) (n := i) (by omega)
        refine lv_aload_n xx xb dX0_allAbove_12 rfl (lv_at hl 0 rfl) ?_
        refine m_get C hw 0 rfl fk_X0_22 rfl dX0_allAbove_13 ?_
        refine lv_iload_n xx xb dX0_allAbove_16 rfl (lv_at hl 3 rfl) ?_
        refine m_ald C hw 3 rfl i rfl (by omega) (by decide) dX0_allAbove_17 ?_
        refine re_i (onI (R 3 i)) rfl ?_
        refine lv_iload_n xx xb dX0_allAbove_18 rfl (lv_at hl 1 rfl) ?_
        refine lv_icmp_ne (tgt := 26) xx xb dX0_allAbove_19 (by decide) (fun c_19 => ?_) (fun c_19 => ?_)
        · skip
          have c_19 := fun q => c_19 (((onI_inj (f := a) (by omega) (by omega)).mpr q).trans (onI_lt (by omega)))
          refine lv_iconst (v := nI 0) xx xb dX0_allAbove_26 (by decide) ?_
          refine lv_istore (lv' := [(4, .int (nI 0)), (0, .ref so), (1, .int (nI a)), (2, .int (nI (bs (abvP R a) i))), (3, .int (nI i))]) xx xb dX0_allAbove_27 hl (by decide) rfl (fun ls hl => ?_)
          refine lv_aload_n xx xb dX0_allAbove_29 rfl (lv_at hl 1 rfl) ?_
          refine lv_aload_n xx xb dX0_allAbove_30 rfl (lv_at hl 1 rfl) ?_
          refine m_get C hw 0 rfl fk_X0_22 rfl dX0_allAbove_31 ?_
          refine lv_iload_n xx xb dX0_allAbove_34 rfl (lv_at hl 4 rfl) ?_
          refine m_ald C hw 3 rfl i rfl (by omega) (by decide) dX0_allAbove_35 ?_
          refine re_i (onI (R 3 i)) rfl ?_
          have hM := kX0_isThing l G so ak af ab aa mi R (onI (R 3 i)) (onZ (R 3 i)) (onI_z (by omega)) (by first | assumption | omega)
          refine cv_i C hw hM yvX0_isThing ml_X0_73 0 rfl rfl rfl [0, 1, 2, 3, 4] rfl rfl (fun _ => (rfl : ([so, ak, af, ab, aa] : List Nat) = [so, ak, af, ab, aa])) (by decide) ⟨Nat.zero_le _, Nat.zero_le _⟩ hl.1 rfl (Nat.le_of_ble_eq_true rfl) dX0_allAbove_36 (fun r _ H locs hr hw => ?_)
          have hw : Wd G (fA [(so, .inr (0, [.int (nI (sN R)), .int (nI mi), .int (nI (sF R)), .int (nI (sS R)), .int (nI (sL R)), .ref ak, .ref af, .ref ab, .ref aa])), (ak, aI G 10 (sK R)), (af, aI G 10 (sG R)), (ab, aI G 10 (sO R)), (aa, aI G 10 (sA R))]) s [(so, .inr (0, [.int (nI (sN R)), .int (nI mi), .int (nI (sF R)), .int (nI (sS R)), .int (nI (sL R)), .ref ak, .ref af, .ref ab, .ref aa])), (ak, aI G 10 (sK R)), (af, aI G 10 (sG R)), (ab, aI G 10 (sO R)), (aa, aI G 10 (sA R))] H locs := hw
          subst hr
          refine lv_if_eq (tgt := 59) xx xb dX0_allAbove_39 (by decide) (fun c_39 => ?_) (fun c_39 => ?_)
          · skip
            have c_39 := b0_c c_39
            refine lv_iconst (v := nI 0) xx xb dX0_allAbove_59 (by decide) ?_
            refine lv_istore (lv' := [(5, .int (nI 0)), (4, .int (nI 0)), (0, .ref so), (1, .int (nI a)), (2, .int (nI (bs (abvP R a) i))), (3, .int (nI i))]) xx xb dX0_allAbove_60 hl (by decide) rfl (fun ls hl => ?_)
            refine lv_iload xx xb dX0_allAbove_62 (lv_at hl 1 rfl) ?_
            refine lv_if_ne (tgt := 72) xx xb dX0_allAbove_64 (by decide) (fun c_64 => ?_) (fun c_64 => ?_)
            · skip
              exact absurd (by decide) c_64
            · skip
              refine lv_iload xx xb dX0_allAbove_67 (lv_at hl 0 rfl) ?_
              refine lv_if_eq (tgt := 78) xx xb dX0_allAbove_69 (by decide) (fun c_69 => ?_) (fun c_69 => ?_)
              · skip
                have hl : lv_has ls 6 [(5, .int (nI 0)), (4, .int (nI 0)), (0, .ref so), (1, .int (nI a)), (2, .int (nI (bs (abvP R a) (i + 1)))), (3, .int (nI i))] := by rw [← bs_orF (abv_f hR ha (by omega) c_19 (by first | exact Or.inr c_52 | exact Or.inl (onZ_10 (by omega) hn c_39))), Nat.or_zero]; exact hl
                refine lv_iinc (v := nI (i + 1)) (lv' := [(3, .int (nI (i + 1))), (5, .int (nI 0)), (4, .int (nI 0)), (0, .ref so), (1, .int (nI a)), (2, .int (nI (bs (abvP R a) (i + 1))))]) xx xb dX0_allAbove_78 hl (k := 5) rfl (nI_add _ 1) (by decide) rfl (fun ls hl => ?_)
                refine lv_goto (tgt := 4) xx xb dX0_allAbove_81 (by decide) ?_
                exact ih_4 (i + 1) H _ ls (by omega) (by omega) hw (lv_sub hl [3, 4, 5, 0] rfl)
              · skip
                exact absurd (by decide) c_69
          · skip
            have c_39 := b1_c c_39
            have hz := onZ_y c_39.1
            refine lv_iload_n xx xb dX0_allAbove_42 rfl (lv_at hl 3 rfl) ?_
            refine lv_iconst (v := nI 1) xx xb dX0_allAbove_43 (by decide) ?_
            refine lv_aload_n xx xb dX0_allAbove_44 rfl (lv_at hl 1 rfl) ?_
            refine m_get C hw 0 rfl fk_X0_22 rfl dX0_allAbove_45 ?_
            refine lv_iload_n xx xb dX0_allAbove_48 rfl (lv_at hl 4 rfl) ?_
            refine m_ald C hw 3 rfl i rfl (by omega) (by decide) dX0_allAbove_49 ?_
            refine re_i (onI (R 3 i)) rfl ?_
            refine re_i (nI (R 3 i)) (onI_lt (by omega)) ?_
            refine lv_ishl xx xb dX0_allAbove_50 ?_
            refine re_i (nI (2 ^ (R 3 i))) (shl1 (by omega)) ?_
            refine lv_iand xx xb dX0_allAbove_51 ?_
            refine re_i (nI ((bs (abvP R a) i) &&& (2 ^ (R 3 i)))) (and_N _ _) ?_
            refine lv_if_eq (tgt := 59) xx xb dX0_allAbove_52 (by decide) (fun c_52 => ?_) (fun c_52 => ?_)
            · skip
              have c_52 := bsb_0 (by omega) (by omega) c_52
              refine lv_iconst (v := nI 0) xx xb dX0_allAbove_59 (by decide) ?_
              refine lv_istore (lv' := [(5, .int (nI 0)), (4, .int (nI 0)), (0, .ref so), (1, .int (nI a)), (2, .int (nI (bs (abvP R a) i))), (3, .int (nI i))]) xx xb dX0_allAbove_60 hl (by decide) rfl (fun ls hl => ?_)
              refine lv_iload xx xb dX0_allAbove_62 (lv_at hl 1 rfl) ?_
              refine lv_if_ne (tgt := 72) xx xb dX0_allAbove_64 (by decide) (fun c_64 => ?_) (fun c_64 => ?_)
              · skip
                exact absurd (by decide) c_64
              · skip
                refine lv_iload xx xb dX0_allAbove_67 (lv_at hl 0 rfl) ?_
                refine lv_if_eq (tgt := 78) xx xb dX0_allAbove_69 (by decide) (fun c_69 => ?_) (fun c_69 => ?_)
                · skip
                  have hl : lv_has ls 6 [(5, .int (nI 0)), (4, .int (nI 0)), (0, .ref so), (1, .int (nI a)), (2, .int (nI (bs (abvP R a) (i + 1)))), (3, .int (nI i))] := by rw [← bs_orF (abv_f hR ha (by omega) c_19 (by first | exact Or.inr c_52 | exact Or.inl (onZ_10 (by omega) hn c_39))), Nat.or_zero]; exact hl
                  refine lv_iinc (v := nI (i + 1)) (lv' := [(3, .int (nI (i + 1))), (5, .int (nI 0)), (4, .int (nI 0)), (0, .ref so), (1, .int (nI a)), (2, .int (nI (bs (abvP R a) (i + 1))))]) xx xb dX0_allAbove_78 hl (k := 5) rfl (nI_add _ 1) (by decide) rfl (fun ls hl => ?_)
                  refine lv_goto (tgt := 4) xx xb dX0_allAbove_81 (by decide) ?_
                  exact ih_4 (i + 1) H _ ls (by omega) (by omega) hw (lv_sub hl [3, 4, 5, 0] rfl)
                · skip
                  exact absurd (by decide) c_69
            · skip
              have c_52 := bsb_1 c_52
              refine lv_iconst (v := nI 1) xx xb dX0_allAbove_55 (by decide) ?_
              refine lv_goto (tgt := 60) xx xb dX0_allAbove_56 (by decide) ?_
              refine lv_istore (lv' := [(5, .int (nI 1)), (4, .int (nI 0)), (0, .ref so), (1, .int (nI a)), (2, .int (nI (bs (abvP R a) i))), (3, .int (nI i))]) xx xb dX0_allAbove_60 hl (by decide) rfl (fun ls hl => ?_)
              refine lv_iload xx xb dX0_allAbove_62 (lv_at hl 1 rfl) ?_
              refine lv_if_ne (tgt := 72) xx xb dX0_allAbove_64 (by decide) (fun c_64 => ?_) (fun c_64 => ?_)
              · skip
                exact absurd (by decide) c_64
              · skip
                refine lv_iload xx xb dX0_allAbove_67 (lv_at hl 0 rfl) ?_
                refine lv_if_eq (tgt := 78) xx xb dX0_allAbove_69 (by decide) (fun c_69 => ?_) (fun c_69 => ?_)
                · skip
                  exact absurd c_69 (by decide)
                · skip
                  refine lv_iload_n xx xb dX0_allAbove_72 rfl (lv_at hl 4 rfl) ?_
                  refine lv_iconst (v := nI 1) xx xb dX0_allAbove_73 (by decide) ?_
                  refine lv_iload_n xx xb dX0_allAbove_74 rfl (lv_at hl 5 rfl) ?_
                  refine lv_ishl xx xb dX0_allAbove_75 ?_
                  refine re_i (nI (2 ^ i)) (shl1 (by omega)) ?_
                  refine lv_ior xx xb dX0_allAbove_76 ?_
                  refine re_i (nI ((bs (abvP R a) i) ||| (2 ^ i))) (or_N _ _) ?_
                  refine re_i (nI (bs (abvP R a) (i + 1))) (congrArg nI (bs_orT (abv_t hR ha (by omega) (by first | exact Or.inl c_19 | exact Or.inr ⟨hz.1, c_52⟩)))) ?_
                  refine lv_istore_n (lv' := [(2, .int (nI (bs (abvP R a) (i + 1)))), (5, .int (nI 1)), (4, .int (nI 0)), (0, .ref so), (1, .int (nI a)), (3, .int (nI i))]) xx xb dX0_allAbove_77 rfl hl (by decide) rfl (fun ls hl => ?_)
                  refine lv_iinc (v := nI (i + 1)) (lv' := [(3, .int (nI (i + 1))), (2, .int (nI (bs (abvP R a) (i + 1)))), (5, .int (nI 1)), (4, .int (nI 0)), (0, .ref so), (1, .int (nI a))]) xx xb dX0_allAbove_78 hl (k := 5) rfl (nI_add _ 1) (by decide) rfl (fun ls hl => ?_)
                  refine lv_goto (tgt := 4) xx xb dX0_allAbove_81 (by decide) ?_
                  exact ih_4 (i + 1) H _ ls (by omega) (by omega) hw (lv_sub hl [4, 5, 1, 0] rfl)
        · skip
          have c_19 := (onI_inj (f := a) (by omega) (by omega)).mp (c_19.trans (onI_lt (by omega)).symm)
          refine lv_iconst (v := nI 1) xx xb dX0_allAbove_22 (by decide) ?_
          refine lv_goto (tgt := 27) xx xb dX0_allAbove_23 (by decide) ?_
          refine lv_istore (lv' := [(4, .int (nI 1)), (0, .ref so), (1, .int (nI a)), (2, .int (nI (bs (abvP R a) i))), (3, .int (nI i))]) xx xb dX0_allAbove_27 hl (by decide) rfl (fun ls hl => ?_)
          refine lv_aload_n xx xb dX0_allAbove_29 rfl (lv_at hl 1 rfl) ?_
          refine lv_aload_n xx xb dX0_allAbove_30 rfl (lv_at hl 1 rfl) ?_
          refine m_get C hw 0 rfl fk_X0_22 rfl dX0_allAbove_31 ?_
          refine lv_iload_n xx xb dX0_allAbove_34 rfl (lv_at hl 4 rfl) ?_
          refine m_ald C hw 3 rfl i rfl (by omega) (by decide) dX0_allAbove_35 ?_
          refine re_i (onI (R 3 i)) rfl ?_
          have hM := kX0_isThing l G so ak af ab aa mi R (onI (R 3 i)) (onZ (R 3 i)) (onI_z (by omega)) (by first | assumption | omega)
          refine cv_i C hw hM yvX0_isThing ml_X0_73 0 rfl rfl rfl [0, 1, 2, 3, 4] rfl rfl (fun _ => (rfl : ([so, ak, af, ab, aa] : List Nat) = [so, ak, af, ab, aa])) (by decide) ⟨Nat.zero_le _, Nat.zero_le _⟩ hl.1 rfl (Nat.le_of_ble_eq_true rfl) dX0_allAbove_36 (fun r _ H locs hr hw => ?_)
          have hw : Wd G (fA [(so, .inr (0, [.int (nI (sN R)), .int (nI mi), .int (nI (sF R)), .int (nI (sS R)), .int (nI (sL R)), .ref ak, .ref af, .ref ab, .ref aa])), (ak, aI G 10 (sK R)), (af, aI G 10 (sG R)), (ab, aI G 10 (sO R)), (aa, aI G 10 (sA R))]) s [(so, .inr (0, [.int (nI (sN R)), .int (nI mi), .int (nI (sF R)), .int (nI (sS R)), .int (nI (sL R)), .ref ak, .ref af, .ref ab, .ref aa])), (ak, aI G 10 (sK R)), (af, aI G 10 (sG R)), (ab, aI G 10 (sO R)), (aa, aI G 10 (sA R))] H locs := hw
          subst hr
          refine lv_if_eq (tgt := 59) xx xb dX0_allAbove_39 (by decide) (fun c_39 => ?_) (fun c_39 => ?_)
          · skip
            have c_39 := b0_c c_39
            refine lv_iconst (v := nI 0) xx xb dX0_allAbove_59 (by decide) ?_
            refine lv_istore (lv' := [(5, .int (nI 0)), (4, .int (nI 1)), (0, .ref so), (1, .int (nI a)), (2, .int (nI (bs (abvP R a) i))), (3, .int (nI i))]) xx xb dX0_allAbove_60 hl (by decide) rfl (fun ls hl => ?_)
            refine lv_iload xx xb dX0_allAbove_62 (lv_at hl 1 rfl) ?_
            refine lv_if_ne (tgt := 72) xx xb dX0_allAbove_64 (by decide) (fun c_64 => ?_) (fun c_64 => ?_)
            · skip
              refine lv_iload_n xx xb dX0_allAbove_72 rfl (lv_at hl 4 rfl) ?_
              refine lv_iconst (v := nI 1) xx xb dX0_allAbove_73 (by decide) ?_
              refine lv_iload_n xx xb dX0_allAbove_74 rfl (lv_at hl 5 rfl) ?_
              refine lv_ishl xx xb dX0_allAbove_75 ?_
              refine re_i (nI (2 ^ i)) (shl1 (by omega)) ?_
              refine lv_ior xx xb dX0_allAbove_76 ?_
              refine re_i (nI ((bs (abvP R a) i) ||| (2 ^ i))) (or_N _ _) ?_
              refine re_i (nI (bs (abvP R a) (i + 1))) (congrArg nI (bs_orT (abv_t hR ha (by omega) (by first | exact Or.inl c_19 | exact Or.inr ⟨hz.1, c_52⟩)))) ?_
              refine lv_istore_n (lv' := [(2, .int (nI (bs (abvP R a) (i + 1)))), (5, .int (nI 0)), (4, .int (nI 1)), (0, .ref so), (1, .int (nI a)), (3, .int (nI i))]) xx xb dX0_allAbove_77 rfl hl (by decide) rfl (fun ls hl => ?_)
              refine lv_iinc (v := nI (i + 1)) (lv' := [(3, .int (nI (i + 1))), (2, .int (nI (bs (abvP R a) (i + 1)))), (5, .int (nI 0)), (4, .int (nI 1)), (0, .ref so), (1, .int (nI a))]) xx xb dX0_allAbove_78 hl (k := 5) rfl (nI_add _ 1) (by decide) rfl (fun ls hl => ?_)
              refine lv_goto (tgt := 4) xx xb dX0_allAbove_81 (by decide) ?_
              exact ih_4 (i + 1) H _ ls (by omega) (by omega) hw (lv_sub hl [4, 5, 1, 0] rfl)
            · skip
              exact absurd c_64 (by decide)
          · skip
            have c_39 := b1_c c_39
            have hz := onZ_y c_39.1
            refine lv_iload_n xx xb dX0_allAbove_42 rfl (lv_at hl 3 rfl) ?_
            refine lv_iconst (v := nI 1) xx xb dX0_allAbove_43 (by decide) ?_
            refine lv_aload_n xx xb dX0_allAbove_44 rfl (lv_at hl 1 rfl) ?_
            refine m_get C hw 0 rfl fk_X0_22 rfl dX0_allAbove_45 ?_
            refine lv_iload_n xx xb dX0_allAbove_48 rfl (lv_at hl 4 rfl) ?_
            refine m_ald C hw 3 rfl i rfl (by omega) (by decide) dX0_allAbove_49 ?_
            refine re_i (onI (R 3 i)) rfl ?_
            refine re_i (nI (R 3 i)) (onI_lt (by omega)) ?_
            refine lv_ishl xx xb dX0_allAbove_50 ?_
            refine re_i (nI (2 ^ (R 3 i))) (shl1 (by omega)) ?_
            refine lv_iand xx xb dX0_allAbove_51 ?_
            refine re_i (nI ((bs (abvP R a) i) &&& (2 ^ (R 3 i)))) (and_N _ _) ?_
            refine lv_if_eq (tgt := 59) xx xb dX0_allAbove_52 (by decide) (fun c_52 => ?_) (fun c_52 => ?_)
            · skip
              have c_52 := bsb_0 (by omega) (by omega) c_52
              refine lv_iconst (v := nI 0) xx xb dX0_allAbove_59 (by decide) ?_
              refine lv_istore (lv' := [(5, .int (nI 0)), (4, .int (nI 1)), (0, .ref so), (1, .int (nI a)), (2, .int (nI (bs (abvP R a) i))), (3, .int (nI i))]) xx xb dX0_allAbove_60 hl (by decide) rfl (fun ls hl => ?_)
              refine lv_iload xx xb dX0_allAbove_62 (lv_at hl 1 rfl) ?_
              refine lv_if_ne (tgt := 72) xx xb dX0_allAbove_64 (by decide) (fun c_64 => ?_) (fun c_64 => ?_)
              · skip
                refine lv_iload_n xx xb dX0_allAbove_72 rfl (lv_at hl 4 rfl) ?_
                refine lv_iconst (v := nI 1) xx xb dX0_allAbove_73 (by decide) ?_
                refine lv_iload_n xx xb dX0_allAbove_74 rfl (lv_at hl 5 rfl) ?_
                refine lv_ishl xx xb dX0_allAbove_75 ?_
                refine re_i (nI (2 ^ i)) (shl1 (by omega)) ?_
                refine lv_ior xx xb dX0_allAbove_76 ?_
                refine re_i (nI ((bs (abvP R a) i) ||| (2 ^ i))) (or_N _ _) ?_
                refine re_i (nI (bs (abvP R a) (i + 1))) (congrArg nI (bs_orT (abv_t hR ha (by omega) (by first | exact Or.inl c_19 | exact Or.inr ⟨hz.1, c_52⟩)))) ?_
                refine lv_istore_n (lv' := [(2, .int (nI (bs (abvP R a) (i + 1)))), (5, .int (nI 0)), (4, .int (nI 1)), (0, .ref so), (1, .int (nI a)), (3, .int (nI i))]) xx xb dX0_allAbove_77 rfl hl (by decide) rfl (fun ls hl => ?_)
                refine lv_iinc (v := nI (i + 1)) (lv' := [(3, .int (nI (i + 1))), (2, .int (nI (bs (abvP R a) (i + 1)))), (5, .int (nI 0)), (4, .int (nI 1)), (0, .ref so), (1, .int (nI a))]) xx xb dX0_allAbove_78 hl (k := 5) rfl (nI_add _ 1) (by decide) rfl (fun ls hl => ?_)
                refine lv_goto (tgt := 4) xx xb dX0_allAbove_81 (by decide) ?_
                exact ih_4 (i + 1) H _ ls (by omega) (by omega) hw (lv_sub hl [4, 5, 1, 0] rfl)
              · skip
                exact absurd c_64 (by decide)
            · skip
              have c_52 := bsb_1 c_52
              refine lv_iconst (v := nI 1) xx xb dX0_allAbove_55 (by decide) ?_
              refine lv_goto (tgt := 60) xx xb dX0_allAbove_56 (by decide) ?_
              refine lv_istore (lv' := [(5, .int (nI 1)), (4, .int (nI 1)), (0, .ref so), (1, .int (nI a)), (2, .int (nI (bs (abvP R a) i))), (3, .int (nI i))]) xx xb dX0_allAbove_60 hl (by decide) rfl (fun ls hl => ?_)
              refine lv_iload xx xb dX0_allAbove_62 (lv_at hl 1 rfl) ?_
              refine lv_if_ne (tgt := 72) xx xb dX0_allAbove_64 (by decide) (fun c_64 => ?_) (fun c_64 => ?_)
              · skip
                refine lv_iload_n xx xb dX0_allAbove_72 rfl (lv_at hl 4 rfl) ?_
                refine lv_iconst (v := nI 1) xx xb dX0_allAbove_73 (by decide) ?_
                refine lv_iload_n xx xb dX0_allAbove_74 rfl (lv_at hl 5 rfl) ?_
                refine lv_ishl xx xb dX0_allAbove_75 ?_
                refine re_i (nI (2 ^ i)) (shl1 (by omega)) ?_
                refine lv_ior xx xb dX0_allAbove_76 ?_
                refine re_i (nI ((bs (abvP R a) i) ||| (2 ^ i))) (or_N _ _) ?_
                refine re_i (nI (bs (abvP R a) (i + 1))) (congrArg nI (bs_orT (abv_t hR ha (by omega) (by first | exact Or.inl c_19 | exact Or.inr ⟨hz.1, c_52⟩)))) ?_
                refine lv_istore_n (lv' := [(2, .int (nI (bs (abvP R a) (i + 1)))), (5, .int (nI 1)), (4, .int (nI 1)), (0, .ref so), (1, .int (nI a)), (3, .int (nI i))]) xx xb dX0_allAbove_77 rfl hl (by decide) rfl (fun ls hl => ?_)
                refine lv_iinc (v := nI (i + 1)) (lv' := [(3, .int (nI (i + 1))), (2, .int (nI (bs (abvP R a) (i + 1)))), (5, .int (nI 1)), (4, .int (nI 1)), (0, .ref so), (1, .int (nI a))]) xx xb dX0_allAbove_78 hl (k := 5) rfl (nI_add _ 1) (by decide) rfl (fun ls hl => ?_)
                refine lv_goto (tgt := 4) xx xb dX0_allAbove_81 (by decide) ?_
                exact ih_4 (i + 1) H _ ls (by omega) (by omega) hw (lv_sub hl [4, 5, 1, 0] rfl)
              · skip
                exact absurd c_64 (by decide)
  exact L_4 (_ + 1) 0 H _ ls (Nat.lt_succ_self _) (by omega) hw (lv_sub hl [2, 3, 1, 0] rfl)
set_option maxRecDepth 100000 in
set_option maxHeartbeats 4000000 in
theorem kX0_copyFrom (l : Launch) (G : GT) (to : Nat) (tk : Nat) (tf : Nat) (tb : Nat) (ta : Nat) (m0 : Nat) (S : RT) (so : Nat) (ak : Nat) (af : Nat) (ab : Nat) (aa : Nat) (mi : Nat) (R : RT) (hf0 : R 0 2 ≤ 1) : Ct l yX0_copyFrom cX0_copyFrom 2 (none) 1 30 [.ref to, .ref so] G [(to, .inr (0, [.int (nI (sN S)), .int (nI m0), .int (nI (sF S)), .int (nI (sS S)), .int (nI (sL S)), .ref tk, .ref tf, .ref tb, .ref ta])), (tk, aI G 10 (sK S)), (tf, aI G 10 (sG S)), (tb, aI G 10 (sO S)), (ta, aI G 10 (sA S)), (so, .inr (0, [.int (nI (sN R)), .int (nI mi), .int (nI (sF R)), .int (nI (sS R)), .int (nI (sL R)), .ref ak, .ref af, .ref ab, .ref aa])), (ak, aI G 10 (sK R)), (af, aI G 10 (sG R)), (ab, aI G 10 (sO R)), (aa, aI G 10 (sA R))] (QV G [(to, .inr (0, [.int (nI (sN S)), .int (nI m0), .int (nI (sF S)), .int (nI (sS S)), .int (nI (sL S)), .ref tk, .ref tf, .ref tb, .ref ta])), (tk, aI G 10 (sK S)), (tf, aI G 10 (sG S)), (tb, aI G 10 (sO S)), (ta, aI G 10 (sA S)), (so, .inr (0, [.int (nI (sN R)), .int (nI mi), .int (nI (sF R)), .int (nI (sS R)), .int (nI (sL R)), .ref ak, .ref af, .ref ab, .ref aa])), (ak, aI G 10 (sK R)), (af, aI G 10 (sG R)), (ab, aI G 10 (sO R)), (aa, aI G 10 (sA R))] (fun u : Unit => True) (fun u => [(to, .inr (0, [.int (nI (sN R)), .int (nI mi), .int (nI (sF R)), .int (nI (sS R)), .int (nI (sL R)), .ref tk, .ref tf, .ref tb, .ref ta])), (tk, aI G 10 (sK R)), (tf, aI G 10 (sG R)), (tb, aI G 10 (sO R)), (ta, aI G 10 (sA R)), (so, .inr (0, [.int (nI (sN R)), .int (nI mi), .int (nI (sF R)), .int (nI (sS R)), .int (nI (sL R)), .ref ak, .ref af, .ref ab, .ref aa])), (ak, aI G 10 (sK R)), (af, aI G 10 (sG R)), (ab, aI G 10 (sO R)), (aa, aI G 10 (sA R))])) := by
  refine en (by decide +kernel) (Nat.le_of_ble_eq_true rfl) ?_
  intro p e s m below meth c ls H locs C hl hw
  have xx := C.1
  have xb := C.2.1
  have hw : Wd G (fA [(to, .inr (0, [.int (nI (sN S)), .int (nI m0), .int (nI (sF S)), .int (nI (sS S)), .int (nI (sL S)), .ref tk, .ref tf, .ref tb, .ref ta])), (tk, aI G 10 (sK S)), (tf, aI G 10 (sG S)), (tb, aI G 10 (sO S)), (ta, aI G 10 (sA S)), (so, .inr (0, [.int (nI (sN R)), .int (nI mi), .int (nI (sF R)), .int (nI (sS R)), .int (nI (sL R)), .ref ak, .ref af, .ref ab, .ref aa])), (ak, aI G 10 (sK R)), (af, aI G 10 (sG R)), (ab, aI G 10 (sO R)), (aa, aI G 10 (sA R))]) s [(to, .inr (0, [.int (nI (sN S)), .int (nI m0), .int (nI (sF S)), .int (nI (sS S)), .int (nI (sL S)), .ref tk, .ref tf, .ref tb, .ref ta])), (tk, aI G 10 (sK S)), (tf, aI G 10 (sG S)), (tb, aI G 10 (sO S)), (ta, aI G 10 (sA S)), (so, .inr (0, [.int (nI (sN R)), .int (nI mi), .int (nI (sF R)), .int (nI (sS R)), .int (nI (sL R)), .ref ak, .ref af, .ref ab, .ref aa])), (ak, aI G 10 (sK R)), (af, aI G 10 (sG R)), (ab, aI G 10 (sO R)), (aa, aI G 10 (sA R))] H locs := hw
  have hl : lv_has ls 2 [(0, .ref to), (1, .ref so)] := hl
  refine lv_aload_n xx xb dX0_copyFrom_0 rfl (lv_at hl 0 rfl) ?_
  refine lv_aload_n xx xb dX0_copyFrom_1 rfl (lv_at hl 1 rfl) ?_
  refine m_get C hw 5 rfl fk_X0_28 rfl dX0_copyFrom_2 ?_
  refine re_i (nI (R 0 0)) rfl ?_
  refine m_put C hw 0 rfl rfl tyX0 tyX0_ok nmX0 fk_X0_28 rfl rfl rfl rfl (Nat.le_of_ble_eq_true rfl) dX0_copyFrom_5 (fun H locs hw => ?_)
  have hw : Wd G (fA [(to, .inr (0, [.int (nI (sN S)), .int (nI m0), .int (nI (sF S)), .int (nI (sS S)), .int (nI (sL S)), .ref tk, .ref tf, .ref tb, .ref ta])), (tk, aI G 10 (sK S)), (tf, aI G 10 (sG S)), (tb, aI G 10 (sO S)), (ta, aI G 10 (sA S)), (so, .inr (0, [.int (nI (sN R)), .int (nI mi), .int (nI (sF R)), .int (nI (sS R)), .int (nI (sL R)), .ref ak, .ref af, .ref ab, .ref aa])), (ak, aI G 10 (sK R)), (af, aI G 10 (sG R)), (ab, aI G 10 (sO R)), (aa, aI G 10 (sA R))]) s [(to, .inr (0, [.int (nI (R 0 0)), .int (nI m0), .int (nI (sF S)), .int (nI (sS S)), .int (nI (sL S)), .ref tk, .ref tf, .ref tb, .ref ta])), (tk, aI G 10 (sK S)), (tf, aI G 10 (sG S)), (tb, aI G 10 (sO S)), (ta, aI G 10 (sA S)), (so, .inr (0, [.int (nI (sN R)), .int (nI mi), .int (nI (sF R)), .int (nI (sS R)), .int (nI (sL R)), .ref ak, .ref af, .ref ab, .ref aa])), (ak, aI G 10 (sK R)), (af, aI G 10 (sG R)), (ab, aI G 10 (sO R)), (aa, aI G 10 (sA R))] H locs := hw
  refine lv_aload_n xx xb dX0_copyFrom_8 rfl (lv_at hl 0 rfl) ?_
  refine lv_aload_n xx xb dX0_copyFrom_9 rfl (lv_at hl 1 rfl) ?_
  refine m_get C hw 5 rfl fk_X0_32 rfl dX0_copyFrom_10 ?_
  refine m_put C hw 0 rfl rfl tyX0 tyX0_ok nmX0 fk_X0_32 rfl rfl rfl rfl (Nat.le_of_ble_eq_true rfl) dX0_copyFrom_13 (fun H locs hw => ?_)
  have hw : Wd G (fA [(to, .inr (0, [.int (nI (sN S)), .int (nI m0), .int (nI (sF S)), .int (nI (sS S)), .int (nI (sL S)), .ref tk, .ref tf, .ref tb, .ref ta])), (tk, aI G 10 (sK S)), (tf, aI G 10 (sG S)), (tb, aI G 10 (sO S)), (ta, aI G 10 (sA S)), (so, .inr (0, [.int (nI (sN R)), .int (nI mi), .int (nI (sF R)), .int (nI (sS R)), .int (nI (sL R)), .ref ak, .ref af, .ref ab, .ref aa])), (ak, aI G 10 (sK R)), (af, aI G 10 (sG R)), (ab, aI G 10 (sO R)), (aa, aI G 10 (sA R))]) s [(to, .inr (0, [.int (nI (R 0 0)), .int (nI mi), .int (nI (sF S)), .int (nI (sS S)), .int (nI (sL S)), .ref tk, .ref tf, .ref tb, .ref ta])), (tk, aI G 10 (sK S)), (tf, aI G 10 (sG S)), (tb, aI G 10 (sO S)), (ta, aI G 10 (sA S)), (so, .inr (0, [.int (nI (sN R)), .int (nI mi), .int (nI (sF R)), .int (nI (sS R)), .int (nI (sL R)), .ref ak, .ref af, .ref ab, .ref aa])), (ak, aI G 10 (sK R)), (af, aI G 10 (sG R)), (ab, aI G 10 (sO R)), (aa, aI G 10 (sA R))] H locs := hw
  refine lv_aload_n xx xb dX0_copyFrom_16 rfl (lv_at hl 0 rfl) ?_
  refine lv_aload_n xx xb dX0_copyFrom_17 rfl (lv_at hl 1 rfl) ?_
  refine m_get C hw 5 rfl fk_X0_9 rfl dX0_copyFrom_18 ?_
  refine re_i (nI (R 0 2)) rfl ?_
  refine m_put C hw 0 rfl rfl tyX0 tyX0_ok nmX0 fk_X0_9 rfl rfl (nb_n hf0) (nb_f hf0) (Nat.le_of_ble_eq_true rfl) dX0_copyFrom_21 (fun H locs hw => ?_)
  have hw : Wd G (fA [(to, .inr (0, [.int (nI (sN S)), .int (nI m0), .int (nI (sF S)), .int (nI (sS S)), .int (nI (sL S)), .ref tk, .ref tf, .ref tb, .ref ta])), (tk, aI G 10 (sK S)), (tf, aI G 10 (sG S)), (tb, aI G 10 (sO S)), (ta, aI G 10 (sA S)), (so, .inr (0, [.int (nI (sN R)), .int (nI mi), .int (nI (sF R)), .int (nI (sS R)), .int (nI (sL R)), .ref ak, .ref af, .ref ab, .ref aa])), (ak, aI G 10 (sK R)), (af, aI G 10 (sG R)), (ab, aI G 10 (sO R)), (aa, aI G 10 (sA R))]) s [(to, .inr (0, [.int (nI (R 0 0)), .int (nI mi), .int (nI (R 0 2)), .int (nI (sS S)), .int (nI (sL S)), .ref tk, .ref tf, .ref tb, .ref ta])), (tk, aI G 10 (sK S)), (tf, aI G 10 (sG S)), (tb, aI G 10 (sO S)), (ta, aI G 10 (sA S)), (so, .inr (0, [.int (nI (sN R)), .int (nI mi), .int (nI (sF R)), .int (nI (sS R)), .int (nI (sL R)), .ref ak, .ref af, .ref ab, .ref aa])), (ak, aI G 10 (sK R)), (af, aI G 10 (sG R)), (ab, aI G 10 (sO R)), (aa, aI G 10 (sA R))] H locs := hw
  refine lv_aload_n xx xb dX0_copyFrom_24 rfl (lv_at hl 0 rfl) ?_
  refine lv_aload_n xx xb dX0_copyFrom_25 rfl (lv_at hl 1 rfl) ?_
  refine m_get C hw 5 rfl fk_X0_35 rfl dX0_copyFrom_26 ?_
  refine re_i (nI (setF R 0)) rfl ?_
  refine m_put C hw 0 rfl rfl tyX0 tyX0_ok nmX0 fk_X0_35 rfl rfl rfl rfl (Nat.le_of_ble_eq_true rfl) dX0_copyFrom_29 (fun H locs hw => ?_)
  have hw : Wd G (fA [(to, .inr (0, [.int (nI (sN S)), .int (nI m0), .int (nI (sF S)), .int (nI (sS S)), .int (nI (sL S)), .ref tk, .ref tf, .ref tb, .ref ta])), (tk, aI G 10 (sK S)), (tf, aI G 10 (sG S)), (tb, aI G 10 (sO S)), (ta, aI G 10 (sA S)), (so, .inr (0, [.int (nI (sN R)), .int (nI mi), .int (nI (sF R)), .int (nI (sS R)), .int (nI (sL R)), .ref ak, .ref af, .ref ab, .ref aa])), (ak, aI G 10 (sK R)), (af, aI G 10 (sG R)), (ab, aI G 10 (sO R)), (aa, aI G 10 (sA R))]) s [(to, .inr (0, [.int (nI (R 0 0)), .int (nI mi), .int (nI (R 0 2)), .int (nI (setF R 0)), .int (nI (sL S)), .ref tk, .ref tf, .ref tb, .ref ta])), (tk, aI G 10 (sK S)), (tf, aI G 10 (sG S)), (tb, aI G 10 (sO S)), (ta, aI G 10 (sA S)), (so, .inr (0, [.int (nI (sN R)), .int (nI mi), .int (nI (sF R)), .int (nI (sS R)), .int (nI (sL R)), .ref ak, .ref af, .ref ab, .ref aa])), (ak, aI G 10 (sK R)), (af, aI G 10 (sG R)), (ab, aI G 10 (sO R)), (aa, aI G 10 (sA R))] H locs := hw
  refine lv_aload_n xx xb dX0_copyFrom_32 rfl (lv_at hl 0 rfl) ?_
  refine lv_aload_n xx xb dX0_copyFrom_33 rfl (lv_at hl 1 rfl) ?_
  refine m_get C hw 5 rfl fk_X0_38 rfl dX0_copyFrom_34 ?_
  refine re_i (nI (setF R 1)) rfl ?_
  refine m_put C hw 0 rfl rfl tyX0 tyX0_ok nmX0 fk_X0_38 rfl rfl rfl rfl (Nat.le_of_ble_eq_true rfl) dX0_copyFrom_37 (fun H locs hw => ?_)
  have hw : Wd G (fA [(to, .inr (0, [.int (nI (sN S)), .int (nI m0), .int (nI (sF S)), .int (nI (sS S)), .int (nI (sL S)), .ref tk, .ref tf, .ref tb, .ref ta])), (tk, aI G 10 (sK S)), (tf, aI G 10 (sG S)), (tb, aI G 10 (sO S)), (ta, aI G 10 (sA S)), (so, .inr (0, [.int (nI (sN R)), .int (nI mi), .int (nI (sF R)), .int (nI (sS R)), .int (nI (sL R)), .ref ak, .ref af, .ref ab, .ref aa])), (ak, aI G 10 (sK R)), (af, aI G 10 (sG R)), (ab, aI G 10 (sO R)), (aa, aI G 10 (sA R))]) s [(to, .inr (0, [.int (nI (R 0 0)), .int (nI mi), .int (nI (R 0 2)), .int (nI (setF R 0)), .int (nI (setF R 1)), .ref tk, .ref tf, .ref tb, .ref ta])), (tk, aI G 10 (sK S)), (tf, aI G 10 (sG S)), (tb, aI G 10 (sO S)), (ta, aI G 10 (sA S)), (so, .inr (0, [.int (nI (sN R)), .int (nI mi), .int (nI (sF R)), .int (nI (sS R)), .int (nI (sL R)), .ref ak, .ref af, .ref ab, .ref aa])), (ak, aI G 10 (sK R)), (af, aI G 10 (sG R)), (ab, aI G 10 (sO R)), (aa, aI G 10 (sA R))] H locs := hw
  refine lv_aload_n xx xb dX0_copyFrom_40 rfl (lv_at hl 1 rfl) ?_
  refine m_get C hw 5 rfl fk_X0_15 rfl dX0_copyFrom_41 ?_
  refine lv_iconst (v := nI 0) xx xb dX0_copyFrom_44 (by decide) ?_
  refine lv_aload_n xx xb dX0_copyFrom_45 rfl (lv_at hl 0 rfl) ?_
  refine m_get C hw 0 rfl fk_X0_15 rfl dX0_copyFrom_46 ?_
  refine lv_iconst (v := nI 0) xx xb dX0_copyFrom_49 (by decide) ?_
  refine lv_bipush (v := nI 10) xx xb dX0_copyFrom_50 (by decide) ?_
  refine m_cpy C hw 6 1 rfl rfl cp_link hl.1 rfl (by decide) (Nat.le_of_ble_eq_true rfl) (by decide) dX0_copyFrom_52 (fun H locs hw => ?_)
  have hw : Wd G (fA [(to, .inr (0, [.int (nI (sN S)), .int (nI m0), .int (nI (sF S)), .int (nI (sS S)), .int (nI (sL S)), .ref tk, .ref tf, .ref tb, .ref ta])), (tk, aI G 10 (sK S)), (tf, aI G 10 (sG S)), (tb, aI G 10 (sO S)), (ta, aI G 10 (sA S)), (so, .inr (0, [.int (nI (sN R)), .int (nI mi), .int (nI (sF R)), .int (nI (sS R)), .int (nI (sL R)), .ref ak, .ref af, .ref ab, .ref aa])), (ak, aI G 10 (sK R)), (af, aI G 10 (sG R)), (ab, aI G 10 (sO R)), (aa, aI G 10 (sA R))]) s [(to, .inr (0, [.int (nI (R 0 0)), .int (nI mi), .int (nI (R 0 2)), .int (nI (setF R 0)), .int (nI (setF R 1)), .ref tk, .ref tf, .ref tb, .ref ta])), (tk, aI G 10 (sK R)), (tf, aI G 10 (sG S)), (tb, aI G 10 (sO S)), (ta, aI G 10 (sA S)), (so, .inr (0, [.int (nI (sN R)), .int (nI mi), .int (nI (sF R)), .int (nI (sS R)), .int (nI (sL R)), .ref ak, .ref af, .ref ab, .ref aa])), (ak, aI G 10 (sK R)), (af, aI G 10 (sG R)), (ab, aI G 10 (sO R)), (aa, aI G 10 (sA R))] H locs := hw
  refine lv_aload_n xx xb dX0_copyFrom_55 rfl (lv_at hl 1 rfl) ?_
  refine m_get C hw 5 rfl fk_X0_19 rfl dX0_copyFrom_56 ?_
  refine lv_iconst (v := nI 0) xx xb dX0_copyFrom_59 (by decide) ?_
  refine lv_aload_n xx xb dX0_copyFrom_60 rfl (lv_at hl 0 rfl) ?_
  refine m_get C hw 0 rfl fk_X0_19 rfl dX0_copyFrom_61 ?_
  refine lv_iconst (v := nI 0) xx xb dX0_copyFrom_64 (by decide) ?_
  refine lv_bipush (v := nI 10) xx xb dX0_copyFrom_65 (by decide) ?_
  refine m_cpy C hw 7 2 rfl rfl cp_link hl.1 rfl (by decide) (Nat.le_of_ble_eq_true rfl) (by decide) dX0_copyFrom_67 (fun H locs hw => ?_)
  have hw : Wd G (fA [(to, .inr (0, [.int (nI (sN S)), .int (nI m0), .int (nI (sF S)), .int (nI (sS S)), .int (nI (sL S)), .ref tk, .ref tf, .ref tb, .ref ta])), (tk, aI G 10 (sK S)), (tf, aI G 10 (sG S)), (tb, aI G 10 (sO S)), (ta, aI G 10 (sA S)), (so, .inr (0, [.int (nI (sN R)), .int (nI mi), .int (nI (sF R)), .int (nI (sS R)), .int (nI (sL R)), .ref ak, .ref af, .ref ab, .ref aa])), (ak, aI G 10 (sK R)), (af, aI G 10 (sG R)), (ab, aI G 10 (sO R)), (aa, aI G 10 (sA R))]) s [(to, .inr (0, [.int (nI (R 0 0)), .int (nI mi), .int (nI (R 0 2)), .int (nI (setF R 0)), .int (nI (setF R 1)), .ref tk, .ref tf, .ref tb, .ref ta])), (tk, aI G 10 (sK R)), (tf, aI G 10 (sG R)), (tb, aI G 10 (sO S)), (ta, aI G 10 (sA S)), (so, .inr (0, [.int (nI (sN R)), .int (nI mi), .int (nI (sF R)), .int (nI (sS R)), .int (nI (sL R)), .ref ak, .ref af, .ref ab, .ref aa])), (ak, aI G 10 (sK R)), (af, aI G 10 (sG R)), (ab, aI G 10 (sO R)), (aa, aI G 10 (sA R))] H locs := hw
  refine lv_aload_n xx xb dX0_copyFrom_70 rfl (lv_at hl 1 rfl) ?_
  refine m_get C hw 5 rfl fk_X0_22 rfl dX0_copyFrom_71 ?_
  refine lv_iconst (v := nI 0) xx xb dX0_copyFrom_74 (by decide) ?_
  refine lv_aload_n xx xb dX0_copyFrom_75 rfl (lv_at hl 0 rfl) ?_
  refine m_get C hw 0 rfl fk_X0_22 rfl dX0_copyFrom_76 ?_
  refine lv_iconst (v := nI 0) xx xb dX0_copyFrom_79 (by decide) ?_
  refine lv_bipush (v := nI 10) xx xb dX0_copyFrom_80 (by decide) ?_
  refine m_cpy C hw 8 3 rfl rfl cp_link hl.1 rfl (by decide) (Nat.le_of_ble_eq_true rfl) (by decide) dX0_copyFrom_82 (fun H locs hw => ?_)
  have hw : Wd G (fA [(to, .inr (0, [.int (nI (sN S)), .int (nI m0), .int (nI (sF S)), .int (nI (sS S)), .int (nI (sL S)), .ref tk, .ref tf, .ref tb, .ref ta])), (tk, aI G 10 (sK S)), (tf, aI G 10 (sG S)), (tb, aI G 10 (sO S)), (ta, aI G 10 (sA S)), (so, .inr (0, [.int (nI (sN R)), .int (nI mi), .int (nI (sF R)), .int (nI (sS R)), .int (nI (sL R)), .ref ak, .ref af, .ref ab, .ref aa])), (ak, aI G 10 (sK R)), (af, aI G 10 (sG R)), (ab, aI G 10 (sO R)), (aa, aI G 10 (sA R))]) s [(to, .inr (0, [.int (nI (R 0 0)), .int (nI mi), .int (nI (R 0 2)), .int (nI (setF R 0)), .int (nI (setF R 1)), .ref tk, .ref tf, .ref tb, .ref ta])), (tk, aI G 10 (sK R)), (tf, aI G 10 (sG R)), (tb, aI G 10 (sO R)), (ta, aI G 10 (sA S)), (so, .inr (0, [.int (nI (sN R)), .int (nI mi), .int (nI (sF R)), .int (nI (sS R)), .int (nI (sL R)), .ref ak, .ref af, .ref ab, .ref aa])), (ak, aI G 10 (sK R)), (af, aI G 10 (sG R)), (ab, aI G 10 (sO R)), (aa, aI G 10 (sA R))] H locs := hw
  refine lv_aload_n xx xb dX0_copyFrom_85 rfl (lv_at hl 1 rfl) ?_
  refine m_get C hw 5 rfl fk_X0_25 rfl dX0_copyFrom_86 ?_
  refine lv_iconst (v := nI 0) xx xb dX0_copyFrom_89 (by decide) ?_
  refine lv_aload_n xx xb dX0_copyFrom_90 rfl (lv_at hl 0 rfl) ?_
  refine m_get C hw 0 rfl fk_X0_25 rfl dX0_copyFrom_91 ?_
  refine lv_iconst (v := nI 0) xx xb dX0_copyFrom_94 (by decide) ?_
  refine lv_bipush (v := nI 10) xx xb dX0_copyFrom_95 (by decide) ?_
  refine m_cpy C hw 9 4 rfl rfl cp_link hl.1 rfl (by decide) (Nat.le_of_ble_eq_true rfl) (by decide) dX0_copyFrom_97 (fun H locs hw => ?_)
  have hw : Wd G (fA [(to, .inr (0, [.int (nI (sN S)), .int (nI m0), .int (nI (sF S)), .int (nI (sS S)), .int (nI (sL S)), .ref tk, .ref tf, .ref tb, .ref ta])), (tk, aI G 10 (sK S)), (tf, aI G 10 (sG S)), (tb, aI G 10 (sO S)), (ta, aI G 10 (sA S)), (so, .inr (0, [.int (nI (sN R)), .int (nI mi), .int (nI (sF R)), .int (nI (sS R)), .int (nI (sL R)), .ref ak, .ref af, .ref ab, .ref aa])), (ak, aI G 10 (sK R)), (af, aI G 10 (sG R)), (ab, aI G 10 (sO R)), (aa, aI G 10 (sA R))]) s [(to, .inr (0, [.int (nI (R 0 0)), .int (nI mi), .int (nI (R 0 2)), .int (nI (setF R 0)), .int (nI (setF R 1)), .ref tk, .ref tf, .ref tb, .ref ta])), (tk, aI G 10 (sK R)), (tf, aI G 10 (sG R)), (tb, aI G 10 (sO R)), (ta, aI G 10 (sA R)), (so, .inr (0, [.int (nI (sN R)), .int (nI mi), .int (nI (sF R)), .int (nI (sS R)), .int (nI (sL R)), .ref ak, .ref af, .ref ab, .ref aa])), (ak, aI G 10 (sK R)), (af, aI G 10 (sG R)), (ab, aI G 10 (sO R)), (aa, aI G 10 (sA R))] H locs := hw
  exact rt_v C hw () trivial rfl dX0_copyFrom_100
set_option maxRecDepth 100000 in
set_option maxHeartbeats 4000000 in
theorem kX0_addThing (l : Launch) (G : GT) (so : Nat) (ak : Nat) (af : Nat) (ab : Nat) (aa : Nat) (mi : Nat) (R : RT) (k2 : Nat) (f2 : Nat) (o : Nat) (hn : R 0 0 ≤ 10) : Ct l yX0_addThing cX0_addThing 4 (some .boolean) 2 44 [.ref so, .int (nI k2), .int (nI f2), .int (onI o)] G [(so, .inr (0, [.int (nI (sN R)), .int (nI mi), .int (nI (sF R)), .int (nI (sS R)), .int (nI (sL R)), .ref ak, .ref af, .ref ab, .ref aa])), (ak, aI G 10 (sK R)), (af, aI G 10 (sG R)), (ab, aI G 10 (sO R)), (aa, aI G 10 (sA R))] (QI G [(so, .inr (0, [.int (nI (sN R)), .int (nI mi), .int (nI (sF R)), .int (nI (sS R)), .int (nI (sL R)), .ref ak, .ref af, .ref ab, .ref aa])), (ak, aI G 10 (sK R)), (af, aI G 10 (sG R)), (ab, aI G 10 (sO R)), (aa, aI G 10 (sA R))] (fun (r : Int32) (u : Unit) => r = if R 0 0 < 10 then 1 else 0) (fun u => [(so, .inr (0, [.int (nI (sN (adX R k2 f2 o))), .int (nI mi), .int (nI (sF (adX R k2 f2 o))), .int (nI (sS (adX R k2 f2 o))), .int (nI (sL (adX R k2 f2 o))), .ref ak, .ref af, .ref ab, .ref aa])), (ak, aI G 10 (sK (adX R k2 f2 o))), (af, aI G 10 (sG (adX R k2 f2 o))), (ab, aI G 10 (sO (adX R k2 f2 o))), (aa, aI G 10 (sA (adX R k2 f2 o)))])) := by
  refine en (by decide +kernel) (Nat.le_of_ble_eq_true rfl) ?_
  intro p e s m below meth c ls H locs C hl hw
  have xx := C.1
  have xb := C.2.1
  have hw : Wd G (fA [(so, .inr (0, [.int (nI (sN R)), .int (nI mi), .int (nI (sF R)), .int (nI (sS R)), .int (nI (sL R)), .ref ak, .ref af, .ref ab, .ref aa])), (ak, aI G 10 (sK R)), (af, aI G 10 (sG R)), (ab, aI G 10 (sO R)), (aa, aI G 10 (sA R))]) s [(so, .inr (0, [.int (nI (sN R)), .int (nI mi), .int (nI (sF R)), .int (nI (sS R)), .int (nI (sL R)), .ref ak, .ref af, .ref ab, .ref aa])), (ak, aI G 10 (sK R)), (af, aI G 10 (sG R)), (ab, aI G 10 (sO R)), (aa, aI G 10 (sA R))] H locs := hw
  have hl : lv_has ls 4 [(0, .ref so), (1, .int (nI k2)), (2, .int (nI f2)), (3, .int (onI o))] := hl
  refine lv_aload_n xx xb dX0_addThing_0 rfl (lv_at hl 0 rfl) ?_
  refine m_get C hw 0 rfl fk_X0_28 rfl dX0_addThing_1 ?_
  refine re_i (nI (R 0 0)) rfl ?_
  refine lv_bipush (v := nI 10) xx xb dX0_addThing_4 (by decide) ?_
  refine lv_icmp_lt (tgt := 11) xx xb dX0_addThing_6 (by decide) (fun c_6 => ?_) (fun c_6 => ?_)
  · skip
    have c_6 := lt_c (tN (by omega)) (tN (by omega)) c_6
    refine lv_aload_n xx xb dX0_addThing_11 rfl (lv_at hl 0 rfl) ?_
    refine m_get C hw 0 rfl fk_X0_22 rfl dX0_addThing_12 ?_
    refine lv_aload_n xx xb dX0_addThing_15 rfl (lv_at hl 0 rfl) ?_
    refine m_get C hw 0 rfl fk_X0_28 rfl dX0_addThing_16 ?_
    refine re_i (nI (R 0 0)) rfl ?_
    refine lv_iload_n xx xb dX0_addThing_19 rfl (lv_at hl 3 rfl) ?_
    refine m_ast C hw 3 rfl (R 0 0) rfl (by omega) (by decide) (cO (upN (R 3) (R 0 0) o)) (cO_u _ _ _) dX0_addThing_20 (fun H locs hw => ?_)
    have hw : Wd G (fA [(so, .inr (0, [.int (nI (sN R)), .int (nI mi), .int (nI (sF R)), .int (nI (sS R)), .int (nI (sL R)), .ref ak, .ref af, .ref ab, .ref aa])), (ak, aI G 10 (sK R)), (af, aI G 10 (sG R)), (ab, aI G 10 (sO R)), (aa, aI G 10 (sA R))]) s [(so, .inr (0, [.int (nI (sN R)), .int (nI mi), .int (nI (sF R)), .int (nI (sS R)), .int (nI (sL R)), .ref ak, .ref af, .ref ab, .ref aa])), (ak, aI G 10 (sK R)), (af, aI G 10 (sG R)), (ab, aI G 10 (cO (upN (R 3) (R 0 0) o))), (aa, aI G 10 (sA R))] H locs := hw
    refine lv_aload_n xx xb dX0_addThing_21 rfl (lv_at hl 0 rfl) ?_
    refine m_get C hw 0 rfl fk_X0_25 rfl dX0_addThing_22 ?_
    refine lv_aload_n xx xb dX0_addThing_25 rfl (lv_at hl 0 rfl) ?_
    refine m_get C hw 0 rfl fk_X0_28 rfl dX0_addThing_26 ?_
    refine re_i (nI (R 0 0)) rfl ?_
    refine lv_iconst (v := nI 0) xx xb dX0_addThing_29 (by decide) ?_
    refine m_ast C hw 4 rfl (R 0 0) rfl (by omega) (by decide) (cN (upN (R 5) (R 0 0) 0)) (cN_u _ _ _) dX0_addThing_30 (fun H locs hw => ?_)
    have hw : Wd G (fA [(so, .inr (0, [.int (nI (sN R)), .int (nI mi), .int (nI (sF R)), .int (nI (sS R)), .int (nI (sL R)), .ref ak, .ref af, .ref ab, .ref aa])), (ak, aI G 10 (sK R)), (af, aI G 10 (sG R)), (ab, aI G 10 (sO R)), (aa, aI G 10 (sA R))]) s [(so, .inr (0, [.int (nI (sN R)), .int (nI mi), .int (nI (sF R)), .int (nI (sS R)), .int (nI (sL R)), .ref ak, .ref af, .ref ab, .ref aa])), (ak, aI G 10 (sK R)), (af, aI G 10 (sG R)), (ab, aI G 10 (cO (upN (R 3) (R 0 0) o))), (aa, aI G 10 (cN (upN (R 5) (R 0 0) 0)))] H locs := hw
    refine lv_aload_n xx xb dX0_addThing_31 rfl (lv_at hl 0 rfl) ?_
    refine lv_dup xx xb dX0_addThing_32 rfl ?_
    refine m_get C hw 0 rfl fk_X0_35 rfl dX0_addThing_33 ?_
    refine re_i (nI (setF R 0)) rfl ?_
    refine lv_iconst (v := nI 1) xx xb dX0_addThing_36 (by decide) ?_
    refine lv_aload_n xx xb dX0_addThing_37 rfl (lv_at hl 0 rfl) ?_
    refine m_get C hw 0 rfl fk_X0_28 rfl dX0_addThing_38 ?_
    refine re_i (nI (R 0 0)) rfl ?_
    refine lv_ishl xx xb dX0_addThing_41 ?_
    refine re_i (nI (2 ^ (R 0 0))) (shl1 (by omega)) ?_
    refine lv_ior xx xb dX0_addThing_42 ?_
    refine re_i (nI ((setF R 0) ||| (2 ^ (R 0 0)))) (or_N _ _) ?_
    refine m_put C hw 0 rfl rfl tyX0 tyX0_ok nmX0 fk_X0_35 rfl rfl rfl rfl (Nat.le_of_ble_eq_true rfl) dX0_addThing_43 (fun H locs hw => ?_)
    have hw : Wd G (fA [(so, .inr (0, [.int (nI (sN R)), .int (nI mi), .int (nI (sF R)), .int (nI (sS R)), .int (nI (sL R)), .ref ak, .ref af, .ref ab, .ref aa])), (ak, aI G 10 (sK R)), (af, aI G 10 (sG R)), (ab, aI G 10 (sO R)), (aa, aI G 10 (sA R))]) s [(so, .inr (0, [.int (nI (sN R)), .int (nI mi), .int (nI (sF R)), .int (nI ((setF R 0) ||| (2 ^ (R 0 0)))), .int (nI (sL R)), .ref ak, .ref af, .ref ab, .ref aa])), (ak, aI G 10 (sK R)), (af, aI G 10 (sG R)), (ab, aI G 10 (cO (upN (R 3) (R 0 0) o))), (aa, aI G 10 (cN (upN (R 5) (R 0 0) 0)))] H locs := hw
    refine lv_aload_n xx xb dX0_addThing_46 rfl (lv_at hl 0 rfl) ?_
    refine lv_dup xx xb dX0_addThing_47 rfl ?_
    refine m_get C hw 0 rfl fk_X0_28 rfl dX0_addThing_48 ?_
    refine re_i (nI (R 0 0)) rfl ?_
    refine lv_iconst (v := nI 1) xx xb dX0_addThing_51 (by decide) ?_
    refine lv_iadd xx xb dX0_addThing_52 ?_
    refine re_i (nI ((R 0 0) + 1)) (nI_add _ _) ?_
    refine m_put C hw 0 rfl rfl tyX0 tyX0_ok nmX0 fk_X0_28 rfl rfl rfl rfl (Nat.le_of_ble_eq_true rfl) dX0_addThing_53 (fun H locs hw => ?_)
    have hw : Wd G (fA [(so, .inr (0, [.int (nI (sN R)), .int (nI mi), .int (nI (sF R)), .int (nI (sS R)), .int (nI (sL R)), .ref ak, .ref af, .ref ab, .ref aa])), (ak, aI G 10 (sK R)), (af, aI G 10 (sG R)), (ab, aI G 10 (sO R)), (aa, aI G 10 (sA R))]) s [(so, .inr (0, [.int (nI ((R 0 0) + 1)), .int (nI mi), .int (nI (sF R)), .int (nI ((setF R 0) ||| (2 ^ (R 0 0)))), .int (nI (sL R)), .ref ak, .ref af, .ref ab, .ref aa])), (ak, aI G 10 (sK R)), (af, aI G 10 (sG R)), (ab, aI G 10 (cO (upN (R 3) (R 0 0) o))), (aa, aI G 10 (cN (upN (R 5) (R 0 0) 0)))] H locs := hw
    have hw : Wd G (fA [(so, .inr (0, [.int (nI (sN R)), .int (nI mi), .int (nI (sF R)), .int (nI (sS R)), .int (nI (sL R)), .ref ak, .ref af, .ref ab, .ref aa])), (ak, aI G 10 (sK R)), (af, aI G 10 (sG R)), (ab, aI G 10 (sO R)), (aa, aI G 10 (sA R))]) s [(so, .inr (0, [.int (nI (sN (adF R (R 1 (R 0 0)) (R 2 (R 0 0)) o))), .int (nI mi), .int (nI (sF (adF R (R 1 (R 0 0)) (R 2 (R 0 0)) o))), .int (nI (sS (adF R (R 1 (R 0 0)) (R 2 (R 0 0)) o))), .int (nI (sL (adF R (R 1 (R 0 0)) (R 2 (R 0 0)) o))), .ref ak, .ref af, .ref ab, .ref aa])), (ak, aI G 10 (sK (adF R (R 1 (R 0 0)) (R 2 (R 0 0)) o))), (af, aI G 10 (sG (adF R (R 1 (R 0 0)) (R 2 (R 0 0)) o))), (ab, aI G 10 (sO (adF R (R 1 (R 0 0)) (R 2 (R 0 0)) o))), (aa, aI G 10 (sA (adF R (R 1 (R 0 0)) (R 2 (R 0 0)) o)))] H locs := by rw [show sN (adF R (R 1 (R 0 0)) (R 2 (R 0 0)) o) = R 0 0 + 1 from adF_00 _ _ _ _, show sF (adF R (R 1 (R 0 0)) (R 2 (R 0 0)) o) = sF R from adF_h _ _ _ _ _ (by decide), show sS (adF R (R 1 (R 0 0)) (R 2 (R 0 0)) o) = _ from adS_st, show sL (adF R (R 1 (R 0 0)) (R 2 (R 0 0)) o) = _ from adS_ly, show sO (adF R (R 1 (R 0 0)) (R 2 (R 0 0)) o) = _ from adS_ab, show sA (adF R (R 1 (R 0 0)) (R 2 (R 0 0)) o) = _ from adS_aa, show sK (adF R (R 1 (R 0 0)) (R 2 (R 0 0)) o) = _ from adS_ak, show sG (adF R (R 1 (R 0 0)) (R 2 (R 0 0)) o) = _ from adS_af]; exact hw
    refine lv_aload_n xx xb dX0_addThing_56 rfl (lv_at hl 0 rfl) ?_
    refine lv_aload_n xx xb dX0_addThing_57 rfl (lv_at hl 0 rfl) ?_
    refine m_get C hw 0 rfl fk_X0_28 rfl dX0_addThing_58 ?_
    refine re_i (nI ((adF R (R 1 (R 0 0)) (R 2 (R 0 0)) o) 0 0)) rfl ?_
    refine re_i (nI (R 0 0 + 1)) (congrArg nI (adF_00 _ _ _ _)) ?_
    refine lv_iconst (v := nI 1) xx xb dX0_addThing_61 (by decide) ?_
    refine lv_isub xx xb dX0_addThing_62 ?_
    refine re_i (nI ((R 0 0 + 1) - 1)) (pk_sub (by omega)) ?_
    refine re_i (nI (R 0 0)) (congrArg nI (Nat.add_sub_cancel _ _)) ?_
    refine lv_iload_n xx xb dX0_addThing_63 rfl (lv_at hl 1 rfl) ?_
    refine lv_iload_n xx xb dX0_addThing_64 rfl (lv_at hl 2 rfl) ?_
    have hM := kX0_become l G so ak af ab aa mi (adF R (R 1 (R 0 0)) (R 2 (R 0 0)) o) (R 0 0) k2 f2 (by rw [adF_00]; omega) (by rw [adF_00]; omega)
    refine cv_v C hw hM yvX0_become ml_X0_69 0 rfl rfl rfl [0, 1, 2, 3, 4] rfl rfl (fun _ => (rfl : ([so, ak, af, ab, aa] : List Nat) = [so, ak, af, ab, aa])) (by decide) ⟨Nat.zero_le _, Nat.zero_le _⟩ hl.1 rfl (Nat.le_of_ble_eq_true rfl) dX0_addThing_65 (fun _ H locs hr hw => ?_)
    have hw : Wd G (fA [(so, .inr (0, [.int (nI (sN R)), .int (nI mi), .int (nI (sF R)), .int (nI (sS R)), .int (nI (sL R)), .ref ak, .ref af, .ref ab, .ref aa])), (ak, aI G 10 (sK R)), (af, aI G 10 (sG R)), (ab, aI G 10 (sO R)), (aa, aI G 10 (sA R))]) s [(so, .inr (0, [.int (nI (sN (turF (adF R (R 1 (R 0 0)) (R 2 (R 0 0)) o) (R 0 0) k2 f2))), .int (nI mi), .int (nI (sF (turF (adF R (R 1 (R 0 0)) (R 2 (R 0 0)) o) (R 0 0) k2 f2))), .int (nI (sS (turF (adF R (R 1 (R 0 0)) (R 2 (R 0 0)) o) (R 0 0) k2 f2))), .int (nI (sL (turF (adF R (R 1 (R 0 0)) (R 2 (R 0 0)) o) (R 0 0) k2 f2))), .ref ak, .ref af, .ref ab, .ref aa])), (ak, aI G 10 (sK (turF (adF R (R 1 (R 0 0)) (R 2 (R 0 0)) o) (R 0 0) k2 f2))), (af, aI G 10 (sG (turF (adF R (R 1 (R 0 0)) (R 2 (R 0 0)) o) (R 0 0) k2 f2))), (ab, aI G 10 (sO (turF (adF R (R 1 (R 0 0)) (R 2 (R 0 0)) o) (R 0 0) k2 f2))), (aa, aI G 10 (sA (turF (adF R (R 1 (R 0 0)) (R 2 (R 0 0)) o) (R 0 0) k2 f2)))] H locs := hw
    have hw : Wd G (fA [(so, .inr (0, [.int (nI (sN R)), .int (nI mi), .int (nI (sF R)), .int (nI (sS R)), .int (nI (sL R)), .ref ak, .ref af, .ref ab, .ref aa])), (ak, aI G 10 (sK R)), (af, aI G 10 (sG R)), (ab, aI G 10 (sO R)), (aa, aI G 10 (sA R))]) s [(so, .inr (0, [.int (nI (sN (adX R k2 f2 o))), .int (nI mi), .int (nI (sF (adX R k2 f2 o))), .int (nI (sS (adX R k2 f2 o))), .int (nI (sL (adX R k2 f2 o))), .ref ak, .ref af, .ref ab, .ref aa])), (ak, aI G 10 (sK (adX R k2 f2 o))), (af, aI G 10 (sG (adX R k2 f2 o))), (ab, aI G 10 (sO (adX R k2 f2 o))), (aa, aI G 10 (sA (adX R k2 f2 o)))] H locs := by rw [adX_t (by omega), ← adF_tur]; exact hw
    refine lv_iconst (v := nI 1) xx xb dX0_addThing_68 (by decide) ?_
    exact rt_z C hw () (Or.inr rfl) (by first | exact r1 (by omega) | exact r0 (by omega)) rfl dX0_addThing_69
  · skip
    have c_6 := nlt_c (tN (by omega)) (tN (by omega)) c_6
    refine lv_iconst (v := nI 0) xx xb dX0_addThing_9 (by decide) ?_
    have hw : Wd G (fA [(so, .inr (0, [.int (nI (sN R)), .int (nI mi), .int (nI (sF R)), .int (nI (sS R)), .int (nI (sL R)), .ref ak, .ref af, .ref ab, .ref aa])), (ak, aI G 10 (sK R)), (af, aI G 10 (sG R)), (ab, aI G 10 (sO R)), (aa, aI G 10 (sA R))]) s [(so, .inr (0, [.int (nI (sN (adX R k2 f2 o))), .int (nI mi), .int (nI (sF (adX R k2 f2 o))), .int (nI (sS (adX R k2 f2 o))), .int (nI (sL (adX R k2 f2 o))), .ref ak, .ref af, .ref ab, .ref aa])), (ak, aI G 10 (sK (adX R k2 f2 o))), (af, aI G 10 (sG (adX R k2 f2 o))), (ab, aI G 10 (sO (adX R k2 f2 o))), (aa, aI G 10 (sA (adX R k2 f2 o)))] H locs := by rw [adX_f (by omega)]; exact hw
    exact rt_z C hw () (Or.inl rfl) (by first | exact r1 (by omega) | exact r0 (by omega)) rfl dX0_addThing_10
