set_option maxRecDepth 100000 in
set_option maxHeartbeats 4000000 in
theorem kX2_copies (l : Launch) (G : GT) (ar : Nat) (br : Nat) (f : Nat → Int32) (g : Nat → Int32)  : Ct l yX2_copies cX2_copies 3 (none) 0 0 [.ref ar, .ref br] G [(ar, aI G 54 f), (br, aI G 54 g)] (QV G [(ar, aI G 54 f), (br, aI G 54 g)] (fun u : Unit => True) (fun u => [(ar, aI G 54 f), (br, aI G 54 f)])) := by
  refine en (by decide +kernel) (Nat.le_of_ble_eq_true rfl) ?_
  intro p e s m below meth c ls H locs C hl hw
  have xx := C.1
  have xb := C.2.1
  have hw : Wd G (fA [(ar, aI G 54 f), (br, aI G 54 g)]) s [(ar, aI G 54 f), (br, aI G 54 g)] H locs := hw
  have hl : lv_has ls 3 [(0, .ref ar), (1, .ref br)] := hl
  refine lv_iconst (v := nI 0) xx xb dX2_copies_0 (by decide) ?_
  refine lv_istore_n (lv' := [(2, .int (nI 0)), (0, .ref ar), (1, .ref br)]) xx xb dX2_copies_1 rfl hl (by decide) rfl (fun ls hl => ?_)
  have hw : Wd G (fA [(ar, aI G 54 f), (br, aI G 54 g)]) s [(ar, aI G 54 f), (br, aI G 54 (mixF f g 0))] H locs := by rw [← mix_0]; exact hw
  have L_2 : ∀ (fu : Nat) (i : Nat) (H : Heap) (locs : List Loc) (ls : Array Slot), 54 - i < fu → (i ≤ 54) → Wd G (fA [(ar, aI G 54 f), (br, aI G 54 g)]) s [(ar, aI G 54 f), (br, aI G 54 (mixF f g i))] H locs → lv_has ls 3 [(0, .ref ar), (1, .ref br), (2, .int (nI i))] → W p l e ({ frames := 0, cells := 0, slots := 0, locals := 0 }) s m (([.ref ar, .ref br] : List Value).toArray) below meth c H locs 0 0 (MQ below (QV G [(ar, aI G 54 f), (br, aI G 54 g)] (fun u : Unit => True) (fun u => [(ar, aI G 54 f), (br, aI G 54 f)])) (([.ref ar, .ref br] : List Value).toArray) s 0 0 (fA [(ar, aI G 54 f), (br, aI G 54 g)])) (F0 m 2 ls []) := by
    intro fu
    induction fu with
    | zero => intro i H locs ls hfu; exact absurd hfu (Nat.not_lt_zero _)
    | succ fu ih_2 =>
      intro i H locs ls hfu hi hw hl
      refine lv_iload_n xx xb dX2_copies_2 rfl (lv_at hl 2 rfl) ?_
      refine lv_bipush (v := nI 54) xx xb dX2_copies_3 (by decide) ?_
      refine lv_icmp_ge (tgt := 20) xx xb dX2_copies_5 (by decide) (fun c_5 => ?_) (fun c_5 => ?_)
      · skip
        have c_5 := le_c (tN (by omega)) (tN (by omega)) c_5
        have hw : Wd G (fA [(ar, aI G 54 f), (br, aI G 54 g)]) s [(ar, aI G 54 f), (br, aI G 54 f)] H locs := wd_arr hw 1 rfl f (fun j hj => by unfold mixF; rw [if_pos (by omega)])
        exact rt_v C hw () trivial rfl dX2_copies_20
      · skip
        have c_5 := nle_c (tN (by omega)) (tN (by omega)) c_5
        refine lv_aload_n xx xb dX2_copies_8 rfl (lv_at hl 1 rfl) ?_
        refine lv_iload_n xx xb dX2_copies_9 rfl (lv_at hl 2 rfl) ?_
        refine lv_aload_n xx xb dX2_copies_10 rfl (lv_at hl 0 rfl) ?_
        refine lv_iload_n xx xb dX2_copies_11 rfl (lv_at hl 2 rfl) ?_
        refine m_ald C hw 0 rfl i rfl (by omega) (by decide) dX2_copies_12 ?_
        refine m_ast C hw 1 rfl i rfl (by omega) (by decide) (mixF f g (i + 1)) (mix_s f g i) dX2_copies_13 (fun H locs hw => ?_)
        have hw : Wd G (fA [(ar, aI G 54 f), (br, aI G 54 g)]) s [(ar, aI G 54 f), (br, aI G 54 (mixF f g (i + 1)))] H locs := hw
        refine lv_iinc (v := nI (i + 1)) (lv' := [(2, .int (nI (i + 1))), (0, .ref ar), (1, .ref br)]) xx xb dX2_copies_14 hl (k := 2) rfl (nI_add _ 1) (by decide) rfl (fun ls hl => ?_)
        refine lv_goto (tgt := 2) xx xb dX2_copies_17 (by decide) ?_
        exact ih_2 (i + 1) H _ ls (by omega) (by omega) hw (lv_sub hl [1, 2, 0] rfl)
  exact L_2 (_ + 1) 0 H _ ls (Nat.lt_succ_self _) (by omega) hw (lv_sub hl [1, 2, 0] rfl)
set_option maxRecDepth 100000 in
set_option maxHeartbeats 4000000 in
theorem kX2_minutesOn (l : Launch) (G : GT) (ar : Nat) (R : RT) (n : Nat) (hR : OK R) (hK : AK R) (hn : n < 1000) : Ct l yX2_minutesOn cX2_minutesOn 3 (none) 4 88 [.ref ar, .int (nI n)] G [(ar, aI G 54 (fl R))] (QV G [(ar, aI G 54 (fl R))] (fun u : Unit => True) (fun u => [(ar, aI G 54 (fl (itF R n)))])) := by
  refine en (by decide +kernel) (Nat.le_of_ble_eq_true rfl) ?_
  intro p e s m below meth c ls H locs C hl hw
  have xx := C.1
  have xb := C.2.1
  have hw : Wd G (fA [(ar, aI G 54 (fl R))]) s [(ar, aI G 54 (fl R))] H locs := hw
  have hl : lv_has ls 3 [(0, .ref ar), (1, .int (nI n))] := hl
  refine lv_iconst (v := nI 0) xx xb dX2_minutesOn_0 (by decide) ?_
  refine lv_istore_n (lv' := [(2, .int (nI 0)), (0, .ref ar), (1, .int (nI n))]) xx xb dX2_minutesOn_1 rfl hl (by decide) rfl (fun ls hl => ?_)
  have hw : Wd G (fA [(ar, aI G 54 (fl R))]) s [(ar, aI G 54 (fl (itF R 0)))] H locs := hw
  have L_2 : ∀ (fu : Nat) (i : Nat) (H : Heap) (locs : List Loc) (ls : Array Slot), n - i < fu → (i ≤ n) → Wd G (fA [(ar, aI G 54 (fl R))]) s [(ar, aI G 54 (fl (itF R i)))] H locs → lv_has ls 3 [(0, .ref ar), (1, .int (nI n)), (2, .int (nI i))] → W p l e ({ frames := 4, cells := 0, slots := 0, locals := 88 }) s m (([.ref ar, .int (nI n)] : List Value).toArray) below meth c H locs 0 0 (MQ below (QV G [(ar, aI G 54 (fl R))] (fun u : Unit => True) (fun u => [(ar, aI G 54 (fl (itF R n)))])) (([.ref ar, .int (nI n)] : List Value).toArray) s 0 0 (fA [(ar, aI G 54 (fl R))])) (F0 m 2 ls []) := by
    intro fu
    induction fu with
    | zero => intro i H locs ls hfu; exact absurd hfu (Nat.not_lt_zero _)
    | succ fu ih_2 =>
      intro i H locs ls hfu hi hw hl
      refine lv_iload_n xx xb dX2_minutesOn_2 rfl (lv_at hl 2 rfl) ?_
      refine lv_iload_n xx xb dX2_minutesOn_3 rfl (lv_at hl 1 rfl) ?_
      refine lv_icmp_ge (tgt := 18) xx xb dX2_minutesOn_4 (by decide) (fun c_4 => ?_) (fun c_4 => ?_)
      · skip
        have c_4 := le_c (tN (by omega)) (tN (by omega)) c_4
        have hw : Wd G (fA [(ar, aI G 54 (fl R))]) s [(ar, aI G 54 (fl (itF R n)))] H locs := by rw [show n = i by omega]; exact hw
        exact rt_v C hw () trivial rfl dX2_minutesOn_18
      · skip
        have c_4 := nle_c (tN (by omega)) (tN (by omega)) c_4
        refine lv_aload_n xx xb dX2_minutesOn_7 rfl (lv_at hl 0 rfl) ?_
        refine lv_iconst (v := nI 0) xx xb dX2_minutesOn_8 (by decide) ?_
        have hM := kX2_minute l G ar (itF R i) 0 (OK_itF hR i) (AK_itF hR hK i) (by first | assumption | omega)
        refine cs_v C hw hM ysX2_minute ml_X2_80 rfl [0] rfl rfl (fun _ => (rfl : ([ar] : List Nat) = [ar])) (by decide) ⟨Nat.zero_le _, Nat.zero_le _⟩ hl.1 rfl (Nat.le_of_ble_eq_true rfl) dX2_minutesOn_9 (fun _ H locs hr hw => ?_)
        have hw : Wd G (fA [(ar, aI G 54 (fl R))]) s [(ar, aI G 54 (fl (miF (itF R i) 0)))] H locs := hw
        have hw : Wd G (fA [(ar, aI G 54 (fl R))]) s [(ar, aI G 54 (fl (itF R (i + 1))))] H locs := hw
        refine lv_iinc (v := nI (i + 1)) (lv' := [(2, .int (nI (i + 1))), (0, .ref ar), (1, .int (nI n))]) xx xb dX2_minutesOn_12 hl (k := 2) rfl (nI_add _ 1) (by decide) rfl (fun ls hl => ?_)
        refine lv_goto (tgt := 2) xx xb dX2_minutesOn_15 (by decide) ?_
        exact ih_2 (i + 1) H _ ls (by omega) (by omega) hw (lv_sub hl [1, 2, 0] rfl)
  exact L_2 (_ + 1) 0 H _ ls (Nat.lt_succ_self _) (by omega) hw (lv_sub hl [1, 2, 0] rfl)
set_option maxRecDepth 100000 in
set_option maxHeartbeats 4000000 in
theorem kX2_wrongBy (l : Launch) (G : GT) (v : Int32) (vz : Int) (a : Int32) (az : Int) (h_v : v.toInt = vz) (h_a : a.toInt = az) : Ct l yX2_wrongBy cX2_wrongBy 2 (some .int) 0 0 [.int v, .int a] G [] (QI G [] (fun (r : Int32) (u : Unit) => r = nG (wbN vz az)) (fun u => [])) := by
  refine en (by decide +kernel) (Nat.le_of_ble_eq_true rfl) ?_
  intro p e s m below meth c ls H locs C hl hw
  have xx := C.1
  have xb := C.2.1
  have hw : Wd G (fA []) s [] H locs := hw
  have hl : lv_has ls 2 [(0, .int v), (1, .int a)] := hl
  refine lv_iload_n xx xb dX2_wrongBy_0 rfl (lv_at hl 0 rfl) ?_
  refine lv_if_ge (tgt := 9) xx xb dX2_wrongBy_1 (by decide) (fun c_1 => ?_) (fun c_1 => ?_)
  · skip
    have c_1 := le_c Int32.toInt_zero h_v c_1
    refine lv_iload_n xx xb dX2_wrongBy_9 rfl (lv_at hl 0 rfl) ?_
    refine lv_iload_n xx xb dX2_wrongBy_10 rfl (lv_at hl 1 rfl) ?_
    refine lv_icmp_le (tgt := 19) xx xb dX2_wrongBy_11 (by decide) (fun c_11 => ?_) (fun c_11 => ?_)
    · skip
      have c_11 := le_c h_v h_a c_11
      refine lv_iconst (v := nI 0) xx xb dX2_wrongBy_19 (by decide) ?_
      exact rt_i C hw () (by unfold wbN; first | (rw [if_pos (by omega)]; rfl) | (rw [if_neg (by omega), if_pos (by omega)]; rfl) | (rw [if_neg (by omega), if_neg (by omega)]; rfl)) rfl dX2_wrongBy_20
    · skip
      have c_11 := nle_c h_v h_a c_11
      refine lv_bipush (v := (-6)) xx xb dX2_wrongBy_14 (by decide) ?_
      refine lv_goto (tgt := 20) xx xb dX2_wrongBy_16 (by decide) ?_
      exact rt_i C hw () (by unfold wbN; first | (rw [if_pos (by omega)]; rfl) | (rw [if_neg (by omega), if_pos (by omega)]; rfl) | (rw [if_neg (by omega), if_neg (by omega)]; rfl)) rfl dX2_wrongBy_20
  · skip
    have c_1 := nle_c Int32.toInt_zero h_v c_1
    refine lv_bipush (v := (-4)) xx xb dX2_wrongBy_4 (by decide) ?_
    refine lv_goto (tgt := 20) xx xb dX2_wrongBy_6 (by decide) ?_
    exact rt_i C hw () (by unfold wbN; first | (rw [if_pos (by omega)]; rfl) | (rw [if_neg (by omega), if_pos (by omega)]; rfl) | (rw [if_neg (by omega), if_neg (by omega)]; rfl)) rfl dX2_wrongBy_20
set_option maxRecDepth 100000 in
set_option maxHeartbeats 4000000 in
theorem kX2_placed (l : Launch) (G : GT) (x : Int32) (y : Int32) (z : Int32) (k : Nat) (hk : k < 3) : Ct l yX2_placed cX2_placed 4 (some .int) 0 0 [.int x, .int y, .int z, .int (nI k)] G [] (QI G [] (fun (r : Int32) (u : Unit) => r = if k = 0 then x else if k = 1 then y else z) (fun u => [])) := by
  refine en (by decide +kernel) (Nat.le_of_ble_eq_true rfl) ?_
  intro p e s m below meth c ls H locs C hl hw
  have xx := C.1
  have xb := C.2.1
  have hw : Wd G (fA []) s [] H locs := hw
  have hl : lv_has ls 4 [(0, .int x), (1, .int y), (2, .int z), (3, .int (nI k))] := hl
  refine lv_iload_n xx xb dX2_placed_0 rfl (lv_at hl 3 rfl) ?_
  refine lv_if_ne (tgt := 8) xx xb dX2_placed_1 (by decide) (fun c_1 => ?_) (fun c_1 => ?_)
  · skip
    have c_1 := ne_c (tN (by omega)) Int32.toInt_zero c_1
    refine lv_iload_n xx xb dX2_placed_8 rfl (lv_at hl 3 rfl) ?_
    refine lv_iconst (v := nI 1) xx xb dX2_placed_9 (by decide) ?_
    refine lv_icmp_ne (tgt := 17) xx xb dX2_placed_10 (by decide) (fun c_10 => ?_) (fun c_10 => ?_)
    · skip
      have c_10 := ne_c (tN (by omega)) (tN (by omega)) c_10
      refine lv_iload_n xx xb dX2_placed_17 rfl (lv_at hl 2 rfl) ?_
      exact rt_i C hw () (by first | rw [if_pos (by omega)] | (rw [if_neg (by omega), if_pos (by omega)]) | (rw [if_neg (by omega), if_neg (by omega)])) rfl dX2_placed_18
    · skip
      have c_10 := eq_c (tN (by omega)) (tN (by omega)) c_10
      refine lv_iload_n xx xb dX2_placed_13 rfl (lv_at hl 1 rfl) ?_
      refine lv_goto (tgt := 18) xx xb dX2_placed_14 (by decide) ?_
      exact rt_i C hw () (by first | rw [if_pos (by omega)] | (rw [if_neg (by omega), if_pos (by omega)]) | (rw [if_neg (by omega), if_neg (by omega)])) rfl dX2_placed_18
  · skip
    have c_1 := eq_c (tN (by omega)) Int32.toInt_zero c_1
    refine lv_iload_n xx xb dX2_placed_4 rfl (lv_at hl 0 rfl) ?_
    refine lv_goto (tgt := 18) xx xb dX2_placed_5 (by decide) ?_
    exact rt_i C hw () (by first | rw [if_pos (by omega)] | (rw [if_neg (by omega), if_pos (by omega)]) | (rw [if_neg (by omega), if_neg (by omega)])) rfl dX2_placed_18
