set_option maxRecDepth 100000 in
set_option maxHeartbeats 4000000 in
theorem kX2_minute (l : Launch) (G : GT) (ar : Nat) (R : RT) (d : Nat) (hR : OK R) (hK : AK R) (hd : d ≤ 1) : Ct l yX2_minute cX2_minute 5 (none) 3 64 [.ref ar, .int (nI d)] G [(ar, aI G 54 (fl R))] (QV G [(ar, aI G 54 (fl R))] (fun u : Unit => True) (fun u => [(ar, aI G 54 (fl (miF R d)))])) := by
  refine en (by decide +kernel) (Nat.le_of_ble_eq_true rfl) ?_
  intro p e s m below meth c ls H locs C hl hw
  have xx := C.1
  have xb := C.2.1
  have hw : Wd G (fA [(ar, aI G 54 (fl R))]) s [(ar, aI G 54 (fl R))] H locs := hw
  have hl : lv_has ls 5 [(0, .ref ar), (1, .int (nI d))] := hl
  have hS := OK_bmp hR
  have hT := AK_bmp hK
  obtain ⟨hsn, hsf, hsp, hSA⟩ := id hS
  have hb10 := bs_lt (heldF (bmp R)) (bmp R 0 0)
  have hsl := setF_lt hS 1
  have h210 : 2 ^ bmp R 0 0 ≤ 2 ^ 10 := Nat.pow_le_pow_right (by decide) hsn
  refine lv_aload_n xx xb dX2_minute_0 rfl (lv_at hl 0 rfl) ?_
  refine lv_iconst (v := nI 1) xx xb dX2_minute_1 (by decide) ?_
  refine lv_dup2_11 xx xb dX2_minute_2 rfl rfl ?_
  refine m_ald C hw 0 rfl 1 rfl (by omega) (by decide) dX2_minute_3 ?_
  refine re_i (nI (R 0 1)) (fl_h R (by decide)) ?_
  refine lv_iconst (v := nI 1) xx xb dX2_minute_4 (by decide) ?_
  refine lv_iadd xx xb dX2_minute_5 ?_
  refine re_i (nI ((R 0 1) + 1)) (nI_add _ _) ?_
  refine m_ast C hw 0 rfl 1 rfl (by omega) (by decide) (fl (upR R 0 1 ((R 0 1) + 1))) (fl_uh _ (by decide)) dX2_minute_6 (fun H locs hw => ?_)
  have hw : Wd G (fA [(ar, aI G 54 (fl R))]) s [(ar, aI G 54 (fl (upR R 0 1 ((R 0 1) + 1))))] H locs := hw
  have hw : Wd G (fA [(ar, aI G 54 (fl R))]) s [(ar, aI G 54 (fl (bmp R)))] H locs := hw
  refine lv_iconst (v := nI 0) xx xb dX2_minute_7 (by decide) ?_
  refine lv_istore_n (lv' := [(2, .int (nI 0)), (0, .ref ar), (1, .int (nI d))]) xx xb dX2_minute_8 rfl hl (by decide) rfl (fun ls hl => ?_)
  refine lv_iconst (v := nI 0) xx xb dX2_minute_9 (by decide) ?_
  refine lv_istore_n (lv' := [(3, .int (nI 0)), (2, .int (nI 0)), (0, .ref ar), (1, .int (nI d))]) xx xb dX2_minute_10 rfl hl (by decide) rfl (fun ls hl => ?_)
  have L_11 : ∀ (fu : Nat) (i : Nat) (H : Heap) (locs : List Loc) (ls : Array Slot), 10 - i < fu → (i ≤ bmp R 0 0) → Wd G (fA [(ar, aI G 54 (fl R))]) s [(ar, aI G 54 (fl (bmp R)))] H locs → lv_has ls 5 [(0, .ref ar), (1, .int (nI d)), (2, .int (nI (bs (heldF (bmp R)) i))), (3, .int (nI i))] → W p l e ({ frames := 3, cells := 0, slots := 0, locals := 64 }) s m (([.ref ar, .int (nI d)] : List Value).toArray) below meth c H locs 0 0 (MQ below (QV G [(ar, aI G 54 (fl R))] (fun u : Unit => True) (fun u => [(ar, aI G 54 (fl (miF R d)))])) (([.ref ar, .int (nI d)] : List Value).toArray) s 0 0 (fA [(ar, aI G 54 (fl R))])) (F0 m 11 ls []) := by
    intro fu
    induction fu with
    | zero => intro i H locs ls hfu; exact absurd hfu (Nat.not_lt_zero _)
    | succ fu ih_11 =>
      intro i H locs ls hfu hi hw hl
      refine lv_iload_n xx xb dX2_minute_11 rfl (lv_at hl 3 rfl) ?_
      refine lv_aload_n xx xb dX2_minute_12 rfl (lv_at hl 0 rfl) ?_
      refine lv_iconst (v := nI 0) xx xb dX2_minute_13 (by decide) ?_
      refine m_ald C hw 0 rfl 0 rfl (by omega) (by decide) dX2_minute_14 ?_
      refine re_i (nI ((bmp R) 0 0)) (fl_h (bmp R) (by decide)) ?_
      refine lv_icmp_ge (tgt := 42) xx xb dX2_minute_15 (by decide) (fun c_15 => ?_) (fun c_15 => ?_)
      · skip
        have c_15 := le_c (tN (by omega)) (tN (by omega)) c_15
        have hl : lv_has ls 5 [(0, .ref ar), (1, .int (nI d)), (2, .int (nI (bs (heldF (bmp R)) (bmp R 0 0)))), (3, .int (nI i))] := by rw [show bmp R 0 0 = i by omega]; exact hl
        refine lv_aload_n xx xb dX2_minute_42 rfl (lv_at hl 0 rfl) ?_
        refine lv_iconst (v := nI 1) xx xb dX2_minute_43 (by decide) ?_
        have hM := kX2_setOf l G ar (bmp R) 1 (by first | assumption | omega) (by first | assumption | omega)
        refine cs_i C hw hM ysX2_setOf ml_X2_73 rfl [0] rfl rfl (fun _ => (rfl : ([ar] : List Nat) = [ar])) (by decide) ⟨Nat.zero_le _, Nat.zero_le _⟩ hl.1 rfl (Nat.le_of_ble_eq_true rfl) dX2_minute_44 (fun r _ H locs hr hw => ?_)
        have hw : Wd G (fA [(ar, aI G 54 (fl R))]) s [(ar, aI G 54 (fl (bmp R)))] H locs := hw
        subst hr
        refine lv_if_eq (tgt := 54) xx xb dX2_minute_47 (by decide) (fun c_47 => ?_) (fun c_47 => ?_)
        · skip
          have c_47 := eq_c (tN (by omega)) Int32.toInt_zero c_47
          refine lv_iconst (v := nI 0) xx xb dX2_minute_54 (by decide) ?_
          refine re_i (if slF (bmp R) = true then 1 else 0) (by first | exact r1 (by unfold slF; rw [decide_eq_true_eq]; omega) | exact r0 (by unfold slF; rw [decide_eq_true_eq]; omega)) ?_
          refine lv_istore_n (lv' := [(3, .int (if slF (bmp R) = true then 1 else 0)), (0, .ref ar), (1, .int (nI d)), (2, .int (nI (bs (heldF (bmp R)) (bmp R 0 0))))]) xx xb dX2_minute_55 rfl hl (by decide) rfl (fun ls hl => ?_)
          refine lv_iconst (v := nI 0) xx xb dX2_minute_56 (by decide) ?_
          have hw : Wd G (fA [(ar, aI G 54 (fl R))]) s [(ar, aI G 54 (fl (air2 (bmp R) d 0)))] H locs := by rw [← air2_0]; exact hw
          refine lv_istore (lv' := [(4, .int (nI 0)), (3, .int (if slF (bmp R) = true then 1 else 0)), (0, .ref ar), (1, .int (nI d)), (2, .int (nI (bs (heldF (bmp R)) (bmp R 0 0))))]) xx xb dX2_minute_57 hl (by decide) rfl (fun ls hl => ?_)
          have L_59 : ∀ (fu : Nat) (i : Nat) (H : Heap) (locs : List Loc) (ls : Array Slot), 10 - i < fu → (i ≤ bmp R 0 0) → Wd G (fA [(ar, aI G 54 (fl R))]) s [(ar, aI G 54 (fl (air2 (bmp R) d i)))] H locs → lv_has ls 5 [(0, .ref ar), (1, .int (nI d)), (2, .int (nI (bs (heldF (bmp R)) (bmp R 0 0)))), (3, .int (if slF (bmp R) = true then 1 else 0)), (4, .int (nI i))] → W p l e ({ frames := 3, cells := 0, slots := 0, locals := 64 }) s m (([.ref ar, .int (nI d)] : List Value).toArray) below meth c H locs 0 0 (MQ below (QV G [(ar, aI G 54 (fl R))] (fun u : Unit => True) (fun u => [(ar, aI G 54 (fl (miF R d)))])) (([.ref ar, .int (nI d)] : List Value).toArray) s 0 0 (fA [(ar, aI G 54 (fl R))])) (F0 m 59 ls []) := by
            intro fu
            induction fu with
            | zero => intro i H locs ls hfu; exact absurd hfu (Nat.not_lt_zero _)
            | succ fu ih_59 =>
              intro i H locs ls hfu hi hw hl
              refine lv_iload xx xb dX2_minute_59 (lv_at hl 4 rfl) ?_
              refine lv_aload_n xx xb dX2_minute_61 rfl (lv_at hl 0 rfl) ?_
              refine lv_iconst (v := nI 0) xx xb dX2_minute_62 (by decide) ?_
              refine m_ald C hw 0 rfl 0 rfl (by omega) (by decide) dX2_minute_63 ?_
              refine re_i (nI ((air2 (bmp R) d i) 0 0)) (fl_h (air2 (bmp R) d i) (by decide)) ?_
              refine re_i (nI (bmp R 0 0)) rfl ?_
              refine lv_icmp_ge (tgt := 118) xx xb dX2_minute_64 (by decide) (fun c_64 => ?_) (fun c_64 => ?_)
              · skip
                have c_64 := le_c (tN (by omega)) (tN (by omega)) c_64
                have hw : Wd G (fA [(ar, aI G 54 (fl R))]) s [(ar, aI G 54 (fl (how3 (bmp R) d 0)))] H locs := by rw [← how3_0, ← show i = bmp R 0 0 by omega]; exact hw
                refine lv_iconst (v := nI 0) xx xb dX2_minute_118 (by decide) ?_
                refine lv_istore (lv' := [(4, .int (nI 0)), (0, .ref ar), (1, .int (nI d)), (2, .int (nI (bs (heldF (bmp R)) (bmp R 0 0)))), (3, .int (if slF (bmp R) = true then 1 else 0))]) xx xb dX2_minute_119 hl (by decide) rfl (fun ls hl => ?_)
                have L_121 : ∀ (fu : Nat) (i : Nat) (H : Heap) (locs : List Loc) (ls : Array Slot), 10 - i < fu → (i ≤ bmp R 0 0) → Wd G (fA [(ar, aI G 54 (fl R))]) s [(ar, aI G 54 (fl (how3 (bmp R) d i)))] H locs → lv_has ls 5 [(0, .ref ar), (3, .int (if slF (bmp R) = true then 1 else 0)), (4, .int (nI i))] → W p l e ({ frames := 3, cells := 0, slots := 0, locals := 64 }) s m (([.ref ar, .int (nI d)] : List Value).toArray) below meth c H locs 0 0 (MQ below (QV G [(ar, aI G 54 (fl R))] (fun u : Unit => True) (fun u => [(ar, aI G 54 (fl (miF R d)))])) (([.ref ar, .int (nI d)] : List Value).toArray) s 0 0 (fA [(ar, aI G 54 (fl R))])) (F0 m 121 ls []) := by
                  intro fu
                  induction fu with
                  | zero => intro i H locs ls hfu; exact absurd hfu (Nat.not_lt_zero _)
                  | succ fu ih_121 =>
                    intro i H locs ls hfu hi hw hl
                    refine lv_iload xx xb dX2_minute_121 (lv_at hl 2 rfl) ?_
                    refine lv_aload_n xx xb dX2_minute_123 rfl (lv_at hl 0 rfl) ?_
                    refine lv_iconst (v := nI 0) xx xb dX2_minute_124 (by decide) ?_
                    refine m_ald C hw 0 rfl 0 rfl (by omega) (by decide) dX2_minute_125 ?_
                    refine re_i (nI ((how3 (bmp R) d i) 0 0)) (fl_h (how3 (bmp R) d i) (by decide)) ?_
                    refine re_i (nI (bmp R 0 0)) rfl ?_
                    refine lv_icmp_ge (tgt := 171) xx xb dX2_minute_126 (by decide) (fun c_126 => ?_) (fun c_126 => ?_)
                    · skip
                      have c_126 := le_c (tN (by omega)) (tN (by omega)) c_126
                      have hw : Wd G (fA [(ar, aI G 54 (fl R))]) s [(ar, aI G 54 (fl (miF R d)))] H locs := by unfold miF; rw [show minF (bmp R) d = how3 (bmp R) d (bmp R 0 0) from rfl, ← show i = bmp R 0 0 by omega]; exact hw
                      exact rt_v C hw () trivial rfl dX2_minute_171
                    · skip
                      have c_126 := nle_c (tN (by omega)) (tN (by omega)) c_126
                      have hi2 : i < bmp R 0 0 := by omega
                      obtain ⟨q1, q2, q3, q4, q5⟩ := hSA i (by omega)
                      have ha5 : how3 (bmp R) d i 5 i = airF (bmp R) d i := by unfold how3; rw [if_pos ⟨rfl, hi2⟩]
                      refine lv_aload_n xx xb dX2_minute_129 rfl (lv_at hl 0 rfl) ?_
                      refine lv_iload xx xb dX2_minute_130 (lv_at hl 2 rfl) ?_
                      have hM := kX2_stands l G ar (how3 (bmp R) d i) i (OK_how3 d i hS) (by show i < bmp R 0 0; omega)
                      refine cs_i C hw hM ysX2_stands ml_X2_55 rfl [0] rfl rfl (fun _ => (rfl : ([ar] : List Nat) = [ar])) (by decide) ⟨Nat.zero_le _, Nat.zero_le _⟩ hl.1 rfl (Nat.le_of_ble_eq_true rfl) dX2_minute_132 (fun r _ H locs hr hw => ?_)
                      have hw : Wd G (fA [(ar, aI G 54 (fl R))]) s [(ar, aI G 54 (fl (how3 (bmp R) d i)))] H locs := hw
                      subst hr
                      refine re_i (if bmp R 4 i = 0 then 1 else 0) (by unfold how3; simp) ?_
                      refine lv_if_eq (tgt := 165) xx xb dX2_minute_135 (by decide) (fun c_135 => ?_) (fun c_135 => ?_)
                      · skip
                        have c_135 := b0_c c_135
                        have hw : Wd G (fA [(ar, aI G 54 (fl R))]) s [(ar, aI G 54 (fl (how3 (bmp R) d (i + 1))))] H locs := by rw [← how3_n (by unfold howF; rw [if_neg (by first | (exact fun q => c_135 q.1) | omega)])]; exact hw
                        refine lv_iinc (v := nI (i + 1)) (lv' := [(4, .int (nI (i + 1))), (0, .ref ar), (3, .int (if slF (bmp R) = true then 1 else 0))]) xx xb dX2_minute_165 hl (k := 2) rfl (nI_add _ 1) (by decide) rfl (fun ls hl => ?_)
                        refine lv_goto (tgt := 121) xx xb dX2_minute_168 (by decide) ?_
                        exact ih_121 (i + 1) H _ ls (by omega) (by omega) hw (lv_sub hl [1, 2, 0] rfl)
                      · skip
                        have c_135 := b1_c c_135
                        refine lv_aload_n xx xb dX2_minute_138 rfl (lv_at hl 0 rfl) ?_
                        refine lv_iload xx xb dX2_minute_139 (lv_at hl 2 rfl) ?_
                        refine lv_iconst (v := nI 4) xx xb dX2_minute_141 (by decide) ?_
                        have hM := kX2_of l G i 4 
                        refine cs_i C hw hM ysX2_of ml_X2_44 rfl [] rfl rfl (fun _ => (rfl : ([] : List Nat) = [])) (by decide) ⟨Nat.zero_le _, Nat.zero_le _⟩ hl.1 rfl (Nat.le_of_ble_eq_true rfl) dX2_minute_142 (fun r _ H locs hr hw => ?_)
                        have hw : Wd G (fA [(ar, aI G 54 (fl R))]) s [(ar, aI G 54 (fl (how3 (bmp R) d i)))] H locs := hw
                        subst hr
                        refine m_ald C hw 0 rfl (4 + 5 * i + 4) rfl (by omega) (by decide) dX2_minute_145 ?_
                        refine re_i (nI ((how3 (bmp R) d i) 5 i)) (fl_k (how3 (bmp R) d i) (by decide) (by decide)) ?_
                        refine re_i (nI (airF (bmp R) d i)) (congrArg nI ha5) ?_
                        refine lv_aload_n xx xb dX2_minute_146 rfl (lv_at hl 0 rfl) ?_
                        refine lv_iload xx xb dX2_minute_147 (lv_at hl 2 rfl) ?_
                        refine lv_iload_n xx xb dX2_minute_149 rfl (lv_at hl 1 rfl) ?_
                        have hM := kX2_habit l G ar (how3 (bmp R) d i) i (slF (bmp R)) (OK_how3 d i hS) (by show i < bmp R 0 0; omega)
                        refine cs_i C hw hM ysX2_habit ml_X2_76 rfl [0] rfl rfl (fun _ => (rfl : ([ar] : List Nat) = [ar])) (by decide) ⟨Nat.zero_le _, Nat.zero_le _⟩ hl.1 rfl (Nat.le_of_ble_eq_true rfl) dX2_minute_150 (fun r _ H locs hr hw => ?_)
                        have hw : Wd G (fA [(ar, aI G 54 (fl R))]) s [(ar, aI G 54 (fl (how3 (bmp R) d i)))] H locs := hw
                        subst hr
                        refine re_i (nI (habF (bmp R) i (slF (bmp R)))) rfl ?_
                        have hh9 := habF_le (R := bmp R) (a := i) (sl := slF (bmp R)) (by omega)
                        have ha9 := airF_le (S := bmp R) (a := i) hd (hT i (by omega))
                        have ha5 : airF (bmp R) d i = airF (bmp R) d i := rfl
                        refine lv_icmp_le (tgt := 165) xx xb dX2_minute_153 (by decide) (fun c_153 => ?_) (fun c_153 => ?_)
                        · skip
                          have c_153 := le_c (tN (by omega)) (tN (by omega)) c_153
                          have hw : Wd G (fA [(ar, aI G 54 (fl R))]) s [(ar, aI G 54 (fl (how3 (bmp R) d (i + 1))))] H locs := by rw [← how3_n (by unfold howF; rw [if_neg (by first | (exact fun q => c_135 q.1) | omega)])]; exact hw
                          refine lv_iinc (v := nI (i + 1)) (lv' := [(4, .int (nI (i + 1))), (0, .ref ar), (3, .int (if slF (bmp R) = true then 1 else 0))]) xx xb dX2_minute_165 hl (k := 2) rfl (nI_add _ 1) (by decide) rfl (fun ls hl => ?_)
                          refine lv_goto (tgt := 121) xx xb dX2_minute_168 (by decide) ?_
                          exact ih_121 (i + 1) H _ ls (by omega) (by omega) hw (lv_sub hl [1, 2, 0] rfl)
                        · skip
                          have c_153 := nle_c (tN (by omega)) (tN (by omega)) c_153
                          refine lv_aload_n xx xb dX2_minute_156 rfl (lv_at hl 0 rfl) ?_
                          refine lv_iload xx xb dX2_minute_157 (lv_at hl 2 rfl) ?_
                          refine lv_iconst (v := nI 3) xx xb dX2_minute_159 (by decide) ?_
                          have hM := kX2_of l G i 3 
                          refine cs_i C hw hM ysX2_of ml_X2_44 rfl [] rfl rfl (fun _ => (rfl : ([] : List Nat) = [])) (by decide) ⟨Nat.zero_le _, Nat.zero_le _⟩ hl.1 rfl (Nat.le_of_ble_eq_true rfl) dX2_minute_160 (fun r _ H locs hr hw => ?_)
                          have hw : Wd G (fA [(ar, aI G 54 (fl R))]) s [(ar, aI G 54 (fl (how3 (bmp R) d i)))] H locs := hw
                          subst hr
                          refine lv_iconst (v := nI 1) xx xb dX2_minute_163 (by decide) ?_
                          refine m_ast C hw 0 rfl (4 + 5 * i + 3) rfl (by omega) (by decide) (fl (how3 (bmp R) d (i + 1))) ((fl_uk _ (by decide) (by decide)).trans (congrArg fl (how3_s (by unfold howF; rw [if_pos (And.intro c_135 (by rw [ha5] at c_153; omega))])))) dX2_minute_164 (fun H locs hw => ?_)
                          have hw : Wd G (fA [(ar, aI G 54 (fl R))]) s [(ar, aI G 54 (fl (how3 (bmp R) d (i + 1))))] H locs := hw
                          refine lv_iinc (v := nI (i + 1)) (lv' := [(4, .int (nI (i + 1))), (0, .ref ar), (3, .int (if slF (bmp R) = true then 1 else 0))]) xx xb dX2_minute_165 hl (k := 2) rfl (nI_add _ 1) (by decide) rfl (fun ls hl => ?_)
                          refine lv_goto (tgt := 121) xx xb dX2_minute_168 (by decide) ?_
                          exact ih_121 (i + 1) H _ ls (by omega) (by omega) hw (lv_sub hl [1, 2, 0] rfl)
                exact L_121 (_ + 1) 0 H _ ls (Nat.lt_succ_self _) (by omega) hw (lv_sub hl [1, 4, 0] rfl)
              · skip
                have c_64 := nle_c (tN (by omega)) (tN (by omega)) c_64
                have hi2 : i < bmp R 0 0 := by omega
                obtain ⟨q1, q2, q3, q4, q5⟩ := hSA i (by omega)
                refine lv_aload_n xx xb dX2_minute_67 rfl (lv_at hl 0 rfl) ?_
                refine lv_iload xx xb dX2_minute_68 (lv_at hl 4 rfl) ?_
                have hM := kX2_stands l G ar (air2 (bmp R) d i) i (OK_air2 d i hS) (by show i < bmp R 0 0; omega)
                refine cs_i C hw hM ysX2_stands ml_X2_55 rfl [0] rfl rfl (fun _ => (rfl : ([ar] : List Nat) = [ar])) (by decide) ⟨Nat.zero_le _, Nat.zero_le _⟩ hl.1 rfl (Nat.le_of_ble_eq_true rfl) dX2_minute_70 (fun r _ H locs hr hw => ?_)
                have hw : Wd G (fA [(ar, aI G 54 (fl R))]) s [(ar, aI G 54 (fl (air2 (bmp R) d i)))] H locs := hw
                subst hr
                refine re_i (if bmp R 4 i = 0 then 1 else 0) rfl ?_
                refine lv_if_ne (tgt := 79) xx xb dX2_minute_73 (by decide) (fun c_73 => ?_) (fun c_73 => ?_)
                · skip
                  have c_73 := b1_c c_73
                  refine lv_aload_n xx xb dX2_minute_79 rfl (lv_at hl 0 rfl) ?_
                  refine lv_iload xx xb dX2_minute_80 (lv_at hl 4 rfl) ?_
                  refine lv_iconst (v := nI 4) xx xb dX2_minute_82 (by decide) ?_
                  have hM := kX2_of l G i 4 
                  refine cs_i C hw hM ysX2_of ml_X2_44 rfl [] rfl rfl (fun _ => (rfl : ([] : List Nat) = [])) (by decide) ⟨Nat.zero_le _, Nat.zero_le _⟩ hl.1 rfl (Nat.le_of_ble_eq_true rfl) dX2_minute_83 (fun r _ H locs hr hw => ?_)
                  have hw : Wd G (fA [(ar, aI G 54 (fl R))]) s [(ar, aI G 54 (fl (air2 (bmp R) d i)))] H locs := hw
                  subst hr
                  refine lv_iload_n xx xb dX2_minute_86 rfl (lv_at hl 2 rfl) ?_
                  refine lv_iload xx xb dX2_minute_87 (lv_at hl 4 rfl) ?_
                  have hM := kX2_has l G (bs (heldF (bmp R)) (bmp R 0 0)) i (by first | assumption | omega) (by first | assumption | omega)
                  refine cs_i C hw hM ysX2_has ml_X2_51 rfl [] rfl rfl (fun _ => (rfl : ([] : List Nat) = [])) (by decide) ⟨Nat.zero_le _, Nat.zero_le _⟩ hl.1 rfl (Nat.le_of_ble_eq_true rfl) dX2_minute_89 (fun r _ H locs hr hw => ?_)
                  have hw : Wd G (fA [(ar, aI G 54 (fl R))]) s [(ar, aI G 54 (fl (air2 (bmp R) d i)))] H locs := hw
                  subst hr
                  refine re_i (if heldF (bmp R) i = true then 1 else 0) (by rw [bs_bit]; simp [hi2]) ?_
                  refine lv_if_eq (tgt := 99) xx xb dX2_minute_92 (by decide) (fun c_92 => ?_) (fun c_92 => ?_)
                  · skip
                    have c_92 := b0_c c_92
                    refine lv_aload_n xx xb dX2_minute_99 rfl (lv_at hl 0 rfl) ?_
                    refine lv_iload xx xb dX2_minute_100 (lv_at hl 4 rfl) ?_
                    refine lv_iconst (v := nI 4) xx xb dX2_minute_102 (by decide) ?_
                    have hM := kX2_of l G i 4 
                    refine cs_i C hw hM ysX2_of ml_X2_44 rfl [] rfl rfl (fun _ => (rfl : ([] : List Nat) = [])) (by decide) ⟨Nat.zero_le _, Nat.zero_le _⟩ hl.1 rfl (Nat.le_of_ble_eq_true rfl) dX2_minute_103 (fun r _ H locs hr hw => ?_)
                    have hw : Wd G (fA [(ar, aI G 54 (fl R))]) s [(ar, aI G 54 (fl (air2 (bmp R) d i)))] H locs := hw
                    subst hr
                    refine m_ald C hw 0 rfl (4 + 5 * i + 4) rfl (by omega) (by decide) dX2_minute_106 ?_
                    refine re_i (nI ((air2 (bmp R) d i) 5 i)) (fl_k (air2 (bmp R) d i) (by decide) (by decide)) ?_
                    refine re_i (nI (bmp R 5 i)) (congrArg nI (by unfold air2; rw [if_neg (by omega)])) ?_
                    refine lv_iconst (v := nI 1) xx xb dX2_minute_107 (by decide) ?_
                    refine lv_iadd xx xb dX2_minute_108 ?_
                    refine re_i (nI ((bmp R 5 i) + 1)) (nI_add _ _) ?_
                    refine lv_iload_n xx xb dX2_minute_109 rfl (lv_at hl 1 rfl) ?_
                    refine lv_iadd xx xb dX2_minute_110 ?_
                    refine re_i (nI (((bmp R 5 i) + 1) + d)) (nI_add _ _) ?_
                    refine m_ast C hw 0 rfl (4 + 5 * i + 4) rfl (by omega) (by decide) (fl (air2 (bmp R) d (i + 1))) ((fl_uk _ (by decide) (by decide)).trans (congrArg fl (air2_s (by unfold airF; rw [if_pos c_73]; first | rw [if_pos c_92] | rw [if_neg c_92])))) dX2_minute_111 (fun H locs hw => ?_)
                    have hw : Wd G (fA [(ar, aI G 54 (fl R))]) s [(ar, aI G 54 (fl (air2 (bmp R) d (i + 1))))] H locs := hw
                    refine lv_iinc (v := nI (i + 1)) (lv' := [(4, .int (nI (i + 1))), (0, .ref ar), (1, .int (nI d)), (2, .int (nI (bs (heldF (bmp R)) (bmp R 0 0)))), (3, .int (if slF (bmp R) = true then 1 else 0))]) xx xb dX2_minute_112 hl (k := 4) rfl (nI_add _ 1) (by decide) rfl (fun ls hl => ?_)
                    refine lv_goto (tgt := 59) xx xb dX2_minute_115 (by decide) ?_
                    exact ih_59 (i + 1) H _ ls (by omega) (by omega) hw (lv_sub hl [1, 2, 3, 4, 0] rfl)
                  · skip
                    have c_92 := b1_c c_92
                    refine lv_iconst (v := nI 0) xx xb dX2_minute_95 (by decide) ?_
                    refine lv_goto (tgt := 111) xx xb dX2_minute_96 (by decide) ?_
                    refine m_ast C hw 0 rfl (4 + 5 * i + 4) rfl (by omega) (by decide) (fl (air2 (bmp R) d (i + 1))) ((fl_uk _ (by decide) (by decide)).trans (congrArg fl (air2_s (by unfold airF; rw [if_pos c_73]; first | rw [if_pos c_92] | rw [if_neg c_92])))) dX2_minute_111 (fun H locs hw => ?_)
                    have hw : Wd G (fA [(ar, aI G 54 (fl R))]) s [(ar, aI G 54 (fl (air2 (bmp R) d (i + 1))))] H locs := hw
                    refine lv_iinc (v := nI (i + 1)) (lv' := [(4, .int (nI (i + 1))), (0, .ref ar), (1, .int (nI d)), (2, .int (nI (bs (heldF (bmp R)) (bmp R 0 0)))), (3, .int (if slF (bmp R) = true then 1 else 0))]) xx xb dX2_minute_112 hl (k := 4) rfl (nI_add _ 1) (by decide) rfl (fun ls hl => ?_)
                    refine lv_goto (tgt := 59) xx xb dX2_minute_115 (by decide) ?_
                    exact ih_59 (i + 1) H _ ls (by omega) (by omega) hw (lv_sub hl [1, 2, 3, 4, 0] rfl)
                · skip
                  have c_73 := b0_c c_73
                  refine lv_goto (tgt := 112) xx xb dX2_minute_76 (by decide) ?_
                  have hw : Wd G (fA [(ar, aI G 54 (fl R))]) s [(ar, aI G 54 (fl (air2 (bmp R) d (i + 1))))] H locs := by rw [← air2_n (by unfold airF; rw [if_neg c_73])]; exact hw
                  refine lv_iinc (v := nI (i + 1)) (lv' := [(4, .int (nI (i + 1))), (0, .ref ar), (1, .int (nI d)), (2, .int (nI (bs (heldF (bmp R)) (bmp R 0 0)))), (3, .int (if slF (bmp R) = true then 1 else 0))]) xx xb dX2_minute_112 hl (k := 4) rfl (nI_add _ 1) (by decide) rfl (fun ls hl => ?_)
                  refine lv_goto (tgt := 59) xx xb dX2_minute_115 (by decide) ?_
                  exact ih_59 (i + 1) H _ ls (by omega) (by omega) hw (lv_sub hl [1, 2, 3, 4, 0] rfl)
          exact L_59 (_ + 1) 0 H _ ls (Nat.lt_succ_self _) (by omega) hw (lv_sub hl [2, 3, 4, 1, 0] rfl)
        · skip
          have c_47 := ne_c (tN (by omega)) Int32.toInt_zero c_47
          refine lv_iconst (v := nI 1) xx xb dX2_minute_50 (by decide) ?_
          refine lv_goto (tgt := 55) xx xb dX2_minute_51 (by decide) ?_
          refine re_i (if slF (bmp R) = true then 1 else 0) (by first | exact r1 (by unfold slF; rw [decide_eq_true_eq]; omega) | exact r0 (by unfold slF; rw [decide_eq_true_eq]; omega)) ?_
          refine lv_istore_n (lv' := [(3, .int (if slF (bmp R) = true then 1 else 0)), (0, .ref ar), (1, .int (nI d)), (2, .int (nI (bs (heldF (bmp R)) (bmp R 0 0))))]) xx xb dX2_minute_55 rfl hl (by decide) rfl (fun ls hl => ?_)
          refine lv_iconst (v := nI 0) xx xb dX2_minute_56 (by decide) ?_
          have hw : Wd G (fA [(ar, aI G 54 (fl R))]) s [(ar, aI G 54 (fl (air2 (bmp R) d 0)))] H locs := by rw [← air2_0]; exact hw
          refine lv_istore (lv' := [(4, .int (nI 0)), (3, .int (if slF (bmp R) = true then 1 else 0)), (0, .ref ar), (1, .int (nI d)), (2, .int (nI (bs (heldF (bmp R)) (bmp R 0 0))))]) xx xb dX2_minute_57 hl (by decide) rfl (fun ls hl => ?_)
          have L_59 : ∀ (fu : Nat) (i : Nat) (H : Heap) (locs : List Loc) (ls : Array Slot), 10 - i < fu → (i ≤ bmp R 0 0) → Wd G (fA [(ar, aI G 54 (fl R))]) s [(ar, aI G 54 (fl (air2 (bmp R) d i)))] H locs → lv_has ls 5 [(0, .ref ar), (1, .int (nI d)), (2, .int (nI (bs (heldF (bmp R)) (bmp R 0 0)))), (3, .int (if slF (bmp R) = true then 1 else 0)), (4, .int (nI i))] → W p l e ({ frames := 3, cells := 0, slots := 0, locals := 64 }) s m (([.ref ar, .int (nI d)] : List Value).toArray) below meth c H locs 0 0 (MQ below (QV G [(ar, aI G 54 (fl R))] (fun u : Unit => True) (fun u => [(ar, aI G 54 (fl (miF R d)))])) (([.ref ar, .int (nI d)] : List Value).toArray) s 0 0 (fA [(ar, aI G 54 (fl R))])) (F0 m 59 ls []) := by
            intro fu
            induction fu with
            | zero => intro i H locs ls hfu; exact absurd hfu (Nat.not_lt_zero _)
            | succ fu ih_59 =>
              intro i H locs ls hfu hi hw hl
              refine lv_iload xx xb dX2_minute_59 (lv_at hl 4 rfl) ?_
              refine lv_aload_n xx xb dX2_minute_61 rfl (lv_at hl 0 rfl) ?_
              refine lv_iconst (v := nI 0) xx xb dX2_minute_62 (by decide) ?_
              refine m_ald C hw 0 rfl 0 rfl (by omega) (by decide) dX2_minute_63 ?_
              refine re_i (nI ((air2 (bmp R) d i) 0 0)) (fl_h (air2 (bmp R) d i) (by decide)) ?_
              refine re_i (nI (bmp R 0 0)) rfl ?_
              refine lv_icmp_ge (tgt := 118) xx xb dX2_minute_64 (by decide) (fun c_64 => ?_) (fun c_64 => ?_)
              · skip
                have c_64 := le_c (tN (by omega)) (tN (by omega)) c_64
                have hw : Wd G (fA [(ar, aI G 54 (fl R))]) s [(ar, aI G 54 (fl (how3 (bmp R) d 0)))] H locs := by rw [← how3_0, ← show i = bmp R 0 0 by omega]; exact hw
                refine lv_iconst (v := nI 0) xx xb dX2_minute_118 (by decide) ?_
                refine lv_istore (lv' := [(4, .int (nI 0)), (0, .ref ar), (1, .int (nI d)), (2, .int (nI (bs (heldF (bmp R)) (bmp R 0 0)))), (3, .int (if slF (bmp R) = true then 1 else 0))]) xx xb dX2_minute_119 hl (by decide) rfl (fun ls hl => ?_)
                have L_121 : ∀ (fu : Nat) (i : Nat) (H : Heap) (locs : List Loc) (ls : Array Slot), 10 - i < fu → (i ≤ bmp R 0 0) → Wd G (fA [(ar, aI G 54 (fl R))]) s [(ar, aI G 54 (fl (how3 (bmp R) d i)))] H locs → lv_has ls 5 [(0, .ref ar), (3, .int (if slF (bmp R) = true then 1 else 0)), (4, .int (nI i))] → W p l e ({ frames := 3, cells := 0, slots := 0, locals := 64 }) s m (([.ref ar, .int (nI d)] : List Value).toArray) below meth c H locs 0 0 (MQ below (QV G [(ar, aI G 54 (fl R))] (fun u : Unit => True) (fun u => [(ar, aI G 54 (fl (miF R d)))])) (([.ref ar, .int (nI d)] : List Value).toArray) s 0 0 (fA [(ar, aI G 54 (fl R))])) (F0 m 121 ls []) := by
                  intro fu
                  induction fu with
                  | zero => intro i H locs ls hfu; exact absurd hfu (Nat.not_lt_zero _)
                  | succ fu ih_121 =>
                    intro i H locs ls hfu hi hw hl
                    refine lv_iload xx xb dX2_minute_121 (lv_at hl 2 rfl) ?_
                    refine lv_aload_n xx xb dX2_minute_123 rfl (lv_at hl 0 rfl) ?_
                    refine lv_iconst (v := nI 0) xx xb dX2_minute_124 (by decide) ?_
                    refine m_ald C hw 0 rfl 0 rfl (by omega) (by decide) dX2_minute_125 ?_
                    refine re_i (nI ((how3 (bmp R) d i) 0 0)) (fl_h (how3 (bmp R) d i) (by decide)) ?_
                    refine re_i (nI (bmp R 0 0)) rfl ?_
                    refine lv_icmp_ge (tgt := 171) xx xb dX2_minute_126 (by decide) (fun c_126 => ?_) (fun c_126 => ?_)
                    · skip
                      have c_126 := le_c (tN (by omega)) (tN (by omega)) c_126
                      have hw : Wd G (fA [(ar, aI G 54 (fl R))]) s [(ar, aI G 54 (fl (miF R d)))] H locs := by unfold miF; rw [show minF (bmp R) d = how3 (bmp R) d (bmp R 0 0) from rfl, ← show i = bmp R 0 0 by omega]; exact hw
                      exact rt_v C hw () trivial rfl dX2_minute_171
                    · skip
                      have c_126 := nle_c (tN (by omega)) (tN (by omega)) c_126
                      have hi2 : i < bmp R 0 0 := by omega
                      obtain ⟨q1, q2, q3, q4, q5⟩ := hSA i (by omega)
                      have ha5 : how3 (bmp R) d i 5 i = airF (bmp R) d i := by unfold how3; rw [if_pos ⟨rfl, hi2⟩]
                      refine lv_aload_n xx xb dX2_minute_129 rfl (lv_at hl 0 rfl) ?_
                      refine lv_iload xx xb dX2_minute_130 (lv_at hl 2 rfl) ?_
                      have hM := kX2_stands l G ar (how3 (bmp R) d i) i (OK_how3 d i hS) (by show i < bmp R 0 0; omega)
                      refine cs_i C hw hM ysX2_stands ml_X2_55 rfl [0] rfl rfl (fun _ => (rfl : ([ar] : List Nat) = [ar])) (by decide) ⟨Nat.zero_le _, Nat.zero_le _⟩ hl.1 rfl (Nat.le_of_ble_eq_true rfl) dX2_minute_132 (fun r _ H locs hr hw => ?_)
                      have hw : Wd G (fA [(ar, aI G 54 (fl R))]) s [(ar, aI G 54 (fl (how3 (bmp R) d i)))] H locs := hw
                      subst hr
                      refine re_i (if bmp R 4 i = 0 then 1 else 0) (by unfold how3; simp) ?_
                      refine lv_if_eq (tgt := 165) xx xb dX2_minute_135 (by decide) (fun c_135 => ?_) (fun c_135 => ?_)
                      · skip
                        have c_135 := b0_c c_135
                        have hw : Wd G (fA [(ar, aI G 54 (fl R))]) s [(ar, aI G 54 (fl (how3 (bmp R) d (i + 1))))] H locs := by rw [← how3_n (by unfold howF; rw [if_neg (by first | (exact fun q => c_135 q.1) | omega)])]; exact hw
                        refine lv_iinc (v := nI (i + 1)) (lv' := [(4, .int (nI (i + 1))), (0, .ref ar), (3, .int (if slF (bmp R) = true then 1 else 0))]) xx xb dX2_minute_165 hl (k := 2) rfl (nI_add _ 1) (by decide) rfl (fun ls hl => ?_)
                        refine lv_goto (tgt := 121) xx xb dX2_minute_168 (by decide) ?_
                        exact ih_121 (i + 1) H _ ls (by omega) (by omega) hw (lv_sub hl [1, 2, 0] rfl)
                      · skip
                        have c_135 := b1_c c_135
                        refine lv_aload_n xx xb dX2_minute_138 rfl (lv_at hl 0 rfl) ?_
                        refine lv_iload xx xb dX2_minute_139 (lv_at hl 2 rfl) ?_
                        refine lv_iconst (v := nI 4) xx xb dX2_minute_141 (by decide) ?_
                        have hM := kX2_of l G i 4 
                        refine cs_i C hw hM ysX2_of ml_X2_44 rfl [] rfl rfl (fun _ => (rfl : ([] : List Nat) = [])) (by decide) ⟨Nat.zero_le _, Nat.zero_le _⟩ hl.1 rfl (Nat.le_of_ble_eq_true rfl) dX2_minute_142 (fun r _ H locs hr hw => ?_)
                        have hw : Wd G (fA [(ar, aI G 54 (fl R))]) s [(ar, aI G 54 (fl (how3 (bmp R) d i)))] H locs := hw
                        subst hr
                        refine m_ald C hw 0 rfl (4 + 5 * i + 4) rfl (by omega) (by decide) dX2_minute_145 ?_
                        refine re_i (nI ((how3 (bmp R) d i) 5 i)) (fl_k (how3 (bmp R) d i) (by decide) (by decide)) ?_
                        refine re_i (nI (airF (bmp R) d i)) (congrArg nI ha5) ?_
                        refine lv_aload_n xx xb dX2_minute_146 rfl (lv_at hl 0 rfl) ?_
                        refine lv_iload xx xb dX2_minute_147 (lv_at hl 2 rfl) ?_
                        refine lv_iload_n xx xb dX2_minute_149 rfl (lv_at hl 1 rfl) ?_
                        have hM := kX2_habit l G ar (how3 (bmp R) d i) i (slF (bmp R)) (OK_how3 d i hS) (by show i < bmp R 0 0; omega)
                        refine cs_i C hw hM ysX2_habit ml_X2_76 rfl [0] rfl rfl (fun _ => (rfl : ([ar] : List Nat) = [ar])) (by decide) ⟨Nat.zero_le _, Nat.zero_le _⟩ hl.1 rfl (Nat.le_of_ble_eq_true rfl) dX2_minute_150 (fun r _ H locs hr hw => ?_)
                        have hw : Wd G (fA [(ar, aI G 54 (fl R))]) s [(ar, aI G 54 (fl (how3 (bmp R) d i)))] H locs := hw
                        subst hr
                        refine re_i (nI (habF (bmp R) i (slF (bmp R)))) rfl ?_
                        have hh9 := habF_le (R := bmp R) (a := i) (sl := slF (bmp R)) (by omega)
                        have ha9 := airF_le (S := bmp R) (a := i) hd (hT i (by omega))
                        have ha5 : airF (bmp R) d i = airF (bmp R) d i := rfl
                        refine lv_icmp_le (tgt := 165) xx xb dX2_minute_153 (by decide) (fun c_153 => ?_) (fun c_153 => ?_)
                        · skip
                          have c_153 := le_c (tN (by omega)) (tN (by omega)) c_153
                          have hw : Wd G (fA [(ar, aI G 54 (fl R))]) s [(ar, aI G 54 (fl (how3 (bmp R) d (i + 1))))] H locs := by rw [← how3_n (by unfold howF; rw [if_neg (by first | (exact fun q => c_135 q.1) | omega)])]; exact hw
                          refine lv_iinc (v := nI (i + 1)) (lv' := [(4, .int (nI (i + 1))), (0, .ref ar), (3, .int (if slF (bmp R) = true then 1 else 0))]) xx xb dX2_minute_165 hl (k := 2) rfl (nI_add _ 1) (by decide) rfl (fun ls hl => ?_)
                          refine lv_goto (tgt := 121) xx xb dX2_minute_168 (by decide) ?_
                          exact ih_121 (i + 1) H _ ls (by omega) (by omega) hw (lv_sub hl [1, 2, 0] rfl)
                        · skip
                          have c_153 := nle_c (tN (by omega)) (tN (by omega)) c_153
                          refine lv_aload_n xx xb dX2_minute_156 rfl (lv_at hl 0 rfl) ?_
                          refine lv_iload xx xb dX2_minute_157 (lv_at hl 2 rfl) ?_
                          refine lv_iconst (v := nI 3) xx xb dX2_minute_159 (by decide) ?_
                          have hM := kX2_of l G i 3 
                          refine cs_i C hw hM ysX2_of ml_X2_44 rfl [] rfl rfl (fun _ => (rfl : ([] : List Nat) = [])) (by decide) ⟨Nat.zero_le _, Nat.zero_le _⟩ hl.1 rfl (Nat.le_of_ble_eq_true rfl) dX2_minute_160 (fun r _ H locs hr hw => ?_)
                          have hw : Wd G (fA [(ar, aI G 54 (fl R))]) s [(ar, aI G 54 (fl (how3 (bmp R) d i)))] H locs := hw
                          subst hr
                          refine lv_iconst (v := nI 1) xx xb dX2_minute_163 (by decide) ?_
                          refine m_ast C hw 0 rfl (4 + 5 * i + 3) rfl (by omega) (by decide) (fl (how3 (bmp R) d (i + 1))) ((fl_uk _ (by decide) (by decide)).trans (congrArg fl (how3_s (by unfold howF; rw [if_pos (And.intro c_135 (by rw [ha5] at c_153; omega))])))) dX2_minute_164 (fun H locs hw => ?_)
                          have hw : Wd G (fA [(ar, aI G 54 (fl R))]) s [(ar, aI G 54 (fl (how3 (bmp R) d (i + 1))))] H locs := hw
                          refine lv_iinc (v := nI (i + 1)) (lv' := [(4, .int (nI (i + 1))), (0, .ref ar), (3, .int (if slF (bmp R) = true then 1 else 0))]) xx xb dX2_minute_165 hl (k := 2) rfl (nI_add _ 1) (by decide) rfl (fun ls hl => ?_)
                          refine lv_goto (tgt := 121) xx xb dX2_minute_168 (by decide) ?_
                          exact ih_121 (i + 1) H _ ls (by omega) (by omega) hw (lv_sub hl [1, 2, 0] rfl)
                exact L_121 (_ + 1) 0 H _ ls (Nat.lt_succ_self _) (by omega) hw (lv_sub hl [1, 4, 0] rfl)
              · skip
                have c_64 := nle_c (tN (by omega)) (tN (by omega)) c_64
                have hi2 : i < bmp R 0 0 := by omega
                obtain ⟨q1, q2, q3, q4, q5⟩ := hSA i (by omega)
                refine lv_aload_n xx xb dX2_minute_67 rfl (lv_at hl 0 rfl) ?_
                refine lv_iload xx xb dX2_minute_68 (lv_at hl 4 rfl) ?_
                have hM := kX2_stands l G ar (air2 (bmp R) d i) i (OK_air2 d i hS) (by show i < bmp R 0 0; omega)
                refine cs_i C hw hM ysX2_stands ml_X2_55 rfl [0] rfl rfl (fun _ => (rfl : ([ar] : List Nat) = [ar])) (by decide) ⟨Nat.zero_le _, Nat.zero_le _⟩ hl.1 rfl (Nat.le_of_ble_eq_true rfl) dX2_minute_70 (fun r _ H locs hr hw => ?_)
                have hw : Wd G (fA [(ar, aI G 54 (fl R))]) s [(ar, aI G 54 (fl (air2 (bmp R) d i)))] H locs := hw
                subst hr
                refine re_i (if bmp R 4 i = 0 then 1 else 0) rfl ?_
                refine lv_if_ne (tgt := 79) xx xb dX2_minute_73 (by decide) (fun c_73 => ?_) (fun c_73 => ?_)
                · skip
                  have c_73 := b1_c c_73
                  refine lv_aload_n xx xb dX2_minute_79 rfl (lv_at hl 0 rfl) ?_
                  refine lv_iload xx xb dX2_minute_80 (lv_at hl 4 rfl) ?_
                  refine lv_iconst (v := nI 4) xx xb dX2_minute_82 (by decide) ?_
                  have hM := kX2_of l G i 4 
                  refine cs_i C hw hM ysX2_of ml_X2_44 rfl [] rfl rfl (fun _ => (rfl : ([] : List Nat) = [])) (by decide) ⟨Nat.zero_le _, Nat.zero_le _⟩ hl.1 rfl (Nat.le_of_ble_eq_true rfl) dX2_minute_83 (fun r _ H locs hr hw => ?_)
                  have hw : Wd G (fA [(ar, aI G 54 (fl R))]) s [(ar, aI G 54 (fl (air2 (bmp R) d i)))] H locs := hw
                  subst hr
                  refine lv_iload_n xx xb dX2_minute_86 rfl (lv_at hl 2 rfl) ?_
                  refine lv_iload xx xb dX2_minute_87 (lv_at hl 4 rfl) ?_
                  have hM := kX2_has l G (bs (heldF (bmp R)) (bmp R 0 0)) i (by first | assumption | omega) (by first | assumption | omega)
                  refine cs_i C hw hM ysX2_has ml_X2_51 rfl [] rfl rfl (fun _ => (rfl : ([] : List Nat) = [])) (by decide) ⟨Nat.zero_le _, Nat.zero_le _⟩ hl.1 rfl (Nat.le_of_ble_eq_true rfl) dX2_minute_89 (fun r _ H locs hr hw => ?_)
                  have hw : Wd G (fA [(ar, aI G 54 (fl R))]) s [(ar, aI G 54 (fl (air2 (bmp R) d i)))] H locs := hw
                  subst hr
                  refine re_i (if heldF (bmp R) i = true then 1 else 0) (by rw [bs_bit]; simp [hi2]) ?_
                  refine lv_if_eq (tgt := 99) xx xb dX2_minute_92 (by decide) (fun c_92 => ?_) (fun c_92 => ?_)
                  · skip
                    have c_92 := b0_c c_92
                    refine lv_aload_n xx xb dX2_minute_99 rfl (lv_at hl 0 rfl) ?_
                    refine lv_iload xx xb dX2_minute_100 (lv_at hl 4 rfl) ?_
                    refine lv_iconst (v := nI 4) xx xb dX2_minute_102 (by decide) ?_
                    have hM := kX2_of l G i 4 
                    refine cs_i C hw hM ysX2_of ml_X2_44 rfl [] rfl rfl (fun _ => (rfl : ([] : List Nat) = [])) (by decide) ⟨Nat.zero_le _, Nat.zero_le _⟩ hl.1 rfl (Nat.le_of_ble_eq_true rfl) dX2_minute_103 (fun r _ H locs hr hw => ?_)
                    have hw : Wd G (fA [(ar, aI G 54 (fl R))]) s [(ar, aI G 54 (fl (air2 (bmp R) d i)))] H locs := hw
                    subst hr
                    refine m_ald C hw 0 rfl (4 + 5 * i + 4) rfl (by omega) (by decide) dX2_minute_106 ?_
                    refine re_i (nI ((air2 (bmp R) d i) 5 i)) (fl_k (air2 (bmp R) d i) (by decide) (by decide)) ?_
                    refine re_i (nI (bmp R 5 i)) (congrArg nI (by unfold air2; rw [if_neg (by omega)])) ?_
                    refine lv_iconst (v := nI 1) xx xb dX2_minute_107 (by decide) ?_
                    refine lv_iadd xx xb dX2_minute_108 ?_
                    refine re_i (nI ((bmp R 5 i) + 1)) (nI_add _ _) ?_
                    refine lv_iload_n xx xb dX2_minute_109 rfl (lv_at hl 1 rfl) ?_
                    refine lv_iadd xx xb dX2_minute_110 ?_
                    refine re_i (nI (((bmp R 5 i) + 1) + d)) (nI_add _ _) ?_
                    refine m_ast C hw 0 rfl (4 + 5 * i + 4) rfl (by omega) (by decide) (fl (air2 (bmp R) d (i + 1))) ((fl_uk _ (by decide) (by decide)).trans (congrArg fl (air2_s (by unfold airF; rw [if_pos c_73]; first | rw [if_pos c_92] | rw [if_neg c_92])))) dX2_minute_111 (fun H locs hw => ?_)
                    have hw : Wd G (fA [(ar, aI G 54 (fl R))]) s [(ar, aI G 54 (fl (air2 (bmp R) d (i + 1))))] H locs := hw
                    refine lv_iinc (v := nI (i + 1)) (lv' := [(4, .int (nI (i + 1))), (0, .ref ar), (1, .int (nI d)), (2, .int (nI (bs (heldF (bmp R)) (bmp R 0 0)))), (3, .int (if slF (bmp R) = true then 1 else 0))]) xx xb dX2_minute_112 hl (k := 4) rfl (nI_add _ 1) (by decide) rfl (fun ls hl => ?_)
                    refine lv_goto (tgt := 59) xx xb dX2_minute_115 (by decide) ?_
                    exact ih_59 (i + 1) H _ ls (by omega) (by omega) hw (lv_sub hl [1, 2, 3, 4, 0] rfl)
                  · skip
                    have c_92 := b1_c c_92
                    refine lv_iconst (v := nI 0) xx xb dX2_minute_95 (by decide) ?_
                    refine lv_goto (tgt := 111) xx xb dX2_minute_96 (by decide) ?_
                    refine m_ast C hw 0 rfl (4 + 5 * i + 4) rfl (by omega) (by decide) (fl (air2 (bmp R) d (i + 1))) ((fl_uk _ (by decide) (by decide)).trans (congrArg fl (air2_s (by unfold airF; rw [if_pos c_73]; first | rw [if_pos c_92] | rw [if_neg c_92])))) dX2_minute_111 (fun H locs hw => ?_)
                    have hw : Wd G (fA [(ar, aI G 54 (fl R))]) s [(ar, aI G 54 (fl (air2 (bmp R) d (i + 1))))] H locs := hw
                    refine lv_iinc (v := nI (i + 1)) (lv' := [(4, .int (nI (i + 1))), (0, .ref ar), (1, .int (nI d)), (2, .int (nI (bs (heldF (bmp R)) (bmp R 0 0)))), (3, .int (if slF (bmp R) = true then 1 else 0))]) xx xb dX2_minute_112 hl (k := 4) rfl (nI_add _ 1) (by decide) rfl (fun ls hl => ?_)
                    refine lv_goto (tgt := 59) xx xb dX2_minute_115 (by decide) ?_
                    exact ih_59 (i + 1) H _ ls (by omega) (by omega) hw (lv_sub hl [1, 2, 3, 4, 0] rfl)
                · skip
                  have c_73 := b0_c c_73
                  refine lv_goto (tgt := 112) xx xb dX2_minute_76 (by decide) ?_
                  have hw : Wd G (fA [(ar, aI G 54 (fl R))]) s [(ar, aI G 54 (fl (air2 (bmp R) d (i + 1))))] H locs := by rw [← air2_n (by unfold airF; rw [if_neg c_73])]; exact hw
                  refine lv_iinc (v := nI (i + 1)) (lv' := [(4, .int (nI (i + 1))), (0, .ref ar), (1, .int (nI d)), (2, .int (nI (bs (heldF (bmp R)) (bmp R 0 0)))), (3, .int (if slF (bmp R) = true then 1 else 0))]) xx xb dX2_minute_112 hl (k := 4) rfl (nI_add _ 1) (by decide) rfl (fun ls hl => ?_)
                  refine lv_goto (tgt := 59) xx xb dX2_minute_115 (by decide) ?_
                  exact ih_59 (i + 1) H _ ls (by omega) (by omega) hw (lv_sub hl [1, 2, 3, 4, 0] rfl)
          exact L_59 (_ + 1) 0 H _ ls (Nat.lt_succ_self _) (by omega) hw (lv_sub hl [2, 3, 4, 1, 0] rfl)
      · skip
        have c_15 := nle_c (tN (by omega)) (tN (by omega)) c_15
        obtain ⟨q1, q2, q3, q4, q5⟩ := hSA i (by omega)
        refine lv_iload_n xx xb dX2_minute_18 rfl (lv_at hl 2 rfl) ?_
        refine lv_aload_n xx xb dX2_minute_19 rfl (lv_at hl 0 rfl) ?_
        refine lv_iload_n xx xb dX2_minute_20 rfl (lv_at hl 3 rfl) ?_
        have hM := kX2_isHeld l G ar (bmp R) i (by first | assumption | omega) (by first | assumption | omega)
        refine cs_i C hw hM ysX2_isHeld ml_X2_70 rfl [0] rfl rfl (fun _ => (rfl : ([ar] : List Nat) = [ar])) (by decide) ⟨Nat.zero_le _, Nat.zero_le _⟩ hl.1 rfl (Nat.le_of_ble_eq_true rfl) dX2_minute_21 (fun r _ H locs hr hw => ?_)
        have hw : Wd G (fA [(ar, aI G 54 (fl R))]) s [(ar, aI G 54 (fl (bmp R)))] H locs := hw
        subst hr
        refine lv_if_eq (tgt := 33) xx xb dX2_minute_24 (by decide) (fun c_24 => ?_) (fun c_24 => ?_)
        · skip
          have c_24 := b0_c c_24
          refine lv_iconst (v := nI 0) xx xb dX2_minute_33 (by decide) ?_
          refine lv_ior xx xb dX2_minute_34 ?_
          refine re_i (nI ((bs (heldF (bmp R)) i) ||| 0)) (or_N _ _) ?_
          refine re_i (nI (bs (heldF (bmp R)) (i + 1))) (congrArg nI (by first | exact bs_orT c_24 | exact bs_orF (Bool.eq_false_iff.mpr c_24))) ?_
          refine lv_istore_n (lv' := [(2, .int (nI (bs (heldF (bmp R)) (i + 1)))), (0, .ref ar), (1, .int (nI d)), (3, .int (nI i))]) xx xb dX2_minute_35 rfl hl (by decide) rfl (fun ls hl => ?_)
          refine lv_iinc (v := nI (i + 1)) (lv' := [(3, .int (nI (i + 1))), (2, .int (nI (bs (heldF (bmp R)) (i + 1)))), (0, .ref ar), (1, .int (nI d))]) xx xb dX2_minute_36 hl (k := 3) rfl (nI_add _ 1) (by decide) rfl (fun ls hl => ?_)
          refine lv_goto (tgt := 11) xx xb dX2_minute_39 (by decide) ?_
          exact ih_11 (i + 1) H _ ls (by omega) (by omega) hw (lv_sub hl [2, 3, 1, 0] rfl)
        · skip
          have c_24 := b1_c c_24
          refine lv_iconst (v := nI 1) xx xb dX2_minute_27 (by decide) ?_
          refine lv_iload_n xx xb dX2_minute_28 rfl (lv_at hl 3 rfl) ?_
          refine lv_ishl xx xb dX2_minute_29 ?_
          refine re_i (nI (2 ^ i)) (shl1 (by omega)) ?_
          refine lv_goto (tgt := 34) xx xb dX2_minute_30 (by decide) ?_
          refine lv_ior xx xb dX2_minute_34 ?_
          refine re_i (nI ((bs (heldF (bmp R)) i) ||| (2 ^ i))) (or_N _ _) ?_
          refine re_i (nI (bs (heldF (bmp R)) (i + 1))) (congrArg nI (by first | exact bs_orT c_24 | exact bs_orF (Bool.eq_false_iff.mpr c_24))) ?_
          refine lv_istore_n (lv' := [(2, .int (nI (bs (heldF (bmp R)) (i + 1)))), (0, .ref ar), (1, .int (nI d)), (3, .int (nI i))]) xx xb dX2_minute_35 rfl hl (by decide) rfl (fun ls hl => ?_)
          refine lv_iinc (v := nI (i + 1)) (lv' := [(3, .int (nI (i + 1))), (2, .int (nI (bs (heldF (bmp R)) (i + 1)))), (0, .ref ar), (1, .int (nI d))]) xx xb dX2_minute_36 hl (k := 3) rfl (nI_add _ 1) (by decide) rfl (fun ls hl => ?_)
          refine lv_goto (tgt := 11) xx xb dX2_minute_39 (by decide) ?_
          exact ih_11 (i + 1) H _ ls (by omega) (by omega) hw (lv_sub hl [2, 3, 1, 0] rfl)
  exact L_11 (_ + 1) 0 H _ ls (Nat.lt_succ_self _) (by omega) hw (lv_sub hl [2, 3, 1, 0] rfl)
