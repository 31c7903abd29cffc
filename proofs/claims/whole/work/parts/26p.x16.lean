def fwI (x : Nat) : Int32 := if x = 0 then -9 else nI (x - 1)
theorem fwI_s (x : Nat) : fwI (x + 1) = nI x := if_neg (by omega)
theorem fwI_e {x : Nat} (hx : x ≤ 200) (h : fwI x = -9) : x = 0 := by
  have : ∀ x, x ≤ 200 → fwI x = -9 → x = 0 := by decide +kernel
  exact this x hx h
theorem fwI_n {x : Nat} (h : ¬ fwI x = -9) : x ≠ 0 := fun q => h (by rw [q]; rfl)
def fwC (lf : Nat → Nat) (n i k j f : Nat) : Prop := j = sLen.getD k 0 ∧ n < i + f ∧ (phF lf n 97 0 = if i < n then phF lf n f i else if n = 0 then 1 else 0)
def fwM (lf : Nat → Nat) (n i k j q f : Nat) : Prop := j < sLen.getD k 0 ∧ i = q + 1 + j ∧ q < n ∧ k = shI (lf q) ∧ n < q + f + 1 ∧ mtc lf n (q + 1) (shp (lf q)) = mtc lf n (q + 1 + j) ((shp (lf q)).drop j) ∧ phF lf n 97 0 = phF lf n (f + 1) q
theorem ph_z {lf : Nat → Nat} : phF lf 0 97 0 = 1 := by
  have h : ¬ rdB lf 0 0 := rdB_n rfl
  rw [show (97 : Nat) = 96 + 1 from rfl, phF_n h]
  rfl
theorem fw_0 (lf : Nat → Nat) (n : Nat) (hn : n ≤ 96) : fwC lf n 0 0 0 97 := by
  refine ⟨rfl, by omega, ?_⟩
  by_cases q : n = 0
  · subst q; rw [if_neg (by omega), if_pos rfl]; exact ph_z
  · rw [if_pos (by omega)]
theorem fw_a {lf : Nat → Nat} {n i k j f : Nat} (h : fwC lf n i k j f) (hi : i < n) (hs : (shp (lf i)).length = 0) : phF lf n 97 0 = i + 1 := by
  obtain ⟨-, h2, h3⟩ := h
  have e : shp (hd lf n i) = [] := by rw [hd_y hi]; exact List.length_eq_zero_iff.mp hs
  rw [h3, if_pos hi, show f = (f - 1) + 1 by omega, phF_n (rdB_n e), rdP_n e]
theorem fw_b {lf : Nat → Nat} {n i k j f : Nat} (h : fwC lf n i k j f) (hi : i < n) (hs : ¬ (shp (lf i)).length = 0) : fwM lf n (i + 1) (shI (lf i)) 0 i (f - 1) := by
  obtain ⟨-, h2, h3⟩ := h
  refine ⟨by rw [shI_len]; omega, rfl, hi, rfl, by omega, rfl, ?_⟩
  rw [h3, if_pos hi, show f - 1 + 1 = f by omega]
theorem fw_drop {l : List Nat} {j : Nat} (h : j < l.length) : l.drop j = l.getD j 0 :: l.drop (j + 1) := by
  rw [List.getD_eq_getElem?_getD, List.getElem?_eq_getElem h]
  exact (List.drop_eq_getElem_cons h)
theorem fw_rd {lf : Nat → Nat} {n q : Nat} (hq : q < n) (hs : shp (lf q) ≠ []) : rdP lf n q = mtc lf n (q + 1) (shp (lf q)) := by
  unfold rdP
  rw [hd_y hq, if_neg hs]
theorem fw_c {lf : Nat → Nat} {n i k j q f : Nat} (h : fwM lf n i k j q f) (hi : i < n) (hf : fitB ((shp (lf q)).getD j 0) (lf i) = true) : fwC lf n (i + 1) k (j + 1) f ∨ fwM lf n (i + 1) k (j + 1) q f := by
  obtain ⟨h1, h2, h3, h4, h5, h6, h7⟩ := h
  have hl : j < (shp (lf q)).length := by rw [← shI_len, ← h4]; exact h1
  have hne : shp (lf q) ≠ [] := fun z => by rw [z] at hl; exact absurd hl (Nat.not_lt_zero _)
  have e : mtc lf n (q + 1) (shp (lf q)) = mtc lf n (q + 1 + (j + 1)) ((shp (lf q)).drop (j + 1)) := by
    rw [h6, fw_drop hl, mt_y (by rw [hd_y (by omega), ← h2]; exact hf)]
    rfl
  by_cases z : j + 1 = (shp (lf q)).length
  · left
    have hrd : rdP lf n q = i + 1 := by
      rw [fw_rd h3 hne, e, z, List.drop_length]
      show q + 1 + (shp (lf q)).length = i + 1
      omega
    have hrb : rdB lf n q := by
      refine ⟨by rw [hd_y h3]; exact hne, ?_⟩
      rw [hd_y h3, hrd]
      omega
    refine ⟨by rw [h4, shI_len]; exact z, by omega, ?_⟩
    by_cases y : i + 1 < n
    · rw [if_pos y, h7, phF_y hrb (by rw [hrd]; exact y), hrd]
    · rw [if_neg y, if_neg (by omega), h7, phF_e hrb (by rw [hrd]; exact y)]
  · right
    exact ⟨by rw [h4, shI_len]; omega, by omega, h3, h4, h5, e, h7⟩
theorem fw_x {lf : Nat → Nat} {n i k j q f : Nat} (h : fwM lf n i k j q f) (hm : fitB ((shp (lf q)).getD j 0) (hd lf n i) = false) : phF lf n 97 0 = i + 1 := by
  obtain ⟨h1, h2, h3, h4, h5, h6, h7⟩ := h
  have hl : j < (shp (lf q)).length := by rw [← shI_len, ← h4]; exact h1
  have hne : shp (lf q) ≠ [] := fun z => by rw [z] at hl; exact absurd hl (Nat.not_lt_zero _)
  have hrd : rdP lf n q = i := by
    rw [fw_rd h3 hne, h6, fw_drop hl, mt_n (by rw [← h2, hm]; decide), h2]
  have hnb : ¬ rdB lf n q := fun z => by
    have := z.2
    rw [hd_y h3, hrd] at this
    omega
  rw [h7, phF_n hnb, hrd]
theorem fw_d {lf : Nat → Nat} {n i k j q f : Nat} (h : fwM lf n i k j q f) (hi : i < n) (hf : ¬ fitB ((shp (lf q)).getD j 0) (lf i) = true) : phF lf n 97 0 = i + 1 := fw_x h (by rw [hd_y hi]; exact Bool.eq_false_iff.mpr hf)
theorem fw_f {lf : Nat → Nat} {n i k j q f : Nat} (h : fwM lf n i k j q f) (hi : ¬ i < n) : phF lf n 97 0 = i + 1 := by
  refine fw_x h ?_
  have e : hd lf n i = 256 := if_neg hi
  rw [e]
  have h2 := shw_le (lf q) j
  have : ∀ w, w ≤ 2 → fitB w 256 = false := by decide +kernel
  exact this _ h2
theorem fw_e {lf : Nat → Nat} {n i k j f : Nat} (h : fwC lf n i k j f) (hi : ¬ i < n) : phF lf n 97 0 = if n = 0 then 1 else 0 := by
  rw [h.2.2, if_neg hi]
theorem fw_ch {lf : Nat → Nat} {n i k j q f : Nat} (h : fwM lf n i k j q f) : sch k j = nI (wch ((shp (lf q)).getD j 0)) := by
  obtain ⟨h1, -, -, h4, -⟩ := h
  rw [h4]
  exact shI_ch (by rw [← shI_len, ← h4]; exact h1)
theorem fw_le {lf : Nat → Nat} {n i k j f : Nat} (h : fwC lf n i k j f) : j = sLen.getD k 0 := h.1
set_option maxRecDepth 100000 in
set_option maxHeartbeats 4000000 in
theorem kX1_firstWrongLetter (l : Launch) (G : GT) (X : Xt) (h0 : Nat) (so : Nat) (to : Nat) (uo : Nat) (x5 : Nat) (x6 : Nat) (x7 : Nat) (x8 : Nat) (im : Nat) (lm : Nat) (rm : Nat) (sd : Int32) (lf2 : Nat → Nat) (hLF : LOK lf2 lm) (hlm : lm ≤ 96) : Cte l yX1_firstWrongLetter cX1_firstWrongLetter 4 (some .int) 4 85 [.ref h0] G [(h0, .inr (1, [.ref so, .ref to, .ref uo, .int (nI im), .ref x5, .int (nI lm), .ref x6, .int (nI rm), .ref x7, .ref x8, .int sd])), (x5, aI G 96 (cN lf2))] X (QI G [(h0, .inr (1, [.ref so, .ref to, .ref uo, .int (nI im), .ref x5, .int (nI lm), .ref x6, .int (nI rm), .ref x7, .ref x8, .int sd])), (x5, aI G 96 (cN lf2))] (fun (r : Int32) (u : Unit) => r = fwI (phF lf2 lm 97 0)) (fun u => [(h0, .inr (1, [.ref so, .ref to, .ref uo, .int (nI im), .ref x5, .int (nI lm), .ref x6, .int (nI rm), .ref x7, .ref x8, .int sd])), (x5, aI G 96 (cN lf2))])) := by
  refine enE (by decide +kernel) (Nat.le_of_ble_eq_true rfl) ?_
  intro p e s m below meth c ls H locs C hE hl hw
  have xx := C.1
  have xb := C.2.1
  have hw : Wd G (fA [(h0, .inr (1, [.ref so, .ref to, .ref uo, .int (nI im), .ref x5, .int (nI lm), .ref x6, .int (nI rm), .ref x7, .ref x8, .int sd])), (x5, aI G 96 (cN lf2))]) s [(h0, .inr (1, [.ref so, .ref to, .ref uo, .int (nI im), .ref x5, .int (nI lm), .ref x6, .int (nI rm), .ref x7, .ref x8, .int sd])), (x5, aI G 96 (cN lf2))] H locs := hw
  have hl : lv_has ls 4 [(0, .ref h0)] := hl
  refine va_ldcS xx xb C.2.2.2.1 hE.2.2.2.2.1 dX1_firstWrongLetter_0 ?_
  refine lv_astore_n (lv' := [(1, .ref (X.2.1 0)), (0, .ref h0)]) xx xb dX1_firstWrongLetter_2 rfl hl (by decide) rfl (fun ls hl => ?_)
  refine lv_iconst (v := nI 0) xx xb dX1_firstWrongLetter_3 (by decide) ?_
  refine lv_istore_n (lv' := [(2, .int (nI 0)), (1, .ref (X.2.1 0)), (0, .ref h0)]) xx xb dX1_firstWrongLetter_4 rfl hl (by decide) rfl (fun ls hl => ?_)
  refine lv_iconst (v := nI 0) xx xb dX1_firstWrongLetter_5 (by decide) ?_
  refine lv_istore_n (lv' := [(3, .int (nI 0)), (2, .int (nI 0)), (1, .ref (X.2.1 0)), (0, .ref h0)]) xx xb dX1_firstWrongLetter_6 rfl hl (by decide) rfl (fun ls hl => ?_)
  have L_7 : ∀ (fu : Nat) (i : Nat) (k : Nat) (j : Nat) (q : Nat) (f : Nat) (H : Heap) (locs : List Loc) (ls : Array Slot), lm - i < fu → (i ≤ lm) → (k < 5) → (fwC lf2 lm i k j f ∨ fwM lf2 lm i k j q f) → Wd G (fA [(h0, .inr (1, [.ref so, .ref to, .ref uo, .int (nI im), .ref x5, .int (nI lm), .ref x6, .int (nI rm), .ref x7, .ref x8, .int sd])), (x5, aI G 96 (cN lf2))]) s [(h0, .inr (1, [.ref so, .ref to, .ref uo, .int (nI im), .ref x5, .int (nI lm), .ref x6, .int (nI rm), .ref x7, .ref x8, .int sd])), (x5, aI G 96 (cN lf2))] H locs → lv_has ls 4 [(0, .ref h0), (1, .ref (X.2.1 k)), (2, .int (nI j)), (3, .int (nI i))] → W p l e ({ frames := 4, cells := 0, slots := 0, locals := 85 }) s m (([.ref h0] : List Value).toArray) below meth c H locs 0 0 (MQ below (QI G [(h0, .inr (1, [.ref so, .ref to, .ref uo, .int (nI im), .ref x5, .int (nI lm), .ref x6, .int (nI rm), .ref x7, .ref x8, .int sd])), (x5, aI G 96 (cN lf2))] (fun (r : Int32) (u : Unit) => r = fwI (phF lf2 lm 97 0)) (fun u => [(h0, .inr (1, [.ref so, .ref to, .ref uo, .int (nI im), .ref x5, .int (nI lm), .ref x6, .int (nI rm), .ref x7, .ref x8, .int sd])), (x5, aI G 96 (cN lf2))])) (([.ref h0] : List Value).toArray) s 0 0 (fA [(h0, .inr (1, [.ref so, .ref to, .ref uo, .int (nI im), .ref x5, .int (nI lm), .ref x6, .int (nI rm), .ref x7, .ref x8, .int sd])), (x5, aI G 96 (cN lf2))])) (F0 m 7 ls []) := by
    intro fu
    induction fu with
    | zero => intro i k j q f H locs ls hfu; exact absurd hfu (Nat.not_lt_zero _)
    | succ fu ih_7 =>
      intro i k j q f H locs ls hfu hi hk hI hw hl
      have hl4 := sl_4 k hk
      have hjl : j ≤ sLen.getD k 0 := hI.elim (fun z => by have := z.1; omega) (fun z => by have := z.1; omega)
      refine lv_iload_n xx xb dX1_firstWrongLetter_7 rfl (lv_at hl 3 rfl) ?_
      refine lv_aload_n xx xb dX1_firstWrongLetter_8 rfl (lv_at hl 0 rfl) ?_
      refine m_get C hw 0 rfl fk_X1_39 rfl dX1_firstWrongLetter_9 ?_
      refine lv_icmp_ge (tgt := 75) xx xb dX1_firstWrongLetter_12 (by decide) (fun c_12 => ?_) (fun c_12 => ?_)
      · skip
        have c_12 := le_c (tN (by omega)) (tN (by omega)) c_12
        refine lv_aload_n xx xb dX1_firstWrongLetter_75 rfl (lv_at hl 0 rfl) ?_
        refine m_get C hw 0 rfl fk_X1_39 rfl dX1_firstWrongLetter_76 ?_
        refine lv_if_eq (tgt := 90) xx xb dX1_firstWrongLetter_79 (by decide) (fun c_79 => ?_) (fun c_79 => ?_)
        · skip
          have c_79 := eq_c (tN (by omega)) Int32.toInt_zero c_79
          have hph : phF lf2 lm 97 0 = lm + 1 := by rw [show lm = 0 by omega]; exact ph_z
          refine lv_aload_n xx xb dX1_firstWrongLetter_90 rfl (lv_at hl 0 rfl) ?_
          refine m_get C hw 0 rfl fk_X1_39 rfl dX1_firstWrongLetter_91 ?_
          refine lv_goto (tgt := 99) xx xb dX1_firstWrongLetter_94 (by decide) ?_
          exact rt_i C hw () (by first | (rw [hph, fwI_s]; done) | (rw [hph]; rfl) | (rw [hph, fwI_s, show lm = i by omega]; done)) rfl dX1_firstWrongLetter_99
        · skip
          have c_79 := ne_c (tN (by omega)) Int32.toInt_zero c_79
          refine lv_iload_n xx xb dX1_firstWrongLetter_82 rfl (lv_at hl 2 rfl) ?_
          refine lv_aload_n xx xb dX1_firstWrongLetter_83 rfl (lv_at hl 1 rfl) ?_
          have hM := kJ0_length_8abf5 l G X k (by first | assumption | omega)
          refine eT_i C hE hw hk hM yvJ0_length_8abf5 ml_X1_245 rfl rfl (by decide) ⟨Nat.zero_le _, Nat.zero_le _⟩ hl.1 rfl (Nat.le_of_ble_eq_true rfl) dX1_firstWrongLetter_84 (fun r _ H locs hr hw => ?_)
          have hw : Wd G (fA [(h0, .inr (1, [.ref so, .ref to, .ref uo, .int (nI im), .ref x5, .int (nI lm), .ref x6, .int (nI rm), .ref x7, .ref x8, .int sd])), (x5, aI G 96 (cN lf2))]) s [(h0, .inr (1, [.ref so, .ref to, .ref uo, .int (nI im), .ref x5, .int (nI lm), .ref x6, .int (nI rm), .ref x7, .ref x8, .int sd])), (x5, aI G 96 (cN lf2))] H locs := hw
          subst hr
          refine lv_icmp_ge (tgt := 97) xx xb dX1_firstWrongLetter_87 (by decide) (fun c_87 => ?_) (fun c_87 => ?_)
          · skip
            have c_87 := le_c (tN (by omega)) (tN (by omega)) c_87
            have hC := hI.resolve_right (fun z => by have := z.1; omega)
            have hph : phF lf2 lm 97 0 = 0 := (fw_e hC (by omega)).trans (if_neg (by omega))
            refine lv_bipush (v := (-9)) xx xb dX1_firstWrongLetter_97 (by decide) ?_
            exact rt_i C hw () (by first | (rw [hph, fwI_s]; done) | (rw [hph]; rfl) | (rw [hph, fwI_s, show lm = i by omega]; done)) rfl dX1_firstWrongLetter_99
          · skip
            have c_87 := nle_c (tN (by omega)) (tN (by omega)) c_87
            have hM2 := hI.resolve_left (fun z => by have := z.1; omega)
            have hph : phF lf2 lm 97 0 = lm + 1 := by rw [show lm = i by omega]; rw [show lm = i by omega] at hM2; exact fw_f hM2 (by omega)
            refine lv_aload_n xx xb dX1_firstWrongLetter_90 rfl (lv_at hl 0 rfl) ?_
            refine m_get C hw 0 rfl fk_X1_39 rfl dX1_firstWrongLetter_91 ?_
            refine lv_goto (tgt := 99) xx xb dX1_firstWrongLetter_94 (by decide) ?_
            exact rt_i C hw () (by first | (rw [hph, fwI_s]; done) | (rw [hph]; rfl) | (rw [hph, fwI_s, show lm = i by omega]; done)) rfl dX1_firstWrongLetter_99
      · skip
        have c_12 := nle_c (tN (by omega)) (tN (by omega)) c_12
        refine lv_iload_n xx xb dX1_firstWrongLetter_15 rfl (lv_at hl 2 rfl) ?_
        refine lv_aload_n xx xb dX1_firstWrongLetter_16 rfl (lv_at hl 1 rfl) ?_
        have hM := kJ0_length_8abf5 l G X k (by first | assumption | omega)
        refine eT_i C hE hw hk hM yvJ0_length_8abf5 ml_X1_245 rfl rfl (by decide) ⟨Nat.zero_le _, Nat.zero_le _⟩ hl.1 rfl (Nat.le_of_ble_eq_true rfl) dX1_firstWrongLetter_17 (fun r _ H locs hr hw => ?_)
        have hw : Wd G (fA [(h0, .inr (1, [.ref so, .ref to, .ref uo, .int (nI im), .ref x5, .int (nI lm), .ref x6, .int (nI rm), .ref x7, .ref x8, .int sd])), (x5, aI G 96 (cN lf2))]) s [(h0, .inr (1, [.ref so, .ref to, .ref uo, .int (nI im), .ref x5, .int (nI lm), .ref x6, .int (nI rm), .ref x7, .ref x8, .int sd])), (x5, aI G 96 (cN lf2))] H locs := hw
        subst hr
        refine lv_icmp_lt (tgt := 44) xx xb dX1_firstWrongLetter_20 (by decide) (fun c_20 => ?_) (fun c_20 => ?_)
        · skip
          have c_20 := lt_c (tN (by omega)) (tN (by omega)) c_20
          have hM2 := hI.resolve_left (fun z => by have := z.1; omega)
          refine lv_aload_n xx xb dX1_firstWrongLetter_44 rfl (lv_at hl 0 rfl) ?_
          refine m_get C hw 0 rfl fk_X1_22 rfl dX1_firstWrongLetter_45 ?_
          refine lv_iload_n xx xb dX1_firstWrongLetter_48 rfl (lv_at hl 3 rfl) ?_
          have hlfi := hLF i (by omega)
          refine m_ald C hw 1 rfl i rfl (by omega) (by decide) dX1_firstWrongLetter_49 ?_
          refine re_i (nI (lf2 i)) rfl ?_
          refine lv_aload_n xx xb dX1_firstWrongLetter_50 rfl (lv_at hl 1 rfl) ?_
          refine lv_iload_n xx xb dX1_firstWrongLetter_51 rfl (lv_at hl 2 rfl) ?_
          have hM := kJ0_charAt_5068e l G X k j (by first | assumption | omega) (by first | assumption | omega)
          refine eT_i C hE hw hk hM yvJ0_charAt_5068e ml_X1_255 rfl rfl (by decide) ⟨Nat.zero_le _, Nat.zero_le _⟩ hl.1 rfl (Nat.le_of_ble_eq_true rfl) dX1_firstWrongLetter_52 (fun r _ H locs hr hw => ?_)
          have hw : Wd G (fA [(h0, .inr (1, [.ref so, .ref to, .ref uo, .int (nI im), .ref x5, .int (nI lm), .ref x6, .int (nI rm), .ref x7, .ref x8, .int sd])), (x5, aI G 96 (cN lf2))]) s [(h0, .inr (1, [.ref so, .ref to, .ref uo, .int (nI im), .ref x5, .int (nI lm), .ref x6, .int (nI rm), .ref x7, .ref x8, .int sd])), (x5, aI G 96 (cN lf2))] H locs := hw
          subst hr
          refine re_i (nI (wch ((shp (lf2 q)).getD j 0))) (fw_ch hM2) ?_
          have hM := kX1_fits l G (lf2 i) ((shp (lf2 q)).getD j 0) (shw_le _ _) (by first | assumption | omega)
          refine cs_i C hw hM ysX1_fits ml_X1_259 rfl [] rfl rfl (fun _ => (rfl : ([] : List Nat) = [])) (by decide) ⟨Nat.zero_le _, Nat.zero_le _⟩ hl.1 rfl (Nat.le_of_ble_eq_true rfl) dX1_firstWrongLetter_55 (fun r _ H locs hr hw => ?_)
          have hw : Wd G (fA [(h0, .inr (1, [.ref so, .ref to, .ref uo, .int (nI im), .ref x5, .int (nI lm), .ref x6, .int (nI rm), .ref x7, .ref x8, .int sd])), (x5, aI G 96 (cN lf2))]) s [(h0, .inr (1, [.ref so, .ref to, .ref uo, .int (nI im), .ref x5, .int (nI lm), .ref x6, .int (nI rm), .ref x7, .ref x8, .int sd])), (x5, aI G 96 (cN lf2))] H locs := hw
          subst hr
          refine lv_if_eq (tgt := 67) xx xb dX1_firstWrongLetter_58 (by decide) (fun c_58 => ?_) (fun c_58 => ?_)
          · skip
            have c_58 := b0_c c_58
            have hph := fw_d hM2 (by omega) c_58
            refine lv_iload_n xx xb dX1_firstWrongLetter_67 rfl (lv_at hl 3 rfl) ?_
            exact rt_i C hw () (by first | (rw [hph, fwI_s]; done) | (rw [hph]; rfl) | (rw [hph, fwI_s, show lm = i by omega]; done)) rfl dX1_firstWrongLetter_68
          · skip
            have c_58 := b1_c c_58
            refine lv_iinc (v := nI (j + 1)) (lv' := [(2, .int (nI (j + 1))), (0, .ref h0), (1, .ref (X.2.1 k)), (3, .int (nI i))]) xx xb dX1_firstWrongLetter_61 hl (k := 2) rfl (nI_add _ 1) (by decide) rfl (fun ls hl => ?_)
            refine lv_goto (tgt := 69) xx xb dX1_firstWrongLetter_64 (by decide) ?_
            have hI2 : fwC lf2 lm (i + 1) k (j + 1) f ∨ fwM lf2 lm (i + 1) k (j + 1) q f := fw_c hM2 (by omega) c_58
            have hk2 := hk
            refine lv_iinc (v := nI (i + 1)) (lv' := [(3, .int (nI (i + 1))), (2, .int (nI (j + 1))), (0, .ref h0), (1, .ref (X.2.1 k))]) xx xb dX1_firstWrongLetter_69 hl (k := 3) rfl (nI_add _ 1) (by decide) rfl (fun ls hl => ?_)
            refine lv_goto (tgt := 7) xx xb dX1_firstWrongLetter_72 (by decide) ?_
            exact ih_7 (i + 1) k (j + 1) q f H _ ls (by omega) (by omega) hk2 hI2 hw (lv_sub hl [2, 3, 1, 0] rfl)
        · skip
          have c_20 := nlt_c (tN (by omega)) (tN (by omega)) c_20
          have hC := hI.resolve_right (fun z => by have := z.1; omega)
          refine lv_aload_n xx xb dX1_firstWrongLetter_23 rfl (lv_at hl 0 rfl) ?_
          refine m_get C hw 0 rfl fk_X1_22 rfl dX1_firstWrongLetter_24 ?_
          refine lv_iload_n xx xb dX1_firstWrongLetter_27 rfl (lv_at hl 3 rfl) ?_
          refine m_ald C hw 1 rfl i rfl (by omega) (by decide) dX1_firstWrongLetter_28 ?_
          refine re_i (nI (lf2 i)) rfl ?_
          have hlfi := hLF i (by omega)
          have hM := kX1_shapeBehind l G X (lf2 i) (by first | assumption | omega)
          refine eS_r C hE hw hM ysX1_shapeBehind ml_X1_241 rfl (by decide) ⟨Nat.zero_le _, Nat.zero_le _⟩ hl.1 rfl (Nat.le_of_ble_eq_true rfl) dX1_firstWrongLetter_29 (fun H locs hw => ?_)
          have hw : Wd G (fA [(h0, .inr (1, [.ref so, .ref to, .ref uo, .int (nI im), .ref x5, .int (nI lm), .ref x6, .int (nI rm), .ref x7, .ref x8, .int sd])), (x5, aI G 96 (cN lf2))]) s [(h0, .inr (1, [.ref so, .ref to, .ref uo, .int (nI im), .ref x5, .int (nI lm), .ref x6, .int (nI rm), .ref x7, .ref x8, .int sd])), (x5, aI G 96 (cN lf2))] H locs := hw
          refine lv_astore_n (lv' := [(1, .ref (X.2.1 (shI (lf2 i)))), (0, .ref h0), (2, .int (nI j)), (3, .int (nI i))]) xx xb dX1_firstWrongLetter_32 rfl hl (by decide) rfl (fun ls hl => ?_)
          refine lv_iconst (v := nI 0) xx xb dX1_firstWrongLetter_33 (by decide) ?_
          refine lv_istore_n (lv' := [(2, .int (nI 0)), (1, .ref (X.2.1 (shI (lf2 i)))), (0, .ref h0), (3, .int (nI i))]) xx xb dX1_firstWrongLetter_34 rfl hl (by decide) rfl (fun ls hl => ?_)
          refine lv_aload_n xx xb dX1_firstWrongLetter_35 rfl (lv_at hl 1 rfl) ?_
          have hM := kJ0_isEmpty_aae02 l G X (shI (lf2 i)) (shI_lt _)
          refine eT_i C hE hw (shI_lt _) hM yvJ0_isEmpty_aae02 ml_X1_252 rfl rfl (by decide) ⟨Nat.zero_le _, Nat.zero_le _⟩ hl.1 rfl (Nat.le_of_ble_eq_true rfl) dX1_firstWrongLetter_36 (fun r _ H locs hr hw => ?_)
          have hw : Wd G (fA [(h0, .inr (1, [.ref so, .ref to, .ref uo, .int (nI im), .ref x5, .int (nI lm), .ref x6, .int (nI rm), .ref x7, .ref x8, .int sd])), (x5, aI G 96 (cN lf2))]) s [(h0, .inr (1, [.ref so, .ref to, .ref uo, .int (nI im), .ref x5, .int (nI lm), .ref x6, .int (nI rm), .ref x7, .ref x8, .int sd])), (x5, aI G 96 (cN lf2))] H locs := hw
          subst hr
          refine lv_if_eq (tgt := 69) xx xb dX1_firstWrongLetter_39 (by decide) (fun c_39 => ?_) (fun c_39 => ?_)
          · skip
            have c_39 := b0_c c_39
            have hI2 : fwC lf2 lm (i + 1) (shI (lf2 i)) 0 (f - 1) ∨ fwM lf2 lm (i + 1) (shI (lf2 i)) 0 i (f - 1) := Or.inr (fw_b hC (by omega) (by rw [← shI_len]; omega))
            have hk2 := shI_lt (lf2 i)
            refine lv_iinc (v := nI (i + 1)) (lv' := [(3, .int (nI (i + 1))), (2, .int (nI 0)), (1, .ref (X.2.1 (shI (lf2 i)))), (0, .ref h0)]) xx xb dX1_firstWrongLetter_69 hl (k := 3) rfl (nI_add _ 1) (by decide) rfl (fun ls hl => ?_)
            refine lv_goto (tgt := 7) xx xb dX1_firstWrongLetter_72 (by decide) ?_
            exact ih_7 (i + 1) (shI (lf2 i)) 0 i (f - 1) H _ ls (by omega) (by omega) hk2 hI2 hw (lv_sub hl [3, 2, 1, 0] rfl)
          · skip
            have c_39 := b1_c c_39
            have hph := fw_a hC (by omega) (by rw [← shI_len]; omega)
            refine lv_iload_n xx xb dX1_firstWrongLetter_42 rfl (lv_at hl 3 rfl) ?_
            exact rt_i C hw () (by first | (rw [hph, fwI_s]; done) | (rw [hph]; rfl) | (rw [hph, fwI_s, show lm = i by omega]; done)) rfl dX1_firstWrongLetter_43
  exact L_7 (_ + 1) 0 0 0 0 97 H _ ls (Nat.lt_succ_self _) (by omega) (by decide) (Or.inl (fw_0 lf2 lm hlm)) hw (lv_sub hl [3, 2, 1, 0] rfl)
theorem phF_le (lf : Nat → Nat) (n : Nat) : ∀ f p, p ≤ n → phF lf n f p ≤ n + 6
  | 0, _, _ => Nat.zero_le _
  | f + 1, p, hp => by
    by_cases h : rdB lf n p
    · by_cases h2 : rdP lf n p < n
      · rw [phF_y h h2]; exact phF_le lf n f _ (by omega)
      · rw [phF_e h h2]; omega
    · rw [phF_n h]
      have := rdP_bd lf n p
      omega
theorem rdP_l {lf : Nat → Nat} {n p : Nat} (hp : p < n) (h : rdB lf n p) : p + (1 + sLen.getD (shI (lf p)) 0) = rdP lf n p := by
  rw [h.2, hd_y hp, shI_len]
  omega
theorem stR03 {R : RT} (hp : R 0 3 = 0) (c a b d : Nat) : stR R c a b d 0 3 = 0 := by
  unfold stR
  repeat' split
  · rw [adF_h _ _ _ _ _ (by decide)]; exact hp
  · exact pul03 hp _ _
  · exact pul03 hp _ _
  · exact setU03 hp _
  · exact it03 hp _
set_option maxRecDepth 100000 in
set_option maxHeartbeats 4000000 in
theorem kX1_readLetters (l : Launch) (G : GT) (X : Xt) (h0 : Nat) (so : Nat) (to : Nat) (uo : Nat) (x5 : Nat) (x6 : Nat) (x7 : Nat) (x8 : Nat) (im : Nat) (lm : Nat) (rm : Nat) (sd : Int32) (ak : Nat) (af : Nat) (ab : Nat) (aa : Nat) (R : RT) (tk : Nat) (tf : Nat) (tb : Nat) (ta : Nat) (m0 : Nat) (S0 : RT) (lf2 : Nat → Nat) (hR : OK R) (hK : AK R) (hp : R 0 3 = 0) (hm : R 0 1 ≤ 999) (hLF : LOK lf2 lm) (hlm : lm ≤ 96) : Cte l yX1_readLetters cX1_readLetters 4 (some .int) 6 145 [.ref h0] G [(h0, .inr (1, [.ref so, .ref to, .ref uo, .int (nI im), .ref x5, .int (nI lm), .ref x6, .int (nI rm), .ref x7, .ref x8, .int sd])), (so, .inr (0, [.int (nI (sN R)), .int (nI (R 0 1)), .int (nI (sF R)), .int (nI (sS R)), .int (nI (sL R)), .ref ak, .ref af, .ref ab, .ref aa])), (ak, aI G 10 (sK R)), (af, aI G 10 (sG R)), (ab, aI G 10 (sO R)), (aa, aI G 10 (sA R)), (to, .inr (0, [.int (nI (sN S0)), .int (nI m0), .int (nI (sF S0)), .int (nI (sS S0)), .int (nI (sL S0)), .ref tk, .ref tf, .ref tb, .ref ta])), (tk, aI G 10 (sK S0)), (tf, aI G 10 (sG S0)), (tb, aI G 10 (sO S0)), (ta, aI G 10 (sA S0)), (x5, aI G 96 (cN lf2))] X (QI G [(h0, .inr (1, [.ref so, .ref to, .ref uo, .int (nI im), .ref x5, .int (nI lm), .ref x6, .int (nI rm), .ref x7, .ref x8, .int sd])), (so, .inr (0, [.int (nI (sN R)), .int (nI (R 0 1)), .int (nI (sF R)), .int (nI (sS R)), .int (nI (sL R)), .ref ak, .ref af, .ref ab, .ref aa])), (ak, aI G 10 (sK R)), (af, aI G 10 (sG R)), (ab, aI G 10 (sO R)), (aa, aI G 10 (sA R)), (to, .inr (0, [.int (nI (sN S0)), .int (nI m0), .int (nI (sF S0)), .int (nI (sS S0)), .int (nI (sL S0)), .ref tk, .ref tf, .ref tb, .ref ta])), (tk, aI G 10 (sK S0)), (tf, aI G 10 (sG S0)), (tb, aI G 10 (sO S0)), (ta, aI G 10 (sA S0)), (x5, aI G 96 (cN lf2))] (fun (r : Int32) (u : Nat × RT) => r = vRoom lf2 lm R ∧ True) (fun u => [(h0, .inr (1, [.ref so, .ref to, .ref uo, .int (nI im), .ref x5, .int (nI lm), .ref x6, .int (nI rm), .ref x7, .ref x8, .int sd])), (so, .inr (0, [.int (nI (sN (sRoom lf2 lm R))), .int (nI ((sRoom lf2 lm R) 0 1)), .int (nI (sF (sRoom lf2 lm R))), .int (nI (sS (sRoom lf2 lm R))), .int (nI (sL (sRoom lf2 lm R))), .ref ak, .ref af, .ref ab, .ref aa])), (ak, aI G 10 (sK (sRoom lf2 lm R))), (af, aI G 10 (sG (sRoom lf2 lm R))), (ab, aI G 10 (sO (sRoom lf2 lm R))), (aa, aI G 10 (sA (sRoom lf2 lm R))), (to, .inr (0, [.int (nI (sN u.2)), .int (nI u.1), .int (nI (sF u.2)), .int (nI (sS u.2)), .int (nI (sL u.2)), .ref tk, .ref tf, .ref tb, .ref ta])), (tk, aI G 10 (sK u.2)), (tf, aI G 10 (sG u.2)), (tb, aI G 10 (sO u.2)), (ta, aI G 10 (sA u.2)), (x5, aI G 96 (cN lf2))])) := by
  refine enE (by decide +kernel) (Nat.le_of_ble_eq_true rfl) ?_
  intro p e s m below meth c ls H locs C hE hl hw
  have xx := C.1
  have xb := C.2.1
  have hw : Wd G (fA [(h0, .inr (1, [.ref so, .ref to, .ref uo, .int (nI im), .ref x5, .int (nI lm), .ref x6, .int (nI rm), .ref x7, .ref x8, .int sd])), (so, .inr (0, [.int (nI (sN R)), .int (nI (R 0 1)), .int (nI (sF R)), .int (nI (sS R)), .int (nI (sL R)), .ref ak, .ref af, .ref ab, .ref aa])), (ak, aI G 10 (sK R)), (af, aI G 10 (sG R)), (ab, aI G 10 (sO R)), (aa, aI G 10 (sA R)), (to, .inr (0, [.int (nI (sN S0)), .int (nI m0), .int (nI (sF S0)), .int (nI (sS S0)), .int (nI (sL S0)), .ref tk, .ref tf, .ref tb, .ref ta])), (tk, aI G 10 (sK S0)), (tf, aI G 10 (sG S0)), (tb, aI G 10 (sO S0)), (ta, aI G 10 (sA S0)), (x5, aI G 96 (cN lf2))]) s [(h0, .inr (1, [.ref so, .ref to, .ref uo, .int (nI im), .ref x5, .int (nI lm), .ref x6, .int (nI rm), .ref x7, .ref x8, .int sd])), (so, .inr (0, [.int (nI (sN R)), .int (nI (R 0 1)), .int (nI (sF R)), .int (nI (sS R)), .int (nI (sL R)), .ref ak, .ref af, .ref ab, .ref aa])), (ak, aI G 10 (sK R)), (af, aI G 10 (sG R)), (ab, aI G 10 (sO R)), (aa, aI G 10 (sA R)), (to, .inr (0, [.int (nI (sN S0)), .int (nI m0), .int (nI (sF S0)), .int (nI (sS S0)), .int (nI (sL S0)), .ref tk, .ref tf, .ref tb, .ref ta])), (tk, aI G 10 (sK S0)), (tf, aI G 10 (sG S0)), (tb, aI G 10 (sO S0)), (ta, aI G 10 (sA S0)), (x5, aI G 96 (cN lf2))] H locs := hw
  have hl : lv_has ls 4 [(0, .ref h0)] := hl
  obtain ⟨hn, hf0, hpr, hA⟩ := id hR
  have hple := phF_le lf2 lm 97 0 (by omega)
  refine lv_aload_n xx xb dX1_readLetters_0 rfl (lv_at hl 0 rfl) ?_
  have hM := kX1_firstWrongLetter l G X h0 so to uo x5 x6 x7 x8 im lm rm sd lf2 (by first | assumption | omega) (by first | assumption | omega)
  refine eV_i C hE hw hM yvX1_firstWrongLetter ml_X1_235 0 rfl rfl rfl [0, 11] rfl rfl (fun _ => (rfl : ([h0, x5] : List Nat) = [h0, x5])) (by decide) ⟨Nat.zero_le _, Nat.zero_le _⟩ hl.1 rfl (Nat.le_of_ble_eq_true rfl) dX1_readLetters_1 (fun r _ H locs hr hw => ?_)
  have hw : Wd G (fA [(h0, .inr (1, [.ref so, .ref to, .ref uo, .int (nI im), .ref x5, .int (nI lm), .ref x6, .int (nI rm), .ref x7, .ref x8, .int sd])), (so, .inr (0, [.int (nI (sN R)), .int (nI (R 0 1)), .int (nI (sF R)), .int (nI (sS R)), .int (nI (sL R)), .ref ak, .ref af, .ref ab, .ref aa])), (ak, aI G 10 (sK R)), (af, aI G 10 (sG R)), (ab, aI G 10 (sO R)), (aa, aI G 10 (sA R)), (to, .inr (0, [.int (nI (sN S0)), .int (nI m0), .int (nI (sF S0)), .int (nI (sS S0)), .int (nI (sL S0)), .ref tk, .ref tf, .ref tb, .ref ta])), (tk, aI G 10 (sK S0)), (tf, aI G 10 (sG S0)), (tb, aI G 10 (sO S0)), (ta, aI G 10 (sA S0)), (x5, aI G 96 (cN lf2))]) s [(h0, .inr (1, [.ref so, .ref to, .ref uo, .int (nI im), .ref x5, .int (nI lm), .ref x6, .int (nI rm), .ref x7, .ref x8, .int sd])), (so, .inr (0, [.int (nI (sN R)), .int (nI (R 0 1)), .int (nI (sF R)), .int (nI (sS R)), .int (nI (sL R)), .ref ak, .ref af, .ref ab, .ref aa])), (ak, aI G 10 (sK R)), (af, aI G 10 (sG R)), (ab, aI G 10 (sO R)), (aa, aI G 10 (sA R)), (to, .inr (0, [.int (nI (sN S0)), .int (nI m0), .int (nI (sF S0)), .int (nI (sS S0)), .int (nI (sL S0)), .ref tk, .ref tf, .ref tb, .ref ta])), (tk, aI G 10 (sK S0)), (tf, aI G 10 (sG S0)), (tb, aI G 10 (sO S0)), (ta, aI G 10 (sA S0)), (x5, aI G 96 (cN lf2))] H locs := hw
  subst hr
  refine lv_istore_n (lv' := [(1, .int (fwI (phF lf2 lm 97 0))), (0, .ref h0)]) xx xb dX1_readLetters_4 rfl hl (by decide) rfl (fun ls hl => ?_)
  refine lv_iload_n xx xb dX1_readLetters_5 rfl (lv_at hl 0 rfl) ?_
  refine lv_bipush (v := (-9)) xx xb dX1_readLetters_6 (by decide) ?_
  refine lv_icmp_eq (tgt := 17) xx xb dX1_readLetters_8 (by decide) (fun c_8 => ?_) (fun c_8 => ?_)
  · skip
    have c_8 := fwI_e (by omega) c_8
    have hlm0 : 0 < lm := by
      apply Classical.byContradiction
      intro z
      have e : lm = 0 := by omega
      rw [e, ph_z] at c_8
      omega
    refine lv_aload_n xx xb dX1_readLetters_17 rfl (lv_at hl 1 rfl) ?_
    refine m_get C hw 0 rfl fk_X1_16 rfl dX1_readLetters_18 ?_
    refine lv_aload_n xx xb dX1_readLetters_21 rfl (lv_at hl 1 rfl) ?_
    refine m_get C hw 0 rfl fk_X1_10 rfl dX1_readLetters_22 ?_
    have hM := kX0_copyFrom l G to tk tf tb ta m0 S0 so ak af ab aa (R 0 1) R (by first | assumption | omega)
    refine cv_v C hw hM yvX0_copyFrom ml_X1_131 6 rfl rfl rfl [6, 7, 8, 9, 10, 1, 2, 3, 4, 5] rfl rfl (fun _ => (rfl : ([to, tk, tf, tb, ta, so, ak, af, ab, aa] : List Nat) = [to, tk, tf, tb, ta, so, ak, af, ab, aa])) (by decide) ⟨Nat.zero_le _, Nat.zero_le _⟩ hl.1 rfl (Nat.le_of_ble_eq_true rfl) dX1_readLetters_25 (fun _ H locs hr hw => ?_)
    have hw : Wd G (fA [(h0, .inr (1, [.ref so, .ref to, .ref uo, .int (nI im), .ref x5, .int (nI lm), .ref x6, .int (nI rm), .ref x7, .ref x8, .int sd])), (so, .inr (0, [.int (nI (sN R)), .int (nI (R 0 1)), .int (nI (sF R)), .int (nI (sS R)), .int (nI (sL R)), .ref ak, .ref af, .ref ab, .ref aa])), (ak, aI G 10 (sK R)), (af, aI G 10 (sG R)), (ab, aI G 10 (sO R)), (aa, aI G 10 (sA R)), (to, .inr (0, [.int (nI (sN S0)), .int (nI m0), .int (nI (sF S0)), .int (nI (sS S0)), .int (nI (sL S0)), .ref tk, .ref tf, .ref tb, .ref ta])), (tk, aI G 10 (sK S0)), (tf, aI G 10 (sG S0)), (tb, aI G 10 (sO S0)), (ta, aI G 10 (sA S0)), (x5, aI G 96 (cN lf2))]) s [(h0, .inr (1, [.ref so, .ref to, .ref uo, .int (nI im), .ref x5, .int (nI lm), .ref x6, .int (nI rm), .ref x7, .ref x8, .int sd])), (so, .inr (0, [.int (nI (sN R)), .int (nI (R 0 1)), .int (nI (sF R)), .int (nI (sS R)), .int (nI (sL R)), .ref ak, .ref af, .ref ab, .ref aa])), (ak, aI G 10 (sK R)), (af, aI G 10 (sG R)), (ab, aI G 10 (sO R)), (aa, aI G 10 (sA R)), (to, .inr (0, [.int (nI (sN R)), .int (nI (R 0 1)), .int (nI (sF R)), .int (nI (sS R)), .int (nI (sL R)), .ref tk, .ref tf, .ref tb, .ref ta])), (tk, aI G 10 (sK R)), (tf, aI G 10 (sG R)), (tb, aI G 10 (sO R)), (ta, aI G 10 (sA R)), (x5, aI G 96 (cN lf2))] H locs := hw
    refine lv_iconst (v := nI 0) xx xb dX1_readLetters_28 (by decide) ?_
    refine lv_istore_n (lv' := [(2, .int (nI 0)), (1, .int (fwI (phF lf2 lm 97 0))), (0, .ref h0)]) xx xb dX1_readLetters_29 rfl hl (by decide) rfl (fun ls hl => ?_)
    refine lv_iconst (v := nI 0) xx xb dX1_readLetters_30 (by decide) ?_
    refine lv_istore_n (lv' := [(3, .int (nI 0)), (2, .int (nI 0)), (1, .int (fwI (phF lf2 lm 97 0))), (0, .ref h0)]) xx xb dX1_readLetters_31 rfl hl (by decide) rfl (fun ls hl => ?_)
    have hw : Wd G (fA [(h0, .inr (1, [.ref so, .ref to, .ref uo, .int (nI im), .ref x5, .int (nI lm), .ref x6, .int (nI rm), .ref x7, .ref x8, .int sd])), (so, .inr (0, [.int (nI (sN R)), .int (nI (R 0 1)), .int (nI (sF R)), .int (nI (sS R)), .int (nI (sL R)), .ref ak, .ref af, .ref ab, .ref aa])), (ak, aI G 10 (sK R)), (af, aI G 10 (sG R)), (ab, aI G 10 (sO R)), (aa, aI G 10 (sA R)), (to, .inr (0, [.int (nI (sN S0)), .int (nI m0), .int (nI (sF S0)), .int (nI (sS S0)), .int (nI (sL S0)), .ref tk, .ref tf, .ref tb, .ref ta])), (tk, aI G 10 (sK S0)), (tf, aI G 10 (sG S0)), (tb, aI G 10 (sO S0)), (ta, aI G 10 (sA S0)), (x5, aI G 96 (cN lf2))]) s [(h0, .inr (1, [.ref so, .ref to, .ref uo, .int (nI im), .ref x5, .int (nI lm), .ref x6, .int (nI rm), .ref x7, .ref x8, .int sd])), (so, .inr (0, [.int (nI (sN R)), .int (nI (R 0 1)), .int (nI (sF R)), .int (nI (sS R)), .int (nI (sL R)), .ref ak, .ref af, .ref ab, .ref aa])), (ak, aI G 10 (sK R)), (af, aI G 10 (sG R)), (ab, aI G 10 (sO R)), (aa, aI G 10 (sA R)), (to, .inr (0, [.int (nI (sN R)), .int (nI (R 0 1)), .int (nI (sF R)), .int (nI (sS R)), .int (nI (sL R)), .ref tk, .ref tf, .ref tb, .ref ta])), (tk, aI G 10 (sK R)), (tf, aI G 10 (sG R)), (tb, aI G 10 (sO R)), (ta, aI G 10 (sA R)), (x5, aI G 96 (cN lf2))] H locs := hw
    have L_32 : ∀ (fu : Nat) (p2 : Nat) (S : RT) (g : Nat) (cn : Nat) (H : Heap) (locs : List Loc) (ls : Array Slot), g < fu → (OK S) → (AK S) → (S 0 3 = 0) → (S 0 1 ≤ 999) → (p2 < lm → phF lf2 lm g p2 = 0) → (p2 ≤ lm ∧ lm < p2 + g) → (cn ≤ p2) → (phC lf2 lm 97 0 = (if p2 < lm then phC lf2 lm g p2 else 0) + cn) → (ruF lf2 lm 97 0 R = ruF lf2 lm g p2 S) → (ruR lf2 lm 97 0 R = ruR lf2 lm g p2 S) → Wd G (fA [(h0, .inr (1, [.ref so, .ref to, .ref uo, .int (nI im), .ref x5, .int (nI lm), .ref x6, .int (nI rm), .ref x7, .ref x8, .int sd])), (so, .inr (0, [.int (nI (sN R)), .int (nI (R 0 1)), .int (nI (sF R)), .int (nI (sS R)), .int (nI (sL R)), .ref ak, .ref af, .ref ab, .ref aa])), (ak, aI G 10 (sK R)), (af, aI G 10 (sG R)), (ab, aI G 10 (sO R)), (aa, aI G 10 (sA R)), (to, .inr (0, [.int (nI (sN S0)), .int (nI m0), .int (nI (sF S0)), .int (nI (sS S0)), .int (nI (sL S0)), .ref tk, .ref tf, .ref tb, .ref ta])), (tk, aI G 10 (sK S0)), (tf, aI G 10 (sG S0)), (tb, aI G 10 (sO S0)), (ta, aI G 10 (sA S0)), (x5, aI G 96 (cN lf2))]) s [(h0, .inr (1, [.ref so, .ref to, .ref uo, .int (nI im), .ref x5, .int (nI lm), .ref x6, .int (nI rm), .ref x7, .ref x8, .int sd])), (so, .inr (0, [.int (nI (sN R)), .int (nI (R 0 1)), .int (nI (sF R)), .int (nI (sS R)), .int (nI (sL R)), .ref ak, .ref af, .ref ab, .ref aa])), (ak, aI G 10 (sK R)), (af, aI G 10 (sG R)), (ab, aI G 10 (sO R)), (aa, aI G 10 (sA R)), (to, .inr (0, [.int (nI (sN S)), .int (nI (S 0 1)), .int (nI (sF S)), .int (nI (sS S)), .int (nI (sL S)), .ref tk, .ref tf, .ref tb, .ref ta])), (tk, aI G 10 (sK S)), (tf, aI G 10 (sG S)), (tb, aI G 10 (sO S)), (ta, aI G 10 (sA S)), (x5, aI G 96 (cN lf2))] H locs → lv_has ls 4 [(0, .ref h0), (2, .int (nI cn)), (3, .int (nI p2))] → W p l e ({ frames := 6, cells := 0, slots := 0, locals := 145 }) s m (([.ref h0] : List Value).toArray) below meth c H locs 0 0 (MQ below (QI G [(h0, .inr (1, [.ref so, .ref to, .ref uo, .int (nI im), .ref x5, .int (nI lm), .ref x6, .int (nI rm), .ref x7, .ref x8, .int sd])), (so, .inr (0, [.int (nI (sN R)), .int (nI (R 0 1)), .int (nI (sF R)), .int (nI (sS R)), .int (nI (sL R)), .ref ak, .ref af, .ref ab, .ref aa])), (ak, aI G 10 (sK R)), (af, aI G 10 (sG R)), (ab, aI G 10 (sO R)), (aa, aI G 10 (sA R)), (to, .inr (0, [.int (nI (sN S0)), .int (nI m0), .int (nI (sF S0)), .int (nI (sS S0)), .int (nI (sL S0)), .ref tk, .ref tf, .ref tb, .ref ta])), (tk, aI G 10 (sK S0)), (tf, aI G 10 (sG S0)), (tb, aI G 10 (sO S0)), (ta, aI G 10 (sA S0)), (x5, aI G 96 (cN lf2))] (fun (r : Int32) (u : Nat × RT) => r = vRoom lf2 lm R ∧ True) (fun u => [(h0, .inr (1, [.ref so, .ref to, .ref uo, .int (nI im), .ref x5, .int (nI lm), .ref x6, .int (nI rm), .ref x7, .ref x8, .int sd])), (so, .inr (0, [.int (nI (sN (sRoom lf2 lm R))), .int (nI ((sRoom lf2 lm R) 0 1)), .int (nI (sF (sRoom lf2 lm R))), .int (nI (sS (sRoom lf2 lm R))), .int (nI (sL (sRoom lf2 lm R))), .ref ak, .ref af, .ref ab, .ref aa])), (ak, aI G 10 (sK (sRoom lf2 lm R))), (af, aI G 10 (sG (sRoom lf2 lm R))), (ab, aI G 10 (sO (sRoom lf2 lm R))), (aa, aI G 10 (sA (sRoom lf2 lm R))), (to, .inr (0, [.int (nI (sN u.2)), .int (nI u.1), .int (nI (sF u.2)), .int (nI (sS u.2)), .int (nI (sL u.2)), .ref tk, .ref tf, .ref tb, .ref ta])), (tk, aI G 10 (sK u.2)), (tf, aI G 10 (sG u.2)), (tb, aI G 10 (sO u.2)), (ta, aI G 10 (sA u.2)), (x5, aI G 96 (cN lf2))])) (([.ref h0] : List Value).toArray) s 0 0 (fA [(h0, .inr (1, [.ref so, .ref to, .ref uo, .int (nI im), .ref x5, .int (nI lm), .ref x6, .int (nI rm), .ref x7, .ref x8, .int sd])), (so, .inr (0, [.int (nI (sN R)), .int (nI (R 0 1)), .int (nI (sF R)), .int (nI (sS R)), .int (nI (sL R)), .ref ak, .ref af, .ref ab, .ref aa])), (ak, aI G 10 (sK R)), (af, aI G 10 (sG R)), (ab, aI G 10 (sO R)), (aa, aI G 10 (sA R)), (to, .inr (0, [.int (nI (sN S0)), .int (nI m0), .int (nI (sF S0)), .int (nI (sS S0)), .int (nI (sL S0)), .ref tk, .ref tf, .ref tb, .ref ta])), (tk, aI G 10 (sK S0)), (tf, aI G 10 (sG S0)), (tb, aI G 10 (sO S0)), (ta, aI G 10 (sA S0)), (x5, aI G 96 (cN lf2))])) (F0 m 32 ls []) := by
      intro fu
      induction fu with
      | zero => intro p2 S g cn H locs ls hfu; exact absurd hfu (Nat.not_lt_zero _)
      | succ fu ih_32 =>
        intro p2 S g cn H locs ls hfu hS hSK hSp hSm hz0 hg hcb hC hRF hRR hw hl
        refine lv_iload_n xx xb dX1_readLetters_32 rfl (lv_at hl 2 rfl) ?_
        refine lv_aload_n xx xb dX1_readLetters_33 rfl (lv_at hl 0 rfl) ?_
        refine m_get C hw 0 rfl fk_X1_39 rfl dX1_readLetters_34 ?_
        refine lv_icmp_ge (tgt := 77) xx xb dX1_readLetters_37 (by decide) (fun c_37 => ?_) (fun c_37 => ?_)
        · skip
          have c_37 := le_c (tN (by omega)) (tN (by omega)) c_37
          have hre : ruF lf2 lm 97 0 R = 0 := hRF.trans (ruF_e (by omega))
          have hRe := hRR.trans (ruR_e (by omega))
          have hsr : sRoom lf2 lm R = S := (sRoom_3 c_8 hre).trans hRe
          have hcn : phC lf2 lm 97 0 = cn := by rw [hC, if_neg (by omega), Nat.zero_add]
          refine lv_aload_n xx xb dX1_readLetters_77 rfl (lv_at hl 0 rfl) ?_
          refine m_get C hw 0 rfl fk_X1_10 rfl dX1_readLetters_78 ?_
          refine lv_aload_n xx xb dX1_readLetters_81 rfl (lv_at hl 0 rfl) ?_
          refine m_get C hw 0 rfl fk_X1_16 rfl dX1_readLetters_82 ?_
          have hM := kX0_copyFrom l G so ak af ab aa (R 0 1) R to tk tf tb ta (S 0 1) S hS.2.1
          refine cv_v C hw hM yvX0_copyFrom ml_X1_131 1 rfl rfl rfl [1, 2, 3, 4, 5, 6, 7, 8, 9, 10] rfl rfl (fun _ => (rfl : ([so, ak, af, ab, aa, to, tk, tf, tb, ta] : List Nat) = [so, ak, af, ab, aa, to, tk, tf, tb, ta])) (by decide) ⟨Nat.zero_le _, Nat.zero_le _⟩ hl.1 rfl (Nat.le_of_ble_eq_true rfl) dX1_readLetters_85 (fun _ H locs hr hw => ?_)
          have hw : Wd G (fA [(h0, .inr (1, [.ref so, .ref to, .ref uo, .int (nI im), .ref x5, .int (nI lm), .ref x6, .int (nI rm), .ref x7, .ref x8, .int sd])), (so, .inr (0, [.int (nI (sN R)), .int (nI (R 0 1)), .int (nI (sF R)), .int (nI (sS R)), .int (nI (sL R)), .ref ak, .ref af, .ref ab, .ref aa])), (ak, aI G 10 (sK R)), (af, aI G 10 (sG R)), (ab, aI G 10 (sO R)), (aa, aI G 10 (sA R)), (to, .inr (0, [.int (nI (sN S0)), .int (nI m0), .int (nI (sF S0)), .int (nI (sS S0)), .int (nI (sL S0)), .ref tk, .ref tf, .ref tb, .ref ta])), (tk, aI G 10 (sK S0)), (tf, aI G 10 (sG S0)), (tb, aI G 10 (sO S0)), (ta, aI G 10 (sA S0)), (x5, aI G 96 (cN lf2))]) s [(h0, .inr (1, [.ref so, .ref to, .ref uo, .int (nI im), .ref x5, .int (nI lm), .ref x6, .int (nI rm), .ref x7, .ref x8, .int sd])), (so, .inr (0, [.int (nI (sN S)), .int (nI (S 0 1)), .int (nI (sF S)), .int (nI (sS S)), .int (nI (sL S)), .ref ak, .ref af, .ref ab, .ref aa])), (ak, aI G 10 (sK S)), (af, aI G 10 (sG S)), (ab, aI G 10 (sO S)), (aa, aI G 10 (sA S)), (to, .inr (0, [.int (nI (sN S)), .int (nI (S 0 1)), .int (nI (sF S)), .int (nI (sS S)), .int (nI (sL S)), .ref tk, .ref tf, .ref tb, .ref ta])), (tk, aI G 10 (sK S)), (tf, aI G 10 (sG S)), (tb, aI G 10 (sO S)), (ta, aI G 10 (sA S)), (x5, aI G 96 (cN lf2))] H locs := hw
          have hw : Wd G (fA [(h0, .inr (1, [.ref so, .ref to, .ref uo, .int (nI im), .ref x5, .int (nI lm), .ref x6, .int (nI rm), .ref x7, .ref x8, .int sd])), (so, .inr (0, [.int (nI (sN R)), .int (nI (R 0 1)), .int (nI (sF R)), .int (nI (sS R)), .int (nI (sL R)), .ref ak, .ref af, .ref ab, .ref aa])), (ak, aI G 10 (sK R)), (af, aI G 10 (sG R)), (ab, aI G 10 (sO R)), (aa, aI G 10 (sA R)), (to, .inr (0, [.int (nI (sN S0)), .int (nI m0), .int (nI (sF S0)), .int (nI (sS S0)), .int (nI (sL S0)), .ref tk, .ref tf, .ref tb, .ref ta])), (tk, aI G 10 (sK S0)), (tf, aI G 10 (sG S0)), (tb, aI G 10 (sO S0)), (ta, aI G 10 (sA S0)), (x5, aI G 96 (cN lf2))]) s [(h0, .inr (1, [.ref so, .ref to, .ref uo, .int (nI im), .ref x5, .int (nI lm), .ref x6, .int (nI rm), .ref x7, .ref x8, .int sd])), (so, .inr (0, [.int (nI (sN (sRoom lf2 lm R))), .int (nI ((sRoom lf2 lm R) 0 1)), .int (nI (sF (sRoom lf2 lm R))), .int (nI (sS (sRoom lf2 lm R))), .int (nI (sL (sRoom lf2 lm R))), .ref ak, .ref af, .ref ab, .ref aa])), (ak, aI G 10 (sK (sRoom lf2 lm R))), (af, aI G 10 (sG (sRoom lf2 lm R))), (ab, aI G 10 (sO (sRoom lf2 lm R))), (aa, aI G 10 (sA (sRoom lf2 lm R))), (to, .inr (0, [.int (nI (sN S)), .int (nI (S 0 1)), .int (nI (sF S)), .int (nI (sS S)), .int (nI (sL S)), .ref tk, .ref tf, .ref tb, .ref ta])), (tk, aI G 10 (sK S)), (tf, aI G 10 (sG S)), (tb, aI G 10 (sO S)), (ta, aI G 10 (sA S)), (x5, aI G 96 (cN lf2))] H locs := by rw [hsr]; exact hw
          refine lv_iload_n xx xb dX1_readLetters_88 rfl (lv_at hl 1 rfl) ?_
          refine re_i (vRoom lf2 lm R) (by rw [vRoom_3 (R := R) c_8 hre, hcn]) ?_
          exact rt_i C hw ((S 0 1), S) (⟨rfl, trivial⟩) rfl dX1_readLetters_89
        · skip
          have c_37 := nle_c (tN (by omega)) (tN (by omega)) c_37
          refine lv_aload_n xx xb dX1_readLetters_40 rfl (lv_at hl 0 rfl) ?_
          refine lv_iload_n xx xb dX1_readLetters_41 rfl (lv_at hl 2 rfl) ?_
          have hpn : p2 < lm := by omega
          obtain ⟨g1, rfl⟩ : ∃ z, g = z + 1 := ⟨g - 1, by omega⟩
          have hz := phF_0 (hz0 hpn)
          have hbd := nm_bd hpn hz.1
          have hM := kX1_comesInMind l G h0 so to uo x5 x6 x7 x8 im lm rm sd tk tf tb ta S lf2 p2 hS hSK hSp hSm (by first | assumption | omega) (by first | assumption | omega) hpn hz.1
          refine cv_i C hw hM yvX1_comesInMind ml_X1_238 0 rfl rfl rfl [0, 6, 7, 8, 9, 10, 11] rfl rfl (fun _ => (rfl : ([h0, to, tk, tf, tb, ta, x5] : List Nat) = [h0, to, tk, tf, tb, ta, x5])) (by decide) ⟨Nat.zero_le _, Nat.zero_le _⟩ hl.1 rfl (Nat.le_of_ble_eq_true rfl) dX1_readLetters_42 (fun r _ H locs hr hw => ?_)
          have hw : Wd G (fA [(h0, .inr (1, [.ref so, .ref to, .ref uo, .int (nI im), .ref x5, .int (nI lm), .ref x6, .int (nI rm), .ref x7, .ref x8, .int sd])), (so, .inr (0, [.int (nI (sN R)), .int (nI (R 0 1)), .int (nI (sF R)), .int (nI (sS R)), .int (nI (sL R)), .ref ak, .ref af, .ref ab, .ref aa])), (ak, aI G 10 (sK R)), (af, aI G 10 (sG R)), (ab, aI G 10 (sO R)), (aa, aI G 10 (sA R)), (to, .inr (0, [.int (nI (sN S0)), .int (nI m0), .int (nI (sF S0)), .int (nI (sS S0)), .int (nI (sL S0)), .ref tk, .ref tf, .ref tb, .ref ta])), (tk, aI G 10 (sK S0)), (tf, aI G 10 (sG S0)), (tb, aI G 10 (sO S0)), (ta, aI G 10 (sA S0)), (x5, aI G 96 (cN lf2))]) s [(h0, .inr (1, [.ref so, .ref to, .ref uo, .int (nI im), .ref x5, .int (nI lm), .ref x6, .int (nI rm), .ref x7, .ref x8, .int sd])), (so, .inr (0, [.int (nI (sN R)), .int (nI (R 0 1)), .int (nI (sF R)), .int (nI (sS R)), .int (nI (sL R)), .ref ak, .ref af, .ref ab, .ref aa])), (ak, aI G 10 (sK R)), (af, aI G 10 (sG R)), (ab, aI G 10 (sO R)), (aa, aI G 10 (sA R)), (to, .inr (0, [.int (nI (sN (selP (stB S (lf2 p2) (n0F lf2 p2) (n1F lf2 p2) (n2F lf2 p2)) (stR S (lf2 p2) (n0F lf2 p2) (n1F lf2 p2) (n2F lf2 p2)) S))), .int (nI ((selP (stB S (lf2 p2) (n0F lf2 p2) (n1F lf2 p2) (n2F lf2 p2)) (stR S (lf2 p2) (n0F lf2 p2) (n1F lf2 p2) (n2F lf2 p2)) S) 0 1)), .int (nI (sF (selP (stB S (lf2 p2) (n0F lf2 p2) (n1F lf2 p2) (n2F lf2 p2)) (stR S (lf2 p2) (n0F lf2 p2) (n1F lf2 p2) (n2F lf2 p2)) S))), .int (nI (sS (selP (stB S (lf2 p2) (n0F lf2 p2) (n1F lf2 p2) (n2F lf2 p2)) (stR S (lf2 p2) (n0F lf2 p2) (n1F lf2 p2) (n2F lf2 p2)) S))), .int (nI (sL (selP (stB S (lf2 p2) (n0F lf2 p2) (n1F lf2 p2) (n2F lf2 p2)) (stR S (lf2 p2) (n0F lf2 p2) (n1F lf2 p2) (n2F lf2 p2)) S))), .ref tk, .ref tf, .ref tb, .ref ta])), (tk, aI G 10 (sK (selP (stB S (lf2 p2) (n0F lf2 p2) (n1F lf2 p2) (n2F lf2 p2)) (stR S (lf2 p2) (n0F lf2 p2) (n1F lf2 p2) (n2F lf2 p2)) S))), (tf, aI G 10 (sG (selP (stB S (lf2 p2) (n0F lf2 p2) (n1F lf2 p2) (n2F lf2 p2)) (stR S (lf2 p2) (n0F lf2 p2) (n1F lf2 p2) (n2F lf2 p2)) S))), (tb, aI G 10 (sO (selP (stB S (lf2 p2) (n0F lf2 p2) (n1F lf2 p2) (n2F lf2 p2)) (stR S (lf2 p2) (n0F lf2 p2) (n1F lf2 p2) (n2F lf2 p2)) S))), (ta, aI G 10 (sA (selP (stB S (lf2 p2) (n0F lf2 p2) (n1F lf2 p2) (n2F lf2 p2)) (stR S (lf2 p2) (n0F lf2 p2) (n1F lf2 p2) (n2F lf2 p2)) S))), (x5, aI G 96 (cN lf2))] H locs := hw
          subst hr
          refine lv_if_ne (tgt := 54) xx xb dX1_readLetters_45 (by decide) (fun c_45 => ?_) (fun c_45 => ?_)
          · skip
            have c_45 := z01_1 c_45
            have hw : Wd G (fA [(h0, .inr (1, [.ref so, .ref to, .ref uo, .int (nI im), .ref x5, .int (nI lm), .ref x6, .int (nI rm), .ref x7, .ref x8, .int sd])), (so, .inr (0, [.int (nI (sN R)), .int (nI (R 0 1)), .int (nI (sF R)), .int (nI (sS R)), .int (nI (sL R)), .ref ak, .ref af, .ref ab, .ref aa])), (ak, aI G 10 (sK R)), (af, aI G 10 (sG R)), (ab, aI G 10 (sO R)), (aa, aI G 10 (sA R)), (to, .inr (0, [.int (nI (sN S0)), .int (nI m0), .int (nI (sF S0)), .int (nI (sS S0)), .int (nI (sL S0)), .ref tk, .ref tf, .ref tb, .ref ta])), (tk, aI G 10 (sK S0)), (tf, aI G 10 (sG S0)), (tb, aI G 10 (sO S0)), (ta, aI G 10 (sA S0)), (x5, aI G 96 (cN lf2))]) s [(h0, .inr (1, [.ref so, .ref to, .ref uo, .int (nI im), .ref x5, .int (nI lm), .ref x6, .int (nI rm), .ref x7, .ref x8, .int sd])), (so, .inr (0, [.int (nI (sN R)), .int (nI (R 0 1)), .int (nI (sF R)), .int (nI (sS R)), .int (nI (sL R)), .ref ak, .ref af, .ref ab, .ref aa])), (ak, aI G 10 (sK R)), (af, aI G 10 (sG R)), (ab, aI G 10 (sO R)), (aa, aI G 10 (sA R)), (to, .inr (0, [.int (nI (sN (stR S (lf2 p2) (n0F lf2 p2) (n1F lf2 p2) (n2F lf2 p2)))), .int (nI ((stR S (lf2 p2) (n0F lf2 p2) (n1F lf2 p2) (n2F lf2 p2)) 0 1)), .int (nI (sF (stR S (lf2 p2) (n0F lf2 p2) (n1F lf2 p2) (n2F lf2 p2)))), .int (nI (sS (stR S (lf2 p2) (n0F lf2 p2) (n1F lf2 p2) (n2F lf2 p2)))), .int (nI (sL (stR S (lf2 p2) (n0F lf2 p2) (n1F lf2 p2) (n2F lf2 p2)))), .ref tk, .ref tf, .ref tb, .ref ta])), (tk, aI G 10 (sK (stR S (lf2 p2) (n0F lf2 p2) (n1F lf2 p2) (n2F lf2 p2)))), (tf, aI G 10 (sG (stR S (lf2 p2) (n0F lf2 p2) (n1F lf2 p2) (n2F lf2 p2)))), (tb, aI G 10 (sO (stR S (lf2 p2) (n0F lf2 p2) (n1F lf2 p2) (n2F lf2 p2)))), (ta, aI G 10 (sA (stR S (lf2 p2) (n0F lf2 p2) (n1F lf2 p2) (n2F lf2 p2)))), (x5, aI G 96 (cN lf2))] H locs := by rw [selP_1 c_45] at hw; exact hw
            obtain ⟨k1, k2, k3, k4, k5, k6⟩ := hbd
            have hS2 := OK_stR hS c_45 (fun q => ⟨k4 q, k5 (by omega)⟩)
            have hSK2 := AK_stR hS hSK (lf2 p2) (n0F lf2 p2) (n1F lf2 p2) (n2F lf2 p2)
            have hSm2 := mn_stR hSm c_45
            have hSp2 := stR03 hSp (lf2 p2) (n0F lf2 p2) (n1F lf2 p2) (n2F lf2 p2)
            have hrl := rd_le hz.1 (Nat.le_of_lt hpn)
            have hrg := rd_gt hz.1
            have hF3 := hRF.trans (ruF_y hpn c_45)
            have hR3 := hRR.trans (ruR_y hpn c_45)
            have hlfp := hLF p2 hpn
            have hC3 : phC lf2 lm 97 0 = (if rdP lf2 lm p2 < lm then phC lf2 lm g1 (rdP lf2 lm p2) else 0) + (cn + 1) := by
              rw [hC, if_pos hpn]
              by_cases z : rdP lf2 lm p2 < lm
              · rw [phC_y hz.1 z, if_pos z]; omega
              · rw [phC_e hz.1 z, if_neg z]; omega
            refine lv_iinc (v := nI (cn + 1)) (lv' := [(2, .int (nI (cn + 1))), (0, .ref h0), (3, .int (nI p2))]) xx xb dX1_readLetters_54 hl (k := 1) rfl (nI_add _ 1) (by decide) rfl (fun ls hl => ?_)
            refine lv_iload_n xx xb dX1_readLetters_57 rfl (lv_at hl 2 rfl) ?_
            refine lv_iconst (v := nI 1) xx xb dX1_readLetters_58 (by decide) ?_
            refine lv_aload_n xx xb dX1_readLetters_59 rfl (lv_at hl 1 rfl) ?_
            refine m_get C hw 0 rfl fk_X1_22 rfl dX1_readLetters_60 ?_
            refine lv_iload_n xx xb dX1_readLetters_63 rfl (lv_at hl 2 rfl) ?_
            refine m_ald C hw 11 rfl p2 rfl (by omega) (by decide) dX1_readLetters_64 ?_
            refine re_i (nI (lf2 p2)) rfl ?_
            have hM := kX1_shapeBehind l G X (lf2 p2) (by first | assumption | omega)
            refine eS_r C hE hw hM ysX1_shapeBehind ml_X1_241 rfl (by decide) ⟨Nat.zero_le _, Nat.zero_le _⟩ hl.1 rfl (Nat.le_of_ble_eq_true rfl) dX1_readLetters_65 (fun H locs hw => ?_)
            have hw : Wd G (fA [(h0, .inr (1, [.ref so, .ref to, .ref uo, .int (nI im), .ref x5, .int (nI lm), .ref x6, .int (nI rm), .ref x7, .ref x8, .int sd])), (so, .inr (0, [.int (nI (sN R)), .int (nI (R 0 1)), .int (nI (sF R)), .int (nI (sS R)), .int (nI (sL R)), .ref ak, .ref af, .ref ab, .ref aa])), (ak, aI G 10 (sK R)), (af, aI G 10 (sG R)), (ab, aI G 10 (sO R)), (aa, aI G 10 (sA R)), (to, .inr (0, [.int (nI (sN S0)), .int (nI m0), .int (nI (sF S0)), .int (nI (sS S0)), .int (nI (sL S0)), .ref tk, .ref tf, .ref tb, .ref ta])), (tk, aI G 10 (sK S0)), (tf, aI G 10 (sG S0)), (tb, aI G 10 (sO S0)), (ta, aI G 10 (sA S0)), (x5, aI G 96 (cN lf2))]) s [(h0, .inr (1, [.ref so, .ref to, .ref uo, .int (nI im), .ref x5, .int (nI lm), .ref x6, .int (nI rm), .ref x7, .ref x8, .int sd])), (so, .inr (0, [.int (nI (sN R)), .int (nI (R 0 1)), .int (nI (sF R)), .int (nI (sS R)), .int (nI (sL R)), .ref ak, .ref af, .ref ab, .ref aa])), (ak, aI G 10 (sK R)), (af, aI G 10 (sG R)), (ab, aI G 10 (sO R)), (aa, aI G 10 (sA R)), (to, .inr (0, [.int (nI (sN (stR S (lf2 p2) (n0F lf2 p2) (n1F lf2 p2) (n2F lf2 p2)))), .int (nI ((stR S (lf2 p2) (n0F lf2 p2) (n1F lf2 p2) (n2F lf2 p2)) 0 1)), .int (nI (sF (stR S (lf2 p2) (n0F lf2 p2) (n1F lf2 p2) (n2F lf2 p2)))), .int (nI (sS (stR S (lf2 p2) (n0F lf2 p2) (n1F lf2 p2) (n2F lf2 p2)))), .int (nI (sL (stR S (lf2 p2) (n0F lf2 p2) (n1F lf2 p2) (n2F lf2 p2)))), .ref tk, .ref tf, .ref tb, .ref ta])), (tk, aI G 10 (sK (stR S (lf2 p2) (n0F lf2 p2) (n1F lf2 p2) (n2F lf2 p2)))), (tf, aI G 10 (sG (stR S (lf2 p2) (n0F lf2 p2) (n1F lf2 p2) (n2F lf2 p2)))), (tb, aI G 10 (sO (stR S (lf2 p2) (n0F lf2 p2) (n1F lf2 p2) (n2F lf2 p2)))), (ta, aI G 10 (sA (stR S (lf2 p2) (n0F lf2 p2) (n1F lf2 p2) (n2F lf2 p2)))), (x5, aI G 96 (cN lf2))] H locs := hw
            have hM := kJ0_length_8abf5 l G X (shI (lf2 p2)) (shI_lt _)
            refine eT_i C hE hw (shI_lt _) hM yvJ0_length_8abf5 ml_X1_245 rfl rfl (by decide) ⟨Nat.zero_le _, Nat.zero_le _⟩ hl.1 rfl (Nat.le_of_ble_eq_true rfl) dX1_readLetters_68 (fun r _ H locs hr hw => ?_)
            have hw : Wd G (fA [(h0, .inr (1, [.ref so, .ref to, .ref uo, .int (nI im), .ref x5, .int (nI lm), .ref x6, .int (nI rm), .ref x7, .ref x8, .int sd])), (so, .inr (0, [.int (nI (sN R)), .int (nI (R 0 1)), .int (nI (sF R)), .int (nI (sS R)), .int (nI (sL R)), .ref ak, .ref af, .ref ab, .ref aa])), (ak, aI G 10 (sK R)), (af, aI G 10 (sG R)), (ab, aI G 10 (sO R)), (aa, aI G 10 (sA R)), (to, .inr (0, [.int (nI (sN S0)), .int (nI m0), .int (nI (sF S0)), .int (nI (sS S0)), .int (nI (sL S0)), .ref tk, .ref tf, .ref tb, .ref ta])), (tk, aI G 10 (sK S0)), (tf, aI G 10 (sG S0)), (tb, aI G 10 (sO S0)), (ta, aI G 10 (sA S0)), (x5, aI G 96 (cN lf2))]) s [(h0, .inr (1, [.ref so, .ref to, .ref uo, .int (nI im), .ref x5, .int (nI lm), .ref x6, .int (nI rm), .ref x7, .ref x8, .int sd])), (so, .inr (0, [.int (nI (sN R)), .int (nI (R 0 1)), .int (nI (sF R)), .int (nI (sS R)), .int (nI (sL R)), .ref ak, .ref af, .ref ab, .ref aa])), (ak, aI G 10 (sK R)), (af, aI G 10 (sG R)), (ab, aI G 10 (sO R)), (aa, aI G 10 (sA R)), (to, .inr (0, [.int (nI (sN (stR S (lf2 p2) (n0F lf2 p2) (n1F lf2 p2) (n2F lf2 p2)))), .int (nI ((stR S (lf2 p2) (n0F lf2 p2) (n1F lf2 p2) (n2F lf2 p2)) 0 1)), .int (nI (sF (stR S (lf2 p2) (n0F lf2 p2) (n1F lf2 p2) (n2F lf2 p2)))), .int (nI (sS (stR S (lf2 p2) (n0F lf2 p2) (n1F lf2 p2) (n2F lf2 p2)))), .int (nI (sL (stR S (lf2 p2) (n0F lf2 p2) (n1F lf2 p2) (n2F lf2 p2)))), .ref tk, .ref tf, .ref tb, .ref ta])), (tk, aI G 10 (sK (stR S (lf2 p2) (n0F lf2 p2) (n1F lf2 p2) (n2F lf2 p2)))), (tf, aI G 10 (sG (stR S (lf2 p2) (n0F lf2 p2) (n1F lf2 p2) (n2F lf2 p2)))), (tb, aI G 10 (sO (stR S (lf2 p2) (n0F lf2 p2) (n1F lf2 p2) (n2F lf2 p2)))), (ta, aI G 10 (sA (stR S (lf2 p2) (n0F lf2 p2) (n1F lf2 p2) (n2F lf2 p2)))), (x5, aI G 96 (cN lf2))] H locs := hw
            subst hr
            refine lv_iadd xx xb dX1_readLetters_71 ?_
            refine re_i (nI (1 + (sLen.getD (shI (lf2 p2)) 0))) (nI_add _ _) ?_
            refine lv_iadd xx xb dX1_readLetters_72 ?_
            refine re_i (nI (p2 + (1 + (sLen.getD (shI (lf2 p2)) 0)))) (nI_add _ _) ?_
            refine re_i (nI (rdP lf2 lm p2)) (congrArg nI (rdP_l hpn hz.1)) ?_
            refine lv_istore_n (lv' := [(3, .int (nI (rdP lf2 lm p2))), (2, .int (nI (cn + 1))), (0, .ref h0)]) xx xb dX1_readLetters_73 rfl hl (by decide) rfl (fun ls hl => ?_)
            refine lv_goto (tgt := 32) xx xb dX1_readLetters_74 (by decide) ?_
            exact ih_32 (rdP lf2 lm p2) (stR S (lf2 p2) (n0F lf2 p2) (n1F lf2 p2) (n2F lf2 p2)) g1 (cn + 1) H _ ls (by omega) hS2 hSK2 hSp2 hSm2 hz.2 (by omega) (by omega) hC3 hF3 hR3 hw (lv_sub hl [2, 1, 0] rfl)
          · skip
            have c_45 := z01_0 c_45
            have hw : Wd G (fA [(h0, .inr (1, [.ref so, .ref to, .ref uo, .int (nI im), .ref x5, .int (nI lm), .ref x6, .int (nI rm), .ref x7, .ref x8, .int sd])), (so, .inr (0, [.int (nI (sN R)), .int (nI (R 0 1)), .int (nI (sF R)), .int (nI (sS R)), .int (nI (sL R)), .ref ak, .ref af, .ref ab, .ref aa])), (ak, aI G 10 (sK R)), (af, aI G 10 (sG R)), (ab, aI G 10 (sO R)), (aa, aI G 10 (sA R)), (to, .inr (0, [.int (nI (sN S0)), .int (nI m0), .int (nI (sF S0)), .int (nI (sS S0)), .int (nI (sL S0)), .ref tk, .ref tf, .ref tb, .ref ta])), (tk, aI G 10 (sK S0)), (tf, aI G 10 (sG S0)), (tb, aI G 10 (sO S0)), (ta, aI G 10 (sA S0)), (x5, aI G 96 (cN lf2))]) s [(h0, .inr (1, [.ref so, .ref to, .ref uo, .int (nI im), .ref x5, .int (nI lm), .ref x6, .int (nI rm), .ref x7, .ref x8, .int sd])), (so, .inr (0, [.int (nI (sN R)), .int (nI (R 0 1)), .int (nI (sF R)), .int (nI (sS R)), .int (nI (sL R)), .ref ak, .ref af, .ref ab, .ref aa])), (ak, aI G 10 (sK R)), (af, aI G 10 (sG R)), (ab, aI G 10 (sO R)), (aa, aI G 10 (sA R)), (to, .inr (0, [.int (nI (sN S)), .int (nI (S 0 1)), .int (nI (sF S)), .int (nI (sS S)), .int (nI (sL S)), .ref tk, .ref tf, .ref tb, .ref ta])), (tk, aI G 10 (sK S)), (tf, aI G 10 (sG S)), (tb, aI G 10 (sO S)), (ta, aI G 10 (sA S)), (x5, aI G 96 (cN lf2))] H locs := by rw [selP_0 c_45] at hw; exact hw
            have hru : ruF lf2 lm 97 0 R = p2 + 1 := hRF.trans (ruF_n hpn c_45)
            have hsr := sRoom_2 c_8 hru
            refine lv_sipush (v := (-2000)) xx xb dX1_readLetters_48 (by decide) ?_
            refine lv_iload_n xx xb dX1_readLetters_51 rfl (lv_at hl 2 rfl) ?_
            refine lv_isub xx xb dX1_readLetters_52 ?_
            refine re_i (vRoom lf2 lm R) ((vRoom_2 c_8 hru).symm) ?_
            have hw : Wd G (fA [(h0, .inr (1, [.ref so, .ref to, .ref uo, .int (nI im), .ref x5, .int (nI lm), .ref x6, .int (nI rm), .ref x7, .ref x8, .int sd])), (so, .inr (0, [.int (nI (sN R)), .int (nI (R 0 1)), .int (nI (sF R)), .int (nI (sS R)), .int (nI (sL R)), .ref ak, .ref af, .ref ab, .ref aa])), (ak, aI G 10 (sK R)), (af, aI G 10 (sG R)), (ab, aI G 10 (sO R)), (aa, aI G 10 (sA R)), (to, .inr (0, [.int (nI (sN S0)), .int (nI m0), .int (nI (sF S0)), .int (nI (sS S0)), .int (nI (sL S0)), .ref tk, .ref tf, .ref tb, .ref ta])), (tk, aI G 10 (sK S0)), (tf, aI G 10 (sG S0)), (tb, aI G 10 (sO S0)), (ta, aI G 10 (sA S0)), (x5, aI G 96 (cN lf2))]) s [(h0, .inr (1, [.ref so, .ref to, .ref uo, .int (nI im), .ref x5, .int (nI lm), .ref x6, .int (nI rm), .ref x7, .ref x8, .int sd])), (so, .inr (0, [.int (nI (sN (sRoom lf2 lm R))), .int (nI ((sRoom lf2 lm R) 0 1)), .int (nI (sF (sRoom lf2 lm R))), .int (nI (sS (sRoom lf2 lm R))), .int (nI (sL (sRoom lf2 lm R))), .ref ak, .ref af, .ref ab, .ref aa])), (ak, aI G 10 (sK (sRoom lf2 lm R))), (af, aI G 10 (sG (sRoom lf2 lm R))), (ab, aI G 10 (sO (sRoom lf2 lm R))), (aa, aI G 10 (sA (sRoom lf2 lm R))), (to, .inr (0, [.int (nI (sN S)), .int (nI (S 0 1)), .int (nI (sF S)), .int (nI (sS S)), .int (nI (sL S)), .ref tk, .ref tf, .ref tb, .ref ta])), (tk, aI G 10 (sK S)), (tf, aI G 10 (sG S)), (tb, aI G 10 (sO S)), (ta, aI G 10 (sA S)), (x5, aI G 96 (cN lf2))] H locs := by rw [hsr]; exact hw
            exact rt_i C hw ((S 0 1), S) (⟨rfl, trivial⟩) rfl dX1_readLetters_53
    exact L_32 (_ + 1) 0 R 97 0 H _ ls (Nat.lt_succ_self _) hR hK hp hm (fun _ => c_8) (by omega) (by omega) (by rw [if_pos hlm0]; rfl) rfl rfl hw (lv_sub hl [3, 1, 0] rfl)
  · skip
    have c_8 := fwI_n c_8
    refine lv_sipush (v := (-1000)) xx xb dX1_readLetters_11 (by decide) ?_
    refine lv_iload_n xx xb dX1_readLetters_14 rfl (lv_at hl 0 rfl) ?_
    refine lv_isub xx xb dX1_readLetters_15 ?_
    obtain ⟨pp, hpp⟩ : ∃ z, phF lf2 lm 97 0 = z + 1 := ⟨phF lf2 lm 97 0 - 1, by omega⟩
    refine re_i (vRoom lf2 lm R) (by rw [vRoom_1 (R := R) hpp, hpp, fwI_s]) ?_
    have hsr := sRoom_1 (R := R) hpp
    have hw : Wd G (fA [(h0, .inr (1, [.ref so, .ref to, .ref uo, .int (nI im), .ref x5, .int (nI lm), .ref x6, .int (nI rm), .ref x7, .ref x8, .int sd])), (so, .inr (0, [.int (nI (sN R)), .int (nI (R 0 1)), .int (nI (sF R)), .int (nI (sS R)), .int (nI (sL R)), .ref ak, .ref af, .ref ab, .ref aa])), (ak, aI G 10 (sK R)), (af, aI G 10 (sG R)), (ab, aI G 10 (sO R)), (aa, aI G 10 (sA R)), (to, .inr (0, [.int (nI (sN S0)), .int (nI m0), .int (nI (sF S0)), .int (nI (sS S0)), .int (nI (sL S0)), .ref tk, .ref tf, .ref tb, .ref ta])), (tk, aI G 10 (sK S0)), (tf, aI G 10 (sG S0)), (tb, aI G 10 (sO S0)), (ta, aI G 10 (sA S0)), (x5, aI G 96 (cN lf2))]) s [(h0, .inr (1, [.ref so, .ref to, .ref uo, .int (nI im), .ref x5, .int (nI lm), .ref x6, .int (nI rm), .ref x7, .ref x8, .int sd])), (so, .inr (0, [.int (nI (sN (sRoom lf2 lm R))), .int (nI ((sRoom lf2 lm R) 0 1)), .int (nI (sF (sRoom lf2 lm R))), .int (nI (sS (sRoom lf2 lm R))), .int (nI (sL (sRoom lf2 lm R))), .ref ak, .ref af, .ref ab, .ref aa])), (ak, aI G 10 (sK (sRoom lf2 lm R))), (af, aI G 10 (sG (sRoom lf2 lm R))), (ab, aI G 10 (sO (sRoom lf2 lm R))), (aa, aI G 10 (sA (sRoom lf2 lm R))), (to, .inr (0, [.int (nI (sN S0)), .int (nI m0), .int (nI (sF S0)), .int (nI (sS S0)), .int (nI (sL S0)), .ref tk, .ref tf, .ref tb, .ref ta])), (tk, aI G 10 (sK S0)), (tf, aI G 10 (sG S0)), (tb, aI G 10 (sO S0)), (ta, aI G 10 (sA S0)), (x5, aI G 96 (cN lf2))] H locs := by rw [hsr]; exact hw
    exact rt_i C hw (m0, S0) (⟨rfl, trivial⟩) rfl dX1_readLetters_16
set_option maxRecDepth 100000 in
set_option maxHeartbeats 4000000 in
theorem kX1_room (l : Launch) (G : GT) (X : Xt) (h0 : Nat) (so : Nat) (to : Nat) (uo : Nat) (x5 : Nat) (x6 : Nat) (x7 : Nat) (x8 : Nat) (im : Nat) (lm : Nat) (rm : Nat) (sd : Int32) (ak : Nat) (af : Nat) (ab : Nat) (aa : Nat) (R : RT) (tk : Nat) (tf : Nat) (tb : Nat) (ta : Nat) (m0 : Nat) (S0 : RT) (lf2 : Nat → Nat) (hR : OK R) (hK : AK R) (hp : R 0 3 = 0) (hm : R 0 1 ≤ 999) (hLF : LOK lf2 lm) (hlm : lm ≤ 96) : Cte l yX1_room cX1_room 2 (some .int) 7 168 [.ref h0] G [(h0, .inr (1, [.ref so, .ref to, .ref uo, .int (nI im), .ref x5, .int (nI lm), .ref x6, .int (nI rm), .ref x7, .ref x8, .int sd])), (so, .inr (0, [.int (nI (sN R)), .int (nI (R 0 1)), .int (nI (sF R)), .int (nI (sS R)), .int (nI (sL R)), .ref ak, .ref af, .ref ab, .ref aa])), (ak, aI G 10 (sK R)), (af, aI G 10 (sG R)), (ab, aI G 10 (sO R)), (aa, aI G 10 (sA R)), (to, .inr (0, [.int (nI (sN S0)), .int (nI m0), .int (nI (sF S0)), .int (nI (sS S0)), .int (nI (sL S0)), .ref tk, .ref tf, .ref tb, .ref ta])), (tk, aI G 10 (sK S0)), (tf, aI G 10 (sG S0)), (tb, aI G 10 (sO S0)), (ta, aI G 10 (sA S0)), (x5, aI G 96 (cN lf2))] X (QI G [(h0, .inr (1, [.ref so, .ref to, .ref uo, .int (nI im), .ref x5, .int (nI lm), .ref x6, .int (nI rm), .ref x7, .ref x8, .int sd])), (so, .inr (0, [.int (nI (sN R)), .int (nI (R 0 1)), .int (nI (sF R)), .int (nI (sS R)), .int (nI (sL R)), .ref ak, .ref af, .ref ab, .ref aa])), (ak, aI G 10 (sK R)), (af, aI G 10 (sG R)), (ab, aI G 10 (sO R)), (aa, aI G 10 (sA R)), (to, .inr (0, [.int (nI (sN S0)), .int (nI m0), .int (nI (sF S0)), .int (nI (sS S0)), .int (nI (sL S0)), .ref tk, .ref tf, .ref tb, .ref ta])), (tk, aI G 10 (sK S0)), (tf, aI G 10 (sG S0)), (tb, aI G 10 (sO S0)), (ta, aI G 10 (sA S0)), (x5, aI G 96 (cN lf2))] (fun (r : Int32) (u : Nat × RT) => r = vRoom lf2 lm R) (fun u => [(h0, .inr (1, [.ref so, .ref to, .ref uo, .int (nI im), .ref x5, .int (nI 0), .ref x6, .int (nI rm), .ref x7, .ref x8, .int sd])), (so, .inr (0, [.int (nI (sN (sRoom lf2 lm R))), .int (nI ((sRoom lf2 lm R) 0 1)), .int (nI (sF (sRoom lf2 lm R))), .int (nI (sS (sRoom lf2 lm R))), .int (nI (sL (sRoom lf2 lm R))), .ref ak, .ref af, .ref ab, .ref aa])), (ak, aI G 10 (sK (sRoom lf2 lm R))), (af, aI G 10 (sG (sRoom lf2 lm R))), (ab, aI G 10 (sO (sRoom lf2 lm R))), (aa, aI G 10 (sA (sRoom lf2 lm R))), (to, .inr (0, [.int (nI (sN u.2)), .int (nI u.1), .int (nI (sF u.2)), .int (nI (sS u.2)), .int (nI (sL u.2)), .ref tk, .ref tf, .ref tb, .ref ta])), (tk, aI G 10 (sK u.2)), (tf, aI G 10 (sG u.2)), (tb, aI G 10 (sO u.2)), (ta, aI G 10 (sA u.2)), (x5, aI G 96 (cN lf2))])) := by
  refine enE (by decide +kernel) (Nat.le_of_ble_eq_true rfl) ?_
  intro p e s m below meth c ls H locs C hE hl hw
  have xx := C.1
  have xb := C.2.1
  have hw : Wd G (fA [(h0, .inr (1, [.ref so, .ref to, .ref uo, .int (nI im), .ref x5, .int (nI lm), .ref x6, .int (nI rm), .ref x7, .ref x8, .int sd])), (so, .inr (0, [.int (nI (sN R)), .int (nI (R 0 1)), .int (nI (sF R)), .int (nI (sS R)), .int (nI (sL R)), .ref ak, .ref af, .ref ab, .ref aa])), (ak, aI G 10 (sK R)), (af, aI G 10 (sG R)), (ab, aI G 10 (sO R)), (aa, aI G 10 (sA R)), (to, .inr (0, [.int (nI (sN S0)), .int (nI m0), .int (nI (sF S0)), .int (nI (sS S0)), .int (nI (sL S0)), .ref tk, .ref tf, .ref tb, .ref ta])), (tk, aI G 10 (sK S0)), (tf, aI G 10 (sG S0)), (tb, aI G 10 (sO S0)), (ta, aI G 10 (sA S0)), (x5, aI G 96 (cN lf2))]) s [(h0, .inr (1, [.ref so, .ref to, .ref uo, .int (nI im), .ref x5, .int (nI lm), .ref x6, .int (nI rm), .ref x7, .ref x8, .int sd])), (so, .inr (0, [.int (nI (sN R)), .int (nI (R 0 1)), .int (nI (sF R)), .int (nI (sS R)), .int (nI (sL R)), .ref ak, .ref af, .ref ab, .ref aa])), (ak, aI G 10 (sK R)), (af, aI G 10 (sG R)), (ab, aI G 10 (sO R)), (aa, aI G 10 (sA R)), (to, .inr (0, [.int (nI (sN S0)), .int (nI m0), .int (nI (sF S0)), .int (nI (sS S0)), .int (nI (sL S0)), .ref tk, .ref tf, .ref tb, .ref ta])), (tk, aI G 10 (sK S0)), (tf, aI G 10 (sG S0)), (tb, aI G 10 (sO S0)), (ta, aI G 10 (sA S0)), (x5, aI G 96 (cN lf2))] H locs := hw
  have hl : lv_has ls 2 [(0, .ref h0)] := hl
  obtain ⟨hn, hf0, hpr, hA⟩ := id hR
  refine lv_aload_n xx xb dX1_room_0 rfl (lv_at hl 0 rfl) ?_
  have hM := kX1_readLetters l G X h0 so to uo x5 x6 x7 x8 im lm rm sd ak af ab aa R tk tf tb ta m0 S0 lf2 (by first | assumption | omega) (by first | assumption | omega) (by first | assumption | omega) (by first | assumption | omega) (by first | assumption | omega) (by first | assumption | omega)
  refine eV_i C hE hw hM yvX1_readLetters ml_X1_47 0 rfl rfl rfl [0, 1, 2, 3, 4, 5, 6, 7, 8, 9, 10, 11] rfl rfl (fun _ => (rfl : ([h0, so, ak, af, ab, aa, to, tk, tf, tb, ta, x5] : List Nat) = [h0, so, ak, af, ab, aa, to, tk, tf, tb, ta, x5])) (by decide) ⟨Nat.zero_le _, Nat.zero_le _⟩ hl.1 rfl (Nat.le_of_ble_eq_true rfl) dX1_room_1 (fun r u H locs hr hw => ?_)
  obtain ⟨u1, hu1⟩ : ∃ z, z = u := ⟨_, rfl⟩
  subst hu1
  have hw : Wd G (fA [(h0, .inr (1, [.ref so, .ref to, .ref uo, .int (nI im), .ref x5, .int (nI lm), .ref x6, .int (nI rm), .ref x7, .ref x8, .int sd])), (so, .inr (0, [.int (nI (sN R)), .int (nI (R 0 1)), .int (nI (sF R)), .int (nI (sS R)), .int (nI (sL R)), .ref ak, .ref af, .ref ab, .ref aa])), (ak, aI G 10 (sK R)), (af, aI G 10 (sG R)), (ab, aI G 10 (sO R)), (aa, aI G 10 (sA R)), (to, .inr (0, [.int (nI (sN S0)), .int (nI m0), .int (nI (sF S0)), .int (nI (sS S0)), .int (nI (sL S0)), .ref tk, .ref tf, .ref tb, .ref ta])), (tk, aI G 10 (sK S0)), (tf, aI G 10 (sG S0)), (tb, aI G 10 (sO S0)), (ta, aI G 10 (sA S0)), (x5, aI G 96 (cN lf2))]) s [(h0, .inr (1, [.ref so, .ref to, .ref uo, .int (nI im), .ref x5, .int (nI lm), .ref x6, .int (nI rm), .ref x7, .ref x8, .int sd])), (so, .inr (0, [.int (nI (sN (sRoom lf2 lm R))), .int (nI ((sRoom lf2 lm R) 0 1)), .int (nI (sF (sRoom lf2 lm R))), .int (nI (sS (sRoom lf2 lm R))), .int (nI (sL (sRoom lf2 lm R))), .ref ak, .ref af, .ref ab, .ref aa])), (ak, aI G 10 (sK (sRoom lf2 lm R))), (af, aI G 10 (sG (sRoom lf2 lm R))), (ab, aI G 10 (sO (sRoom lf2 lm R))), (aa, aI G 10 (sA (sRoom lf2 lm R))), (to, .inr (0, [.int (nI (sN u1.2)), .int (nI u1.1), .int (nI (sF u1.2)), .int (nI (sS u1.2)), .int (nI (sL u1.2)), .ref tk, .ref tf, .ref tb, .ref ta])), (tk, aI G 10 (sK u1.2)), (tf, aI G 10 (sG u1.2)), (tb, aI G 10 (sO u1.2)), (ta, aI G 10 (sA u1.2)), (x5, aI G 96 (cN lf2))] H locs := hw
  obtain ⟨hr, hq1⟩ := hr
  subst hr
  refine lv_istore_n (lv' := [(1, .int (vRoom lf2 lm R)), (0, .ref h0)]) xx xb dX1_room_4 rfl hl (by decide) rfl (fun ls hl => ?_)
  refine lv_aload_n xx xb dX1_room_5 rfl (lv_at hl 1 rfl) ?_
  refine lv_iconst (v := nI 0) xx xb dX1_room_6 (by decide) ?_
  refine m_put C hw 0 rfl rfl tyX1 tyX1_ok nmX1 fk_X1_39 rfl rfl rfl rfl (Nat.le_of_ble_eq_true rfl) dX1_room_7 (fun H locs hw => ?_)
  have hw : Wd G (fA [(h0, .inr (1, [.ref so, .ref to, .ref uo, .int (nI im), .ref x5, .int (nI lm), .ref x6, .int (nI rm), .ref x7, .ref x8, .int sd])), (so, .inr (0, [.int (nI (sN R)), .int (nI (R 0 1)), .int (nI (sF R)), .int (nI (sS R)), .int (nI (sL R)), .ref ak, .ref af, .ref ab, .ref aa])), (ak, aI G 10 (sK R)), (af, aI G 10 (sG R)), (ab, aI G 10 (sO R)), (aa, aI G 10 (sA R)), (to, .inr (0, [.int (nI (sN S0)), .int (nI m0), .int (nI (sF S0)), .int (nI (sS S0)), .int (nI (sL S0)), .ref tk, .ref tf, .ref tb, .ref ta])), (tk, aI G 10 (sK S0)), (tf, aI G 10 (sG S0)), (tb, aI G 10 (sO S0)), (ta, aI G 10 (sA S0)), (x5, aI G 96 (cN lf2))]) s [(h0, .inr (1, [.ref so, .ref to, .ref uo, .int (nI im), .ref x5, .int (nI 0), .ref x6, .int (nI rm), .ref x7, .ref x8, .int sd])), (so, .inr (0, [.int (nI (sN (sRoom lf2 lm R))), .int (nI ((sRoom lf2 lm R) 0 1)), .int (nI (sF (sRoom lf2 lm R))), .int (nI (sS (sRoom lf2 lm R))), .int (nI (sL (sRoom lf2 lm R))), .ref ak, .ref af, .ref ab, .ref aa])), (ak, aI G 10 (sK (sRoom lf2 lm R))), (af, aI G 10 (sG (sRoom lf2 lm R))), (ab, aI G 10 (sO (sRoom lf2 lm R))), (aa, aI G 10 (sA (sRoom lf2 lm R))), (to, .inr (0, [.int (nI (sN u1.2)), .int (nI u1.1), .int (nI (sF u1.2)), .int (nI (sS u1.2)), .int (nI (sL u1.2)), .ref tk, .ref tf, .ref tb, .ref ta])), (tk, aI G 10 (sK u1.2)), (tf, aI G 10 (sG u1.2)), (tb, aI G 10 (sO u1.2)), (ta, aI G 10 (sA u1.2)), (x5, aI G 96 (cN lf2))] H locs := hw
  refine lv_iload_n xx xb dX1_room_10 rfl (lv_at hl 0 rfl) ?_
  exact rt_i C hw (u1.1, u1.2) rfl rfl dX1_room_11
