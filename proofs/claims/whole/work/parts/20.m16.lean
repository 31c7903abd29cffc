noncomputable def selP (P : Prop) (a b : RT) : RT := @ite RT P (Classical.propDecidable P) a b
theorem selP_1 {P : Prop} {a b : RT} (h : P) : selP P a b = a := if_pos h
theorem selP_0 {P : Prop} {a b : RT} (h : ¬ P) : selP P a b = b := if_neg h
def adB (R : RT) (o : Nat) : Prop := ((o = 10 ∧ R 0 2 = 1) ∨ (o < R 0 0 ∧ R 4 o = 0)) ∧ R 0 0 ≠ 10
def adF (R : RT) (k f o : Nat) : RT := upR (upR (upR (upR (upR (upR R 1 (R 0 0) k) 2 (R 0 0) f) 3 (R 0 0) o) 4 (R 0 0) 0) 5 (R 0 0) 0) 0 0 (R 0 0 + 1)
theorem adF_h (R : RT) (k f o j : Nat) (h : j ≠ 0) : adF R k f o 0 j = R 0 j := by
  unfold adF
  rw [upR_n (by omega), upR_n (by omega), upR_n (by omega), upR_n (by omega), upR_n (by omega), upR_n (by omega)]
theorem adF_n (R : RT) (k f o i a : Nat) (h : i ≠ 0) (ha : a ≠ R 0 0) : adF R k f o i a = R i a := by
  unfold adF
  rw [upR_n (by omega), upR_n (by omega), upR_n (by omega), upR_n (by omega), upR_n (by omega), upR_n (by omega)]
theorem adF_00 (R : RT) (k f o : Nat) : adF R k f o 0 0 = R 0 0 + 1 := by unfold adF; rw [upR_s]
theorem OK_adF {R : RT} (hR : OK R) {k f o : Nat} (hk : k ≤ 5) (hf : f ≤ 9) (hb : adB R o) : OK (adF R k f o) := by
  obtain ⟨h1, h2, h3, h4⟩ := hR
  obtain ⟨hb1, hb2⟩ := hb
  refine ⟨by rw [adF_00]; omega, by rw [adF_h _ _ _ _ _ (by omega)]; exact h2, by rw [adF_h _ _ _ _ _ (by omega)]; exact h3, fun a ha => ?_⟩
  rw [adF_00] at ha
  by_cases q : a = R 0 0
  · subst q
    have e1 : adF R k f o 1 (R 0 0) = k := by unfold adF; rw [upR_n (by omega), upR_n (by omega), upR_n (by omega), upR_n (by omega), upR_n (by omega), upR_s]
    have e2 : adF R k f o 2 (R 0 0) = f := by unfold adF; rw [upR_n (by omega), upR_n (by omega), upR_n (by omega), upR_n (by omega), upR_s]
    have e3 : adF R k f o 3 (R 0 0) = o := by unfold adF; rw [upR_n (by omega), upR_n (by omega), upR_n (by omega), upR_s]
    have e4 : adF R k f o 4 (R 0 0) = 0 := by unfold adF; rw [upR_n (by omega), upR_n (by omega), upR_s]
    rw [e1, e2, e3, e4]
    omega
  · rw [adF_n _ _ _ _ _ _ (by omega) q, adF_n _ _ _ _ _ _ (by omega) q, adF_n _ _ _ _ _ _ (by omega) q, adF_n _ _ _ _ _ _ (by omega) q]
    exact h4 a (by omega)
theorem AK_adF {R : RT} (hK : AK R) (k f o : Nat) : AK (adF R k f o) := by
  intro a ha
  rw [adF_00] at ha
  by_cases q : a = R 0 0
  · subst q
    have e5 : adF R k f o 5 (R 0 0) = 0 := by unfold adF; rw [upR_n (by omega), upR_s]
    rw [e5]; omega
  · rw [adF_n _ _ _ _ _ _ (by omega) q, adF_n _ _ _ _ _ _ (by omega) q]
    exact hK a (by omega)
theorem AK_setU {R : RT} (hK : AK R) (k : Nat) : AK (setU R k) := by
  intro a ha
  have ha : a < R 0 0 := ha
  have h := hK a ha
  unfold setU upR
  by_cases q : a = k
  · simp [q]
  · simp [q]; exact h
theorem itF_01 (R : RT) : ∀ n, itF R n 0 1 = R 0 1 + n
  | 0 => rfl
  | n + 1 => by
    have ih := itF_01 R n
    show minF (bmp (itF R n)) 0 0 1 = _
    unfold minF
    rw [if_neg (by omega), if_neg (by omega)]
    unfold bmp
    rw [upR_s, ih]; omega
def stB (R : RT) (c a b d : Nat) : Prop := ((c = 116 ∨ c = 111) ∧ adB R d) ∨ (c = 112 ∧ a < R 0 0 ∧ R 4 a = 0) ∨ (c = 102 ∧ R 0 2 ≠ 0) ∨ (c = 104 ∧ a < R 0 0 ∧ R 4 a ≠ 2) ∨ (c = 109 ∧ 1 ≤ a ∧ a ≤ 60 ∧ R 0 1 + a ≤ 999)
def stR (R : RT) (c a b d : Nat) : RT := if c = 116 ∨ c = 111 then adF R a b d else if c = 112 then pulF R a b else if c = 102 then pulF R 10 a else if c = 104 then setU R a else itF R a
theorem OK_stR {R : RT} (hR : OK R) {c a b d : Nat} (h : stB R c a b d) (ha : c = 116 ∨ c = 111 → a ≤ 5 ∧ b ≤ 9) : OK (stR R c a b d) := by
  unfold stR
  rcases h with h | h | h | h | h
  · rw [if_pos h.1]; exact OK_adF hR (ha h.1).1 (ha h.1).2 h.2
  · rw [if_neg (by omega), if_pos h.1]; exact OK_pulF _ _ hR (Or.inr h.2.1)
  · rw [if_neg (by omega), if_neg (by omega), if_pos h.1]; exact OK_pulF _ _ hR (Or.inl rfl)
  · rw [if_neg (by omega), if_neg (by omega), if_neg (by omega), if_pos h.1]; exact OK_setU _ hR
  · rw [if_neg (by omega), if_neg (by omega), if_neg (by omega), if_neg (by omega)]; exact OK_itF hR _
theorem AK_stR {R : RT} (hR : OK R) (hK : AK R) (c a b d : Nat) : AK (stR R c a b d) := by
  unfold stR
  repeat' split
  · exact AK_adF hK _ _ _
  · exact AK_pulF _ _ hK
  · exact AK_pulF _ _ hK
  · exact AK_setU hK _
  · exact AK_itF hR hK _
theorem mn_stR {R : RT} (hm : R 0 1 ≤ 999) {c a b d : Nat} (h : stB R c a b d) : stR R c a b d 0 1 ≤ 999 := by
  unfold stR
  rcases h with h | h | h | h | h
  · rw [if_pos h.1, adF_h _ _ _ _ _ (by omega)]; exact hm
  · rw [if_neg (by omega), if_pos h.1]; unfold pulF; rw [if_neg (by omega), if_neg (by omega)]; exact hm
  · rw [if_neg (by omega), if_neg (by omega), if_pos h.1]; unfold pulF; rw [if_neg (by omega), if_neg (by omega)]; exact hm
  · rw [if_neg (by omega), if_neg (by omega), if_neg (by omega), if_pos h.1]; unfold setU; rw [upR_n (by omega), upR_n (by omega)]; exact hm
  · rw [if_neg (by omega), if_neg (by omega), if_neg (by omega), if_neg (by omega), itF_01]; omega
theorem z01_e {P Q : Prop} (h : P ↔ Q) : z01 P = z01 Q := by rw [propext h]
theorem selP_e {P Q : Prop} (h : P ↔ Q) {a b : RT} : selP P a b = selP Q a b := by rw [propext h]
set_option maxRecDepth 100000 in
set_option maxHeartbeats 4000000 in
theorem kX2_adds (l : Launch) (G : GT) (h0 : Nat) (a1 : Nat) (a2 : Nat) (a3 : Nat) (a4 : Nat) (a5 : Nat) (a6 : Nat) (a7 : Nat) (a8 : Nat) (im : Nat) (lm : Nat) (rm : Nat) (pl : Nat) (sd : Int32) (R : RT) (kk : Nat) (ff : Nat) (oo : Nat) (hR : OK R) (ho : oo ≤ 10) : Ct l yX2_adds cX2_adds 6 (some .boolean) 2 43 [.ref h0, .int (nI kk), .int (nI ff), .int (onI oo)] G [(h0, .inr (2, [.ref a1, .ref a2, .ref a3, .ref a4, .int (nI im), .ref a5, .ref a6, .ref a7, .int (nI lm), .int (nI rm), .int (nI pl), .ref a8, .int sd])), (a1, aI G 54 (fl R))] (QI G [(h0, .inr (2, [.ref a1, .ref a2, .ref a3, .ref a4, .int (nI im), .ref a5, .ref a6, .ref a7, .int (nI lm), .int (nI rm), .int (nI pl), .ref a8, .int sd])), (a1, aI G 54 (fl R))] (fun (r : Int32) (u : Unit) => r = z01 (adB R oo)) (fun u => [(h0, .inr (2, [.ref a1, .ref a2, .ref a3, .ref a4, .int (nI im), .ref a5, .ref a6, .ref a7, .int (nI lm), .int (nI rm), .int (nI pl), .ref a8, .int sd])), (a1, aI G 54 (fl (selP (adB R oo) (adF R kk ff oo) R)))])) := by
  refine en (by decide +kernel) (Nat.le_of_ble_eq_true rfl) ?_
  intro p e s m below meth c ls H locs C hl hw
  have xx := C.1
  have xb := C.2.1
  have hw : Wd G (fA [(h0, .inr (2, [.ref a1, .ref a2, .ref a3, .ref a4, .int (nI im), .ref a5, .ref a6, .ref a7, .int (nI lm), .int (nI rm), .int (nI pl), .ref a8, .int sd])), (a1, aI G 54 (fl R))]) s [(h0, .inr (2, [.ref a1, .ref a2, .ref a3, .ref a4, .int (nI im), .ref a5, .ref a6, .ref a7, .int (nI lm), .int (nI rm), .int (nI pl), .ref a8, .int sd])), (a1, aI G 54 (fl R))] H locs := hw
  have hl : lv_has ls 6 [(0, .ref h0), (1, .int (nI kk)), (2, .int (nI ff)), (3, .int (onI oo))] := hl
  obtain ⟨hn, hf0, hpr, hA⟩ := id hR
  refine lv_iload_n xx xb dX2_adds_0 rfl (lv_at hl 3 rfl) ?_
  refine lv_if_ge (tgt := 22) xx xb dX2_adds_1 (by decide) (fun c_1 => ?_) (fun c_1 => ?_)
  · skip
    have c_1 := onI_nn (by omega) c_1
    refine lv_aload_n xx xb dX2_adds_22 rfl (lv_at hl 0 rfl) ?_
    refine lv_iload_n xx xb dX2_adds_23 rfl (lv_at hl 3 rfl) ?_
    refine re_i (nI oo) (onI_lt c_1) ?_
    have hM := kX2_isThing l G h0 a1 a2 a3 a4 a5 a6 a7 a8 im lm rm pl sd R (nI oo) ((oo : Nat) : Int) (tN (by omega)) (by first | assumption | omega)
    refine cv_i C hw hM yvX2_isThing ml_X2_105 0 rfl rfl rfl [0, 1] rfl rfl (fun _ => (rfl : ([h0, a1] : List Nat) = [h0, a1])) (by decide) ⟨Nat.zero_le _, Nat.zero_le _⟩ hl.1 rfl (Nat.le_of_ble_eq_true rfl) dX2_adds_24 (fun r _ H locs hr hw => ?_)
    have hw : Wd G (fA [(h0, .inr (2, [.ref a1, .ref a2, .ref a3, .ref a4, .int (nI im), .ref a5, .ref a6, .ref a7, .int (nI lm), .int (nI rm), .int (nI pl), .ref a8, .int sd])), (a1, aI G 54 (fl R))]) s [(h0, .inr (2, [.ref a1, .ref a2, .ref a3, .ref a4, .int (nI im), .ref a5, .ref a6, .ref a7, .int (nI lm), .int (nI rm), .int (nI pl), .ref a8, .int sd])), (a1, aI G 54 (fl R))] H locs := hw
    subst hr
    refine lv_if_eq (tgt := 45) xx xb dX2_adds_27 (by decide) (fun c_27 => ?_) (fun c_27 => ?_)
    · skip
      have c_27 := b0_c c_27
      refine lv_iconst (v := nI 0) xx xb dX2_adds_45 (by decide) ?_
      refine lv_istore (lv' := [(4, .int (nI 0)), (0, .ref h0), (1, .int (nI kk)), (2, .int (nI ff)), (3, .int (onI oo))]) xx xb dX2_adds_46 hl (by decide) rfl (fun ls hl => ?_)
      refine lv_iload xx xb dX2_adds_48 (lv_at hl 0 rfl) ?_
      refine lv_if_eq (tgt := 64) xx xb dX2_adds_50 (by decide) (fun c_50 => ?_) (fun c_50 => ?_)
      · skip
        refine lv_iconst (v := nI 0) xx xb dX2_adds_64 (by decide) ?_
        have hab : ¬ adB R oo := fun q => by unfold adB at q; omega
        exact rt_z C hw () (Or.inl rfl) (z0 hab) (by first | (rw [selP_1 hab]; done) | (rw [selP_0 hab]; done)) dX2_adds_65
      · skip
        exact absurd (by decide) c_50
    · skip
      have c_27 := b1_c c_27
      refine lv_aload_n xx xb dX2_adds_30 rfl (lv_at hl 0 rfl) ?_
      refine m_get C hw 0 rfl fk_X2_9 rfl dX2_adds_31 ?_
      refine lv_iload_n xx xb dX2_adds_34 rfl (lv_at hl 3 rfl) ?_
      refine re_i (nI oo) (onI_lt c_1) ?_
      have hM := kX2_stands l G a1 R oo (by first | assumption | omega) (by first | assumption | omega)
      refine cs_i C hw hM ysX2_stands ml_X2_55 rfl [1] rfl rfl (fun _ => (rfl : ([a1] : List Nat) = [a1])) (by decide) ⟨Nat.zero_le _, Nat.zero_le _⟩ hl.1 rfl (Nat.le_of_ble_eq_true rfl) dX2_adds_35 (fun r _ H locs hr hw => ?_)
      have hw : Wd G (fA [(h0, .inr (2, [.ref a1, .ref a2, .ref a3, .ref a4, .int (nI im), .ref a5, .ref a6, .ref a7, .int (nI lm), .int (nI rm), .int (nI pl), .ref a8, .int sd])), (a1, aI G 54 (fl R))]) s [(h0, .inr (2, [.ref a1, .ref a2, .ref a3, .ref a4, .int (nI im), .ref a5, .ref a6, .ref a7, .int (nI lm), .int (nI rm), .int (nI pl), .ref a8, .int sd])), (a1, aI G 54 (fl R))] H locs := hw
      subst hr
      refine lv_if_eq (tgt := 45) xx xb dX2_adds_38 (by decide) (fun c_38 => ?_) (fun c_38 => ?_)
      · skip
        have c_38 := b0_c c_38
        refine lv_iconst (v := nI 0) xx xb dX2_adds_45 (by decide) ?_
        refine lv_istore (lv' := [(4, .int (nI 0)), (0, .ref h0), (1, .int (nI kk)), (2, .int (nI ff)), (3, .int (onI oo))]) xx xb dX2_adds_46 hl (by decide) rfl (fun ls hl => ?_)
        refine lv_iload xx xb dX2_adds_48 (lv_at hl 0 rfl) ?_
        refine lv_if_eq (tgt := 64) xx xb dX2_adds_50 (by decide) (fun c_50 => ?_) (fun c_50 => ?_)
        · skip
          refine lv_iconst (v := nI 0) xx xb dX2_adds_64 (by decide) ?_
          have hab : ¬ adB R oo := fun q => by unfold adB at q; omega
          exact rt_z C hw () (Or.inl rfl) (z0 hab) (by first | (rw [selP_1 hab]; done) | (rw [selP_0 hab]; done)) dX2_adds_65
        · skip
          exact absurd (by decide) c_50
      · skip
        have c_38 := b1_c c_38
        refine lv_iconst (v := nI 1) xx xb dX2_adds_41 (by decide) ?_
        refine lv_goto (tgt := 46) xx xb dX2_adds_42 (by decide) ?_
        refine lv_istore (lv' := [(4, .int (nI 1)), (0, .ref h0), (1, .int (nI kk)), (2, .int (nI ff)), (3, .int (onI oo))]) xx xb dX2_adds_46 hl (by decide) rfl (fun ls hl => ?_)
        refine lv_iload xx xb dX2_adds_48 (lv_at hl 0 rfl) ?_
        refine lv_if_eq (tgt := 64) xx xb dX2_adds_50 (by decide) (fun c_50 => ?_) (fun c_50 => ?_)
        · skip
          exact absurd c_50 (by decide)
        · skip
          refine lv_aload_n xx xb dX2_adds_53 rfl (lv_at hl 1 rfl) ?_
          refine m_get C hw 0 rfl fk_X2_9 rfl dX2_adds_54 ?_
          refine lv_iconst (v := nI 0) xx xb dX2_adds_57 (by decide) ?_
          refine m_ald C hw 1 rfl 0 rfl (by omega) (by decide) dX2_adds_58 ?_
          refine re_i (nI (R 0 0)) (fl_h R (by decide)) ?_
          refine lv_bipush (v := nI 10) xx xb dX2_adds_59 (by decide) ?_
          refine lv_icmp_ne (tgt := 66) xx xb dX2_adds_61 (by decide) (fun c_61 => ?_) (fun c_61 => ?_)
          · skip
            have c_61 := ne_c (tN (by omega)) (tN (by omega)) c_61
            refine lv_aload_n xx xb dX2_adds_66 rfl (lv_at hl 1 rfl) ?_
            refine m_get C hw 0 rfl fk_X2_9 rfl dX2_adds_67 ?_
            refine lv_iconst (v := nI 0) xx xb dX2_adds_70 (by decide) ?_
            refine m_ald C hw 1 rfl 0 rfl (by omega) (by decide) dX2_adds_71 ?_
            refine re_i (nI (R 0 0)) (fl_h R (by decide)) ?_
            refine lv_istore (lv' := [(5, .int (nI (R 0 0))), (4, .int (nI 1)), (0, .ref h0), (1, .int (nI kk)), (2, .int (nI ff)), (3, .int (onI oo))]) xx xb dX2_adds_72 hl (by decide) rfl (fun ls hl => ?_)
            refine lv_aload_n xx xb dX2_adds_74 rfl (lv_at hl 2 rfl) ?_
            refine m_get C hw 0 rfl fk_X2_9 rfl dX2_adds_75 ?_
            refine lv_iload xx xb dX2_adds_78 (lv_at hl 0 rfl) ?_
            refine lv_iconst (v := nI 0) xx xb dX2_adds_80 (by decide) ?_
            have hM := kX2_of l G (R 0 0) 0 
            refine cs_i C hw hM ysX2_of ml_X2_44 rfl [] rfl rfl (fun _ => (rfl : ([] : List Nat) = [])) (by decide) ⟨Nat.zero_le _, Nat.zero_le _⟩ hl.1 rfl (Nat.le_of_ble_eq_true rfl) dX2_adds_81 (fun r _ H locs hr hw => ?_)
            have hw : Wd G (fA [(h0, .inr (2, [.ref a1, .ref a2, .ref a3, .ref a4, .int (nI im), .ref a5, .ref a6, .ref a7, .int (nI lm), .int (nI rm), .int (nI pl), .ref a8, .int sd])), (a1, aI G 54 (fl R))]) s [(h0, .inr (2, [.ref a1, .ref a2, .ref a3, .ref a4, .int (nI im), .ref a5, .ref a6, .ref a7, .int (nI lm), .int (nI rm), .int (nI pl), .ref a8, .int sd])), (a1, aI G 54 (fl R))] H locs := hw
            subst hr
            refine lv_iload_n xx xb dX2_adds_84 rfl (lv_at hl 3 rfl) ?_
            refine m_ast C hw 1 rfl (4 + 5 * (R 0 0) + 0) rfl (by omega) (by decide) (fl (upR R 1 (R 0 0) kk)) (fl_uk _ (by decide) (by decide)) dX2_adds_85 (fun H locs hw => ?_)
            have hw : Wd G (fA [(h0, .inr (2, [.ref a1, .ref a2, .ref a3, .ref a4, .int (nI im), .ref a5, .ref a6, .ref a7, .int (nI lm), .int (nI rm), .int (nI pl), .ref a8, .int sd])), (a1, aI G 54 (fl R))]) s [(h0, .inr (2, [.ref a1, .ref a2, .ref a3, .ref a4, .int (nI im), .ref a5, .ref a6, .ref a7, .int (nI lm), .int (nI rm), .int (nI pl), .ref a8, .int sd])), (a1, aI G 54 (fl (upR R 1 (R 0 0) kk)))] H locs := hw
            refine lv_aload_n xx xb dX2_adds_86 rfl (lv_at hl 2 rfl) ?_
            refine m_get C hw 0 rfl fk_X2_9 rfl dX2_adds_87 ?_
            refine lv_iload xx xb dX2_adds_90 (lv_at hl 0 rfl) ?_
            refine lv_iconst (v := nI 1) xx xb dX2_adds_92 (by decide) ?_
            have hM := kX2_of l G (R 0 0) 1 
            refine cs_i C hw hM ysX2_of ml_X2_44 rfl [] rfl rfl (fun _ => (rfl : ([] : List Nat) = [])) (by decide) ⟨Nat.zero_le _, Nat.zero_le _⟩ hl.1 rfl (Nat.le_of_ble_eq_true rfl) dX2_adds_93 (fun r _ H locs hr hw => ?_)
            have hw : Wd G (fA [(h0, .inr (2, [.ref a1, .ref a2, .ref a3, .ref a4, .int (nI im), .ref a5, .ref a6, .ref a7, .int (nI lm), .int (nI rm), .int (nI pl), .ref a8, .int sd])), (a1, aI G 54 (fl R))]) s [(h0, .inr (2, [.ref a1, .ref a2, .ref a3, .ref a4, .int (nI im), .ref a5, .ref a6, .ref a7, .int (nI lm), .int (nI rm), .int (nI pl), .ref a8, .int sd])), (a1, aI G 54 (fl (upR R 1 (R 0 0) kk)))] H locs := hw
            subst hr
            refine lv_iload_n xx xb dX2_adds_96 rfl (lv_at hl 4 rfl) ?_
            refine m_ast C hw 1 rfl (4 + 5 * (R 0 0) + 1) rfl (by omega) (by decide) (fl (upR (upR R 1 (R 0 0) kk) 2 (R 0 0) ff)) (fl_uk _ (by decide) (by decide)) dX2_adds_97 (fun H locs hw => ?_)
            have hw : Wd G (fA [(h0, .inr (2, [.ref a1, .ref a2, .ref a3, .ref a4, .int (nI im), .ref a5, .ref a6, .ref a7, .int (nI lm), .int (nI rm), .int (nI pl), .ref a8, .int sd])), (a1, aI G 54 (fl R))]) s [(h0, .inr (2, [.ref a1, .ref a2, .ref a3, .ref a4, .int (nI im), .ref a5, .ref a6, .ref a7, .int (nI lm), .int (nI rm), .int (nI pl), .ref a8, .int sd])), (a1, aI G 54 (fl (upR (upR R 1 (R 0 0) kk) 2 (R 0 0) ff)))] H locs := hw
            refine lv_aload_n xx xb dX2_adds_98 rfl (lv_at hl 2 rfl) ?_
            refine m_get C hw 0 rfl fk_X2_9 rfl dX2_adds_99 ?_
            refine lv_iload xx xb dX2_adds_102 (lv_at hl 0 rfl) ?_
            refine lv_iconst (v := nI 2) xx xb dX2_adds_104 (by decide) ?_
            have hM := kX2_of l G (R 0 0) 2 
            refine cs_i C hw hM ysX2_of ml_X2_44 rfl [] rfl rfl (fun _ => (rfl : ([] : List Nat) = [])) (by decide) ⟨Nat.zero_le _, Nat.zero_le _⟩ hl.1 rfl (Nat.le_of_ble_eq_true rfl) dX2_adds_105 (fun r _ H locs hr hw => ?_)
            have hw : Wd G (fA [(h0, .inr (2, [.ref a1, .ref a2, .ref a3, .ref a4, .int (nI im), .ref a5, .ref a6, .ref a7, .int (nI lm), .int (nI rm), .int (nI pl), .ref a8, .int sd])), (a1, aI G 54 (fl R))]) s [(h0, .inr (2, [.ref a1, .ref a2, .ref a3, .ref a4, .int (nI im), .ref a5, .ref a6, .ref a7, .int (nI lm), .int (nI rm), .int (nI pl), .ref a8, .int sd])), (a1, aI G 54 (fl (upR (upR R 1 (R 0 0) kk) 2 (R 0 0) ff)))] H locs := hw
            subst hr
            refine lv_iload_n xx xb dX2_adds_108 rfl (lv_at hl 5 rfl) ?_
            refine m_ast C hw 1 rfl (4 + 5 * (R 0 0) + 2) rfl (by omega) (by decide) (fl (upR (upR (upR R 1 (R 0 0) kk) 2 (R 0 0) ff) 3 (R 0 0) oo)) (fl_uon _) dX2_adds_109 (fun H locs hw => ?_)
            have hw : Wd G (fA [(h0, .inr (2, [.ref a1, .ref a2, .ref a3, .ref a4, .int (nI im), .ref a5, .ref a6, .ref a7, .int (nI lm), .int (nI rm), .int (nI pl), .ref a8, .int sd])), (a1, aI G 54 (fl R))]) s [(h0, .inr (2, [.ref a1, .ref a2, .ref a3, .ref a4, .int (nI im), .ref a5, .ref a6, .ref a7, .int (nI lm), .int (nI rm), .int (nI pl), .ref a8, .int sd])), (a1, aI G 54 (fl (upR (upR (upR R 1 (R 0 0) kk) 2 (R 0 0) ff) 3 (R 0 0) oo)))] H locs := hw
            refine lv_aload_n xx xb dX2_adds_110 rfl (lv_at hl 2 rfl) ?_
            refine m_get C hw 0 rfl fk_X2_9 rfl dX2_adds_111 ?_
            refine lv_iload xx xb dX2_adds_114 (lv_at hl 0 rfl) ?_
            refine lv_iconst (v := nI 3) xx xb dX2_adds_116 (by decide) ?_
            have hM := kX2_of l G (R 0 0) 3 
            refine cs_i C hw hM ysX2_of ml_X2_44 rfl [] rfl rfl (fun _ => (rfl : ([] : List Nat) = [])) (by decide) ⟨Nat.zero_le _, Nat.zero_le _⟩ hl.1 rfl (Nat.le_of_ble_eq_true rfl) dX2_adds_117 (fun r _ H locs hr hw => ?_)
            have hw : Wd G (fA [(h0, .inr (2, [.ref a1, .ref a2, .ref a3, .ref a4, .int (nI im), .ref a5, .ref a6, .ref a7, .int (nI lm), .int (nI rm), .int (nI pl), .ref a8, .int sd])), (a1, aI G 54 (fl R))]) s [(h0, .inr (2, [.ref a1, .ref a2, .ref a3, .ref a4, .int (nI im), .ref a5, .ref a6, .ref a7, .int (nI lm), .int (nI rm), .int (nI pl), .ref a8, .int sd])), (a1, aI G 54 (fl (upR (upR (upR R 1 (R 0 0) kk) 2 (R 0 0) ff) 3 (R 0 0) oo)))] H locs := hw
            subst hr
            refine lv_iconst (v := nI 0) xx xb dX2_adds_120 (by decide) ?_
            refine m_ast C hw 1 rfl (4 + 5 * (R 0 0) + 3) rfl (by omega) (by decide) (fl (upR (upR (upR (upR R 1 (R 0 0) kk) 2 (R 0 0) ff) 3 (R 0 0) oo) 4 (R 0 0) 0)) (fl_uk _ (by decide) (by decide)) dX2_adds_121 (fun H locs hw => ?_)
            have hw : Wd G (fA [(h0, .inr (2, [.ref a1, .ref a2, .ref a3, .ref a4, .int (nI im), .ref a5, .ref a6, .ref a7, .int (nI lm), .int (nI rm), .int (nI pl), .ref a8, .int sd])), (a1, aI G 54 (fl R))]) s [(h0, .inr (2, [.ref a1, .ref a2, .ref a3, .ref a4, .int (nI im), .ref a5, .ref a6, .ref a7, .int (nI lm), .int (nI rm), .int (nI pl), .ref a8, .int sd])), (a1, aI G 54 (fl (upR (upR (upR (upR R 1 (R 0 0) kk) 2 (R 0 0) ff) 3 (R 0 0) oo) 4 (R 0 0) 0)))] H locs := hw
            refine lv_aload_n xx xb dX2_adds_122 rfl (lv_at hl 2 rfl) ?_
            refine m_get C hw 0 rfl fk_X2_9 rfl dX2_adds_123 ?_
            refine lv_iload xx xb dX2_adds_126 (lv_at hl 0 rfl) ?_
            refine lv_iconst (v := nI 4) xx xb dX2_adds_128 (by decide) ?_
            have hM := kX2_of l G (R 0 0) 4 
            refine cs_i C hw hM ysX2_of ml_X2_44 rfl [] rfl rfl (fun _ => (rfl : ([] : List Nat) = [])) (by decide) ⟨Nat.zero_le _, Nat.zero_le _⟩ hl.1 rfl (Nat.le_of_ble_eq_true rfl) dX2_adds_129 (fun r _ H locs hr hw => ?_)
            have hw : Wd G (fA [(h0, .inr (2, [.ref a1, .ref a2, .ref a3, .ref a4, .int (nI im), .ref a5, .ref a6, .ref a7, .int (nI lm), .int (nI rm), .int (nI pl), .ref a8, .int sd])), (a1, aI G 54 (fl R))]) s [(h0, .inr (2, [.ref a1, .ref a2, .ref a3, .ref a4, .int (nI im), .ref a5, .ref a6, .ref a7, .int (nI lm), .int (nI rm), .int (nI pl), .ref a8, .int sd])), (a1, aI G 54 (fl (upR (upR (upR (upR R 1 (R 0 0) kk) 2 (R 0 0) ff) 3 (R 0 0) oo) 4 (R 0 0) 0)))] H locs := hw
            subst hr
            refine lv_iconst (v := nI 0) xx xb dX2_adds_132 (by decide) ?_
            refine m_ast C hw 1 rfl (4 + 5 * (R 0 0) + 4) rfl (by omega) (by decide) (fl (upR (upR (upR (upR (upR R 1 (R 0 0) kk) 2 (R 0 0) ff) 3 (R 0 0) oo) 4 (R 0 0) 0) 5 (R 0 0) 0)) (fl_uk _ (by decide) (by decide)) dX2_adds_133 (fun H locs hw => ?_)
            have hw : Wd G (fA [(h0, .inr (2, [.ref a1, .ref a2, .ref a3, .ref a4, .int (nI im), .ref a5, .ref a6, .ref a7, .int (nI lm), .int (nI rm), .int (nI pl), .ref a8, .int sd])), (a1, aI G 54 (fl R))]) s [(h0, .inr (2, [.ref a1, .ref a2, .ref a3, .ref a4, .int (nI im), .ref a5, .ref a6, .ref a7, .int (nI lm), .int (nI rm), .int (nI pl), .ref a8, .int sd])), (a1, aI G 54 (fl (upR (upR (upR (upR (upR R 1 (R 0 0) kk) 2 (R 0 0) ff) 3 (R 0 0) oo) 4 (R 0 0) 0) 5 (R 0 0) 0)))] H locs := hw
            refine lv_aload_n xx xb dX2_adds_134 rfl (lv_at hl 2 rfl) ?_
            refine m_get C hw 0 rfl fk_X2_9 rfl dX2_adds_135 ?_
            refine lv_iconst (v := nI 0) xx xb dX2_adds_138 (by decide) ?_
            refine lv_dup2_11 xx xb dX2_adds_139 rfl rfl ?_
            refine m_ald C hw 1 rfl 0 rfl (by omega) (by decide) dX2_adds_140 ?_
            refine re_i (nI ((upR (upR (upR (upR (upR R 1 (R 0 0) kk) 2 (R 0 0) ff) 3 (R 0 0) oo) 4 (R 0 0) 0) 5 (R 0 0) 0) 0 0)) (fl_h (upR (upR (upR (upR (upR R 1 (R 0 0) kk) 2 (R 0 0) ff) 3 (R 0 0) oo) 4 (R 0 0) 0) 5 (R 0 0) 0) (by decide)) ?_
            refine re_i (nI (R 0 0)) rfl ?_
            refine lv_iconst (v := nI 1) xx xb dX2_adds_141 (by decide) ?_
            refine lv_iadd xx xb dX2_adds_142 ?_
            refine re_i (nI ((R 0 0) + 1)) (nI_add _ _) ?_
            refine m_ast C hw 1 rfl 0 rfl (by omega) (by decide) (fl (upR (upR (upR (upR (upR (upR R 1 (R 0 0) kk) 2 (R 0 0) ff) 3 (R 0 0) oo) 4 (R 0 0) 0) 5 (R 0 0) 0) 0 0 ((R 0 0) + 1))) (fl_uh _ (by decide)) dX2_adds_143 (fun H locs hw => ?_)
            have hw : Wd G (fA [(h0, .inr (2, [.ref a1, .ref a2, .ref a3, .ref a4, .int (nI im), .ref a5, .ref a6, .ref a7, .int (nI lm), .int (nI rm), .int (nI pl), .ref a8, .int sd])), (a1, aI G 54 (fl R))]) s [(h0, .inr (2, [.ref a1, .ref a2, .ref a3, .ref a4, .int (nI im), .ref a5, .ref a6, .ref a7, .int (nI lm), .int (nI rm), .int (nI pl), .ref a8, .int sd])), (a1, aI G 54 (fl (upR (upR (upR (upR (upR (upR R 1 (R 0 0) kk) 2 (R 0 0) ff) 3 (R 0 0) oo) 4 (R 0 0) 0) 5 (R 0 0) 0) 0 0 ((R 0 0) + 1))))] H locs := hw
            have hw : Wd G (fA [(h0, .inr (2, [.ref a1, .ref a2, .ref a3, .ref a4, .int (nI im), .ref a5, .ref a6, .ref a7, .int (nI lm), .int (nI rm), .int (nI pl), .ref a8, .int sd])), (a1, aI G 54 (fl R))]) s [(h0, .inr (2, [.ref a1, .ref a2, .ref a3, .ref a4, .int (nI im), .ref a5, .ref a6, .ref a7, .int (nI lm), .int (nI rm), .int (nI pl), .ref a8, .int sd])), (a1, aI G 54 (fl (adF R kk ff oo)))] H locs := hw
            refine lv_iconst (v := nI 1) xx xb dX2_adds_144 (by decide) ?_
            have hab : adB R oo := by unfold adB; omega
            exact rt_z C hw () (Or.inr rfl) (z1 hab) (by first | (rw [selP_1 hab]; done) | (rw [selP_0 hab]; done)) dX2_adds_145
          · skip
            have c_61 := eq_c (tN (by omega)) (tN (by omega)) c_61
            refine lv_iconst (v := nI 0) xx xb dX2_adds_64 (by decide) ?_
            have hab : ¬ adB R oo := fun q => by unfold adB at q; omega
            exact rt_z C hw () (Or.inl rfl) (z0 hab) (by first | (rw [selP_1 hab]; done) | (rw [selP_0 hab]; done)) dX2_adds_65
  · skip
    have c_1 := onI_ng (by omega) c_1
    refine lv_aload_n xx xb dX2_adds_4 rfl (lv_at hl 0 rfl) ?_
    refine m_get C hw 0 rfl fk_X2_9 rfl dX2_adds_5 ?_
    refine lv_iconst (v := nI 2) xx xb dX2_adds_8 (by decide) ?_
    refine m_ald C hw 1 rfl 2 rfl (by omega) (by decide) dX2_adds_9 ?_
    refine re_i (nI (R 0 2)) (fl_h R (by decide)) ?_
    refine lv_iconst (v := nI 1) xx xb dX2_adds_10 (by decide) ?_
    refine lv_icmp_ne (tgt := 18) xx xb dX2_adds_11 (by decide) (fun c_11 => ?_) (fun c_11 => ?_)
    · skip
      have c_11 := ne_c (tN (by omega)) (tN (by omega)) c_11
      refine lv_iconst (v := nI 0) xx xb dX2_adds_18 (by decide) ?_
      refine lv_goto (tgt := 46) xx xb dX2_adds_19 (by decide) ?_
      refine lv_istore (lv' := [(4, .int (nI 0)), (0, .ref h0), (1, .int (nI kk)), (2, .int (nI ff)), (3, .int (onI oo))]) xx xb dX2_adds_46 hl (by decide) rfl (fun ls hl => ?_)
      refine lv_iload xx xb dX2_adds_48 (lv_at hl 0 rfl) ?_
      refine lv_if_eq (tgt := 64) xx xb dX2_adds_50 (by decide) (fun c_50 => ?_) (fun c_50 => ?_)
      · skip
        refine lv_iconst (v := nI 0) xx xb dX2_adds_64 (by decide) ?_
        have hab : ¬ adB R oo := fun q => by unfold adB at q; omega
        exact rt_z C hw () (Or.inl rfl) (z0 hab) (by first | (rw [selP_1 hab]; done) | (rw [selP_0 hab]; done)) dX2_adds_65
      · skip
        exact absurd (by decide) c_50
    · skip
      have c_11 := eq_c (tN (by omega)) (tN (by omega)) c_11
      refine lv_iconst (v := nI 1) xx xb dX2_adds_14 (by decide) ?_
      refine lv_goto (tgt := 46) xx xb dX2_adds_15 (by decide) ?_
      refine lv_istore (lv' := [(4, .int (nI 1)), (0, .ref h0), (1, .int (nI kk)), (2, .int (nI ff)), (3, .int (onI oo))]) xx xb dX2_adds_46 hl (by decide) rfl (fun ls hl => ?_)
      refine lv_iload xx xb dX2_adds_48 (lv_at hl 0 rfl) ?_
      refine lv_if_eq (tgt := 64) xx xb dX2_adds_50 (by decide) (fun c_50 => ?_) (fun c_50 => ?_)
      · skip
        exact absurd c_50 (by decide)
      · skip
        refine lv_aload_n xx xb dX2_adds_53 rfl (lv_at hl 1 rfl) ?_
        refine m_get C hw 0 rfl fk_X2_9 rfl dX2_adds_54 ?_
        refine lv_iconst (v := nI 0) xx xb dX2_adds_57 (by decide) ?_
        refine m_ald C hw 1 rfl 0 rfl (by omega) (by decide) dX2_adds_58 ?_
        refine re_i (nI (R 0 0)) (fl_h R (by decide)) ?_
        refine lv_bipush (v := nI 10) xx xb dX2_adds_59 (by decide) ?_
        refine lv_icmp_ne (tgt := 66) xx xb dX2_adds_61 (by decide) (fun c_61 => ?_) (fun c_61 => ?_)
        · skip
          have c_61 := ne_c (tN (by omega)) (tN (by omega)) c_61
          refine lv_aload_n xx xb dX2_adds_66 rfl (lv_at hl 1 rfl) ?_
          refine m_get C hw 0 rfl fk_X2_9 rfl dX2_adds_67 ?_
          refine lv_iconst (v := nI 0) xx xb dX2_adds_70 (by decide) ?_
          refine m_ald C hw 1 rfl 0 rfl (by omega) (by decide) dX2_adds_71 ?_
          refine re_i (nI (R 0 0)) (fl_h R (by decide)) ?_
          refine lv_istore (lv' := [(5, .int (nI (R 0 0))), (4, .int (nI 1)), (0, .ref h0), (1, .int (nI kk)), (2, .int (nI ff)), (3, .int (onI oo))]) xx xb dX2_adds_72 hl (by decide) rfl (fun ls hl => ?_)
          refine lv_aload_n xx xb dX2_adds_74 rfl (lv_at hl 2 rfl) ?_
          refine m_get C hw 0 rfl fk_X2_9 rfl dX2_adds_75 ?_
          refine lv_iload xx xb dX2_adds_78 (lv_at hl 0 rfl) ?_
          refine lv_iconst (v := nI 0) xx xb dX2_adds_80 (by decide) ?_
          have hM := kX2_of l G (R 0 0) 0 
          refine cs_i C hw hM ysX2_of ml_X2_44 rfl [] rfl rfl (fun _ => (rfl : ([] : List Nat) = [])) (by decide) ⟨Nat.zero_le _, Nat.zero_le _⟩ hl.1 rfl (Nat.le_of_ble_eq_true rfl) dX2_adds_81 (fun r _ H locs hr hw => ?_)
          have hw : Wd G (fA [(h0, .inr (2, [.ref a1, .ref a2, .ref a3, .ref a4, .int (nI im), .ref a5, .ref a6, .ref a7, .int (nI lm), .int (nI rm), .int (nI pl), .ref a8, .int sd])), (a1, aI G 54 (fl R))]) s [(h0, .inr (2, [.ref a1, .ref a2, .ref a3, .ref a4, .int (nI im), .ref a5, .ref a6, .ref a7, .int (nI lm), .int (nI rm), .int (nI pl), .ref a8, .int sd])), (a1, aI G 54 (fl R))] H locs := hw
          subst hr
          refine lv_iload_n xx xb dX2_adds_84 rfl (lv_at hl 3 rfl) ?_
          refine m_ast C hw 1 rfl (4 + 5 * (R 0 0) + 0) rfl (by omega) (by decide) (fl (upR R 1 (R 0 0) kk)) (fl_uk _ (by decide) (by decide)) dX2_adds_85 (fun H locs hw => ?_)
          have hw : Wd G (fA [(h0, .inr (2, [.ref a1, .ref a2, .ref a3, .ref a4, .int (nI im), .ref a5, .ref a6, .ref a7, .int (nI lm), .int (nI rm), .int (nI pl), .ref a8, .int sd])), (a1, aI G 54 (fl R))]) s [(h0, .inr (2, [.ref a1, .ref a2, .ref a3, .ref a4, .int (nI im), .ref a5, .ref a6, .ref a7, .int (nI lm), .int (nI rm), .int (nI pl), .ref a8, .int sd])), (a1, aI G 54 (fl (upR R 1 (R 0 0) kk)))] H locs := hw
          refine lv_aload_n xx xb dX2_adds_86 rfl (lv_at hl 2 rfl) ?_
          refine m_get C hw 0 rfl fk_X2_9 rfl dX2_adds_87 ?_
          refine lv_iload xx xb dX2_adds_90 (lv_at hl 0 rfl) ?_
          refine lv_iconst (v := nI 1) xx xb dX2_adds_92 (by decide) ?_
          have hM := kX2_of l G (R 0 0) 1 
          refine cs_i C hw hM ysX2_of ml_X2_44 rfl [] rfl rfl (fun _ => (rfl : ([] : List Nat) = [])) (by decide) ⟨Nat.zero_le _, Nat.zero_le _⟩ hl.1 rfl (Nat.le_of_ble_eq_true rfl) dX2_adds_93 (fun r _ H locs hr hw => ?_)
          have hw : Wd G (fA [(h0, .inr (2, [.ref a1, .ref a2, .ref a3, .ref a4, .int (nI im), .ref a5, .ref a6, .ref a7, .int (nI lm), .int (nI rm), .int (nI pl), .ref a8, .int sd])), (a1, aI G 54 (fl R))]) s [(h0, .inr (2, [.ref a1, .ref a2, .ref a3, .ref a4, .int (nI im), .ref a5, .ref a6, .ref a7, .int (nI lm), .int (nI rm), .int (nI pl), .ref a8, .int sd])), (a1, aI G 54 (fl (upR R 1 (R 0 0) kk)))] H locs := hw
          subst hr
          refine lv_iload_n xx xb dX2_adds_96 rfl (lv_at hl 4 rfl) ?_
          refine m_ast C hw 1 rfl (4 + 5 * (R 0 0) + 1) rfl (by omega) (by decide) (fl (upR (upR R 1 (R 0 0) kk) 2 (R 0 0) ff)) (fl_uk _ (by decide) (by decide)) dX2_adds_97 (fun H locs hw => ?_)
          have hw : Wd G (fA [(h0, .inr (2, [.ref a1, .ref a2, .ref a3, .ref a4, .int (nI im), .ref a5, .ref a6, .ref a7, .int (nI lm), .int (nI rm), .int (nI pl), .ref a8, .int sd])), (a1, aI G 54 (fl R))]) s [(h0, .inr (2, [.ref a1, .ref a2, .ref a3, .ref a4, .int (nI im), .ref a5, .ref a6, .ref a7, .int (nI lm), .int (nI rm), .int (nI pl), .ref a8, .int sd])), (a1, aI G 54 (fl (upR (upR R 1 (R 0 0) kk) 2 (R 0 0) ff)))] H locs := hw
          refine lv_aload_n xx xb dX2_adds_98 rfl (lv_at hl 2 rfl) ?_
          refine m_get C hw 0 rfl fk_X2_9 rfl dX2_adds_99 ?_
          refine lv_iload xx xb dX2_adds_102 (lv_at hl 0 rfl) ?_
          refine lv_iconst (v := nI 2) xx xb dX2_adds_104 (by decide) ?_
          have hM := kX2_of l G (R 0 0) 2 
          refine cs_i C hw hM ysX2_of ml_X2_44 rfl [] rfl rfl (fun _ => (rfl : ([] : List Nat) = [])) (by decide) ⟨Nat.zero_le _, Nat.zero_le _⟩ hl.1 rfl (Nat.le_of_ble_eq_true rfl) dX2_adds_105 (fun r _ H locs hr hw => ?_)
          have hw : Wd G (fA [(h0, .inr (2, [.ref a1, .ref a2, .ref a3, .ref a4, .int (nI im), .ref a5, .ref a6, .ref a7, .int (nI lm), .int (nI rm), .int (nI pl), .ref a8, .int sd])), (a1, aI G 54 (fl R))]) s [(h0, .inr (2, [.ref a1, .ref a2, .ref a3, .ref a4, .int (nI im), .ref a5, .ref a6, .ref a7, .int (nI lm), .int (nI rm), .int (nI pl), .ref a8, .int sd])), (a1, aI G 54 (fl (upR (upR R 1 (R 0 0) kk) 2 (R 0 0) ff)))] H locs := hw
          subst hr
          refine lv_iload_n xx xb dX2_adds_108 rfl (lv_at hl 5 rfl) ?_
          refine m_ast C hw 1 rfl (4 + 5 * (R 0 0) + 2) rfl (by omega) (by decide) (fl (upR (upR (upR R 1 (R 0 0) kk) 2 (R 0 0) ff) 3 (R 0 0) oo)) (fl_uon _) dX2_adds_109 (fun H locs hw => ?_)
          have hw : Wd G (fA [(h0, .inr (2, [.ref a1, .ref a2, .ref a3, .ref a4, .int (nI im), .ref a5, .ref a6, .ref a7, .int (nI lm), .int (nI rm), .int (nI pl), .ref a8, .int sd])), (a1, aI G 54 (fl R))]) s [(h0, .inr (2, [.ref a1, .ref a2, .ref a3, .ref a4, .int (nI im), .ref a5, .ref a6, .ref a7, .int (nI lm), .int (nI rm), .int (nI pl), .ref a8, .int sd])), (a1, aI G 54 (fl (upR (upR (upR R 1 (R 0 0) kk) 2 (R 0 0) ff) 3 (R 0 0) oo)))] H locs := hw
          refine lv_aload_n xx xb dX2_adds_110 rfl (lv_at hl 2 rfl) ?_
          refine m_get C hw 0 rfl fk_X2_9 rfl dX2_adds_111 ?_
          refine lv_iload xx xb dX2_adds_114 (lv_at hl 0 rfl) ?_
          refine lv_iconst (v := nI 3) xx xb dX2_adds_116 (by decide) ?_
          have hM := kX2_of l G (R 0 0) 3 
          refine cs_i C hw hM ysX2_of ml_X2_44 rfl [] rfl rfl (fun _ => (rfl : ([] : List Nat) = [])) (by decide) ⟨Nat.zero_le _, Nat.zero_le _⟩ hl.1 rfl (Nat.le_of_ble_eq_true rfl) dX2_adds_117 (fun r _ H locs hr hw => ?_)
          have hw : Wd G (fA [(h0, .inr (2, [.ref a1, .ref a2, .ref a3, .ref a4, .int (nI im), .ref a5, .ref a6, .ref a7, .int (nI lm), .int (nI rm), .int (nI pl), .ref a8, .int sd])), (a1, aI G 54 (fl R))]) s [(h0, .inr (2, [.ref a1, .ref a2, .ref a3, .ref a4, .int (nI im), .ref a5, .ref a6, .ref a7, .int (nI lm), .int (nI rm), .int (nI pl), .ref a8, .int sd])), (a1, aI G 54 (fl (upR (upR (upR R 1 (R 0 0) kk) 2 (R 0 0) ff) 3 (R 0 0) oo)))] H locs := hw
          subst hr
          refine lv_iconst (v := nI 0) xx xb dX2_adds_120 (by decide) ?_
          refine m_ast C hw 1 rfl (4 + 5 * (R 0 0) + 3) rfl (by omega) (by decide) (fl (upR (upR (upR (upR R 1 (R 0 0) kk) 2 (R 0 0) ff) 3 (R 0 0) oo) 4 (R 0 0) 0)) (fl_uk _ (by decide) (by decide)) dX2_adds_121 (fun H locs hw => ?_)
          have hw : Wd G (fA [(h0, .inr (2, [.ref a1, .ref a2, .ref a3, .ref a4, .int (nI im), .ref a5, .ref a6, .ref a7, .int (nI lm), .int (nI rm), .int (nI pl), .ref a8, .int sd])), (a1, aI G 54 (fl R))]) s [(h0, .inr (2, [.ref a1, .ref a2, .ref a3, .ref a4, .int (nI im), .ref a5, .ref a6, .ref a7, .int (nI lm), .int (nI rm), .int (nI pl), .ref a8, .int sd])), (a1, aI G 54 (fl (upR (upR (upR (upR R 1 (R 0 0) kk) 2 (R 0 0) ff) 3 (R 0 0) oo) 4 (R 0 0) 0)))] H locs := hw
          refine lv_aload_n xx xb dX2_adds_122 rfl (lv_at hl 2 rfl) ?_
          refine m_get C hw 0 rfl fk_X2_9 rfl dX2_adds_123 ?_
          refine lv_iload xx xb dX2_adds_126 (lv_at hl 0 rfl) ?_
          refine lv_iconst (v := nI 4) xx xb dX2_adds_128 (by decide) ?_
          have hM := kX2_of l G (R 0 0) 4 
          refine cs_i C hw hM ysX2_of ml_X2_44 rfl [] rfl rfl (fun _ => (rfl : ([] : List Nat) = [])) (by decide) ⟨Nat.zero_le _, Nat.zero_le _⟩ hl.1 rfl (Nat.le_of_ble_eq_true rfl) dX2_adds_129 (fun r _ H locs hr hw => ?_)
          have hw : Wd G (fA [(h0, .inr (2, [.ref a1, .ref a2, .ref a3, .ref a4, .int (nI im), .ref a5, .ref a6, .ref a7, .int (nI lm), .int (nI rm), .int (nI pl), .ref a8, .int sd])), (a1, aI G 54 (fl R))]) s [(h0, .inr (2, [.ref a1, .ref a2, .ref a3, .ref a4, .int (nI im), .ref a5, .ref a6, .ref a7, .int (nI lm), .int (nI rm), .int (nI pl), .ref a8, .int sd])), (a1, aI G 54 (fl (upR (upR (upR (upR R 1 (R 0 0) kk) 2 (R 0 0) ff) 3 (R 0 0) oo) 4 (R 0 0) 0)))] H locs := hw
          subst hr
          refine lv_iconst (v := nI 0) xx xb dX2_adds_132 (by decide) ?_
          refine m_ast C hw 1 rfl (4 + 5 * (R 0 0) + 4) rfl (by omega) (by decide) (fl (upR (upR (upR (upR (upR R 1 (R 0 0) kk) 2 (R 0 0) ff) 3 (R 0 0) oo) 4 (R 0 0) 0) 5 (R 0 0) 0)) (fl_uk _ (by decide) (by decide)) dX2_adds_133 (fun H locs hw => ?_)
          have hw : Wd G (fA [(h0, .inr (2, [.ref a1, .ref a2, .ref a3, .ref a4, .int (nI im), .ref a5, .ref a6, .ref a7, .int (nI lm), .int (nI rm), .int (nI pl), .ref a8, .int sd])), (a1, aI G 54 (fl R))]) s [(h0, .inr (2, [.ref a1, .ref a2, .ref a3, .ref a4, .int (nI im), .ref a5, .ref a6, .ref a7, .int (nI lm), .int (nI rm), .int (nI pl), .ref a8, .int sd])), (a1, aI G 54 (fl (upR (upR (upR (upR (upR R 1 (R 0 0) kk) 2 (R 0 0) ff) 3 (R 0 0) oo) 4 (R 0 0) 0) 5 (R 0 0) 0)))] H locs := hw
          refine lv_aload_n xx xb dX2_adds_134 rfl (lv_at hl 2 rfl) ?_
          refine m_get C hw 0 rfl fk_X2_9 rfl dX2_adds_135 ?_
          refine lv_iconst (v := nI 0) xx xb dX2_adds_138 (by decide) ?_
          refine lv_dup2_11 xx xb dX2_adds_139 rfl rfl ?_
          refine m_ald C hw 1 rfl 0 rfl (by omega) (by decide) dX2_adds_140 ?_
          refine re_i (nI ((upR (upR (upR (upR (upR R 1 (R 0 0) kk) 2 (R 0 0) ff) 3 (R 0 0) oo) 4 (R 0 0) 0) 5 (R 0 0) 0) 0 0)) (fl_h (upR (upR (upR (upR (upR R 1 (R 0 0) kk) 2 (R 0 0) ff) 3 (R 0 0) oo) 4 (R 0 0) 0) 5 (R 0 0) 0) (by decide)) ?_
          refine re_i (nI (R 0 0)) rfl ?_
          refine lv_iconst (v := nI 1) xx xb dX2_adds_141 (by decide) ?_
          refine lv_iadd xx xb dX2_adds_142 ?_
          refine re_i (nI ((R 0 0) + 1)) (nI_add _ _) ?_
          refine m_ast C hw 1 rfl 0 rfl (by omega) (by decide) (fl (upR (upR (upR (upR (upR (upR R 1 (R 0 0) kk) 2 (R 0 0) ff) 3 (R 0 0) oo) 4 (R 0 0) 0) 5 (R 0 0) 0) 0 0 ((R 0 0) + 1))) (fl_uh _ (by decide)) dX2_adds_143 (fun H locs hw => ?_)
          have hw : Wd G (fA [(h0, .inr (2, [.ref a1, .ref a2, .ref a3, .ref a4, .int (nI im), .ref a5, .ref a6, .ref a7, .int (nI lm), .int (nI rm), .int (nI pl), .ref a8, .int sd])), (a1, aI G 54 (fl R))]) s [(h0, .inr (2, [.ref a1, .ref a2, .ref a3, .ref a4, .int (nI im), .ref a5, .ref a6, .ref a7, .int (nI lm), .int (nI rm), .int (nI pl), .ref a8, .int sd])), (a1, aI G 54 (fl (upR (upR (upR (upR (upR (upR R 1 (R 0 0) kk) 2 (R 0 0) ff) 3 (R 0 0) oo) 4 (R 0 0) 0) 5 (R 0 0) 0) 0 0 ((R 0 0) + 1))))] H locs := hw
          have hw : Wd G (fA [(h0, .inr (2, [.ref a1, .ref a2, .ref a3, .ref a4, .int (nI im), .ref a5, .ref a6, .ref a7, .int (nI lm), .int (nI rm), .int (nI pl), .ref a8, .int sd])), (a1, aI G 54 (fl R))]) s [(h0, .inr (2, [.ref a1, .ref a2, .ref a3, .ref a4, .int (nI im), .ref a5, .ref a6, .ref a7, .int (nI lm), .int (nI rm), .int (nI pl), .ref a8, .int sd])), (a1, aI G 54 (fl (adF R kk ff oo)))] H locs := hw
          refine lv_iconst (v := nI 1) xx xb dX2_adds_144 (by decide) ?_
          have hab : adB R oo := by unfold adB; omega
          exact rt_z C hw () (Or.inr rfl) (z1 hab) (by first | (rw [selP_1 hab]; done) | (rw [selP_0 hab]; done)) dX2_adds_145
        · skip
          have c_61 := eq_c (tN (by omega)) (tN (by omega)) c_61
          refine lv_iconst (v := nI 0) xx xb dX2_adds_64 (by decide) ?_
          have hab : ¬ adB R oo := fun q => by unfold adB at q; omega
          exact rt_z C hw () (Or.inl rfl) (z0 hab) (by first | (rw [selP_1 hab]; done) | (rw [selP_0 hab]; done)) dX2_adds_65
set_option maxRecDepth 100000 in
set_option maxHeartbeats 4000000 in
theorem kX2_isDone (l : Launch) (G : GT) (h0 : Nat) (a1 : Nat) (a2 : Nat) (a3 : Nat) (a4 : Nat) (a5 : Nat) (a6 : Nat) (a7 : Nat) (a8 : Nat) (im : Nat) (lm : Nat) (rm : Nat) (pl : Nat) (sd : Int32) (R : RT) (nu : Nat → Int32) (cc : Nat) (b0 : Nat) (b1 : Nat) (b2 : Nat) (hR : OK R) (hK : AK R) (hm : R 0 1 ≤ 999) (hcc : cc = 116 ∨ cc = 111 ∨ cc = 112 ∨ cc = 102 ∨ cc = 104 ∨ cc = 109) (hn0 : nu 0 = nI b0) (hb0 : b0 ≤ 99) (hb9 : cc ≠ 109 → b0 ≤ 9) (hn1 : cc = 116 ∨ cc = 111 ∨ cc = 112 → nu 1 = nI b1 ∧ b1 ≤ 9) (hn2 : cc = 116 ∨ cc = 111 → nu 2 = onI b2 ∧ b2 ≤ 10) : Ct l yX2_isDone cX2_isDone 4 (some .boolean) 5 110 [.ref h0, .int (nI cc)] G [(h0, .inr (2, [.ref a1, .ref a2, .ref a3, .ref a4, .int (nI im), .ref a5, .ref a6, .ref a7, .int (nI lm), .int (nI rm), .int (nI pl), .ref a8, .int sd])), (a1, aI G 54 (fl R)), (a8, aI G 3 nu)] (QI G [(h0, .inr (2, [.ref a1, .ref a2, .ref a3, .ref a4, .int (nI im), .ref a5, .ref a6, .ref a7, .int (nI lm), .int (nI rm), .int (nI pl), .ref a8, .int sd])), (a1, aI G 54 (fl R)), (a8, aI G 3 nu)] (fun (r : Int32) (u : Unit) => r = z01 (stB R cc b0 b1 b2)) (fun u => [(h0, .inr (2, [.ref a1, .ref a2, .ref a3, .ref a4, .int (nI im), .ref a5, .ref a6, .ref a7, .int (nI lm), .int (nI rm), .int (nI pl), .ref a8, .int sd])), (a1, aI G 54 (fl (selP (stB R cc b0 b1 b2) (stR R cc b0 b1 b2) R))), (a8, aI G 3 nu)])) := by
  refine en (by decide +kernel) (Nat.le_of_ble_eq_true rfl) ?_
  intro p e s m below meth c ls H locs C hl hw
  have xx := C.1
  have xb := C.2.1
  have hw : Wd G (fA [(h0, .inr (2, [.ref a1, .ref a2, .ref a3, .ref a4, .int (nI im), .ref a5, .ref a6, .ref a7, .int (nI lm), .int (nI rm), .int (nI pl), .ref a8, .int sd])), (a1, aI G 54 (fl R)), (a8, aI G 3 nu)]) s [(h0, .inr (2, [.ref a1, .ref a2, .ref a3, .ref a4, .int (nI im), .ref a5, .ref a6, .ref a7, .int (nI lm), .int (nI rm), .int (nI pl), .ref a8, .int sd])), (a1, aI G 54 (fl R)), (a8, aI G 3 nu)] H locs := hw
  have hl : lv_has ls 4 [(0, .ref h0), (1, .int (nI cc))] := hl
  obtain ⟨hn, hf0, hpr, hA⟩ := id hR
  refine lv_aload_n xx xb dX2_isDone_0 rfl (lv_at hl 0 rfl) ?_
  refine m_get C hw 0 rfl fk_X2_31 rfl dX2_isDone_1 ?_
  refine lv_iconst (v := nI 0) xx xb dX2_isDone_4 (by decide) ?_
  refine m_ald C hw 2 rfl 0 rfl (by omega) (by decide) dX2_isDone_5 ?_
  refine re_i (nI b0) hn0 ?_
  refine lv_istore_n (lv' := [(2, .int (nI b0)), (0, .ref h0), (1, .int (nI cc))]) xx xb dX2_isDone_6 rfl hl (by decide) rfl (fun ls hl => ?_)
  refine lv_iconst (v := nI 0) xx xb dX2_isDone_7 (by decide) ?_
  refine lv_istore_n (lv' := [(3, .int (nI 0)), (2, .int (nI b0)), (0, .ref h0), (1, .int (nI cc))]) xx xb dX2_isDone_8 rfl hl (by decide) rfl (fun ls hl => ?_)
  refine lv_iload_n xx xb dX2_isDone_9 rfl (lv_at hl 3 rfl) ?_
  by_cases k_10_102 : cc = 102
  · skip
    refine re_i (nI 102) (by rw [k_10_102]) ?_
    refine lv_tableIn (off := 130) (tgt := 140) xx xb dX2_isDone_10 (by decide +kernel) (by decide +kernel) (by decide +kernel) (by decide) ?_
    refine lv_aload_n xx xb dX2_isDone_140 rfl (lv_at hl 2 rfl) ?_
    refine m_get C hw 0 rfl fk_X2_9 rfl dX2_isDone_141 ?_
    refine lv_iconst (v := nI 2) xx xb dX2_isDone_144 (by decide) ?_
    refine m_ald C hw 1 rfl 2 rfl (by omega) (by decide) dX2_isDone_145 ?_
    refine re_i (nI (R 0 2)) (fl_h R (by decide)) ?_
    refine lv_if_ne (tgt := 151) xx xb dX2_isDone_146 (by decide) (fun c_146 => ?_) (fun c_146 => ?_)
    · skip
      have c_146 := ne_c (tN (by omega)) Int32.toInt_zero c_146
      refine lv_aload_n xx xb dX2_isDone_151 rfl (lv_at hl 2 rfl) ?_
      refine m_get C hw 0 rfl fk_X2_9 rfl dX2_isDone_152 ?_
      refine lv_bipush (v := (-9)) xx xb dX2_isDone_155 (by decide) ?_
      refine lv_iload_n xx xb dX2_isDone_157 rfl (lv_at hl 1 rfl) ?_
      have hM := kX2_pullsIn l G a1 R 10 b0 (by first | assumption | omega) (by first | assumption | omega) (by first | assumption | omega)
      refine cs_i C hw hM ysX2_pullsIn ml_X2_112 rfl [1] rfl rfl (fun _ => (rfl : ([a1] : List Nat) = [a1])) (by decide) ⟨Nat.zero_le _, Nat.zero_le _⟩ hl.1 rfl (Nat.le_of_ble_eq_true rfl) dX2_isDone_158 (fun r _ H locs hr hw => ?_)
      have hw : Wd G (fA [(h0, .inr (2, [.ref a1, .ref a2, .ref a3, .ref a4, .int (nI im), .ref a5, .ref a6, .ref a7, .int (nI lm), .int (nI rm), .int (nI pl), .ref a8, .int sd])), (a1, aI G 54 (fl R)), (a8, aI G 3 nu)]) s [(h0, .inr (2, [.ref a1, .ref a2, .ref a3, .ref a4, .int (nI im), .ref a5, .ref a6, .ref a7, .int (nI lm), .int (nI rm), .int (nI pl), .ref a8, .int sd])), (a1, aI G 54 (fl (pulF R 10 b0))), (a8, aI G 3 nu)] H locs := hw
      subst hr
      refine lv_istore_n (lv' := [(3, .int (nI (ct (shkF R 10 b0) (R 0 0)))), (2, .int (nI b0)), (0, .ref h0), (1, .int (nI cc))]) xx xb dX2_isDone_161 rfl hl (by decide) rfl (fun ls hl => ?_)
      refine lv_iconst (v := nI 1) xx xb dX2_isDone_162 (by decide) ?_
      have hab : stB R cc b0 b1 b2 := by unfold stB; omega
      have hst : stR R cc b0 b1 b2 = pulF R 10 b0 := by unfold stR; rw [if_neg (by omega), if_neg (by omega), if_pos (by omega)]
      exact rt_z C hw () (Or.inr rfl) (z1 hab) (by first | (rw [selP_1 hab, hst]; done) | (rw [selP_0 hab]; done) | rfl) dX2_isDone_163
    · skip
      have c_146 := eq_c (tN (by omega)) Int32.toInt_zero c_146
      refine lv_iconst (v := nI 0) xx xb dX2_isDone_149 (by decide) ?_
      have hab : ¬ stB R cc b0 b1 b2 := fun q => by unfold stB at q; omega
      exact rt_z C hw () (Or.inl rfl) (z0 hab) (by first | (rw [selP_1 hab, hst]; done) | (rw [selP_0 hab]; done) | rfl) dX2_isDone_150
  by_cases k_10_103 : cc = 103
  · skip
    refine re_i (nI 103) (by rw [k_10_103]) ?_
    refine lv_tableIn (off := 202) (tgt := 212) xx xb dX2_isDone_10 (by decide +kernel) (by decide +kernel) (by decide +kernel) (by decide) ?_
    exact absurd hcc (by omega)
  by_cases k_10_104 : cc = 104
  · skip
    refine re_i (nI 104) (by rw [k_10_104]) ?_
    refine lv_tableIn (off := 154) (tgt := 164) xx xb dX2_isDone_10 (by decide +kernel) (by decide +kernel) (by decide +kernel) (by decide) ?_
    refine lv_aload_n xx xb dX2_isDone_164 rfl (lv_at hl 2 rfl) ?_
    refine lv_iload_n xx xb dX2_isDone_165 rfl (lv_at hl 1 rfl) ?_
    have hM := kX2_isThing l G h0 a1 a2 a3 a4 a5 a6 a7 a8 im lm rm pl sd R (nI b0) ((b0 : Nat) : Int) (tN (by omega)) (by first | assumption | omega)
    refine cv_i C hw hM yvX2_isThing ml_X2_105 0 rfl rfl rfl [0, 1] rfl rfl (fun _ => (rfl : ([h0, a1] : List Nat) = [h0, a1])) (by decide) ⟨Nat.zero_le _, Nat.zero_le _⟩ hl.1 rfl (Nat.le_of_ble_eq_true rfl) dX2_isDone_166 (fun r _ H locs hr hw => ?_)
    have hw : Wd G (fA [(h0, .inr (2, [.ref a1, .ref a2, .ref a3, .ref a4, .int (nI im), .ref a5, .ref a6, .ref a7, .int (nI lm), .int (nI rm), .int (nI pl), .ref a8, .int sd])), (a1, aI G 54 (fl R)), (a8, aI G 3 nu)]) s [(h0, .inr (2, [.ref a1, .ref a2, .ref a3, .ref a4, .int (nI im), .ref a5, .ref a6, .ref a7, .int (nI lm), .int (nI rm), .int (nI pl), .ref a8, .int sd])), (a1, aI G 54 (fl R)), (a8, aI G 3 nu)] H locs := hw
    subst hr
    refine lv_if_eq (tgt := 186) xx xb dX2_isDone_169 (by decide) (fun c_169 => ?_) (fun c_169 => ?_)
    · skip
      have c_169 := b0_c c_169
      refine lv_iconst (v := nI 0) xx xb dX2_isDone_186 (by decide) ?_
      have hab : ¬ stB R cc b0 b1 b2 := fun q => by unfold stB at q; omega
      exact rt_z C hw () (Or.inl rfl) (z0 hab) (by first | (rw [selP_1 hab, hst]; done) | (rw [selP_0 hab]; done) | rfl) dX2_isDone_187
    · skip
      have c_169 := b1_c c_169
      obtain ⟨q1, q2, q3, q4, q5⟩ := hA b0 (by omega)
      refine lv_aload_n xx xb dX2_isDone_172 rfl (lv_at hl 2 rfl) ?_
      refine m_get C hw 0 rfl fk_X2_9 rfl dX2_isDone_173 ?_
      refine lv_iload_n xx xb dX2_isDone_176 rfl (lv_at hl 1 rfl) ?_
      refine lv_iconst (v := nI 3) xx xb dX2_isDone_177 (by decide) ?_
      have hM := kX2_of l G b0 3 
      refine cs_i C hw hM ysX2_of ml_X2_44 rfl [] rfl rfl (fun _ => (rfl : ([] : List Nat) = [])) (by decide) ⟨Nat.zero_le _, Nat.zero_le _⟩ hl.1 rfl (Nat.le_of_ble_eq_true rfl) dX2_isDone_178 (fun r _ H locs hr hw => ?_)
      have hw : Wd G (fA [(h0, .inr (2, [.ref a1, .ref a2, .ref a3, .ref a4, .int (nI im), .ref a5, .ref a6, .ref a7, .int (nI lm), .int (nI rm), .int (nI pl), .ref a8, .int sd])), (a1, aI G 54 (fl R)), (a8, aI G 3 nu)]) s [(h0, .inr (2, [.ref a1, .ref a2, .ref a3, .ref a4, .int (nI im), .ref a5, .ref a6, .ref a7, .int (nI lm), .int (nI rm), .int (nI pl), .ref a8, .int sd])), (a1, aI G 54 (fl R)), (a8, aI G 3 nu)] H locs := hw
      subst hr
      refine m_ald C hw 1 rfl (4 + 5 * b0 + 3) rfl (by omega) (by decide) dX2_isDone_181 ?_
      refine re_i (nI (R 4 b0)) (fl_k R (by decide) (by decide)) ?_
      refine lv_iconst (v := nI 2) xx xb dX2_isDone_182 (by decide) ?_
      refine lv_icmp_ne (tgt := 188) xx xb dX2_isDone_183 (by decide) (fun c_183 => ?_) (fun c_183 => ?_)
      · skip
        have c_183 := ne_c (tN (by omega)) (tN (by omega)) c_183
        refine lv_aload_n xx xb dX2_isDone_188 rfl (lv_at hl 2 rfl) ?_
        refine m_get C hw 0 rfl fk_X2_9 rfl dX2_isDone_189 ?_
        refine lv_iload_n xx xb dX2_isDone_192 rfl (lv_at hl 1 rfl) ?_
        refine lv_iconst (v := nI 3) xx xb dX2_isDone_193 (by decide) ?_
        have hM := kX2_of l G b0 3 
        refine cs_i C hw hM ysX2_of ml_X2_44 rfl [] rfl rfl (fun _ => (rfl : ([] : List Nat) = [])) (by decide) ⟨Nat.zero_le _, Nat.zero_le _⟩ hl.1 rfl (Nat.le_of_ble_eq_true rfl) dX2_isDone_194 (fun r _ H locs hr hw => ?_)
        have hw : Wd G (fA [(h0, .inr (2, [.ref a1, .ref a2, .ref a3, .ref a4, .int (nI im), .ref a5, .ref a6, .ref a7, .int (nI lm), .int (nI rm), .int (nI pl), .ref a8, .int sd])), (a1, aI G 54 (fl R)), (a8, aI G 3 nu)]) s [(h0, .inr (2, [.ref a1, .ref a2, .ref a3, .ref a4, .int (nI im), .ref a5, .ref a6, .ref a7, .int (nI lm), .int (nI rm), .int (nI pl), .ref a8, .int sd])), (a1, aI G 54 (fl R)), (a8, aI G 3 nu)] H locs := hw
        subst hr
        refine lv_iconst (v := nI 0) xx xb dX2_isDone_197 (by decide) ?_
        refine m_ast C hw 1 rfl (4 + 5 * b0 + 3) rfl (by omega) (by decide) (fl (upR R 4 b0 0)) (fl_uk _ (by decide) (by decide)) dX2_isDone_198 (fun H locs hw => ?_)
        have hw : Wd G (fA [(h0, .inr (2, [.ref a1, .ref a2, .ref a3, .ref a4, .int (nI im), .ref a5, .ref a6, .ref a7, .int (nI lm), .int (nI rm), .int (nI pl), .ref a8, .int sd])), (a1, aI G 54 (fl R)), (a8, aI G 3 nu)]) s [(h0, .inr (2, [.ref a1, .ref a2, .ref a3, .ref a4, .int (nI im), .ref a5, .ref a6, .ref a7, .int (nI lm), .int (nI rm), .int (nI pl), .ref a8, .int sd])), (a1, aI G 54 (fl (upR R 4 b0 0))), (a8, aI G 3 nu)] H locs := hw
        refine lv_aload_n xx xb dX2_isDone_199 rfl (lv_at hl 2 rfl) ?_
        refine m_get C hw 0 rfl fk_X2_9 rfl dX2_isDone_200 ?_
        refine lv_iload_n xx xb dX2_isDone_203 rfl (lv_at hl 1 rfl) ?_
        refine lv_iconst (v := nI 4) xx xb dX2_isDone_204 (by decide) ?_
        have hM := kX2_of l G b0 4 
        refine cs_i C hw hM ysX2_of ml_X2_44 rfl [] rfl rfl (fun _ => (rfl : ([] : List Nat) = [])) (by decide) ⟨Nat.zero_le _, Nat.zero_le _⟩ hl.1 rfl (Nat.le_of_ble_eq_true rfl) dX2_isDone_205 (fun r _ H locs hr hw => ?_)
        have hw : Wd G (fA [(h0, .inr (2, [.ref a1, .ref a2, .ref a3, .ref a4, .int (nI im), .ref a5, .ref a6, .ref a7, .int (nI lm), .int (nI rm), .int (nI pl), .ref a8, .int sd])), (a1, aI G 54 (fl R)), (a8, aI G 3 nu)]) s [(h0, .inr (2, [.ref a1, .ref a2, .ref a3, .ref a4, .int (nI im), .ref a5, .ref a6, .ref a7, .int (nI lm), .int (nI rm), .int (nI pl), .ref a8, .int sd])), (a1, aI G 54 (fl (upR R 4 b0 0))), (a8, aI G 3 nu)] H locs := hw
        subst hr
        refine lv_iconst (v := nI 0) xx xb dX2_isDone_208 (by decide) ?_
        refine m_ast C hw 1 rfl (4 + 5 * b0 + 4) rfl (by omega) (by decide) (fl (upR (upR R 4 b0 0) 5 b0 0)) (fl_uk _ (by decide) (by decide)) dX2_isDone_209 (fun H locs hw => ?_)
        have hw : Wd G (fA [(h0, .inr (2, [.ref a1, .ref a2, .ref a3, .ref a4, .int (nI im), .ref a5, .ref a6, .ref a7, .int (nI lm), .int (nI rm), .int (nI pl), .ref a8, .int sd])), (a1, aI G 54 (fl R)), (a8, aI G 3 nu)]) s [(h0, .inr (2, [.ref a1, .ref a2, .ref a3, .ref a4, .int (nI im), .ref a5, .ref a6, .ref a7, .int (nI lm), .int (nI rm), .int (nI pl), .ref a8, .int sd])), (a1, aI G 54 (fl (upR (upR R 4 b0 0) 5 b0 0))), (a8, aI G 3 nu)] H locs := hw
        refine lv_iconst (v := nI 1) xx xb dX2_isDone_210 (by decide) ?_
        have hab : stB R cc b0 b1 b2 := by unfold stB; omega
        have hst : stR R cc b0 b1 b2 = setU R b0 := by unfold stR; rw [if_neg (by omega), if_neg (by omega), if_neg (by omega), if_pos (by omega)]
        have hw : Wd G (fA [(h0, .inr (2, [.ref a1, .ref a2, .ref a3, .ref a4, .int (nI im), .ref a5, .ref a6, .ref a7, .int (nI lm), .int (nI rm), .int (nI pl), .ref a8, .int sd])), (a1, aI G 54 (fl R)), (a8, aI G 3 nu)]) s [(h0, .inr (2, [.ref a1, .ref a2, .ref a3, .ref a4, .int (nI im), .ref a5, .ref a6, .ref a7, .int (nI lm), .int (nI rm), .int (nI pl), .ref a8, .int sd])), (a1, aI G 54 (fl (setU R b0))), (a8, aI G 3 nu)] H locs := hw
        exact rt_z C hw () (Or.inr rfl) (z1 hab) (by first | (rw [selP_1 hab, hst]; done) | (rw [selP_0 hab]; done) | rfl) dX2_isDone_211
      · skip
        have c_183 := eq_c (tN (by omega)) (tN (by omega)) c_183
        refine lv_iconst (v := nI 0) xx xb dX2_isDone_186 (by decide) ?_
        have hab : ¬ stB R cc b0 b1 b2 := fun q => by unfold stB at q; omega
        exact rt_z C hw () (Or.inl rfl) (z0 hab) (by first | (rw [selP_1 hab, hst]; done) | (rw [selP_0 hab]; done) | rfl) dX2_isDone_187
  by_cases k_10_105 : cc = 105
  · skip
    refine re_i (nI 105) (by rw [k_10_105]) ?_
    refine lv_tableIn (off := 202) (tgt := 212) xx xb dX2_isDone_10 (by decide +kernel) (by decide +kernel) (by decide +kernel) (by decide) ?_
    exact absurd hcc (by omega)
  by_cases k_10_106 : cc = 106
  · skip
    refine re_i (nI 106) (by rw [k_10_106]) ?_
    refine lv_tableIn (off := 202) (tgt := 212) xx xb dX2_isDone_10 (by decide +kernel) (by decide +kernel) (by decide +kernel) (by decide) ?_
    exact absurd hcc (by omega)
  by_cases k_10_107 : cc = 107
  · skip
    refine re_i (nI 107) (by rw [k_10_107]) ?_
    refine lv_tableIn (off := 202) (tgt := 212) xx xb dX2_isDone_10 (by decide +kernel) (by decide +kernel) (by decide +kernel) (by decide) ?_
    exact absurd hcc (by omega)
  by_cases k_10_108 : cc = 108
  · skip
    refine re_i (nI 108) (by rw [k_10_108]) ?_
    refine lv_tableIn (off := 202) (tgt := 212) xx xb dX2_isDone_10 (by decide +kernel) (by decide +kernel) (by decide +kernel) (by decide) ?_
    exact absurd hcc (by omega)
  by_cases k_10_109 : cc = 109
  · skip
    refine re_i (nI 109) (by rw [k_10_109]) ?_
    refine lv_tableIn (off := 202) (tgt := 212) xx xb dX2_isDone_10 (by decide +kernel) (by decide +kernel) (by decide +kernel) (by decide) ?_
    refine lv_iload_n xx xb dX2_isDone_212 rfl (lv_at hl 1 rfl) ?_
    refine lv_iconst (v := nI 1) xx xb dX2_isDone_213 (by decide) ?_
    refine lv_bipush (v := nI 60) xx xb dX2_isDone_214 (by decide) ?_
    have hM := kX2_isIn l G (nI b0) ((b0 : Nat) : Int) (nI 1) 1 (nI 60) 60 (tN (by omega)) (tN (by omega)) (tN (by omega))
    refine cs_i C hw hM ysX2_isIn ml_X2_40 rfl [] rfl rfl (fun _ => (rfl : ([] : List Nat) = [])) (by decide) ⟨Nat.zero_le _, Nat.zero_le _⟩ hl.1 rfl (Nat.le_of_ble_eq_true rfl) dX2_isDone_216 (fun r _ H locs hr hw => ?_)
    have hw : Wd G (fA [(h0, .inr (2, [.ref a1, .ref a2, .ref a3, .ref a4, .int (nI im), .ref a5, .ref a6, .ref a7, .int (nI lm), .int (nI rm), .int (nI pl), .ref a8, .int sd])), (a1, aI G 54 (fl R)), (a8, aI G 3 nu)]) s [(h0, .inr (2, [.ref a1, .ref a2, .ref a3, .ref a4, .int (nI im), .ref a5, .ref a6, .ref a7, .int (nI lm), .int (nI rm), .int (nI pl), .ref a8, .int sd])), (a1, aI G 54 (fl R)), (a8, aI G 3 nu)] H locs := hw
    subst hr
    refine lv_if_eq (tgt := 236) xx xb dX2_isDone_219 (by decide) (fun c_219 => ?_) (fun c_219 => ?_)
    · skip
      have c_219 := b0_c c_219
      refine lv_iconst (v := nI 0) xx xb dX2_isDone_236 (by decide) ?_
      have hab : ¬ stB R cc b0 b1 b2 := fun q => by unfold stB at q; omega
      exact rt_z C hw () (Or.inl rfl) (z0 hab) (by first | (rw [selP_1 hab, hst]; done) | (rw [selP_0 hab]; done) | rfl) dX2_isDone_237
    · skip
      have c_219 := b1_c c_219
      refine lv_aload_n xx xb dX2_isDone_222 rfl (lv_at hl 2 rfl) ?_
      refine m_get C hw 0 rfl fk_X2_9 rfl dX2_isDone_223 ?_
      refine lv_iconst (v := nI 1) xx xb dX2_isDone_226 (by decide) ?_
      refine m_ald C hw 1 rfl 1 rfl (by omega) (by decide) dX2_isDone_227 ?_
      refine re_i (nI (R 0 1)) (fl_h R (by decide)) ?_
      refine lv_iload_n xx xb dX2_isDone_228 rfl (lv_at hl 1 rfl) ?_
      refine lv_iadd xx xb dX2_isDone_229 ?_
      refine re_i (nI ((R 0 1) + b0)) (nI_add _ _) ?_
      refine lv_sipush (v := nI 999) xx xb dX2_isDone_230 (by decide) ?_
      refine lv_icmp_le (tgt := 238) xx xb dX2_isDone_233 (by decide) (fun c_233 => ?_) (fun c_233 => ?_)
      · skip
        have c_233 := le_c (tN (by omega)) (tN (by omega)) c_233
        refine lv_aload_n xx xb dX2_isDone_238 rfl (lv_at hl 2 rfl) ?_
        refine m_get C hw 0 rfl fk_X2_9 rfl dX2_isDone_239 ?_
        refine lv_iload_n xx xb dX2_isDone_242 rfl (lv_at hl 1 rfl) ?_
        have hM := kX2_minutesOn l G a1 R b0 (by first | assumption | omega) (by first | assumption | omega) (by first | assumption | omega)
        refine cs_v C hw hM ysX2_minutesOn ml_X2_115 rfl [1] rfl rfl (fun _ => (rfl : ([a1] : List Nat) = [a1])) (by decide) ⟨Nat.zero_le _, Nat.zero_le _⟩ hl.1 rfl (Nat.le_of_ble_eq_true rfl) dX2_isDone_243 (fun _ H locs hr hw => ?_)
        have hw : Wd G (fA [(h0, .inr (2, [.ref a1, .ref a2, .ref a3, .ref a4, .int (nI im), .ref a5, .ref a6, .ref a7, .int (nI lm), .int (nI rm), .int (nI pl), .ref a8, .int sd])), (a1, aI G 54 (fl R)), (a8, aI G 3 nu)]) s [(h0, .inr (2, [.ref a1, .ref a2, .ref a3, .ref a4, .int (nI im), .ref a5, .ref a6, .ref a7, .int (nI lm), .int (nI rm), .int (nI pl), .ref a8, .int sd])), (a1, aI G 54 (fl (itF R b0))), (a8, aI G 3 nu)] H locs := hw
        refine lv_iconst (v := nI 1) xx xb dX2_isDone_246 (by decide) ?_
        have hab : stB R cc b0 b1 b2 := by unfold stB; omega
        have hst : stR R cc b0 b1 b2 = itF R b0 := by unfold stR; rw [if_neg (by omega), if_neg (by omega), if_neg (by omega), if_neg (by omega)]
        exact rt_z C hw () (Or.inr rfl) (z1 hab) (by first | (rw [selP_1 hab, hst]; done) | (rw [selP_0 hab]; done) | rfl) dX2_isDone_247
      · skip
        have c_233 := nle_c (tN (by omega)) (tN (by omega)) c_233
        refine lv_iconst (v := nI 0) xx xb dX2_isDone_236 (by decide) ?_
        have hab : ¬ stB R cc b0 b1 b2 := fun q => by unfold stB at q; omega
        exact rt_z C hw () (Or.inl rfl) (z0 hab) (by first | (rw [selP_1 hab, hst]; done) | (rw [selP_0 hab]; done) | rfl) dX2_isDone_237
  by_cases k_10_110 : cc = 110
  · skip
    refine re_i (nI 110) (by rw [k_10_110]) ?_
    refine lv_tableIn (off := 202) (tgt := 212) xx xb dX2_isDone_10 (by decide +kernel) (by decide +kernel) (by decide +kernel) (by decide) ?_
    exact absurd hcc (by omega)
  by_cases k_10_111 : cc = 111
  · skip
    refine re_i (nI 111) (by rw [k_10_111]) ?_
    refine lv_tableIn (off := 74) (tgt := 84) xx xb dX2_isDone_10 (by decide +kernel) (by decide +kernel) (by decide +kernel) (by decide) ?_
    refine lv_aload_n xx xb dX2_isDone_84 rfl (lv_at hl 2 rfl) ?_
    refine lv_iload_n xx xb dX2_isDone_85 rfl (lv_at hl 1 rfl) ?_
    refine lv_aload_n xx xb dX2_isDone_86 rfl (lv_at hl 2 rfl) ?_
    refine m_get C hw 0 rfl fk_X2_31 rfl dX2_isDone_87 ?_
    refine lv_iconst (v := nI 1) xx xb dX2_isDone_90 (by decide) ?_
    refine m_ald C hw 2 rfl 1 rfl (by omega) (by decide) dX2_isDone_91 ?_
    refine re_i (nI b1) ((hn1 (by omega)).1) ?_
    refine lv_aload_n xx xb dX2_isDone_92 rfl (lv_at hl 2 rfl) ?_
    refine m_get C hw 0 rfl fk_X2_31 rfl dX2_isDone_93 ?_
    refine lv_iconst (v := nI 2) xx xb dX2_isDone_96 (by decide) ?_
    refine m_ald C hw 2 rfl 2 rfl (by omega) (by decide) dX2_isDone_97 ?_
    refine re_i (onI b2) ((hn2 (by omega)).1) ?_
    have h210 := (hn2 (by omega)).2
    have hM := kX2_adds l G h0 a1 a2 a3 a4 a5 a6 a7 a8 im lm rm pl sd R b0 b1 b2 (by first | assumption | omega) (by first | assumption | omega)
    refine cv_i C hw hM yvX2_adds ml_X2_109 0 rfl rfl rfl [0, 1] rfl rfl (fun _ => (rfl : ([h0, a1] : List Nat) = [h0, a1])) (by decide) ⟨Nat.zero_le _, Nat.zero_le _⟩ hl.1 rfl (Nat.le_of_ble_eq_true rfl) dX2_isDone_98 (fun r _ H locs hr hw => ?_)
    have hw : Wd G (fA [(h0, .inr (2, [.ref a1, .ref a2, .ref a3, .ref a4, .int (nI im), .ref a5, .ref a6, .ref a7, .int (nI lm), .int (nI rm), .int (nI pl), .ref a8, .int sd])), (a1, aI G 54 (fl R)), (a8, aI G 3 nu)]) s [(h0, .inr (2, [.ref a1, .ref a2, .ref a3, .ref a4, .int (nI im), .ref a5, .ref a6, .ref a7, .int (nI lm), .int (nI rm), .int (nI pl), .ref a8, .int sd])), (a1, aI G 54 (fl (selP (adB R b2) (adF R b0 b1 b2) R))), (a8, aI G 3 nu)] H locs := hw
    subst hr
    have hiff : adB R b2 ↔ stB R cc b0 b1 b2 := by unfold stB; constructor <;> intro q <;> (try unfold adB at *) <;> omega
    have hst : stR R cc b0 b1 b2 = adF R b0 b1 b2 := by unfold stR; rw [if_pos (by omega)]
    refine re_i (z01 (stB R cc b0 b1 b2)) (z01_e hiff) ?_
    have hw : Wd G (fA [(h0, .inr (2, [.ref a1, .ref a2, .ref a3, .ref a4, .int (nI im), .ref a5, .ref a6, .ref a7, .int (nI lm), .int (nI rm), .int (nI pl), .ref a8, .int sd])), (a1, aI G 54 (fl R)), (a8, aI G 3 nu)]) s [(h0, .inr (2, [.ref a1, .ref a2, .ref a3, .ref a4, .int (nI im), .ref a5, .ref a6, .ref a7, .int (nI lm), .int (nI rm), .int (nI pl), .ref a8, .int sd])), (a1, aI G 54 (fl (selP (stB R cc b0 b1 b2) (stR R cc b0 b1 b2) R))), (a8, aI G 3 nu)] H locs := by rw [hst, ← selP_e hiff]; exact hw
    exact rt_z C hw () (z01_b _) rfl (by first | (rw [selP_1 hab, hst]; done) | (rw [selP_0 hab]; done) | rfl) dX2_isDone_101
  by_cases k_10_112 : cc = 112
  · skip
    refine re_i (nI 112) (by rw [k_10_112]) ?_
    refine lv_tableIn (off := 92) (tgt := 102) xx xb dX2_isDone_10 (by decide +kernel) (by decide +kernel) (by decide +kernel) (by decide) ?_
    refine lv_aload_n xx xb dX2_isDone_102 rfl (lv_at hl 2 rfl) ?_
    refine lv_iload_n xx xb dX2_isDone_103 rfl (lv_at hl 1 rfl) ?_
    have hM := kX2_isThing l G h0 a1 a2 a3 a4 a5 a6 a7 a8 im lm rm pl sd R (nI b0) ((b0 : Nat) : Int) (tN (by omega)) (by first | assumption | omega)
    refine cv_i C hw hM yvX2_isThing ml_X2_105 0 rfl rfl rfl [0, 1] rfl rfl (fun _ => (rfl : ([h0, a1] : List Nat) = [h0, a1])) (by decide) ⟨Nat.zero_le _, Nat.zero_le _⟩ hl.1 rfl (Nat.le_of_ble_eq_true rfl) dX2_isDone_104 (fun r _ H locs hr hw => ?_)
    have hw : Wd G (fA [(h0, .inr (2, [.ref a1, .ref a2, .ref a3, .ref a4, .int (nI im), .ref a5, .ref a6, .ref a7, .int (nI lm), .int (nI rm), .int (nI pl), .ref a8, .int sd])), (a1, aI G 54 (fl R)), (a8, aI G 3 nu)]) s [(h0, .inr (2, [.ref a1, .ref a2, .ref a3, .ref a4, .int (nI im), .ref a5, .ref a6, .ref a7, .int (nI lm), .int (nI rm), .int (nI pl), .ref a8, .int sd])), (a1, aI G 54 (fl R)), (a8, aI G 3 nu)] H locs := hw
    subst hr
    refine lv_if_eq (tgt := 121) xx xb dX2_isDone_107 (by decide) (fun c_107 => ?_) (fun c_107 => ?_)
    · skip
      have c_107 := b0_c c_107
      refine lv_iconst (v := nI 0) xx xb dX2_isDone_121 (by decide) ?_
      have hab : ¬ stB R cc b0 b1 b2 := fun q => by unfold stB at q; omega
      exact rt_z C hw () (Or.inl rfl) (z0 hab) (by first | (rw [selP_1 hab, hst]; done) | (rw [selP_0 hab]; done) | rfl) dX2_isDone_122
    · skip
      have c_107 := b1_c c_107
      refine lv_aload_n xx xb dX2_isDone_110 rfl (lv_at hl 2 rfl) ?_
      refine m_get C hw 0 rfl fk_X2_9 rfl dX2_isDone_111 ?_
      refine lv_iload_n xx xb dX2_isDone_114 rfl (lv_at hl 1 rfl) ?_
      have hM := kX2_stands l G a1 R b0 (by first | assumption | omega) (by first | assumption | omega)
      refine cs_i C hw hM ysX2_stands ml_X2_55 rfl [1] rfl rfl (fun _ => (rfl : ([a1] : List Nat) = [a1])) (by decide) ⟨Nat.zero_le _, Nat.zero_le _⟩ hl.1 rfl (Nat.le_of_ble_eq_true rfl) dX2_isDone_115 (fun r _ H locs hr hw => ?_)
      have hw : Wd G (fA [(h0, .inr (2, [.ref a1, .ref a2, .ref a3, .ref a4, .int (nI im), .ref a5, .ref a6, .ref a7, .int (nI lm), .int (nI rm), .int (nI pl), .ref a8, .int sd])), (a1, aI G 54 (fl R)), (a8, aI G 3 nu)]) s [(h0, .inr (2, [.ref a1, .ref a2, .ref a3, .ref a4, .int (nI im), .ref a5, .ref a6, .ref a7, .int (nI lm), .int (nI rm), .int (nI pl), .ref a8, .int sd])), (a1, aI G 54 (fl R)), (a8, aI G 3 nu)] H locs := hw
      subst hr
      refine lv_if_ne (tgt := 123) xx xb dX2_isDone_118 (by decide) (fun c_118 => ?_) (fun c_118 => ?_)
      · skip
        have c_118 := b1_c c_118
        refine lv_aload_n xx xb dX2_isDone_123 rfl (lv_at hl 2 rfl) ?_
        refine m_get C hw 0 rfl fk_X2_9 rfl dX2_isDone_124 ?_
        refine lv_iload_n xx xb dX2_isDone_127 rfl (lv_at hl 1 rfl) ?_
        refine re_i (onI b0) ((onI_lt (by omega)).symm) ?_
        refine lv_aload_n xx xb dX2_isDone_128 rfl (lv_at hl 2 rfl) ?_
        refine m_get C hw 0 rfl fk_X2_31 rfl dX2_isDone_129 ?_
        refine lv_iconst (v := nI 1) xx xb dX2_isDone_132 (by decide) ?_
        refine m_ald C hw 2 rfl 1 rfl (by omega) (by decide) dX2_isDone_133 ?_
        refine re_i (nI b1) ((hn1 (by omega)).1) ?_
        have hb19 := (hn1 (by omega)).2
        have hM := kX2_pullsIn l G a1 R b0 b1 (by first | assumption | omega) (by first | assumption | omega) (by first | assumption | omega)
        refine cs_i C hw hM ysX2_pullsIn ml_X2_112 rfl [1] rfl rfl (fun _ => (rfl : ([a1] : List Nat) = [a1])) (by decide) ⟨Nat.zero_le _, Nat.zero_le _⟩ hl.1 rfl (Nat.le_of_ble_eq_true rfl) dX2_isDone_134 (fun r _ H locs hr hw => ?_)
        have hw : Wd G (fA [(h0, .inr (2, [.ref a1, .ref a2, .ref a3, .ref a4, .int (nI im), .ref a5, .ref a6, .ref a7, .int (nI lm), .int (nI rm), .int (nI pl), .ref a8, .int sd])), (a1, aI G 54 (fl R)), (a8, aI G 3 nu)]) s [(h0, .inr (2, [.ref a1, .ref a2, .ref a3, .ref a4, .int (nI im), .ref a5, .ref a6, .ref a7, .int (nI lm), .int (nI rm), .int (nI pl), .ref a8, .int sd])), (a1, aI G 54 (fl (pulF R b0 b1))), (a8, aI G 3 nu)] H locs := hw
        subst hr
        refine lv_istore_n (lv' := [(3, .int (nI (ct (shkF R b0 b1) (R 0 0)))), (2, .int (nI b0)), (0, .ref h0), (1, .int (nI cc))]) xx xb dX2_isDone_137 rfl hl (by decide) rfl (fun ls hl => ?_)
        refine lv_iconst (v := nI 1) xx xb dX2_isDone_138 (by decide) ?_
        have hab : stB R cc b0 b1 b2 := by unfold stB; omega
        have hst : stR R cc b0 b1 b2 = pulF R b0 b1 := by unfold stR; rw [if_neg (by omega), if_pos (by omega)]
        exact rt_z C hw () (Or.inr rfl) (z1 hab) (by first | (rw [selP_1 hab, hst]; done) | (rw [selP_0 hab]; done) | rfl) dX2_isDone_139
      · skip
        have c_118 := b0_c c_118
        refine lv_iconst (v := nI 0) xx xb dX2_isDone_121 (by decide) ?_
        have hab : ¬ stB R cc b0 b1 b2 := fun q => by unfold stB at q; omega
        exact rt_z C hw () (Or.inl rfl) (z0 hab) (by first | (rw [selP_1 hab, hst]; done) | (rw [selP_0 hab]; done) | rfl) dX2_isDone_122
  by_cases k_10_113 : cc = 113
  · skip
    refine re_i (nI 113) (by rw [k_10_113]) ?_
    refine lv_tableIn (off := 202) (tgt := 212) xx xb dX2_isDone_10 (by decide +kernel) (by decide +kernel) (by decide +kernel) (by decide) ?_
    exact absurd hcc (by omega)
  by_cases k_10_114 : cc = 114
  · skip
    refine re_i (nI 114) (by rw [k_10_114]) ?_
    refine lv_tableIn (off := 202) (tgt := 212) xx xb dX2_isDone_10 (by decide +kernel) (by decide +kernel) (by decide +kernel) (by decide) ?_
    exact absurd hcc (by omega)
  by_cases k_10_115 : cc = 115
  · skip
    refine re_i (nI 115) (by rw [k_10_115]) ?_
    refine lv_tableIn (off := 202) (tgt := 212) xx xb dX2_isDone_10 (by decide +kernel) (by decide +kernel) (by decide +kernel) (by decide) ?_
    exact absurd hcc (by omega)
  by_cases k_10_116 : cc = 116
  · skip
    refine re_i (nI 116) (by rw [k_10_116]) ?_
    refine lv_tableIn (off := 74) (tgt := 84) xx xb dX2_isDone_10 (by decide +kernel) (by decide +kernel) (by decide +kernel) (by decide) ?_
    refine lv_aload_n xx xb dX2_isDone_84 rfl (lv_at hl 2 rfl) ?_
    refine lv_iload_n xx xb dX2_isDone_85 rfl (lv_at hl 1 rfl) ?_
    refine lv_aload_n xx xb dX2_isDone_86 rfl (lv_at hl 2 rfl) ?_
    refine m_get C hw 0 rfl fk_X2_31 rfl dX2_isDone_87 ?_
    refine lv_iconst (v := nI 1) xx xb dX2_isDone_90 (by decide) ?_
    refine m_ald C hw 2 rfl 1 rfl (by omega) (by decide) dX2_isDone_91 ?_
    refine re_i (nI b1) ((hn1 (by omega)).1) ?_
    refine lv_aload_n xx xb dX2_isDone_92 rfl (lv_at hl 2 rfl) ?_
    refine m_get C hw 0 rfl fk_X2_31 rfl dX2_isDone_93 ?_
    refine lv_iconst (v := nI 2) xx xb dX2_isDone_96 (by decide) ?_
    refine m_ald C hw 2 rfl 2 rfl (by omega) (by decide) dX2_isDone_97 ?_
    refine re_i (onI b2) ((hn2 (by omega)).1) ?_
    have h210 := (hn2 (by omega)).2
    have hM := kX2_adds l G h0 a1 a2 a3 a4 a5 a6 a7 a8 im lm rm pl sd R b0 b1 b2 (by first | assumption | omega) (by first | assumption | omega)
    refine cv_i C hw hM yvX2_adds ml_X2_109 0 rfl rfl rfl [0, 1] rfl rfl (fun _ => (rfl : ([h0, a1] : List Nat) = [h0, a1])) (by decide) ⟨Nat.zero_le _, Nat.zero_le _⟩ hl.1 rfl (Nat.le_of_ble_eq_true rfl) dX2_isDone_98 (fun r _ H locs hr hw => ?_)
    have hw : Wd G (fA [(h0, .inr (2, [.ref a1, .ref a2, .ref a3, .ref a4, .int (nI im), .ref a5, .ref a6, .ref a7, .int (nI lm), .int (nI rm), .int (nI pl), .ref a8, .int sd])), (a1, aI G 54 (fl R)), (a8, aI G 3 nu)]) s [(h0, .inr (2, [.ref a1, .ref a2, .ref a3, .ref a4, .int (nI im), .ref a5, .ref a6, .ref a7, .int (nI lm), .int (nI rm), .int (nI pl), .ref a8, .int sd])), (a1, aI G 54 (fl (selP (adB R b2) (adF R b0 b1 b2) R))), (a8, aI G 3 nu)] H locs := hw
    subst hr
    have hiff : adB R b2 ↔ stB R cc b0 b1 b2 := by unfold stB; constructor <;> intro q <;> (try unfold adB at *) <;> omega
    have hst : stR R cc b0 b1 b2 = adF R b0 b1 b2 := by unfold stR; rw [if_pos (by omega)]
    refine re_i (z01 (stB R cc b0 b1 b2)) (z01_e hiff) ?_
    have hw : Wd G (fA [(h0, .inr (2, [.ref a1, .ref a2, .ref a3, .ref a4, .int (nI im), .ref a5, .ref a6, .ref a7, .int (nI lm), .int (nI rm), .int (nI pl), .ref a8, .int sd])), (a1, aI G 54 (fl R)), (a8, aI G 3 nu)]) s [(h0, .inr (2, [.ref a1, .ref a2, .ref a3, .ref a4, .int (nI im), .ref a5, .ref a6, .ref a7, .int (nI lm), .int (nI rm), .int (nI pl), .ref a8, .int sd])), (a1, aI G 54 (fl (selP (stB R cc b0 b1 b2) (stR R cc b0 b1 b2) R))), (a8, aI G 3 nu)] H locs := by rw [hst, ← selP_e hiff]; exact hw
    exact rt_z C hw () (z01_b _) rfl (by first | (rw [selP_1 hab, hst]; done) | (rw [selP_0 hab]; done) | rfl) dX2_isDone_101
  · skip
    exact absurd hcc (by omega)
