def shp (c : Nat) : List Nat := if c = 116 then [0, 1, 2] else if c = 111 then [0, 1, 1, 2] else if c = 112 then [1, 1, 2] else if c = 109 then [1, 1, 2] else if c = 102 then [1, 2] else if c = 104 then [1, 2] else []
def rdP (lf : Nat → Nat) (n p : Nat) : Nat := if shp (hd lf n p) = [] then p else mtc lf n (p + 1) (shp (hd lf n p))
def rdB (lf : Nat → Nat) (n p : Nat) : Prop := shp (hd lf n p) ≠ [] ∧ rdP lf n p = p + 1 + (shp (hd lf n p)).length
theorem rdP_s {lf : Nat → Nat} {n p a : Nat} {l : List Nat} (h : shp (hd lf n p) = a :: l) : rdP lf n p = mtc lf n (p + 1) (a :: l) := by unfold rdP; rw [h, if_neg (by simp)]
theorem rdB_s {lf : Nat → Nat} {n p a : Nat} {l : List Nat} (h : shp (hd lf n p) = a :: l) : rdB lf n p ↔ mtc lf n (p + 1) (a :: l) = p + 1 + (l.length + 1) := by
  unfold rdB; rw [rdP_s h, h]; simp
theorem rdB_n {lf : Nat → Nat} {n p : Nat} (h : shp (hd lf n p) = []) : ¬ rdB lf n p := fun q => q.1 h
theorem rdP_n {lf : Nat → Nat} {n p : Nat} (h : shp (hd lf n p) = []) : rdP lf n p = p := by unfold rdP; rw [if_pos h]

theorem hd_of {lf : Nat → Nat} {n p v : Nat} (h : hrZ lf n p = (v : Int)) : p < n ∧ lf p = v ∧ hd lf n p = v := by
  unfold hrZ at h
  by_cases q : p < n
  · rw [if_pos q] at h
    exact ⟨q, by omega, by rw [hd_y q]; omega⟩
  · rw [if_neg q] at h; omega
theorem shp_nil {lf : Nat → Nat} {n p : Nat} (h1 : hrZ lf n p ≠ 116) (h2 : hrZ lf n p ≠ 111) (h3 : hrZ lf n p ≠ 112) (h4 : hrZ lf n p ≠ 109) (h5 : hrZ lf n p ≠ 102) (h6 : hrZ lf n p ≠ 104) : shp (hd lf n p) = [] := by
  unfold hrZ at h1 h2 h3 h4 h5 h6
  unfold shp hd
  by_cases q : p < n
  · rw [if_pos q] at h1 h2 h3 h4 h5 h6
    rw [if_pos q, if_neg (by omega), if_neg (by omega), if_neg (by omega), if_neg (by omega), if_neg (by omega), if_neg (by omega)]
  · rw [if_neg q]; decide
theorem dg1P (lf : Nat → Nat) (n p : Nat) : dgP lf n p 1 = isD (hd lf n p) := by simp [dgP]
theorem dg1E {lf : Nat → Nat} {n p : Nat} (h : dgP lf n p 1 = true) : dgE lf n p 1 = 1 := if_pos (by rw [dg1P] at h; exact ⟨rfl, h⟩)
theorem dg1N {lf : Nat → Nat} {n p : Nat} (h : ¬ dgP lf n p 1 = true) : dgE lf n p 1 = 0 := if_neg (by rw [dg1P] at h; exact fun q => h q.2)
theorem dg2N {lf : Nat → Nat} {n p : Nat} (h : ¬ dgP lf n p 2 = true) : dgE lf n p 2 ≤ 1 := by
  have e : dgE lf n p 2 = dgE lf n p 1 := if_neg (fun q => h (dgP_s q.1 q.2))
  rw [e]
  by_cases h1 : dgP lf n p 1 = true
  · rw [dg1E h1]; exact Nat.le_refl _
  · rw [dg1N h1]; omega
theorem dg2E {lf : Nat → Nat} {n p : Nat} (h : dgP lf n p 2 = true) : dgE lf n p 2 = 2 := if_pos (by
  show dgP lf n p 1 = true ∧ isD (hd lf n (p + 1)) = true
  simp only [dgP, Bool.and_eq_true] at h ⊢
  exact h)
theorem mt_k1 {lf : Nat → Nat} {n p : Nat} {l : List Nat} (h : kd (hd lf n p) < 10) : mtc lf n p (0 :: l) = mtc lf n (p + 1) l := mt_y (by simp [fitB, h])
theorem mt_k0 {lf : Nat → Nat} {n p : Nat} {l : List Nat} (h : ¬ kd (hd lf n p) < 10) : mtc lf n p (0 :: l) = p := mt_n (by simp [fitB]; omega)
theorem mt_d1 {lf : Nat → Nat} {n p : Nat} {l : List Nat} (h : dgP lf n p 1 = true) : mtc lf n p (1 :: l) = mtc lf n (p + 1) l := mt_y (by rw [dg1P] at h; simp [fitB, h])
theorem mt_d0 {lf : Nat → Nat} {n p : Nat} {l : List Nat} (h : ¬ dgP lf n p 1 = true) : mtc lf n p (1 :: l) = p + dgE lf n p 1 := by
  rw [dg1N h]
  rw [dg1P] at h
  exact mt_n (by simp [fitB, h])
theorem mt_d2 {lf : Nat → Nat} {n p : Nat} {l : List Nat} (h : dgP lf n p 2 = true) : mtc lf n p (1 :: 1 :: l) = mtc lf n (p + 2) l := by
  have h1 : dgP lf n p 1 = true := by simp only [dgP, Bool.and_eq_true] at h ⊢; exact h.1
  have h2 : isD (hd lf n (p + 1)) = true := by simp only [dgP, Bool.and_eq_true] at h; exact h.2
  rw [mt_d1 h1, mt_y (by simp [fitB, h2])]
theorem mt_d20 {lf : Nat → Nat} {n p : Nat} {l : List Nat} (h : ¬ dgP lf n p 2 = true) : mtc lf n p (1 :: 1 :: l) = p + dgE lf n p 2 := by
  by_cases h1 : dgP lf n p 1 = true
  · have h2 : ¬ isD (hd lf n (p + 1)) = true := fun q => h (dgP_s h1 q)
    rw [mt_d1 h1, mt_n (by simp [fitB, h2])]
    have e : dgE lf n p 2 = dgE lf n p 1 := if_neg (fun q => h2 q.2)
    rw [e, dg1E h1]
  · rw [mt_d0 h1]
    have e : dgE lf n p 2 = dgE lf n p 1 := if_neg (fun q => h1 q.1)
    rw [e]
theorem mt_s1 {lf : Nat → Nat} {n p : Nat} {l : List Nat} (h : hrZ lf n p = 59) : mtc lf n p (2 :: l) = mtc lf n (p + 1) l := mt_y (by have := (hd_of (v := 59) h).2.2; simp [fitB, this])
theorem mt_s0 {lf : Nat → Nat} {n p : Nat} {l : List Nat} (h : hrZ lf n p ≠ 59) : mtc lf n p (2 :: l) = p := mt_n (by
  have : hd lf n p ≠ 59 := by
    unfold hrZ at h; unfold hd
    by_cases q : p < n
    · rw [if_pos q] at h ⊢; omega
    · rw [if_neg q]; decide
  simp [fitB, this])
def n0F (lf : Nat → Nat) (p : Nat) : Nat := if lf p = 116 then kd (lf (p + 1)) else if lf p = 111 then kd (lf (p + 1)) else if lf p = 109 then 10 * (lf (p + 1) - 48) + (lf (p + 1 + 1) - 48) else lf (p + 1) - 48
def n1F (lf : Nat → Nat) (p : Nat) : Nat := lf (p + 1 + 1) - 48
def n2F (lf : Nat → Nat) (p : Nat) : Nat := if lf p = 116 then 10 else lf (p + 1 + 1 + 1) - 48
def nmOK (lf : Nat → Nat) (p : Nat) (u : Nat → Int32) : Prop := u 0 = nI (n0F lf p) ∧ (lf p = 116 ∨ lf p = 111 ∨ lf p = 112 → u 1 = nI (n1F lf p)) ∧ (lf p = 116 ∨ lf p = 111 → u 2 = onI (n2F lf p))
theorem dgV1 (lf : Nat → Nat) (p : Nat) : dgV lf p 1 = lf p - 48 := by simp [dgV]
theorem dgV2 (lf : Nat → Nat) (p : Nat) : dgV lf p 2 = 10 * (lf p - 48) + (lf (p + 1) - 48) := by simp [dgV]
theorem kd_hd {lf : Nat → Nat} {n p : Nat} (h : kd (hd lf n p) < 10) : hd lf n p = lf p := by
  by_cases q : p < n
  · exact hd_y q
  · unfold hd at h; rw [if_neg q] at h; exact absurd h (by decide)
theorem d9 {lf : Nat → Nat} {n p : Nat} (h : dgP lf n p 1 = true) : lf p - 48 ≤ 9 := by
  rw [dg1P] at h
  have q := hd_lt h
  unfold isD at h
  rw [decide_eq_true_eq, hd_y q] at h
  omega
theorem nok_t {lf : Nat → Nat} {n p : Nat} {nu : Nat → Int32} (h : lf p = 116) (hk : kd (hd lf n (p + 1)) < 10) : nmOK lf p (upd (upd (upd nu 0 (onI (kd (hd lf n (p + 1))))) 1 (nI (dgV lf (p + 1 + 1) 1))) 2 (-9)) := by
  refine ⟨?_, fun _ => ?_, fun _ => ?_⟩
  · rw [upd_n (by decide), upd_n (by decide), upd_s, onI_lt hk, kd_hd hk]; unfold n0F; rw [if_pos h]
  · rw [upd_n (by decide), upd_s, dgV1]; rfl
  · rw [upd_s]; unfold n2F; rw [if_pos h]; rfl
theorem nok_o {lf : Nat → Nat} {n p : Nat} {nu : Nat → Int32} (h : lf p = 111) (hk : kd (hd lf n (p + 1)) < 10) (hd1 : dgP lf n (p + 1 + 1 + 1) 1 = true) : nmOK lf p (upd (upd (upd nu 0 (onI (kd (hd lf n (p + 1))))) 1 (nI (dgV lf (p + 1 + 1) 1))) 2 (nI (dgV lf (p + 1 + 1 + 1) 1))) := by
  have := d9 hd1
  refine ⟨?_, fun _ => ?_, fun _ => ?_⟩
  · rw [upd_n (by decide), upd_n (by decide), upd_s, onI_lt hk, kd_hd hk]; unfold n0F; rw [if_neg (by omega), if_pos h]
  · rw [upd_n (by decide), upd_s, dgV1]; rfl
  · rw [upd_s, dgV1]; unfold n2F; rw [if_neg (by omega), onI_lt (by omega)]
theorem nok_p {lf : Nat → Nat} {p : Nat} {nu : Nat → Int32} (h : lf p = 112) : nmOK lf p (upd (upd nu 0 (nI (dgV lf (p + 1) 1))) 1 (nI (dgV lf (p + 1 + 1) 1))) := by
  refine ⟨?_, fun _ => ?_, fun q => by omega⟩
  · rw [upd_n (by decide), upd_s, dgV1]; unfold n0F; rw [if_neg (by omega), if_neg (by omega), if_neg (by omega)]
  · rw [upd_s, dgV1]; rfl
theorem nok_m {lf : Nat → Nat} {p : Nat} {nu : Nat → Int32} (h : lf p = 109) : nmOK lf p (upd nu 0 (nI (dgV lf (p + 1) 2))) := by
  refine ⟨?_, fun q => by omega, fun q => by omega⟩
  rw [upd_s, dgV2]; unfold n0F; rw [if_neg (by omega), if_neg (by omega), if_pos h]
theorem nok_f {lf : Nat → Nat} {p : Nat} {nu : Nat → Int32} (h : lf p = 102 ∨ lf p = 104) : nmOK lf p (upd nu 0 (nI (dgV lf (p + 1) 1))) := by
  refine ⟨?_, fun q => by omega, fun q => by omega⟩
  rw [upd_s, dgV1]; unfold n0F; rw [if_neg (by omega), if_neg (by omega), if_neg (by omega)]
noncomputable def z01 (P : Prop) : Int32 := @ite Int32 P (Classical.propDecidable P) 1 0
theorem z1 {P : Prop} (h : P) : nI 1 = z01 P := by unfold z01; rw [if_pos h]; rfl
theorem z0 {P : Prop} (h : ¬ P) : nI 0 = z01 P := by unfold z01; rw [if_neg h]; rfl
theorem z01_0 {P : Prop} (h : z01 P = 0) : ¬ P := fun q => by unfold z01 at h; rw [if_pos q] at h; exact absurd h (by decide)
theorem z01_1 {P : Prop} (h : ¬ z01 P = 0) : P := Classical.byContradiction (fun q => h (by unfold z01; rw [if_neg q]))
theorem z01_b (P : Prop) : z01 P = 0 ∨ z01 P = 1 := by
  by_cases q : P
  · exact Or.inr (z1 q).symm
  · exact Or.inl (z0 q).symm
set_option maxRecDepth 100000 in
set_option maxHeartbeats 4000000 in
theorem kX2_readsStatement (l : Launch) (G : GT) (h0 : Nat) (a1 : Nat) (a2 : Nat) (a3 : Nat) (a4 : Nat) (a5 : Nat) (a6 : Nat) (a7 : Nat) (a8 : Nat) (im : Nat) (lm : Nat) (rm : Nat) (pl : Nat) (sd : Int32) (lf2 : Nat → Nat) (nu : Nat → Int32) (hLF : LOK lf2 lm) (hlm : lm ≤ 96) (hpl : pl ≤ 100) : Ct l yX2_readsStatement cX2_readsStatement 3 (some .boolean) 2 45 [.ref h0] G [(h0, .inr (2, [.ref a1, .ref a2, .ref a3, .ref a4, .int (nI im), .ref a5, .ref a6, .ref a7, .int (nI lm), .int (nI rm), .int (nI pl), .ref a8, .int sd])), (a5, aI G 96 (cN lf2)), (a8, aI G 3 nu)] (QI G [(h0, .inr (2, [.ref a1, .ref a2, .ref a3, .ref a4, .int (nI im), .ref a5, .ref a6, .ref a7, .int (nI lm), .int (nI rm), .int (nI pl), .ref a8, .int sd])), (a5, aI G 96 (cN lf2)), (a8, aI G 3 nu)] (fun (r : Int32) (u : Nat → Int32) => r = z01 (rdB lf2 lm pl) ∧ (rdB lf2 lm pl → nmOK lf2 pl u)) (fun u => [(h0, .inr (2, [.ref a1, .ref a2, .ref a3, .ref a4, .int (nI im), .ref a5, .ref a6, .ref a7, .int (nI lm), .int (nI rm), .int (nI (rdP lf2 lm pl)), .ref a8, .int sd])), (a5, aI G 96 (cN lf2)), (a8, aI G 3 u)])) := by
  refine en (by decide +kernel) (Nat.le_of_ble_eq_true rfl) ?_
  intro p e s m below meth c ls H locs C hl hw
  have xx := C.1
  have xb := C.2.1
  have hw : Wd G (fA [(h0, .inr (2, [.ref a1, .ref a2, .ref a3, .ref a4, .int (nI im), .ref a5, .ref a6, .ref a7, .int (nI lm), .int (nI rm), .int (nI pl), .ref a8, .int sd])), (a5, aI G 96 (cN lf2)), (a8, aI G 3 nu)]) s [(h0, .inr (2, [.ref a1, .ref a2, .ref a3, .ref a4, .int (nI im), .ref a5, .ref a6, .ref a7, .int (nI lm), .int (nI rm), .int (nI pl), .ref a8, .int sd])), (a5, aI G 96 (cN lf2)), (a8, aI G 3 nu)] H locs := hw
  have hl : lv_has ls 3 [(0, .ref h0)] := hl
  refine lv_aload_n xx xb dX2_readsStatement_0 rfl (lv_at hl 0 rfl) ?_
  have hM := kX2_here l G h0 a1 a2 a3 a4 a5 a6 a7 a8 im lm rm pl sd lf2 (by first | assumption | omega) (by first | assumption | omega)
  refine cv_i C hw hM yvX2_here ml_X2_91 0 rfl rfl rfl [0, 1] rfl rfl (fun _ => (rfl : ([h0, a5] : List Nat) = [h0, a5])) (by decide) ⟨Nat.zero_le _, Nat.zero_le _⟩ hl.1 rfl (Nat.le_of_ble_eq_true rfl) dX2_readsStatement_1 (fun r _ H locs hr hw => ?_)
  have hw : Wd G (fA [(h0, .inr (2, [.ref a1, .ref a2, .ref a3, .ref a4, .int (nI im), .ref a5, .ref a6, .ref a7, .int (nI lm), .int (nI rm), .int (nI pl), .ref a8, .int sd])), (a5, aI G 96 (cN lf2)), (a8, aI G 3 nu)]) s [(h0, .inr (2, [.ref a1, .ref a2, .ref a3, .ref a4, .int (nI im), .ref a5, .ref a6, .ref a7, .int (nI lm), .int (nI rm), .int (nI pl), .ref a8, .int sd])), (a5, aI G 96 (cN lf2)), (a8, aI G 3 nu)] H locs := hw
  subst hr
  refine lv_istore_n (lv' := [(1, .int (hrI lf2 lm pl)), (0, .ref h0)]) xx xb dX2_readsStatement_4 rfl hl (by decide) rfl (fun ls hl => ?_)
  refine lv_aload_n xx xb dX2_readsStatement_5 rfl (lv_at hl 1 rfl) ?_
  refine lv_dup xx xb dX2_readsStatement_6 rfl ?_
  refine m_get C hw 0 rfl fk_X2_88 rfl dX2_readsStatement_7 ?_
  refine lv_iconst (v := nI 1) xx xb dX2_readsStatement_10 (by decide) ?_
  refine lv_iadd xx xb dX2_readsStatement_11 ?_
  refine re_i (nI (pl + 1)) (nI_add _ _) ?_
  refine m_put C hw 0 rfl rfl tyX2 tyX2_ok nmX2 fk_X2_88 rfl rfl rfl rfl (Nat.le_of_ble_eq_true rfl) dX2_readsStatement_12 (fun H locs hw => ?_)
  have hw : Wd G (fA [(h0, .inr (2, [.ref a1, .ref a2, .ref a3, .ref a4, .int (nI im), .ref a5, .ref a6, .ref a7, .int (nI lm), .int (nI rm), .int (nI pl), .ref a8, .int sd])), (a5, aI G 96 (cN lf2)), (a8, aI G 3 nu)]) s [(h0, .inr (2, [.ref a1, .ref a2, .ref a3, .ref a4, .int (nI im), .ref a5, .ref a6, .ref a7, .int (nI lm), .int (nI rm), .int (nI (pl + 1)), .ref a8, .int sd])), (a5, aI G 96 (cN lf2)), (a8, aI G 3 nu)] H locs := hw
  refine lv_iload_n xx xb dX2_readsStatement_15 rfl (lv_at hl 0 rfl) ?_
  by_cases k_16_102 : (hrI lf2 lm pl) = nI 102
  · skip
    refine re_i (nI 102) k_16_102 ?_
    refine lv_tableIn (off := 170) (tgt := 186) xx xb dX2_readsStatement_16 (by decide +kernel) (by decide +kernel) (by decide +kernel) (by decide) ?_
    have zz := hd_of (v := 102) (eq_c (hrI_t hLF pl) (tN (by decide)) k_16_102)
    have hsh : shp (hd lf2 lm pl) = [1, 2] := by rw [zz.2.2]; rfl
    refine lv_aload_n xx xb dX2_readsStatement_186 rfl (lv_at hl 1 rfl) ?_
    refine lv_iconst (v := nI 0) xx xb dX2_readsStatement_187 (by decide) ?_
    refine lv_iconst (v := nI 1) xx xb dX2_readsStatement_188 (by decide) ?_
    have hM := kX2_readsNumber l G h0 a1 a2 a3 a4 a5 a6 a7 a8 im lm rm (pl + 1) sd lf2 nu 0 1 (by first | assumption | omega) (by first | assumption | omega) (by first | assumption | omega) (by first | assumption | omega) (by first | assumption | omega)
    refine cv_i C hw hM yvX2_readsNumber ml_X2_102 0 rfl rfl rfl [0, 1, 2] rfl rfl (fun _ => (rfl : ([h0, a5, a8] : List Nat) = [h0, a5, a8])) (by decide) ⟨Nat.zero_le _, Nat.zero_le _⟩ hl.1 rfl (Nat.le_of_ble_eq_true rfl) dX2_readsStatement_189 (fun r u H locs hr hw => ?_)
    obtain ⟨u1, hu1⟩ : ∃ z, z = u := ⟨_, rfl⟩
    subst hu1
    have hw : Wd G (fA [(h0, .inr (2, [.ref a1, .ref a2, .ref a3, .ref a4, .int (nI im), .ref a5, .ref a6, .ref a7, .int (nI lm), .int (nI rm), .int (nI pl), .ref a8, .int sd])), (a5, aI G 96 (cN lf2)), (a8, aI G 3 nu)]) s [(h0, .inr (2, [.ref a1, .ref a2, .ref a3, .ref a4, .int (nI im), .ref a5, .ref a6, .ref a7, .int (nI lm), .int (nI rm), .int (nI ((pl + 1) + dgE lf2 lm (pl + 1) 1)), .ref a8, .int sd])), (a5, aI G 96 (cN lf2)), (a8, aI G 3 u1)] H locs := hw
    obtain ⟨hr, hq1⟩ := hr
    subst hr
    refine lv_istore_n (lv' := [(2, .int (if dgP lf2 lm (pl + 1) 1 = true then 1 else 0)), (1, .int (hrI lf2 lm pl)), (0, .ref h0)]) xx xb dX2_readsStatement_192 rfl hl (by decide) rfl (fun ls hl => ?_)
    refine lv_goto (tgt := 218) xx xb dX2_readsStatement_193 (by decide) ?_
    refine lv_iload_n xx xb dX2_readsStatement_218 rfl (lv_at hl 0 rfl) ?_
    refine lv_if_eq (tgt := 231) xx xb dX2_readsStatement_219 (by decide) (fun c_219 => ?_) (fun c_219 => ?_)
    · skip
      have c_219 := b0_c c_219
      have hdz := dg1N c_219
      refine lv_iconst (v := nI 0) xx xb dX2_readsStatement_231 (by decide) ?_
      have hmt : mtc lf2 lm (pl + 1) [1, 2] = (pl + 1) + dgE lf2 lm (pl + 1) 1 := (mt_d0 c_219)
      have hrd := (rdP_s hsh).trans hmt
      have hrb : ¬ rdB lf2 lm pl := fun q => by have z := (rdB_s hsh).mp q; rw [hmt] at z; simp only [List.length_cons, List.length_nil] at z; omega
      exact rt_z C hw (u1) (Or.inl rfl) (⟨z0 hrb, fun q => absurd q hrb⟩) (by rw [hrd]) dX2_readsStatement_232
    · skip
      have c_219 := b1_c c_219
      have hue := hq1 c_219
      subst hue
      have hw : Wd G (fA [(h0, .inr (2, [.ref a1, .ref a2, .ref a3, .ref a4, .int (nI im), .ref a5, .ref a6, .ref a7, .int (nI lm), .int (nI rm), .int (nI pl), .ref a8, .int sd])), (a5, aI G 96 (cN lf2)), (a8, aI G 3 nu)]) s [(h0, .inr (2, [.ref a1, .ref a2, .ref a3, .ref a4, .int (nI im), .ref a5, .ref a6, .ref a7, .int (nI lm), .int (nI rm), .int (nI (pl + 1 + 1)), .ref a8, .int sd])), (a5, aI G 96 (cN lf2)), (a8, aI G 3 (upd nu 0 (nI (dgV lf2 (pl + 1) 1))))] H locs := by rw [dg1E c_219] at hw; exact hw
      refine lv_aload_n xx xb dX2_readsStatement_222 rfl (lv_at hl 2 rfl) ?_
      have hM := kX2_here l G h0 a1 a2 a3 a4 a5 a6 a7 a8 im lm rm (pl + 1 + 1) sd lf2 (by first | assumption | omega) (by first | assumption | omega)
      refine cv_i C hw hM yvX2_here ml_X2_91 0 rfl rfl rfl [0, 1] rfl rfl (fun _ => (rfl : ([h0, a5] : List Nat) = [h0, a5])) (by decide) ⟨Nat.zero_le _, Nat.zero_le _⟩ hl.1 rfl (Nat.le_of_ble_eq_true rfl) dX2_readsStatement_223 (fun r _ H locs hr hw => ?_)
      have hw : Wd G (fA [(h0, .inr (2, [.ref a1, .ref a2, .ref a3, .ref a4, .int (nI im), .ref a5, .ref a6, .ref a7, .int (nI lm), .int (nI rm), .int (nI pl), .ref a8, .int sd])), (a5, aI G 96 (cN lf2)), (a8, aI G 3 nu)]) s [(h0, .inr (2, [.ref a1, .ref a2, .ref a3, .ref a4, .int (nI im), .ref a5, .ref a6, .ref a7, .int (nI lm), .int (nI rm), .int (nI (pl + 1 + 1)), .ref a8, .int sd])), (a5, aI G 96 (cN lf2)), (a8, aI G 3 (upd nu 0 (nI (dgV lf2 (pl + 1) 1))))] H locs := hw
      subst hr
      refine lv_bipush (v := nI 59) xx xb dX2_readsStatement_226 (by decide) ?_
      refine lv_icmp_eq (tgt := 233) xx xb dX2_readsStatement_228 (by decide) (fun c_228 => ?_) (fun c_228 => ?_)
      · skip
        have c_228 := eq_c (hrI_t hLF (pl + 1 + 1)) (tN (by omega)) c_228
        refine lv_aload_n xx xb dX2_readsStatement_233 rfl (lv_at hl 2 rfl) ?_
        refine lv_dup xx xb dX2_readsStatement_234 rfl ?_
        refine m_get C hw 0 rfl fk_X2_88 rfl dX2_readsStatement_235 ?_
        refine lv_iconst (v := nI 1) xx xb dX2_readsStatement_238 (by decide) ?_
        refine lv_iadd xx xb dX2_readsStatement_239 ?_
        refine re_i (nI ((pl + 1 + 1) + 1)) (nI_add _ _) ?_
        refine m_put C hw 0 rfl rfl tyX2 tyX2_ok nmX2 fk_X2_88 rfl rfl rfl rfl (Nat.le_of_ble_eq_true rfl) dX2_readsStatement_240 (fun H locs hw => ?_)
        have hw : Wd G (fA [(h0, .inr (2, [.ref a1, .ref a2, .ref a3, .ref a4, .int (nI im), .ref a5, .ref a6, .ref a7, .int (nI lm), .int (nI rm), .int (nI pl), .ref a8, .int sd])), (a5, aI G 96 (cN lf2)), (a8, aI G 3 nu)]) s [(h0, .inr (2, [.ref a1, .ref a2, .ref a3, .ref a4, .int (nI im), .ref a5, .ref a6, .ref a7, .int (nI lm), .int (nI rm), .int (nI ((pl + 1 + 1) + 1)), .ref a8, .int sd])), (a5, aI G 96 (cN lf2)), (a8, aI G 3 (upd nu 0 (nI (dgV lf2 (pl + 1) 1))))] H locs := hw
        refine lv_iconst (v := nI 1) xx xb dX2_readsStatement_243 (by decide) ?_
        have hmt : mtc lf2 lm (pl + 1) [1, 2] = (pl + 1 + 1) + 1 := (mt_d1 c_219).trans ((mt_s1 c_228))
        have hrd := (rdP_s hsh).trans hmt
        have hrb : rdB lf2 lm pl := (rdB_s hsh).mpr hmt
        exact rt_z C hw (upd nu 0 (nI (dgV lf2 (pl + 1) 1))) (Or.inr rfl) (⟨z1 hrb, fun _ => nok_f (Or.inl zz.2.1)⟩) (by rw [hrd]) dX2_readsStatement_244
      · skip
        have c_228 := ne_c (hrI_t hLF (pl + 1 + 1)) (tN (by omega)) c_228
        refine lv_iconst (v := nI 0) xx xb dX2_readsStatement_231 (by decide) ?_
        have hmt : mtc lf2 lm (pl + 1) [1, 2] = pl + 1 + 1 := (mt_d1 c_219).trans ((mt_s0 c_228))
        have hrd := (rdP_s hsh).trans hmt
        have hrb : ¬ rdB lf2 lm pl := fun q => by have z := (rdB_s hsh).mp q; rw [hmt] at z; simp only [List.length_cons, List.length_nil] at z; omega
        exact rt_z C hw (upd nu 0 (nI (dgV lf2 (pl + 1) 1))) (Or.inl rfl) (⟨z0 hrb, fun q => absurd q hrb⟩) (by rw [hrd]) dX2_readsStatement_232
  have zk_16_102 := ne_c (hrI_t hLF pl) (tN (by decide)) k_16_102
  by_cases k_16_103 : (hrI lf2 lm pl) = nI 103
  · skip
    refine re_i (nI 103) k_16_103 ?_
    refine lv_tableIn (off := 190) (tgt := 206) xx xb dX2_readsStatement_16 (by decide +kernel) (by decide +kernel) (by decide +kernel) (by decide) ?_
    have zz := eq_c (hrI_t hLF pl) (tN (by decide)) k_16_103
    refine lv_aload_n xx xb dX2_readsStatement_206 rfl (lv_at hl 1 rfl) ?_
    refine lv_dup xx xb dX2_readsStatement_207 rfl ?_
    refine m_get C hw 0 rfl fk_X2_88 rfl dX2_readsStatement_208 ?_
    refine lv_iconst (v := nI 1) xx xb dX2_readsStatement_211 (by decide) ?_
    refine lv_isub xx xb dX2_readsStatement_212 ?_
    refine re_i (nI ((pl + 1) - 1)) (pk_sub (by omega)) ?_
    refine m_put C hw 0 rfl rfl tyX2 tyX2_ok nmX2 fk_X2_88 rfl rfl rfl rfl (Nat.le_of_ble_eq_true rfl) dX2_readsStatement_213 (fun H locs hw => ?_)
    have hw : Wd G (fA [(h0, .inr (2, [.ref a1, .ref a2, .ref a3, .ref a4, .int (nI im), .ref a5, .ref a6, .ref a7, .int (nI lm), .int (nI rm), .int (nI pl), .ref a8, .int sd])), (a5, aI G 96 (cN lf2)), (a8, aI G 3 nu)]) s [(h0, .inr (2, [.ref a1, .ref a2, .ref a3, .ref a4, .int (nI im), .ref a5, .ref a6, .ref a7, .int (nI lm), .int (nI rm), .int (nI ((pl + 1) - 1)), .ref a8, .int sd])), (a5, aI G 96 (cN lf2)), (a8, aI G 3 nu)] H locs := hw
    have hw : Wd G (fA [(h0, .inr (2, [.ref a1, .ref a2, .ref a3, .ref a4, .int (nI im), .ref a5, .ref a6, .ref a7, .int (nI lm), .int (nI rm), .int (nI pl), .ref a8, .int sd])), (a5, aI G 96 (cN lf2)), (a8, aI G 3 nu)]) s [(h0, .inr (2, [.ref a1, .ref a2, .ref a3, .ref a4, .int (nI im), .ref a5, .ref a6, .ref a7, .int (nI lm), .int (nI rm), .int (nI pl), .ref a8, .int sd])), (a5, aI G 96 (cN lf2)), (a8, aI G 3 nu)] H locs := hw
    refine lv_iconst (v := nI 0) xx xb dX2_readsStatement_216 (by decide) ?_
    have hsh : shp (hd lf2 lm pl) = [] := shp_nil (by omega) (by omega) (by omega) (by omega) (by omega) (by omega)
    have hrd : rdP lf2 lm pl = pl := rdP_n hsh
    have hrb : ¬ rdB lf2 lm pl := rdB_n hsh
    exact rt_z C hw (nu) (Or.inl rfl) (⟨z0 hrb, fun q => absurd q hrb⟩) (by rw [hrd]) dX2_readsStatement_217
  have zk_16_103 := ne_c (hrI_t hLF pl) (tN (by decide)) k_16_103
  by_cases k_16_104 : (hrI lf2 lm pl) = nI 104
  · skip
    refine re_i (nI 104) k_16_104 ?_
    refine lv_tableIn (off := 170) (tgt := 186) xx xb dX2_readsStatement_16 (by decide +kernel) (by decide +kernel) (by decide +kernel) (by decide) ?_
    have zz := hd_of (v := 104) (eq_c (hrI_t hLF pl) (tN (by decide)) k_16_104)
    have hsh : shp (hd lf2 lm pl) = [1, 2] := by rw [zz.2.2]; rfl
    refine lv_aload_n xx xb dX2_readsStatement_186 rfl (lv_at hl 1 rfl) ?_
    refine lv_iconst (v := nI 0) xx xb dX2_readsStatement_187 (by decide) ?_
    refine lv_iconst (v := nI 1) xx xb dX2_readsStatement_188 (by decide) ?_
    have hM := kX2_readsNumber l G h0 a1 a2 a3 a4 a5 a6 a7 a8 im lm rm (pl + 1) sd lf2 nu 0 1 (by first | assumption | omega) (by first | assumption | omega) (by first | assumption | omega) (by first | assumption | omega) (by first | assumption | omega)
    refine cv_i C hw hM yvX2_readsNumber ml_X2_102 0 rfl rfl rfl [0, 1, 2] rfl rfl (fun _ => (rfl : ([h0, a5, a8] : List Nat) = [h0, a5, a8])) (by decide) ⟨Nat.zero_le _, Nat.zero_le _⟩ hl.1 rfl (Nat.le_of_ble_eq_true rfl) dX2_readsStatement_189 (fun r u H locs hr hw => ?_)
    obtain ⟨u2, hu2⟩ : ∃ z, z = u := ⟨_, rfl⟩
    subst hu2
    have hw : Wd G (fA [(h0, .inr (2, [.ref a1, .ref a2, .ref a3, .ref a4, .int (nI im), .ref a5, .ref a6, .ref a7, .int (nI lm), .int (nI rm), .int (nI pl), .ref a8, .int sd])), (a5, aI G 96 (cN lf2)), (a8, aI G 3 nu)]) s [(h0, .inr (2, [.ref a1, .ref a2, .ref a3, .ref a4, .int (nI im), .ref a5, .ref a6, .ref a7, .int (nI lm), .int (nI rm), .int (nI ((pl + 1) + dgE lf2 lm (pl + 1) 1)), .ref a8, .int sd])), (a5, aI G 96 (cN lf2)), (a8, aI G 3 u2)] H locs := hw
    obtain ⟨hr, hq2⟩ := hr
    subst hr
    refine lv_istore_n (lv' := [(2, .int (if dgP lf2 lm (pl + 1) 1 = true then 1 else 0)), (1, .int (hrI lf2 lm pl)), (0, .ref h0)]) xx xb dX2_readsStatement_192 rfl hl (by decide) rfl (fun ls hl => ?_)
    refine lv_goto (tgt := 218) xx xb dX2_readsStatement_193 (by decide) ?_
    refine lv_iload_n xx xb dX2_readsStatement_218 rfl (lv_at hl 0 rfl) ?_
    refine lv_if_eq (tgt := 231) xx xb dX2_readsStatement_219 (by decide) (fun c_219 => ?_) (fun c_219 => ?_)
    · skip
      have c_219 := b0_c c_219
      have hdz := dg1N c_219
      refine lv_iconst (v := nI 0) xx xb dX2_readsStatement_231 (by decide) ?_
      have hmt : mtc lf2 lm (pl + 1) [1, 2] = (pl + 1) + dgE lf2 lm (pl + 1) 1 := (mt_d0 c_219)
      have hrd := (rdP_s hsh).trans hmt
      have hrb : ¬ rdB lf2 lm pl := fun q => by have z := (rdB_s hsh).mp q; rw [hmt] at z; simp only [List.length_cons, List.length_nil] at z; omega
      exact rt_z C hw (u2) (Or.inl rfl) (⟨z0 hrb, fun q => absurd q hrb⟩) (by rw [hrd]) dX2_readsStatement_232
    · skip
      have c_219 := b1_c c_219
      have hue := hq2 c_219
      subst hue
      have hw : Wd G (fA [(h0, .inr (2, [.ref a1, .ref a2, .ref a3, .ref a4, .int (nI im), .ref a5, .ref a6, .ref a7, .int (nI lm), .int (nI rm), .int (nI pl), .ref a8, .int sd])), (a5, aI G 96 (cN lf2)), (a8, aI G 3 nu)]) s [(h0, .inr (2, [.ref a1, .ref a2, .ref a3, .ref a4, .int (nI im), .ref a5, .ref a6, .ref a7, .int (nI lm), .int (nI rm), .int (nI (pl + 1 + 1)), .ref a8, .int sd])), (a5, aI G 96 (cN lf2)), (a8, aI G 3 (upd nu 0 (nI (dgV lf2 (pl + 1) 1))))] H locs := by rw [dg1E c_219] at hw; exact hw
      refine lv_aload_n xx xb dX2_readsStatement_222 rfl (lv_at hl 2 rfl) ?_
      have hM := kX2_here l G h0 a1 a2 a3 a4 a5 a6 a7 a8 im lm rm (pl + 1 + 1) sd lf2 (by first | assumption | omega) (by first | assumption | omega)
      refine cv_i C hw hM yvX2_here ml_X2_91 0 rfl rfl rfl [0, 1] rfl rfl (fun _ => (rfl : ([h0, a5] : List Nat) = [h0, a5])) (by decide) ⟨Nat.zero_le _, Nat.zero_le _⟩ hl.1 rfl (Nat.le_of_ble_eq_true rfl) dX2_readsStatement_223 (fun r _ H locs hr hw => ?_)
      have hw : Wd G (fA [(h0, .inr (2, [.ref a1, .ref a2, .ref a3, .ref a4, .int (nI im), .ref a5, .ref a6, .ref a7, .int (nI lm), .int (nI rm), .int (nI pl), .ref a8, .int sd])), (a5, aI G 96 (cN lf2)), (a8, aI G 3 nu)]) s [(h0, .inr (2, [.ref a1, .ref a2, .ref a3, .ref a4, .int (nI im), .ref a5, .ref a6, .ref a7, .int (nI lm), .int (nI rm), .int (nI (pl + 1 + 1)), .ref a8, .int sd])), (a5, aI G 96 (cN lf2)), (a8, aI G 3 (upd nu 0 (nI (dgV lf2 (pl + 1) 1))))] H locs := hw
      subst hr
      refine lv_bipush (v := nI 59) xx xb dX2_readsStatement_226 (by decide) ?_
      refine lv_icmp_eq (tgt := 233) xx xb dX2_readsStatement_228 (by decide) (fun c_228 => ?_) (fun c_228 => ?_)
      · skip
        have c_228 := eq_c (hrI_t hLF (pl + 1 + 1)) (tN (by omega)) c_228
        refine lv_aload_n xx xb dX2_readsStatement_233 rfl (lv_at hl 2 rfl) ?_
        refine lv_dup xx xb dX2_readsStatement_234 rfl ?_
        refine m_get C hw 0 rfl fk_X2_88 rfl dX2_readsStatement_235 ?_
        refine lv_iconst (v := nI 1) xx xb dX2_readsStatement_238 (by decide) ?_
        refine lv_iadd xx xb dX2_readsStatement_239 ?_
        refine re_i (nI ((pl + 1 + 1) + 1)) (nI_add _ _) ?_
        refine m_put C hw 0 rfl rfl tyX2 tyX2_ok nmX2 fk_X2_88 rfl rfl rfl rfl (Nat.le_of_ble_eq_true rfl) dX2_readsStatement_240 (fun H locs hw => ?_)
        have hw : Wd G (fA [(h0, .inr (2, [.ref a1, .ref a2, .ref a3, .ref a4, .int (nI im), .ref a5, .ref a6, .ref a7, .int (nI lm), .int (nI rm), .int (nI pl), .ref a8, .int sd])), (a5, aI G 96 (cN lf2)), (a8, aI G 3 nu)]) s [(h0, .inr (2, [.ref a1, .ref a2, .ref a3, .ref a4, .int (nI im), .ref a5, .ref a6, .ref a7, .int (nI lm), .int (nI rm), .int (nI ((pl + 1 + 1) + 1)), .ref a8, .int sd])), (a5, aI G 96 (cN lf2)), (a8, aI G 3 (upd nu 0 (nI (dgV lf2 (pl + 1) 1))))] H locs := hw
        refine lv_iconst (v := nI 1) xx xb dX2_readsStatement_243 (by decide) ?_
        have hmt : mtc lf2 lm (pl + 1) [1, 2] = (pl + 1 + 1) + 1 := (mt_d1 c_219).trans ((mt_s1 c_228))
        have hrd := (rdP_s hsh).trans hmt
        have hrb : rdB lf2 lm pl := (rdB_s hsh).mpr hmt
        exact rt_z C hw (upd nu 0 (nI (dgV lf2 (pl + 1) 1))) (Or.inr rfl) (⟨z1 hrb, fun _ => nok_f (Or.inr zz.2.1)⟩) (by rw [hrd]) dX2_readsStatement_244
      · skip
        have c_228 := ne_c (hrI_t hLF (pl + 1 + 1)) (tN (by omega)) c_228
        refine lv_iconst (v := nI 0) xx xb dX2_readsStatement_231 (by decide) ?_
        have hmt : mtc lf2 lm (pl + 1) [1, 2] = pl + 1 + 1 := (mt_d1 c_219).trans ((mt_s0 c_228))
        have hrd := (rdP_s hsh).trans hmt
        have hrb : ¬ rdB lf2 lm pl := fun q => by have z := (rdB_s hsh).mp q; rw [hmt] at z; simp only [List.length_cons, List.length_nil] at z; omega
        exact rt_z C hw (upd nu 0 (nI (dgV lf2 (pl + 1) 1))) (Or.inl rfl) (⟨z0 hrb, fun q => absurd q hrb⟩) (by rw [hrd]) dX2_readsStatement_232
  have zk_16_104 := ne_c (hrI_t hLF pl) (tN (by decide)) k_16_104
  by_cases k_16_105 : (hrI lf2 lm pl) = nI 105
  · skip
    refine re_i (nI 105) k_16_105 ?_
    refine lv_tableIn (off := 190) (tgt := 206) xx xb dX2_readsStatement_16 (by decide +kernel) (by decide +kernel) (by decide +kernel) (by decide) ?_
    have zz := eq_c (hrI_t hLF pl) (tN (by decide)) k_16_105
    refine lv_aload_n xx xb dX2_readsStatement_206 rfl (lv_at hl 1 rfl) ?_
    refine lv_dup xx xb dX2_readsStatement_207 rfl ?_
    refine m_get C hw 0 rfl fk_X2_88 rfl dX2_readsStatement_208 ?_
    refine lv_iconst (v := nI 1) xx xb dX2_readsStatement_211 (by decide) ?_
    refine lv_isub xx xb dX2_readsStatement_212 ?_
    refine re_i (nI ((pl + 1) - 1)) (pk_sub (by omega)) ?_
    refine m_put C hw 0 rfl rfl tyX2 tyX2_ok nmX2 fk_X2_88 rfl rfl rfl rfl (Nat.le_of_ble_eq_true rfl) dX2_readsStatement_213 (fun H locs hw => ?_)
    have hw : Wd G (fA [(h0, .inr (2, [.ref a1, .ref a2, .ref a3, .ref a4, .int (nI im), .ref a5, .ref a6, .ref a7, .int (nI lm), .int (nI rm), .int (nI pl), .ref a8, .int sd])), (a5, aI G 96 (cN lf2)), (a8, aI G 3 nu)]) s [(h0, .inr (2, [.ref a1, .ref a2, .ref a3, .ref a4, .int (nI im), .ref a5, .ref a6, .ref a7, .int (nI lm), .int (nI rm), .int (nI ((pl + 1) - 1)), .ref a8, .int sd])), (a5, aI G 96 (cN lf2)), (a8, aI G 3 nu)] H locs := hw
    have hw : Wd G (fA [(h0, .inr (2, [.ref a1, .ref a2, .ref a3, .ref a4, .int (nI im), .ref a5, .ref a6, .ref a7, .int (nI lm), .int (nI rm), .int (nI pl), .ref a8, .int sd])), (a5, aI G 96 (cN lf2)), (a8, aI G 3 nu)]) s [(h0, .inr (2, [.ref a1, .ref a2, .ref a3, .ref a4, .int (nI im), .ref a5, .ref a6, .ref a7, .int (nI lm), .int (nI rm), .int (nI pl), .ref a8, .int sd])), (a5, aI G 96 (cN lf2)), (a8, aI G 3 nu)] H locs := hw
    refine lv_iconst (v := nI 0) xx xb dX2_readsStatement_216 (by decide) ?_
    have hsh : shp (hd lf2 lm pl) = [] := shp_nil (by omega) (by omega) (by omega) (by omega) (by omega) (by omega)
    have hrd : rdP lf2 lm pl = pl := rdP_n hsh
    have hrb : ¬ rdB lf2 lm pl := rdB_n hsh
    exact rt_z C hw (nu) (Or.inl rfl) (⟨z0 hrb, fun q => absurd q hrb⟩) (by rw [hrd]) dX2_readsStatement_217
  have zk_16_105 := ne_c (hrI_t hLF pl) (tN (by decide)) k_16_105
  by_cases k_16_106 : (hrI lf2 lm pl) = nI 106
  · skip
    refine re_i (nI 106) k_16_106 ?_
    refine lv_tableIn (off := 190) (tgt := 206) xx xb dX2_readsStatement_16 (by decide +kernel) (by decide +kernel) (by decide +kernel) (by decide) ?_
    have zz := eq_c (hrI_t hLF pl) (tN (by decide)) k_16_106
    refine lv_aload_n xx xb dX2_readsStatement_206 rfl (lv_at hl 1 rfl) ?_
    refine lv_dup xx xb dX2_readsStatement_207 rfl ?_
    refine m_get C hw 0 rfl fk_X2_88 rfl dX2_readsStatement_208 ?_
    refine lv_iconst (v := nI 1) xx xb dX2_readsStatement_211 (by decide) ?_
    refine lv_isub xx xb dX2_readsStatement_212 ?_
    refine re_i (nI ((pl + 1) - 1)) (pk_sub (by omega)) ?_
    refine m_put C hw 0 rfl rfl tyX2 tyX2_ok nmX2 fk_X2_88 rfl rfl rfl rfl (Nat.le_of_ble_eq_true rfl) dX2_readsStatement_213 (fun H locs hw => ?_)
    have hw : Wd G (fA [(h0, .inr (2, [.ref a1, .ref a2, .ref a3, .ref a4, .int (nI im), .ref a5, .ref a6, .ref a7, .int (nI lm), .int (nI rm), .int (nI pl), .ref a8, .int sd])), (a5, aI G 96 (cN lf2)), (a8, aI G 3 nu)]) s [(h0, .inr (2, [.ref a1, .ref a2, .ref a3, .ref a4, .int (nI im), .ref a5, .ref a6, .ref a7, .int (nI lm), .int (nI rm), .int (nI ((pl + 1) - 1)), .ref a8, .int sd])), (a5, aI G 96 (cN lf2)), (a8, aI G 3 nu)] H locs := hw
    have hw : Wd G (fA [(h0, .inr (2, [.ref a1, .ref a2, .ref a3, .ref a4, .int (nI im), .ref a5, .ref a6, .ref a7, .int (nI lm), .int (nI rm), .int (nI pl), .ref a8, .int sd])), (a5, aI G 96 (cN lf2)), (a8, aI G 3 nu)]) s [(h0, .inr (2, [.ref a1, .ref a2, .ref a3, .ref a4, .int (nI im), .ref a5, .ref a6, .ref a7, .int (nI lm), .int (nI rm), .int (nI pl), .ref a8, .int sd])), (a5, aI G 96 (cN lf2)), (a8, aI G 3 nu)] H locs := hw
    refine lv_iconst (v := nI 0) xx xb dX2_readsStatement_216 (by decide) ?_
    have hsh : shp (hd lf2 lm pl) = [] := shp_nil (by omega) (by omega) (by omega) (by omega) (by omega) (by omega)
    have hrd : rdP lf2 lm pl = pl := rdP_n hsh
    have hrb : ¬ rdB lf2 lm pl := rdB_n hsh
    exact rt_z C hw (nu) (Or.inl rfl) (⟨z0 hrb, fun q => absurd q hrb⟩) (by rw [hrd]) dX2_readsStatement_217
  have zk_16_106 := ne_c (hrI_t hLF pl) (tN (by decide)) k_16_106
  by_cases k_16_107 : (hrI lf2 lm pl) = nI 107
  · skip
    refine re_i (nI 107) k_16_107 ?_
    refine lv_tableIn (off := 190) (tgt := 206) xx xb dX2_readsStatement_16 (by decide +kernel) (by decide +kernel) (by decide +kernel) (by decide) ?_
    have zz := eq_c (hrI_t hLF pl) (tN (by decide)) k_16_107
    refine lv_aload_n xx xb dX2_readsStatement_206 rfl (lv_at hl 1 rfl) ?_
    refine lv_dup xx xb dX2_readsStatement_207 rfl ?_
    refine m_get C hw 0 rfl fk_X2_88 rfl dX2_readsStatement_208 ?_
    refine lv_iconst (v := nI 1) xx xb dX2_readsStatement_211 (by decide) ?_
    refine lv_isub xx xb dX2_readsStatement_212 ?_
    refine re_i (nI ((pl + 1) - 1)) (pk_sub (by omega)) ?_
    refine m_put C hw 0 rfl rfl tyX2 tyX2_ok nmX2 fk_X2_88 rfl rfl rfl rfl (Nat.le_of_ble_eq_true rfl) dX2_readsStatement_213 (fun H locs hw => ?_)
    have hw : Wd G (fA [(h0, .inr (2, [.ref a1, .ref a2, .ref a3, .ref a4, .int (nI im), .ref a5, .ref a6, .ref a7, .int (nI lm), .int (nI rm), .int (nI pl), .ref a8, .int sd])), (a5, aI G 96 (cN lf2)), (a8, aI G 3 nu)]) s [(h0, .inr (2, [.ref a1, .ref a2, .ref a3, .ref a4, .int (nI im), .ref a5, .ref a6, .ref a7, .int (nI lm), .int (nI rm), .int (nI ((pl + 1) - 1)), .ref a8, .int sd])), (a5, aI G 96 (cN lf2)), (a8, aI G 3 nu)] H locs := hw
    have hw : Wd G (fA [(h0, .inr (2, [.ref a1, .ref a2, .ref a3, .ref a4, .int (nI im), .ref a5, .ref a6, .ref a7, .int (nI lm), .int (nI rm), .int (nI pl), .ref a8, .int sd])), (a5, aI G 96 (cN lf2)), (a8, aI G 3 nu)]) s [(h0, .inr (2, [.ref a1, .ref a2, .ref a3, .ref a4, .int (nI im), .ref a5, .ref a6, .ref a7, .int (nI lm), .int (nI rm), .int (nI pl), .ref a8, .int sd])), (a5, aI G 96 (cN lf2)), (a8, aI G 3 nu)] H locs := hw
    refine lv_iconst (v := nI 0) xx xb dX2_readsStatement_216 (by decide) ?_
    have hsh : shp (hd lf2 lm pl) = [] := shp_nil (by omega) (by omega) (by omega) (by omega) (by omega) (by omega)
    have hrd : rdP lf2 lm pl = pl := rdP_n hsh
    have hrb : ¬ rdB lf2 lm pl := rdB_n hsh
    exact rt_z C hw (nu) (Or.inl rfl) (⟨z0 hrb, fun q => absurd q hrb⟩) (by rw [hrd]) dX2_readsStatement_217
  have zk_16_107 := ne_c (hrI_t hLF pl) (tN (by decide)) k_16_107
  by_cases k_16_108 : (hrI lf2 lm pl) = nI 108
  · skip
    refine re_i (nI 108) k_16_108 ?_
    refine lv_tableIn (off := 190) (tgt := 206) xx xb dX2_readsStatement_16 (by decide +kernel) (by decide +kernel) (by decide +kernel) (by decide) ?_
    have zz := eq_c (hrI_t hLF pl) (tN (by decide)) k_16_108
    refine lv_aload_n xx xb dX2_readsStatement_206 rfl (lv_at hl 1 rfl) ?_
    refine lv_dup xx xb dX2_readsStatement_207 rfl ?_
    refine m_get C hw 0 rfl fk_X2_88 rfl dX2_readsStatement_208 ?_
    refine lv_iconst (v := nI 1) xx xb dX2_readsStatement_211 (by decide) ?_
    refine lv_isub xx xb dX2_readsStatement_212 ?_
    refine re_i (nI ((pl + 1) - 1)) (pk_sub (by omega)) ?_
    refine m_put C hw 0 rfl rfl tyX2 tyX2_ok nmX2 fk_X2_88 rfl rfl rfl rfl (Nat.le_of_ble_eq_true rfl) dX2_readsStatement_213 (fun H locs hw => ?_)
    have hw : Wd G (fA [(h0, .inr (2, [.ref a1, .ref a2, .ref a3, .ref a4, .int (nI im), .ref a5, .ref a6, .ref a7, .int (nI lm), .int (nI rm), .int (nI pl), .ref a8, .int sd])), (a5, aI G 96 (cN lf2)), (a8, aI G 3 nu)]) s [(h0, .inr (2, [.ref a1, .ref a2, .ref a3, .ref a4, .int (nI im), .ref a5, .ref a6, .ref a7, .int (nI lm), .int (nI rm), .int (nI ((pl + 1) - 1)), .ref a8, .int sd])), (a5, aI G 96 (cN lf2)), (a8, aI G 3 nu)] H locs := hw
    have hw : Wd G (fA [(h0, .inr (2, [.ref a1, .ref a2, .ref a3, .ref a4, .int (nI im), .ref a5, .ref a6, .ref a7, .int (nI lm), .int (nI rm), .int (nI pl), .ref a8, .int sd])), (a5, aI G 96 (cN lf2)), (a8, aI G 3 nu)]) s [(h0, .inr (2, [.ref a1, .ref a2, .ref a3, .ref a4, .int (nI im), .ref a5, .ref a6, .ref a7, .int (nI lm), .int (nI rm), .int (nI pl), .ref a8, .int sd])), (a5, aI G 96 (cN lf2)), (a8, aI G 3 nu)] H locs := hw
    refine lv_iconst (v := nI 0) xx xb dX2_readsStatement_216 (by decide) ?_
    have hsh : shp (hd lf2 lm pl) = [] := shp_nil (by omega) (by omega) (by omega) (by omega) (by omega) (by omega)
    have hrd : rdP lf2 lm pl = pl := rdP_n hsh
    have hrb : ¬ rdB lf2 lm pl := rdB_n hsh
    exact rt_z C hw (nu) (Or.inl rfl) (⟨z0 hrb, fun q => absurd q hrb⟩) (by rw [hrd]) dX2_readsStatement_217
  have zk_16_108 := ne_c (hrI_t hLF pl) (tN (by decide)) k_16_108
  by_cases k_16_109 : (hrI lf2 lm pl) = nI 109
  · skip
    refine re_i (nI 109) k_16_109 ?_
    refine lv_tableIn (off := 180) (tgt := 196) xx xb dX2_readsStatement_16 (by decide +kernel) (by decide +kernel) (by decide +kernel) (by decide) ?_
    have zz := hd_of (v := 109) (eq_c (hrI_t hLF pl) (tN (by decide)) k_16_109)
    have hsh : shp (hd lf2 lm pl) = [1, 1, 2] := by rw [zz.2.2]; rfl
    refine lv_aload_n xx xb dX2_readsStatement_196 rfl (lv_at hl 1 rfl) ?_
    refine lv_iconst (v := nI 0) xx xb dX2_readsStatement_197 (by decide) ?_
    refine lv_iconst (v := nI 2) xx xb dX2_readsStatement_198 (by decide) ?_
    have hM := kX2_readsNumber l G h0 a1 a2 a3 a4 a5 a6 a7 a8 im lm rm (pl + 1) sd lf2 nu 0 2 (by first | assumption | omega) (by first | assumption | omega) (by first | assumption | omega) (by first | assumption | omega) (by first | assumption | omega)
    refine cv_i C hw hM yvX2_readsNumber ml_X2_102 0 rfl rfl rfl [0, 1, 2] rfl rfl (fun _ => (rfl : ([h0, a5, a8] : List Nat) = [h0, a5, a8])) (by decide) ⟨Nat.zero_le _, Nat.zero_le _⟩ hl.1 rfl (Nat.le_of_ble_eq_true rfl) dX2_readsStatement_199 (fun r u H locs hr hw => ?_)
    obtain ⟨u3, hu3⟩ : ∃ z, z = u := ⟨_, rfl⟩
    subst hu3
    have hw : Wd G (fA [(h0, .inr (2, [.ref a1, .ref a2, .ref a3, .ref a4, .int (nI im), .ref a5, .ref a6, .ref a7, .int (nI lm), .int (nI rm), .int (nI pl), .ref a8, .int sd])), (a5, aI G 96 (cN lf2)), (a8, aI G 3 nu)]) s [(h0, .inr (2, [.ref a1, .ref a2, .ref a3, .ref a4, .int (nI im), .ref a5, .ref a6, .ref a7, .int (nI lm), .int (nI rm), .int (nI ((pl + 1) + dgE lf2 lm (pl + 1) 2)), .ref a8, .int sd])), (a5, aI G 96 (cN lf2)), (a8, aI G 3 u3)] H locs := hw
    obtain ⟨hr, hq3⟩ := hr
    subst hr
    refine lv_istore_n (lv' := [(2, .int (if dgP lf2 lm (pl + 1) 2 = true then 1 else 0)), (1, .int (hrI lf2 lm pl)), (0, .ref h0)]) xx xb dX2_readsStatement_202 rfl hl (by decide) rfl (fun ls hl => ?_)
    refine lv_goto (tgt := 218) xx xb dX2_readsStatement_203 (by decide) ?_
    refine lv_iload_n xx xb dX2_readsStatement_218 rfl (lv_at hl 0 rfl) ?_
    refine lv_if_eq (tgt := 231) xx xb dX2_readsStatement_219 (by decide) (fun c_219 => ?_) (fun c_219 => ?_)
    · skip
      have c_219 := b0_c c_219
      have hdz := dg2N c_219
      refine lv_iconst (v := nI 0) xx xb dX2_readsStatement_231 (by decide) ?_
      have hmt : mtc lf2 lm (pl + 1) [1, 1, 2] = (pl + 1) + dgE lf2 lm (pl + 1) 2 := (mt_d20 c_219)
      have hrd := (rdP_s hsh).trans hmt
      have hrb : ¬ rdB lf2 lm pl := fun q => by have z := (rdB_s hsh).mp q; rw [hmt] at z; simp only [List.length_cons, List.length_nil] at z; omega
      exact rt_z C hw (u3) (Or.inl rfl) (⟨z0 hrb, fun q => absurd q hrb⟩) (by rw [hrd]) dX2_readsStatement_232
    · skip
      have c_219 := b1_c c_219
      have hue := hq3 c_219
      subst hue
      have hw : Wd G (fA [(h0, .inr (2, [.ref a1, .ref a2, .ref a3, .ref a4, .int (nI im), .ref a5, .ref a6, .ref a7, .int (nI lm), .int (nI rm), .int (nI pl), .ref a8, .int sd])), (a5, aI G 96 (cN lf2)), (a8, aI G 3 nu)]) s [(h0, .inr (2, [.ref a1, .ref a2, .ref a3, .ref a4, .int (nI im), .ref a5, .ref a6, .ref a7, .int (nI lm), .int (nI rm), .int (nI (pl + 1 + 1 + 1)), .ref a8, .int sd])), (a5, aI G 96 (cN lf2)), (a8, aI G 3 (upd nu 0 (nI (dgV lf2 (pl + 1) 2))))] H locs := by rw [dg2E c_219] at hw; exact hw
      refine lv_aload_n xx xb dX2_readsStatement_222 rfl (lv_at hl 2 rfl) ?_
      have hM := kX2_here l G h0 a1 a2 a3 a4 a5 a6 a7 a8 im lm rm (pl + 1 + 1 + 1) sd lf2 (by first | assumption | omega) (by first | assumption | omega)
      refine cv_i C hw hM yvX2_here ml_X2_91 0 rfl rfl rfl [0, 1] rfl rfl (fun _ => (rfl : ([h0, a5] : List Nat) = [h0, a5])) (by decide) ⟨Nat.zero_le _, Nat.zero_le _⟩ hl.1 rfl (Nat.le_of_ble_eq_true rfl) dX2_readsStatement_223 (fun r _ H locs hr hw => ?_)
      have hw : Wd G (fA [(h0, .inr (2, [.ref a1, .ref a2, .ref a3, .ref a4, .int (nI im), .ref a5, .ref a6, .ref a7, .int (nI lm), .int (nI rm), .int (nI pl), .ref a8, .int sd])), (a5, aI G 96 (cN lf2)), (a8, aI G 3 nu)]) s [(h0, .inr (2, [.ref a1, .ref a2, .ref a3, .ref a4, .int (nI im), .ref a5, .ref a6, .ref a7, .int (nI lm), .int (nI rm), .int (nI (pl + 1 + 1 + 1)), .ref a8, .int sd])), (a5, aI G 96 (cN lf2)), (a8, aI G 3 (upd nu 0 (nI (dgV lf2 (pl + 1) 2))))] H locs := hw
      subst hr
      refine lv_bipush (v := nI 59) xx xb dX2_readsStatement_226 (by decide) ?_
      refine lv_icmp_eq (tgt := 233) xx xb dX2_readsStatement_228 (by decide) (fun c_228 => ?_) (fun c_228 => ?_)
      · skip
        have c_228 := eq_c (hrI_t hLF (pl + 1 + 1 + 1)) (tN (by omega)) c_228
        refine lv_aload_n xx xb dX2_readsStatement_233 rfl (lv_at hl 2 rfl) ?_
        refine lv_dup xx xb dX2_readsStatement_234 rfl ?_
        refine m_get C hw 0 rfl fk_X2_88 rfl dX2_readsStatement_235 ?_
        refine lv_iconst (v := nI 1) xx xb dX2_readsStatement_238 (by decide) ?_
        refine lv_iadd xx xb dX2_readsStatement_239 ?_
        refine re_i (nI ((pl + 1 + 1 + 1) + 1)) (nI_add _ _) ?_
        refine m_put C hw 0 rfl rfl tyX2 tyX2_ok nmX2 fk_X2_88 rfl rfl rfl rfl (Nat.le_of_ble_eq_true rfl) dX2_readsStatement_240 (fun H locs hw => ?_)
        have hw : Wd G (fA [(h0, .inr (2, [.ref a1, .ref a2, .ref a3, .ref a4, .int (nI im), .ref a5, .ref a6, .ref a7, .int (nI lm), .int (nI rm), .int (nI pl), .ref a8, .int sd])), (a5, aI G 96 (cN lf2)), (a8, aI G 3 nu)]) s [(h0, .inr (2, [.ref a1, .ref a2, .ref a3, .ref a4, .int (nI im), .ref a5, .ref a6, .ref a7, .int (nI lm), .int (nI rm), .int (nI ((pl + 1 + 1 + 1) + 1)), .ref a8, .int sd])), (a5, aI G 96 (cN lf2)), (a8, aI G 3 (upd nu 0 (nI (dgV lf2 (pl + 1) 2))))] H locs := hw
        refine lv_iconst (v := nI 1) xx xb dX2_readsStatement_243 (by decide) ?_
        have hmt : mtc lf2 lm (pl + 1) [1, 1, 2] = (pl + 1 + 1 + 1) + 1 := (mt_d2 c_219).trans ((mt_s1 c_228))
        have hrd := (rdP_s hsh).trans hmt
        have hrb : rdB lf2 lm pl := (rdB_s hsh).mpr hmt
        exact rt_z C hw (upd nu 0 (nI (dgV lf2 (pl + 1) 2))) (Or.inr rfl) (⟨z1 hrb, fun _ => nok_m zz.2.1⟩) (by rw [hrd]) dX2_readsStatement_244
      · skip
        have c_228 := ne_c (hrI_t hLF (pl + 1 + 1 + 1)) (tN (by omega)) c_228
        refine lv_iconst (v := nI 0) xx xb dX2_readsStatement_231 (by decide) ?_
        have hmt : mtc lf2 lm (pl + 1) [1, 1, 2] = pl + 1 + 1 + 1 := (mt_d2 c_219).trans ((mt_s0 c_228))
        have hrd := (rdP_s hsh).trans hmt
        have hrb : ¬ rdB lf2 lm pl := fun q => by have z := (rdB_s hsh).mp q; rw [hmt] at z; simp only [List.length_cons, List.length_nil] at z; omega
        exact rt_z C hw (upd nu 0 (nI (dgV lf2 (pl + 1) 2))) (Or.inl rfl) (⟨z0 hrb, fun q => absurd q hrb⟩) (by rw [hrd]) dX2_readsStatement_232
  have zk_16_109 := ne_c (hrI_t hLF pl) (tN (by decide)) k_16_109
  by_cases k_16_110 : (hrI lf2 lm pl) = nI 110
  · skip
    refine re_i (nI 110) k_16_110 ?_
    refine lv_tableIn (off := 190) (tgt := 206) xx xb dX2_readsStatement_16 (by decide +kernel) (by decide +kernel) (by decide +kernel) (by decide) ?_
    have zz := eq_c (hrI_t hLF pl) (tN (by decide)) k_16_110
    refine lv_aload_n xx xb dX2_readsStatement_206 rfl (lv_at hl 1 rfl) ?_
    refine lv_dup xx xb dX2_readsStatement_207 rfl ?_
    refine m_get C hw 0 rfl fk_X2_88 rfl dX2_readsStatement_208 ?_
    refine lv_iconst (v := nI 1) xx xb dX2_readsStatement_211 (by decide) ?_
    refine lv_isub xx xb dX2_readsStatement_212 ?_
    refine re_i (nI ((pl + 1) - 1)) (pk_sub (by omega)) ?_
    refine m_put C hw 0 rfl rfl tyX2 tyX2_ok nmX2 fk_X2_88 rfl rfl rfl rfl (Nat.le_of_ble_eq_true rfl) dX2_readsStatement_213 (fun H locs hw => ?_)
    have hw : Wd G (fA [(h0, .inr (2, [.ref a1, .ref a2, .ref a3, .ref a4, .int (nI im), .ref a5, .ref a6, .ref a7, .int (nI lm), .int (nI rm), .int (nI pl), .ref a8, .int sd])), (a5, aI G 96 (cN lf2)), (a8, aI G 3 nu)]) s [(h0, .inr (2, [.ref a1, .ref a2, .ref a3, .ref a4, .int (nI im), .ref a5, .ref a6, .ref a7, .int (nI lm), .int (nI rm), .int (nI ((pl + 1) - 1)), .ref a8, .int sd])), (a5, aI G 96 (cN lf2)), (a8, aI G 3 nu)] H locs := hw
    have hw : Wd G (fA [(h0, .inr (2, [.ref a1, .ref a2, .ref a3, .ref a4, .int (nI im), .ref a5, .ref a6, .ref a7, .int (nI lm), .int (nI rm), .int (nI pl), .ref a8, .int sd])), (a5, aI G 96 (cN lf2)), (a8, aI G 3 nu)]) s [(h0, .inr (2, [.ref a1, .ref a2, .ref a3, .ref a4, .int (nI im), .ref a5, .ref a6, .ref a7, .int (nI lm), .int (nI rm), .int (nI pl), .ref a8, .int sd])), (a5, aI G 96 (cN lf2)), (a8, aI G 3 nu)] H locs := hw
    refine lv_iconst (v := nI 0) xx xb dX2_readsStatement_216 (by decide) ?_
    have hsh : shp (hd lf2 lm pl) = [] := shp_nil (by omega) (by omega) (by omega) (by omega) (by omega) (by omega)
    have hrd : rdP lf2 lm pl = pl := rdP_n hsh
    have hrb : ¬ rdB lf2 lm pl := rdB_n hsh
    exact rt_z C hw (nu) (Or.inl rfl) (⟨z0 hrb, fun q => absurd q hrb⟩) (by rw [hrd]) dX2_readsStatement_217
  have zk_16_110 := ne_c (hrI_t hLF pl) (tN (by decide)) k_16_110
  by_cases k_16_111 : (hrI lf2 lm pl) = nI 111
  · skip
    refine re_i (nI 111) k_16_111 ?_
    refine lv_tableIn (off := 109) (tgt := 125) xx xb dX2_readsStatement_16 (by decide +kernel) (by decide +kernel) (by decide +kernel) (by decide) ?_
    have zz := hd_of (v := 111) (eq_c (hrI_t hLF pl) (tN (by decide)) k_16_111)
    have hsh : shp (hd lf2 lm pl) = [0, 1, 1, 2] := by rw [zz.2.2]; rfl
    refine lv_aload_n xx xb dX2_readsStatement_125 rfl (lv_at hl 1 rfl) ?_
    have hM := kX2_readsKind l G h0 a1 a2 a3 a4 a5 a6 a7 a8 im lm rm (pl + 1) sd lf2 nu (by first | assumption | omega) (by first | assumption | omega) (by first | assumption | omega)
    refine cv_i C hw hM yvX2_readsKind ml_X2_98 0 rfl rfl rfl [0, 1, 2] rfl rfl (fun _ => (rfl : ([h0, a5, a8] : List Nat) = [h0, a5, a8])) (by decide) ⟨Nat.zero_le _, Nat.zero_le _⟩ hl.1 rfl (Nat.le_of_ble_eq_true rfl) dX2_readsStatement_126 (fun r _ H locs hr hw => ?_)
    have hw : Wd G (fA [(h0, .inr (2, [.ref a1, .ref a2, .ref a3, .ref a4, .int (nI im), .ref a5, .ref a6, .ref a7, .int (nI lm), .int (nI rm), .int (nI pl), .ref a8, .int sd])), (a5, aI G 96 (cN lf2)), (a8, aI G 3 nu)]) s [(h0, .inr (2, [.ref a1, .ref a2, .ref a3, .ref a4, .int (nI im), .ref a5, .ref a6, .ref a7, .int (nI lm), .int (nI rm), .int (nI ((pl + 1) + (if kd (hd lf2 lm (pl + 1)) < 10 then 1 else 0))), .ref a8, .int sd])), (a5, aI G 96 (cN lf2)), (a8, aI G 3 (upd nu 0 (onI (kd (hd lf2 lm (pl + 1))))))] H locs := hw
    subst hr
    refine lv_if_eq (tgt := 154) xx xb dX2_readsStatement_129 (by decide) (fun c_129 => ?_) (fun c_129 => ?_)
    · skip
      have c_129 := b0_c c_129
      have hw : Wd G (fA [(h0, .inr (2, [.ref a1, .ref a2, .ref a3, .ref a4, .int (nI im), .ref a5, .ref a6, .ref a7, .int (nI lm), .int (nI rm), .int (nI pl), .ref a8, .int sd])), (a5, aI G 96 (cN lf2)), (a8, aI G 3 nu)]) s [(h0, .inr (2, [.ref a1, .ref a2, .ref a3, .ref a4, .int (nI im), .ref a5, .ref a6, .ref a7, .int (nI lm), .int (nI rm), .int (nI (pl + 1)), .ref a8, .int sd])), (a5, aI G 96 (cN lf2)), (a8, aI G 3 (upd nu 0 (onI (kd (hd lf2 lm (pl + 1))))))] H locs := by rw [if_neg c_129] at hw; exact hw
      refine lv_iconst (v := nI 0) xx xb dX2_readsStatement_154 (by decide) ?_
      refine lv_istore_n (lv' := [(2, .int (nI 0)), (1, .int (hrI lf2 lm pl)), (0, .ref h0)]) xx xb dX2_readsStatement_155 rfl hl (by decide) rfl (fun ls hl => ?_)
      refine lv_goto (tgt := 218) xx xb dX2_readsStatement_156 (by decide) ?_
      refine lv_iload_n xx xb dX2_readsStatement_218 rfl (lv_at hl 0 rfl) ?_
      refine lv_if_eq (tgt := 231) xx xb dX2_readsStatement_219 (by decide) (fun c_219 => ?_) (fun c_219 => ?_)
      · skip
        refine lv_iconst (v := nI 0) xx xb dX2_readsStatement_231 (by decide) ?_
        have hmt : mtc lf2 lm (pl + 1) [0, 1, 1, 2] = pl + 1 := (mt_k0 c_129)
        have hrd := (rdP_s hsh).trans hmt
        have hrb : ¬ rdB lf2 lm pl := fun q => by have z := (rdB_s hsh).mp q; rw [hmt] at z; simp only [List.length_cons, List.length_nil] at z; omega
        exact rt_z C hw (upd nu 0 (onI (kd (hd lf2 lm (pl + 1))))) (Or.inl rfl) (⟨z0 hrb, fun q => absurd q hrb⟩) (by rw [hrd]) dX2_readsStatement_232
      · skip
        exact absurd (by decide) c_219
    · skip
      have c_129 := b1_c c_129
      have hw : Wd G (fA [(h0, .inr (2, [.ref a1, .ref a2, .ref a3, .ref a4, .int (nI im), .ref a5, .ref a6, .ref a7, .int (nI lm), .int (nI rm), .int (nI pl), .ref a8, .int sd])), (a5, aI G 96 (cN lf2)), (a8, aI G 3 nu)]) s [(h0, .inr (2, [.ref a1, .ref a2, .ref a3, .ref a4, .int (nI im), .ref a5, .ref a6, .ref a7, .int (nI lm), .int (nI rm), .int (nI (pl + 1 + 1)), .ref a8, .int sd])), (a5, aI G 96 (cN lf2)), (a8, aI G 3 (upd nu 0 (onI (kd (hd lf2 lm (pl + 1))))))] H locs := by rw [if_pos c_129] at hw; exact hw
      refine lv_aload_n xx xb dX2_readsStatement_132 rfl (lv_at hl 1 rfl) ?_
      refine lv_iconst (v := nI 1) xx xb dX2_readsStatement_133 (by decide) ?_
      refine lv_iconst (v := nI 1) xx xb dX2_readsStatement_134 (by decide) ?_
      have hM := kX2_readsNumber l G h0 a1 a2 a3 a4 a5 a6 a7 a8 im lm rm (pl + 1 + 1) sd lf2 (upd nu 0 (onI (kd (hd lf2 lm (pl + 1))))) 1 1 (by first | assumption | omega) (by first | assumption | omega) (by first | assumption | omega) (by first | assumption | omega) (by first | assumption | omega)
      refine cv_i C hw hM yvX2_readsNumber ml_X2_102 0 rfl rfl rfl [0, 1, 2] rfl rfl (fun _ => (rfl : ([h0, a5, a8] : List Nat) = [h0, a5, a8])) (by decide) ⟨Nat.zero_le _, Nat.zero_le _⟩ hl.1 rfl (Nat.le_of_ble_eq_true rfl) dX2_readsStatement_135 (fun r u H locs hr hw => ?_)
      obtain ⟨u4, hu4⟩ : ∃ z, z = u := ⟨_, rfl⟩
      subst hu4
      have hw : Wd G (fA [(h0, .inr (2, [.ref a1, .ref a2, .ref a3, .ref a4, .int (nI im), .ref a5, .ref a6, .ref a7, .int (nI lm), .int (nI rm), .int (nI pl), .ref a8, .int sd])), (a5, aI G 96 (cN lf2)), (a8, aI G 3 nu)]) s [(h0, .inr (2, [.ref a1, .ref a2, .ref a3, .ref a4, .int (nI im), .ref a5, .ref a6, .ref a7, .int (nI lm), .int (nI rm), .int (nI ((pl + 1 + 1) + dgE lf2 lm (pl + 1 + 1) 1)), .ref a8, .int sd])), (a5, aI G 96 (cN lf2)), (a8, aI G 3 u4)] H locs := hw
      obtain ⟨hr, hq4⟩ := hr
      subst hr
      refine lv_if_eq (tgt := 154) xx xb dX2_readsStatement_138 (by decide) (fun c_138 => ?_) (fun c_138 => ?_)
      · skip
        have c_138 := b0_c c_138
        have hdz := dg1N c_138
        refine lv_iconst (v := nI 0) xx xb dX2_readsStatement_154 (by decide) ?_
        refine lv_istore_n (lv' := [(2, .int (nI 0)), (1, .int (hrI lf2 lm pl)), (0, .ref h0)]) xx xb dX2_readsStatement_155 rfl hl (by decide) rfl (fun ls hl => ?_)
        refine lv_goto (tgt := 218) xx xb dX2_readsStatement_156 (by decide) ?_
        refine lv_iload_n xx xb dX2_readsStatement_218 rfl (lv_at hl 0 rfl) ?_
        refine lv_if_eq (tgt := 231) xx xb dX2_readsStatement_219 (by decide) (fun c_219 => ?_) (fun c_219 => ?_)
        · skip
          refine lv_iconst (v := nI 0) xx xb dX2_readsStatement_231 (by decide) ?_
          have hmt : mtc lf2 lm (pl + 1) [0, 1, 1, 2] = (pl + 1 + 1) + dgE lf2 lm (pl + 1 + 1) 1 := (mt_k1 c_129).trans ((mt_d0 c_138))
          have hrd := (rdP_s hsh).trans hmt
          have hrb : ¬ rdB lf2 lm pl := fun q => by have z := (rdB_s hsh).mp q; rw [hmt] at z; simp only [List.length_cons, List.length_nil] at z; omega
          exact rt_z C hw (u4) (Or.inl rfl) (⟨z0 hrb, fun q => absurd q hrb⟩) (by rw [hrd]) dX2_readsStatement_232
        · skip
          exact absurd (by decide) c_219
      · skip
        have c_138 := b1_c c_138
        have hue := hq4 c_138
        subst hue
        have hw : Wd G (fA [(h0, .inr (2, [.ref a1, .ref a2, .ref a3, .ref a4, .int (nI im), .ref a5, .ref a6, .ref a7, .int (nI lm), .int (nI rm), .int (nI pl), .ref a8, .int sd])), (a5, aI G 96 (cN lf2)), (a8, aI G 3 nu)]) s [(h0, .inr (2, [.ref a1, .ref a2, .ref a3, .ref a4, .int (nI im), .ref a5, .ref a6, .ref a7, .int (nI lm), .int (nI rm), .int (nI (pl + 1 + 1 + 1)), .ref a8, .int sd])), (a5, aI G 96 (cN lf2)), (a8, aI G 3 (upd (upd nu 0 (onI (kd (hd lf2 lm (pl + 1))))) 1 (nI (dgV lf2 (pl + 1 + 1) 1))))] H locs := by rw [dg1E c_138] at hw; exact hw
        refine lv_aload_n xx xb dX2_readsStatement_141 rfl (lv_at hl 1 rfl) ?_
        refine lv_iconst (v := nI 2) xx xb dX2_readsStatement_142 (by decide) ?_
        refine lv_iconst (v := nI 1) xx xb dX2_readsStatement_143 (by decide) ?_
        have hM := kX2_readsNumber l G h0 a1 a2 a3 a4 a5 a6 a7 a8 im lm rm (pl + 1 + 1 + 1) sd lf2 (upd (upd nu 0 (onI (kd (hd lf2 lm (pl + 1))))) 1 (nI (dgV lf2 (pl + 1 + 1) 1))) 2 1 (by first | assumption | omega) (by first | assumption | omega) (by first | assumption | omega) (by first | assumption | omega) (by first | assumption | omega)
        refine cv_i C hw hM yvX2_readsNumber ml_X2_102 0 rfl rfl rfl [0, 1, 2] rfl rfl (fun _ => (rfl : ([h0, a5, a8] : List Nat) = [h0, a5, a8])) (by decide) ⟨Nat.zero_le _, Nat.zero_le _⟩ hl.1 rfl (Nat.le_of_ble_eq_true rfl) dX2_readsStatement_144 (fun r u H locs hr hw => ?_)
        obtain ⟨u5, hu5⟩ : ∃ z, z = u := ⟨_, rfl⟩
        subst hu5
        have hw : Wd G (fA [(h0, .inr (2, [.ref a1, .ref a2, .ref a3, .ref a4, .int (nI im), .ref a5, .ref a6, .ref a7, .int (nI lm), .int (nI rm), .int (nI pl), .ref a8, .int sd])), (a5, aI G 96 (cN lf2)), (a8, aI G 3 nu)]) s [(h0, .inr (2, [.ref a1, .ref a2, .ref a3, .ref a4, .int (nI im), .ref a5, .ref a6, .ref a7, .int (nI lm), .int (nI rm), .int (nI ((pl + 1 + 1 + 1) + dgE lf2 lm (pl + 1 + 1 + 1) 1)), .ref a8, .int sd])), (a5, aI G 96 (cN lf2)), (a8, aI G 3 u5)] H locs := hw
        obtain ⟨hr, hq5⟩ := hr
        subst hr
        refine lv_if_eq (tgt := 154) xx xb dX2_readsStatement_147 (by decide) (fun c_147 => ?_) (fun c_147 => ?_)
        · skip
          have c_147 := b0_c c_147
          have hdz := dg1N c_147
          refine lv_iconst (v := nI 0) xx xb dX2_readsStatement_154 (by decide) ?_
          refine lv_istore_n (lv' := [(2, .int (nI 0)), (1, .int (hrI lf2 lm pl)), (0, .ref h0)]) xx xb dX2_readsStatement_155 rfl hl (by decide) rfl (fun ls hl => ?_)
          refine lv_goto (tgt := 218) xx xb dX2_readsStatement_156 (by decide) ?_
          refine lv_iload_n xx xb dX2_readsStatement_218 rfl (lv_at hl 0 rfl) ?_
          refine lv_if_eq (tgt := 231) xx xb dX2_readsStatement_219 (by decide) (fun c_219 => ?_) (fun c_219 => ?_)
          · skip
            refine lv_iconst (v := nI 0) xx xb dX2_readsStatement_231 (by decide) ?_
            have hmt : mtc lf2 lm (pl + 1) [0, 1, 1, 2] = (pl + 1 + 1 + 1) + dgE lf2 lm (pl + 1 + 1 + 1) 1 := (mt_k1 c_129).trans ((mt_d1 c_138).trans ((mt_d0 c_147)))
            have hrd := (rdP_s hsh).trans hmt
            have hrb : ¬ rdB lf2 lm pl := fun q => by have z := (rdB_s hsh).mp q; rw [hmt] at z; simp only [List.length_cons, List.length_nil] at z; omega
            exact rt_z C hw (u5) (Or.inl rfl) (⟨z0 hrb, fun q => absurd q hrb⟩) (by rw [hrd]) dX2_readsStatement_232
          · skip
            exact absurd (by decide) c_219
        · skip
          have c_147 := b1_c c_147
          have hue := hq5 c_147
          subst hue
          have hw : Wd G (fA [(h0, .inr (2, [.ref a1, .ref a2, .ref a3, .ref a4, .int (nI im), .ref a5, .ref a6, .ref a7, .int (nI lm), .int (nI rm), .int (nI pl), .ref a8, .int sd])), (a5, aI G 96 (cN lf2)), (a8, aI G 3 nu)]) s [(h0, .inr (2, [.ref a1, .ref a2, .ref a3, .ref a4, .int (nI im), .ref a5, .ref a6, .ref a7, .int (nI lm), .int (nI rm), .int (nI (pl + 1 + 1 + 1 + 1)), .ref a8, .int sd])), (a5, aI G 96 (cN lf2)), (a8, aI G 3 (upd (upd (upd nu 0 (onI (kd (hd lf2 lm (pl + 1))))) 1 (nI (dgV lf2 (pl + 1 + 1) 1))) 2 (nI (dgV lf2 (pl + 1 + 1 + 1) 1))))] H locs := by rw [dg1E c_147] at hw; exact hw
          refine lv_iconst (v := nI 1) xx xb dX2_readsStatement_150 (by decide) ?_
          refine lv_goto (tgt := 155) xx xb dX2_readsStatement_151 (by decide) ?_
          refine lv_istore_n (lv' := [(2, .int (nI 1)), (1, .int (hrI lf2 lm pl)), (0, .ref h0)]) xx xb dX2_readsStatement_155 rfl hl (by decide) rfl (fun ls hl => ?_)
          refine lv_goto (tgt := 218) xx xb dX2_readsStatement_156 (by decide) ?_
          refine lv_iload_n xx xb dX2_readsStatement_218 rfl (lv_at hl 0 rfl) ?_
          refine lv_if_eq (tgt := 231) xx xb dX2_readsStatement_219 (by decide) (fun c_219 => ?_) (fun c_219 => ?_)
          · skip
            exact absurd c_219 (by decide)
          · skip
            refine lv_aload_n xx xb dX2_readsStatement_222 rfl (lv_at hl 2 rfl) ?_
            have hM := kX2_here l G h0 a1 a2 a3 a4 a5 a6 a7 a8 im lm rm (pl + 1 + 1 + 1 + 1) sd lf2 (by first | assumption | omega) (by first | assumption | omega)
            refine cv_i C hw hM yvX2_here ml_X2_91 0 rfl rfl rfl [0, 1] rfl rfl (fun _ => (rfl : ([h0, a5] : List Nat) = [h0, a5])) (by decide) ⟨Nat.zero_le _, Nat.zero_le _⟩ hl.1 rfl (Nat.le_of_ble_eq_true rfl) dX2_readsStatement_223 (fun r _ H locs hr hw => ?_)
            have hw : Wd G (fA [(h0, .inr (2, [.ref a1, .ref a2, .ref a3, .ref a4, .int (nI im), .ref a5, .ref a6, .ref a7, .int (nI lm), .int (nI rm), .int (nI pl), .ref a8, .int sd])), (a5, aI G 96 (cN lf2)), (a8, aI G 3 nu)]) s [(h0, .inr (2, [.ref a1, .ref a2, .ref a3, .ref a4, .int (nI im), .ref a5, .ref a6, .ref a7, .int (nI lm), .int (nI rm), .int (nI (pl + 1 + 1 + 1 + 1)), .ref a8, .int sd])), (a5, aI G 96 (cN lf2)), (a8, aI G 3 (upd (upd (upd nu 0 (onI (kd (hd lf2 lm (pl + 1))))) 1 (nI (dgV lf2 (pl + 1 + 1) 1))) 2 (nI (dgV lf2 (pl + 1 + 1 + 1) 1))))] H locs := hw
            subst hr
            refine lv_bipush (v := nI 59) xx xb dX2_readsStatement_226 (by decide) ?_
            refine lv_icmp_eq (tgt := 233) xx xb dX2_readsStatement_228 (by decide) (fun c_228 => ?_) (fun c_228 => ?_)
            · skip
              have c_228 := eq_c (hrI_t hLF (pl + 1 + 1 + 1 + 1)) (tN (by omega)) c_228
              refine lv_aload_n xx xb dX2_readsStatement_233 rfl (lv_at hl 2 rfl) ?_
              refine lv_dup xx xb dX2_readsStatement_234 rfl ?_
              refine m_get C hw 0 rfl fk_X2_88 rfl dX2_readsStatement_235 ?_
              refine lv_iconst (v := nI 1) xx xb dX2_readsStatement_238 (by decide) ?_
              refine lv_iadd xx xb dX2_readsStatement_239 ?_
              refine re_i (nI ((pl + 1 + 1 + 1 + 1) + 1)) (nI_add _ _) ?_
              refine m_put C hw 0 rfl rfl tyX2 tyX2_ok nmX2 fk_X2_88 rfl rfl rfl rfl (Nat.le_of_ble_eq_true rfl) dX2_readsStatement_240 (fun H locs hw => ?_)
              have hw : Wd G (fA [(h0, .inr (2, [.ref a1, .ref a2, .ref a3, .ref a4, .int (nI im), .ref a5, .ref a6, .ref a7, .int (nI lm), .int (nI rm), .int (nI pl), .ref a8, .int sd])), (a5, aI G 96 (cN lf2)), (a8, aI G 3 nu)]) s [(h0, .inr (2, [.ref a1, .ref a2, .ref a3, .ref a4, .int (nI im), .ref a5, .ref a6, .ref a7, .int (nI lm), .int (nI rm), .int (nI ((pl + 1 + 1 + 1 + 1) + 1)), .ref a8, .int sd])), (a5, aI G 96 (cN lf2)), (a8, aI G 3 (upd (upd (upd nu 0 (onI (kd (hd lf2 lm (pl + 1))))) 1 (nI (dgV lf2 (pl + 1 + 1) 1))) 2 (nI (dgV lf2 (pl + 1 + 1 + 1) 1))))] H locs := hw
              refine lv_iconst (v := nI 1) xx xb dX2_readsStatement_243 (by decide) ?_
              have hmt : mtc lf2 lm (pl + 1) [0, 1, 1, 2] = (pl + 1 + 1 + 1 + 1) + 1 := (mt_k1 c_129).trans ((mt_d1 c_138).trans ((mt_d1 c_147).trans ((mt_s1 c_228))))
              have hrd := (rdP_s hsh).trans hmt
              have hrb : rdB lf2 lm pl := (rdB_s hsh).mpr hmt
              exact rt_z C hw (upd (upd (upd nu 0 (onI (kd (hd lf2 lm (pl + 1))))) 1 (nI (dgV lf2 (pl + 1 + 1) 1))) 2 (nI (dgV lf2 (pl + 1 + 1 + 1) 1))) (Or.inr rfl) (⟨z1 hrb, fun _ => nok_o zz.2.1 c_129 c_147⟩) (by rw [hrd]) dX2_readsStatement_244
            · skip
              have c_228 := ne_c (hrI_t hLF (pl + 1 + 1 + 1 + 1)) (tN (by omega)) c_228
              refine lv_iconst (v := nI 0) xx xb dX2_readsStatement_231 (by decide) ?_
              have hmt : mtc lf2 lm (pl + 1) [0, 1, 1, 2] = pl + 1 + 1 + 1 + 1 := (mt_k1 c_129).trans ((mt_d1 c_138).trans ((mt_d1 c_147).trans ((mt_s0 c_228))))
              have hrd := (rdP_s hsh).trans hmt
              have hrb : ¬ rdB lf2 lm pl := fun q => by have z := (rdB_s hsh).mp q; rw [hmt] at z; simp only [List.length_cons, List.length_nil] at z; omega
              exact rt_z C hw (upd (upd (upd nu 0 (onI (kd (hd lf2 lm (pl + 1))))) 1 (nI (dgV lf2 (pl + 1 + 1) 1))) 2 (nI (dgV lf2 (pl + 1 + 1 + 1) 1))) (Or.inl rfl) (⟨z0 hrb, fun q => absurd q hrb⟩) (by rw [hrd]) dX2_readsStatement_232
  have zk_16_111 := ne_c (hrI_t hLF pl) (tN (by decide)) k_16_111
  by_cases k_16_112 : (hrI lf2 lm pl) = nI 112
  · skip
    refine re_i (nI 112) k_16_112 ?_
    refine lv_tableIn (off := 143) (tgt := 159) xx xb dX2_readsStatement_16 (by decide +kernel) (by decide +kernel) (by decide +kernel) (by decide) ?_
    have zz := hd_of (v := 112) (eq_c (hrI_t hLF pl) (tN (by decide)) k_16_112)
    have hsh : shp (hd lf2 lm pl) = [1, 1, 2] := by rw [zz.2.2]; rfl
    refine lv_aload_n xx xb dX2_readsStatement_159 rfl (lv_at hl 1 rfl) ?_
    refine lv_iconst (v := nI 0) xx xb dX2_readsStatement_160 (by decide) ?_
    refine lv_iconst (v := nI 1) xx xb dX2_readsStatement_161 (by decide) ?_
    have hM := kX2_readsNumber l G h0 a1 a2 a3 a4 a5 a6 a7 a8 im lm rm (pl + 1) sd lf2 nu 0 1 (by first | assumption | omega) (by first | assumption | omega) (by first | assumption | omega) (by first | assumption | omega) (by first | assumption | omega)
    refine cv_i C hw hM yvX2_readsNumber ml_X2_102 0 rfl rfl rfl [0, 1, 2] rfl rfl (fun _ => (rfl : ([h0, a5, a8] : List Nat) = [h0, a5, a8])) (by decide) ⟨Nat.zero_le _, Nat.zero_le _⟩ hl.1 rfl (Nat.le_of_ble_eq_true rfl) dX2_readsStatement_162 (fun r u H locs hr hw => ?_)
    obtain ⟨u6, hu6⟩ : ∃ z, z = u := ⟨_, rfl⟩
    subst hu6
    have hw : Wd G (fA [(h0, .inr (2, [.ref a1, .ref a2, .ref a3, .ref a4, .int (nI im), .ref a5, .ref a6, .ref a7, .int (nI lm), .int (nI rm), .int (nI pl), .ref a8, .int sd])), (a5, aI G 96 (cN lf2)), (a8, aI G 3 nu)]) s [(h0, .inr (2, [.ref a1, .ref a2, .ref a3, .ref a4, .int (nI im), .ref a5, .ref a6, .ref a7, .int (nI lm), .int (nI rm), .int (nI ((pl + 1) + dgE lf2 lm (pl + 1) 1)), .ref a8, .int sd])), (a5, aI G 96 (cN lf2)), (a8, aI G 3 u6)] H locs := hw
    obtain ⟨hr, hq6⟩ := hr
    subst hr
    refine lv_if_eq (tgt := 181) xx xb dX2_readsStatement_165 (by decide) (fun c_165 => ?_) (fun c_165 => ?_)
    · skip
      have c_165 := b0_c c_165
      have hdz := dg1N c_165
      refine lv_iconst (v := nI 0) xx xb dX2_readsStatement_181 (by decide) ?_
      refine lv_istore_n (lv' := [(2, .int (nI 0)), (1, .int (hrI lf2 lm pl)), (0, .ref h0)]) xx xb dX2_readsStatement_182 rfl hl (by decide) rfl (fun ls hl => ?_)
      refine lv_goto (tgt := 218) xx xb dX2_readsStatement_183 (by decide) ?_
      refine lv_iload_n xx xb dX2_readsStatement_218 rfl (lv_at hl 0 rfl) ?_
      refine lv_if_eq (tgt := 231) xx xb dX2_readsStatement_219 (by decide) (fun c_219 => ?_) (fun c_219 => ?_)
      · skip
        refine lv_iconst (v := nI 0) xx xb dX2_readsStatement_231 (by decide) ?_
        have hmt : mtc lf2 lm (pl + 1) [1, 1, 2] = (pl + 1) + dgE lf2 lm (pl + 1) 1 := (mt_d0 c_165)
        have hrd := (rdP_s hsh).trans hmt
        have hrb : ¬ rdB lf2 lm pl := fun q => by have z := (rdB_s hsh).mp q; rw [hmt] at z; simp only [List.length_cons, List.length_nil] at z; omega
        exact rt_z C hw (u6) (Or.inl rfl) (⟨z0 hrb, fun q => absurd q hrb⟩) (by rw [hrd]) dX2_readsStatement_232
      · skip
        exact absurd (by decide) c_219
    · skip
      have c_165 := b1_c c_165
      have hue := hq6 c_165
      subst hue
      have hw : Wd G (fA [(h0, .inr (2, [.ref a1, .ref a2, .ref a3, .ref a4, .int (nI im), .ref a5, .ref a6, .ref a7, .int (nI lm), .int (nI rm), .int (nI pl), .ref a8, .int sd])), (a5, aI G 96 (cN lf2)), (a8, aI G 3 nu)]) s [(h0, .inr (2, [.ref a1, .ref a2, .ref a3, .ref a4, .int (nI im), .ref a5, .ref a6, .ref a7, .int (nI lm), .int (nI rm), .int (nI (pl + 1 + 1)), .ref a8, .int sd])), (a5, aI G 96 (cN lf2)), (a8, aI G 3 (upd nu 0 (nI (dgV lf2 (pl + 1) 1))))] H locs := by rw [dg1E c_165] at hw; exact hw
      refine lv_aload_n xx xb dX2_readsStatement_168 rfl (lv_at hl 1 rfl) ?_
      refine lv_iconst (v := nI 1) xx xb dX2_readsStatement_169 (by decide) ?_
      refine lv_iconst (v := nI 1) xx xb dX2_readsStatement_170 (by decide) ?_
      have hM := kX2_readsNumber l G h0 a1 a2 a3 a4 a5 a6 a7 a8 im lm rm (pl + 1 + 1) sd lf2 (upd nu 0 (nI (dgV lf2 (pl + 1) 1))) 1 1 (by first | assumption | omega) (by first | assumption | omega) (by first | assumption | omega) (by first | assumption | omega) (by first | assumption | omega)
      refine cv_i C hw hM yvX2_readsNumber ml_X2_102 0 rfl rfl rfl [0, 1, 2] rfl rfl (fun _ => (rfl : ([h0, a5, a8] : List Nat) = [h0, a5, a8])) (by decide) ⟨Nat.zero_le _, Nat.zero_le _⟩ hl.1 rfl (Nat.le_of_ble_eq_true rfl) dX2_readsStatement_171 (fun r u H locs hr hw => ?_)
      obtain ⟨u7, hu7⟩ : ∃ z, z = u := ⟨_, rfl⟩
      subst hu7
      have hw : Wd G (fA [(h0, .inr (2, [.ref a1, .ref a2, .ref a3, .ref a4, .int (nI im), .ref a5, .ref a6, .ref a7, .int (nI lm), .int (nI rm), .int (nI pl), .ref a8, .int sd])), (a5, aI G 96 (cN lf2)), (a8, aI G 3 nu)]) s [(h0, .inr (2, [.ref a1, .ref a2, .ref a3, .ref a4, .int (nI im), .ref a5, .ref a6, .ref a7, .int (nI lm), .int (nI rm), .int (nI ((pl + 1 + 1) + dgE lf2 lm (pl + 1 + 1) 1)), .ref a8, .int sd])), (a5, aI G 96 (cN lf2)), (a8, aI G 3 u7)] H locs := hw
      obtain ⟨hr, hq7⟩ := hr
      subst hr
      refine lv_if_eq (tgt := 181) xx xb dX2_readsStatement_174 (by decide) (fun c_174 => ?_) (fun c_174 => ?_)
      · skip
        have c_174 := b0_c c_174
        have hdz := dg1N c_174
        refine lv_iconst (v := nI 0) xx xb dX2_readsStatement_181 (by decide) ?_
        refine lv_istore_n (lv' := [(2, .int (nI 0)), (1, .int (hrI lf2 lm pl)), (0, .ref h0)]) xx xb dX2_readsStatement_182 rfl hl (by decide) rfl (fun ls hl => ?_)
        refine lv_goto (tgt := 218) xx xb dX2_readsStatement_183 (by decide) ?_
        refine lv_iload_n xx xb dX2_readsStatement_218 rfl (lv_at hl 0 rfl) ?_
        refine lv_if_eq (tgt := 231) xx xb dX2_readsStatement_219 (by decide) (fun c_219 => ?_) (fun c_219 => ?_)
        · skip
          refine lv_iconst (v := nI 0) xx xb dX2_readsStatement_231 (by decide) ?_
          have hmt : mtc lf2 lm (pl + 1) [1, 1, 2] = (pl + 1 + 1) + dgE lf2 lm (pl + 1 + 1) 1 := (mt_d1 c_165).trans ((mt_d0 c_174))
          have hrd := (rdP_s hsh).trans hmt
          have hrb : ¬ rdB lf2 lm pl := fun q => by have z := (rdB_s hsh).mp q; rw [hmt] at z; simp only [List.length_cons, List.length_nil] at z; omega
          exact rt_z C hw (u7) (Or.inl rfl) (⟨z0 hrb, fun q => absurd q hrb⟩) (by rw [hrd]) dX2_readsStatement_232
        · skip
          exact absurd (by decide) c_219
      · skip
        have c_174 := b1_c c_174
        have hue := hq7 c_174
        subst hue
        have hw : Wd G (fA [(h0, .inr (2, [.ref a1, .ref a2, .ref a3, .ref a4, .int (nI im), .ref a5, .ref a6, .ref a7, .int (nI lm), .int (nI rm), .int (nI pl), .ref a8, .int sd])), (a5, aI G 96 (cN lf2)), (a8, aI G 3 nu)]) s [(h0, .inr (2, [.ref a1, .ref a2, .ref a3, .ref a4, .int (nI im), .ref a5, .ref a6, .ref a7, .int (nI lm), .int (nI rm), .int (nI (pl + 1 + 1 + 1)), .ref a8, .int sd])), (a5, aI G 96 (cN lf2)), (a8, aI G 3 (upd (upd nu 0 (nI (dgV lf2 (pl + 1) 1))) 1 (nI (dgV lf2 (pl + 1 + 1) 1))))] H locs := by rw [dg1E c_174] at hw; exact hw
        refine lv_iconst (v := nI 1) xx xb dX2_readsStatement_177 (by decide) ?_
        refine lv_goto (tgt := 182) xx xb dX2_readsStatement_178 (by decide) ?_
        refine lv_istore_n (lv' := [(2, .int (nI 1)), (1, .int (hrI lf2 lm pl)), (0, .ref h0)]) xx xb dX2_readsStatement_182 rfl hl (by decide) rfl (fun ls hl => ?_)
        refine lv_goto (tgt := 218) xx xb dX2_readsStatement_183 (by decide) ?_
        refine lv_iload_n xx xb dX2_readsStatement_218 rfl (lv_at hl 0 rfl) ?_
        refine lv_if_eq (tgt := 231) xx xb dX2_readsStatement_219 (by decide) (fun c_219 => ?_) (fun c_219 => ?_)
        · skip
          exact absurd c_219 (by decide)
        · skip
          refine lv_aload_n xx xb dX2_readsStatement_222 rfl (lv_at hl 2 rfl) ?_
          have hM := kX2_here l G h0 a1 a2 a3 a4 a5 a6 a7 a8 im lm rm (pl + 1 + 1 + 1) sd lf2 (by first | assumption | omega) (by first | assumption | omega)
          refine cv_i C hw hM yvX2_here ml_X2_91 0 rfl rfl rfl [0, 1] rfl rfl (fun _ => (rfl : ([h0, a5] : List Nat) = [h0, a5])) (by decide) ⟨Nat.zero_le _, Nat.zero_le _⟩ hl.1 rfl (Nat.le_of_ble_eq_true rfl) dX2_readsStatement_223 (fun r _ H locs hr hw => ?_)
          have hw : Wd G (fA [(h0, .inr (2, [.ref a1, .ref a2, .ref a3, .ref a4, .int (nI im), .ref a5, .ref a6, .ref a7, .int (nI lm), .int (nI rm), .int (nI pl), .ref a8, .int sd])), (a5, aI G 96 (cN lf2)), (a8, aI G 3 nu)]) s [(h0, .inr (2, [.ref a1, .ref a2, .ref a3, .ref a4, .int (nI im), .ref a5, .ref a6, .ref a7, .int (nI lm), .int (nI rm), .int (nI (pl + 1 + 1 + 1)), .ref a8, .int sd])), (a5, aI G 96 (cN lf2)), (a8, aI G 3 (upd (upd nu 0 (nI (dgV lf2 (pl + 1) 1))) 1 (nI (dgV lf2 (pl + 1 + 1) 1))))] H locs := hw
          subst hr
          refine lv_bipush (v := nI 59) xx xb dX2_readsStatement_226 (by decide) ?_
          refine lv_icmp_eq (tgt := 233) xx xb dX2_readsStatement_228 (by decide) (fun c_228 => ?_) (fun c_228 => ?_)
          · skip
            have c_228 := eq_c (hrI_t hLF (pl + 1 + 1 + 1)) (tN (by omega)) c_228
            refine lv_aload_n xx xb dX2_readsStatement_233 rfl (lv_at hl 2 rfl) ?_
            refine lv_dup xx xb dX2_readsStatement_234 rfl ?_
            refine m_get C hw 0 rfl fk_X2_88 rfl dX2_readsStatement_235 ?_
            refine lv_iconst (v := nI 1) xx xb dX2_readsStatement_238 (by decide) ?_
            refine lv_iadd xx xb dX2_readsStatement_239 ?_
            refine re_i (nI ((pl + 1 + 1 + 1) + 1)) (nI_add _ _) ?_
            refine m_put C hw 0 rfl rfl tyX2 tyX2_ok nmX2 fk_X2_88 rfl rfl rfl rfl (Nat.le_of_ble_eq_true rfl) dX2_readsStatement_240 (fun H locs hw => ?_)
            have hw : Wd G (fA [(h0, .inr (2, [.ref a1, .ref a2, .ref a3, .ref a4, .int (nI im), .ref a5, .ref a6, .ref a7, .int (nI lm), .int (nI rm), .int (nI pl), .ref a8, .int sd])), (a5, aI G 96 (cN lf2)), (a8, aI G 3 nu)]) s [(h0, .inr (2, [.ref a1, .ref a2, .ref a3, .ref a4, .int (nI im), .ref a5, .ref a6, .ref a7, .int (nI lm), .int (nI rm), .int (nI ((pl + 1 + 1 + 1) + 1)), .ref a8, .int sd])), (a5, aI G 96 (cN lf2)), (a8, aI G 3 (upd (upd nu 0 (nI (dgV lf2 (pl + 1) 1))) 1 (nI (dgV lf2 (pl + 1 + 1) 1))))] H locs := hw
            refine lv_iconst (v := nI 1) xx xb dX2_readsStatement_243 (by decide) ?_
            have hmt : mtc lf2 lm (pl + 1) [1, 1, 2] = (pl + 1 + 1 + 1) + 1 := (mt_d1 c_165).trans ((mt_d1 c_174).trans ((mt_s1 c_228)))
            have hrd := (rdP_s hsh).trans hmt
            have hrb : rdB lf2 lm pl := (rdB_s hsh).mpr hmt
            exact rt_z C hw (upd (upd nu 0 (nI (dgV lf2 (pl + 1) 1))) 1 (nI (dgV lf2 (pl + 1 + 1) 1))) (Or.inr rfl) (⟨z1 hrb, fun _ => nok_p zz.2.1⟩) (by rw [hrd]) dX2_readsStatement_244
          · skip
            have c_228 := ne_c (hrI_t hLF (pl + 1 + 1 + 1)) (tN (by omega)) c_228
            refine lv_iconst (v := nI 0) xx xb dX2_readsStatement_231 (by decide) ?_
            have hmt : mtc lf2 lm (pl + 1) [1, 1, 2] = pl + 1 + 1 + 1 := (mt_d1 c_165).trans ((mt_d1 c_174).trans ((mt_s0 c_228)))
            have hrd := (rdP_s hsh).trans hmt
            have hrb : ¬ rdB lf2 lm pl := fun q => by have z := (rdB_s hsh).mp q; rw [hmt] at z; simp only [List.length_cons, List.length_nil] at z; omega
            exact rt_z C hw (upd (upd nu 0 (nI (dgV lf2 (pl + 1) 1))) 1 (nI (dgV lf2 (pl + 1 + 1) 1))) (Or.inl rfl) (⟨z0 hrb, fun q => absurd q hrb⟩) (by rw [hrd]) dX2_readsStatement_232
  have zk_16_112 := ne_c (hrI_t hLF pl) (tN (by decide)) k_16_112
  by_cases k_16_113 : (hrI lf2 lm pl) = nI 113
  · skip
    refine re_i (nI 113) k_16_113 ?_
    refine lv_tableIn (off := 190) (tgt := 206) xx xb dX2_readsStatement_16 (by decide +kernel) (by decide +kernel) (by decide +kernel) (by decide) ?_
    have zz := eq_c (hrI_t hLF pl) (tN (by decide)) k_16_113
    refine lv_aload_n xx xb dX2_readsStatement_206 rfl (lv_at hl 1 rfl) ?_
    refine lv_dup xx xb dX2_readsStatement_207 rfl ?_
    refine m_get C hw 0 rfl fk_X2_88 rfl dX2_readsStatement_208 ?_
    refine lv_iconst (v := nI 1) xx xb dX2_readsStatement_211 (by decide) ?_
    refine lv_isub xx xb dX2_readsStatement_212 ?_
    refine re_i (nI ((pl + 1) - 1)) (pk_sub (by omega)) ?_
    refine m_put C hw 0 rfl rfl tyX2 tyX2_ok nmX2 fk_X2_88 rfl rfl rfl rfl (Nat.le_of_ble_eq_true rfl) dX2_readsStatement_213 (fun H locs hw => ?_)
    have hw : Wd G (fA [(h0, .inr (2, [.ref a1, .ref a2, .ref a3, .ref a4, .int (nI im), .ref a5, .ref a6, .ref a7, .int (nI lm), .int (nI rm), .int (nI pl), .ref a8, .int sd])), (a5, aI G 96 (cN lf2)), (a8, aI G 3 nu)]) s [(h0, .inr (2, [.ref a1, .ref a2, .ref a3, .ref a4, .int (nI im), .ref a5, .ref a6, .ref a7, .int (nI lm), .int (nI rm), .int (nI ((pl + 1) - 1)), .ref a8, .int sd])), (a5, aI G 96 (cN lf2)), (a8, aI G 3 nu)] H locs := hw
    have hw : Wd G (fA [(h0, .inr (2, [.ref a1, .ref a2, .ref a3, .ref a4, .int (nI im), .ref a5, .ref a6, .ref a7, .int (nI lm), .int (nI rm), .int (nI pl), .ref a8, .int sd])), (a5, aI G 96 (cN lf2)), (a8, aI G 3 nu)]) s [(h0, .inr (2, [.ref a1, .ref a2, .ref a3, .ref a4, .int (nI im), .ref a5, .ref a6, .ref a7, .int (nI lm), .int (nI rm), .int (nI pl), .ref a8, .int sd])), (a5, aI G 96 (cN lf2)), (a8, aI G 3 nu)] H locs := hw
    refine lv_iconst (v := nI 0) xx xb dX2_readsStatement_216 (by decide) ?_
    have hsh : shp (hd lf2 lm pl) = [] := shp_nil (by omega) (by omega) (by omega) (by omega) (by omega) (by omega)
    have hrd : rdP lf2 lm pl = pl := rdP_n hsh
    have hrb : ¬ rdB lf2 lm pl := rdB_n hsh
    exact rt_z C hw (nu) (Or.inl rfl) (⟨z0 hrb, fun q => absurd q hrb⟩) (by rw [hrd]) dX2_readsStatement_217
  have zk_16_113 := ne_c (hrI_t hLF pl) (tN (by decide)) k_16_113
  by_cases k_16_114 : (hrI lf2 lm pl) = nI 114
  · skip
    refine re_i (nI 114) k_16_114 ?_
    refine lv_tableIn (off := 190) (tgt := 206) xx xb dX2_readsStatement_16 (by decide +kernel) (by decide +kernel) (by decide +kernel) (by decide) ?_
    have zz := eq_c (hrI_t hLF pl) (tN (by decide)) k_16_114
    refine lv_aload_n xx xb dX2_readsStatement_206 rfl (lv_at hl 1 rfl) ?_
    refine lv_dup xx xb dX2_readsStatement_207 rfl ?_
    refine m_get C hw 0 rfl fk_X2_88 rfl dX2_readsStatement_208 ?_
    refine lv_iconst (v := nI 1) xx xb dX2_readsStatement_211 (by decide) ?_
    refine lv_isub xx xb dX2_readsStatement_212 ?_
    refine re_i (nI ((pl + 1) - 1)) (pk_sub (by omega)) ?_
    refine m_put C hw 0 rfl rfl tyX2 tyX2_ok nmX2 fk_X2_88 rfl rfl rfl rfl (Nat.le_of_ble_eq_true rfl) dX2_readsStatement_213 (fun H locs hw => ?_)
    have hw : Wd G (fA [(h0, .inr (2, [.ref a1, .ref a2, .ref a3, .ref a4, .int (nI im), .ref a5, .ref a6, .ref a7, .int (nI lm), .int (nI rm), .int (nI pl), .ref a8, .int sd])), (a5, aI G 96 (cN lf2)), (a8, aI G 3 nu)]) s [(h0, .inr (2, [.ref a1, .ref a2, .ref a3, .ref a4, .int (nI im), .ref a5, .ref a6, .ref a7, .int (nI lm), .int (nI rm), .int (nI ((pl + 1) - 1)), .ref a8, .int sd])), (a5, aI G 96 (cN lf2)), (a8, aI G 3 nu)] H locs := hw
    have hw : Wd G (fA [(h0, .inr (2, [.ref a1, .ref a2, .ref a3, .ref a4, .int (nI im), .ref a5, .ref a6, .ref a7, .int (nI lm), .int (nI rm), .int (nI pl), .ref a8, .int sd])), (a5, aI G 96 (cN lf2)), (a8, aI G 3 nu)]) s [(h0, .inr (2, [.ref a1, .ref a2, .ref a3, .ref a4, .int (nI im), .ref a5, .ref a6, .ref a7, .int (nI lm), .int (nI rm), .int (nI pl), .ref a8, .int sd])), (a5, aI G 96 (cN lf2)), (a8, aI G 3 nu)] H locs := hw
    refine lv_iconst (v := nI 0) xx xb dX2_readsStatement_216 (by decide) ?_
    have hsh : shp (hd lf2 lm pl) = [] := shp_nil (by omega) (by omega) (by omega) (by omega) (by omega) (by omega)
    have hrd : rdP lf2 lm pl = pl := rdP_n hsh
    have hrb : ¬ rdB lf2 lm pl := rdB_n hsh
    exact rt_z C hw (nu) (Or.inl rfl) (⟨z0 hrb, fun q => absurd q hrb⟩) (by rw [hrd]) dX2_readsStatement_217
  have zk_16_114 := ne_c (hrI_t hLF pl) (tN (by decide)) k_16_114
  by_cases k_16_115 : (hrI lf2 lm pl) = nI 115
  · skip
    refine re_i (nI 115) k_16_115 ?_
    refine lv_tableIn (off := 190) (tgt := 206) xx xb dX2_readsStatement_16 (by decide +kernel) (by decide +kernel) (by decide +kernel) (by decide) ?_
    have zz := eq_c (hrI_t hLF pl) (tN (by decide)) k_16_115
    refine lv_aload_n xx xb dX2_readsStatement_206 rfl (lv_at hl 1 rfl) ?_
    refine lv_dup xx xb dX2_readsStatement_207 rfl ?_
    refine m_get C hw 0 rfl fk_X2_88 rfl dX2_readsStatement_208 ?_
    refine lv_iconst (v := nI 1) xx xb dX2_readsStatement_211 (by decide) ?_
    refine lv_isub xx xb dX2_readsStatement_212 ?_
    refine re_i (nI ((pl + 1) - 1)) (pk_sub (by omega)) ?_
    refine m_put C hw 0 rfl rfl tyX2 tyX2_ok nmX2 fk_X2_88 rfl rfl rfl rfl (Nat.le_of_ble_eq_true rfl) dX2_readsStatement_213 (fun H locs hw => ?_)
    have hw : Wd G (fA [(h0, .inr (2, [.ref a1, .ref a2, .ref a3, .ref a4, .int (nI im), .ref a5, .ref a6, .ref a7, .int (nI lm), .int (nI rm), .int (nI pl), .ref a8, .int sd])), (a5, aI G 96 (cN lf2)), (a8, aI G 3 nu)]) s [(h0, .inr (2, [.ref a1, .ref a2, .ref a3, .ref a4, .int (nI im), .ref a5, .ref a6, .ref a7, .int (nI lm), .int (nI rm), .int (nI ((pl + 1) - 1)), .ref a8, .int sd])), (a5, aI G 96 (cN lf2)), (a8, aI G 3 nu)] H locs := hw
    have hw : Wd G (fA [(h0, .inr (2, [.ref a1, .ref a2, .ref a3, .ref a4, .int (nI im), .ref a5, .ref a6, .ref a7, .int (nI lm), .int (nI rm), .int (nI pl), .ref a8, .int sd])), (a5, aI G 96 (cN lf2)), (a8, aI G 3 nu)]) s [(h0, .inr (2, [.ref a1, .ref a2, .ref a3, .ref a4, .int (nI im), .ref a5, .ref a6, .ref a7, .int (nI lm), .int (nI rm), .int (nI pl), .ref a8, .int sd])), (a5, aI G 96 (cN lf2)), (a8, aI G 3 nu)] H locs := hw
    refine lv_iconst (v := nI 0) xx xb dX2_readsStatement_216 (by decide) ?_
    have hsh : shp (hd lf2 lm pl) = [] := shp_nil (by omega) (by omega) (by omega) (by omega) (by omega) (by omega)
    have hrd : rdP lf2 lm pl = pl := rdP_n hsh
    have hrb : ¬ rdB lf2 lm pl := rdB_n hsh
    exact rt_z C hw (nu) (Or.inl rfl) (⟨z0 hrb, fun q => absurd q hrb⟩) (by rw [hrd]) dX2_readsStatement_217
  have zk_16_115 := ne_c (hrI_t hLF pl) (tN (by decide)) k_16_115
  by_cases k_16_116 : (hrI lf2 lm pl) = nI 116
  · skip
    refine re_i (nI 116) k_16_116 ?_
    refine lv_tableIn (off := 76) (tgt := 92) xx xb dX2_readsStatement_16 (by decide +kernel) (by decide +kernel) (by decide +kernel) (by decide) ?_
    have zz := hd_of (v := 116) (eq_c (hrI_t hLF pl) (tN (by decide)) k_16_116)
    have hsh : shp (hd lf2 lm pl) = [0, 1, 2] := by rw [zz.2.2]; rfl
    refine lv_aload_n xx xb dX2_readsStatement_92 rfl (lv_at hl 1 rfl) ?_
    have hM := kX2_readsKind l G h0 a1 a2 a3 a4 a5 a6 a7 a8 im lm rm (pl + 1) sd lf2 nu (by first | assumption | omega) (by first | assumption | omega) (by first | assumption | omega)
    refine cv_i C hw hM yvX2_readsKind ml_X2_98 0 rfl rfl rfl [0, 1, 2] rfl rfl (fun _ => (rfl : ([h0, a5, a8] : List Nat) = [h0, a5, a8])) (by decide) ⟨Nat.zero_le _, Nat.zero_le _⟩ hl.1 rfl (Nat.le_of_ble_eq_true rfl) dX2_readsStatement_93 (fun r _ H locs hr hw => ?_)
    have hw : Wd G (fA [(h0, .inr (2, [.ref a1, .ref a2, .ref a3, .ref a4, .int (nI im), .ref a5, .ref a6, .ref a7, .int (nI lm), .int (nI rm), .int (nI pl), .ref a8, .int sd])), (a5, aI G 96 (cN lf2)), (a8, aI G 3 nu)]) s [(h0, .inr (2, [.ref a1, .ref a2, .ref a3, .ref a4, .int (nI im), .ref a5, .ref a6, .ref a7, .int (nI lm), .int (nI rm), .int (nI ((pl + 1) + (if kd (hd lf2 lm (pl + 1)) < 10 then 1 else 0))), .ref a8, .int sd])), (a5, aI G 96 (cN lf2)), (a8, aI G 3 (upd nu 0 (onI (kd (hd lf2 lm (pl + 1))))))] H locs := hw
    subst hr
    refine lv_if_eq (tgt := 112) xx xb dX2_readsStatement_96 (by decide) (fun c_96 => ?_) (fun c_96 => ?_)
    · skip
      have c_96 := b0_c c_96
      have hw : Wd G (fA [(h0, .inr (2, [.ref a1, .ref a2, .ref a3, .ref a4, .int (nI im), .ref a5, .ref a6, .ref a7, .int (nI lm), .int (nI rm), .int (nI pl), .ref a8, .int sd])), (a5, aI G 96 (cN lf2)), (a8, aI G 3 nu)]) s [(h0, .inr (2, [.ref a1, .ref a2, .ref a3, .ref a4, .int (nI im), .ref a5, .ref a6, .ref a7, .int (nI lm), .int (nI rm), .int (nI (pl + 1)), .ref a8, .int sd])), (a5, aI G 96 (cN lf2)), (a8, aI G 3 (upd nu 0 (onI (kd (hd lf2 lm (pl + 1))))))] H locs := by rw [if_neg c_96] at hw; exact hw
      refine lv_iconst (v := nI 0) xx xb dX2_readsStatement_112 (by decide) ?_
      refine lv_istore_n (lv' := [(2, .int (nI 0)), (1, .int (hrI lf2 lm pl)), (0, .ref h0)]) xx xb dX2_readsStatement_113 rfl hl (by decide) rfl (fun ls hl => ?_)
      refine lv_aload_n xx xb dX2_readsStatement_114 rfl (lv_at hl 2 rfl) ?_
      refine m_get C hw 0 rfl fk_X2_31 rfl dX2_readsStatement_115 ?_
      refine lv_iconst (v := nI 2) xx xb dX2_readsStatement_118 (by decide) ?_
      refine lv_bipush (v := (-9)) xx xb dX2_readsStatement_119 (by decide) ?_
      refine m_ast C hw 2 rfl 2 rfl (by omega) (by decide) (upd (upd nu 0 (onI (kd (hd lf2 lm (pl + 1))))) 2 (-9)) (rfl) dX2_readsStatement_121 (fun H locs hw => ?_)
      have hw : Wd G (fA [(h0, .inr (2, [.ref a1, .ref a2, .ref a3, .ref a4, .int (nI im), .ref a5, .ref a6, .ref a7, .int (nI lm), .int (nI rm), .int (nI pl), .ref a8, .int sd])), (a5, aI G 96 (cN lf2)), (a8, aI G 3 nu)]) s [(h0, .inr (2, [.ref a1, .ref a2, .ref a3, .ref a4, .int (nI im), .ref a5, .ref a6, .ref a7, .int (nI lm), .int (nI rm), .int (nI (pl + 1)), .ref a8, .int sd])), (a5, aI G 96 (cN lf2)), (a8, aI G 3 (upd (upd nu 0 (onI (kd (hd lf2 lm (pl + 1))))) 2 (-9)))] H locs := hw
      refine lv_goto (tgt := 218) xx xb dX2_readsStatement_122 (by decide) ?_
      refine lv_iload_n xx xb dX2_readsStatement_218 rfl (lv_at hl 0 rfl) ?_
      refine lv_if_eq (tgt := 231) xx xb dX2_readsStatement_219 (by decide) (fun c_219 => ?_) (fun c_219 => ?_)
      · skip
        refine lv_iconst (v := nI 0) xx xb dX2_readsStatement_231 (by decide) ?_
        have hmt : mtc lf2 lm (pl + 1) [0, 1, 2] = pl + 1 := (mt_k0 c_96)
        have hrd := (rdP_s hsh).trans hmt
        have hrb : ¬ rdB lf2 lm pl := fun q => by have z := (rdB_s hsh).mp q; rw [hmt] at z; simp only [List.length_cons, List.length_nil] at z; omega
        exact rt_z C hw (upd (upd nu 0 (onI (kd (hd lf2 lm (pl + 1))))) 2 (-9)) (Or.inl rfl) (⟨z0 hrb, fun q => absurd q hrb⟩) (by rw [hrd]) dX2_readsStatement_232
      · skip
        exact absurd (by decide) c_219
    · skip
      have c_96 := b1_c c_96
      have hw : Wd G (fA [(h0, .inr (2, [.ref a1, .ref a2, .ref a3, .ref a4, .int (nI im), .ref a5, .ref a6, .ref a7, .int (nI lm), .int (nI rm), .int (nI pl), .ref a8, .int sd])), (a5, aI G 96 (cN lf2)), (a8, aI G 3 nu)]) s [(h0, .inr (2, [.ref a1, .ref a2, .ref a3, .ref a4, .int (nI im), .ref a5, .ref a6, .ref a7, .int (nI lm), .int (nI rm), .int (nI (pl + 1 + 1)), .ref a8, .int sd])), (a5, aI G 96 (cN lf2)), (a8, aI G 3 (upd nu 0 (onI (kd (hd lf2 lm (pl + 1))))))] H locs := by rw [if_pos c_96] at hw; exact hw
      refine lv_aload_n xx xb dX2_readsStatement_99 rfl (lv_at hl 1 rfl) ?_
      refine lv_iconst (v := nI 1) xx xb dX2_readsStatement_100 (by decide) ?_
      refine lv_iconst (v := nI 1) xx xb dX2_readsStatement_101 (by decide) ?_
      have hM := kX2_readsNumber l G h0 a1 a2 a3 a4 a5 a6 a7 a8 im lm rm (pl + 1 + 1) sd lf2 (upd nu 0 (onI (kd (hd lf2 lm (pl + 1))))) 1 1 (by first | assumption | omega) (by first | assumption | omega) (by first | assumption | omega) (by first | assumption | omega) (by first | assumption | omega)
      refine cv_i C hw hM yvX2_readsNumber ml_X2_102 0 rfl rfl rfl [0, 1, 2] rfl rfl (fun _ => (rfl : ([h0, a5, a8] : List Nat) = [h0, a5, a8])) (by decide) ⟨Nat.zero_le _, Nat.zero_le _⟩ hl.1 rfl (Nat.le_of_ble_eq_true rfl) dX2_readsStatement_102 (fun r u H locs hr hw => ?_)
      obtain ⟨u8, hu8⟩ : ∃ z, z = u := ⟨_, rfl⟩
      subst hu8
      have hw : Wd G (fA [(h0, .inr (2, [.ref a1, .ref a2, .ref a3, .ref a4, .int (nI im), .ref a5, .ref a6, .ref a7, .int (nI lm), .int (nI rm), .int (nI pl), .ref a8, .int sd])), (a5, aI G 96 (cN lf2)), (a8, aI G 3 nu)]) s [(h0, .inr (2, [.ref a1, .ref a2, .ref a3, .ref a4, .int (nI im), .ref a5, .ref a6, .ref a7, .int (nI lm), .int (nI rm), .int (nI ((pl + 1 + 1) + dgE lf2 lm (pl + 1 + 1) 1)), .ref a8, .int sd])), (a5, aI G 96 (cN lf2)), (a8, aI G 3 u8)] H locs := hw
      obtain ⟨hr, hq8⟩ := hr
      subst hr
      refine lv_if_eq (tgt := 112) xx xb dX2_readsStatement_105 (by decide) (fun c_105 => ?_) (fun c_105 => ?_)
      · skip
        have c_105 := b0_c c_105
        have hdz := dg1N c_105
        refine lv_iconst (v := nI 0) xx xb dX2_readsStatement_112 (by decide) ?_
        refine lv_istore_n (lv' := [(2, .int (nI 0)), (1, .int (hrI lf2 lm pl)), (0, .ref h0)]) xx xb dX2_readsStatement_113 rfl hl (by decide) rfl (fun ls hl => ?_)
        refine lv_aload_n xx xb dX2_readsStatement_114 rfl (lv_at hl 2 rfl) ?_
        refine m_get C hw 0 rfl fk_X2_31 rfl dX2_readsStatement_115 ?_
        refine lv_iconst (v := nI 2) xx xb dX2_readsStatement_118 (by decide) ?_
        refine lv_bipush (v := (-9)) xx xb dX2_readsStatement_119 (by decide) ?_
        refine m_ast C hw 2 rfl 2 rfl (by omega) (by decide) (upd u8 2 (-9)) (rfl) dX2_readsStatement_121 (fun H locs hw => ?_)
        have hw : Wd G (fA [(h0, .inr (2, [.ref a1, .ref a2, .ref a3, .ref a4, .int (nI im), .ref a5, .ref a6, .ref a7, .int (nI lm), .int (nI rm), .int (nI pl), .ref a8, .int sd])), (a5, aI G 96 (cN lf2)), (a8, aI G 3 nu)]) s [(h0, .inr (2, [.ref a1, .ref a2, .ref a3, .ref a4, .int (nI im), .ref a5, .ref a6, .ref a7, .int (nI lm), .int (nI rm), .int (nI ((pl + 1 + 1) + dgE lf2 lm (pl + 1 + 1) 1)), .ref a8, .int sd])), (a5, aI G 96 (cN lf2)), (a8, aI G 3 (upd u8 2 (-9)))] H locs := hw
        refine lv_goto (tgt := 218) xx xb dX2_readsStatement_122 (by decide) ?_
        refine lv_iload_n xx xb dX2_readsStatement_218 rfl (lv_at hl 0 rfl) ?_
        refine lv_if_eq (tgt := 231) xx xb dX2_readsStatement_219 (by decide) (fun c_219 => ?_) (fun c_219 => ?_)
        · skip
          refine lv_iconst (v := nI 0) xx xb dX2_readsStatement_231 (by decide) ?_
          have hmt : mtc lf2 lm (pl + 1) [0, 1, 2] = (pl + 1 + 1) + dgE lf2 lm (pl + 1 + 1) 1 := (mt_k1 c_96).trans ((mt_d0 c_105))
          have hrd := (rdP_s hsh).trans hmt
          have hrb : ¬ rdB lf2 lm pl := fun q => by have z := (rdB_s hsh).mp q; rw [hmt] at z; simp only [List.length_cons, List.length_nil] at z; omega
          exact rt_z C hw (upd u8 2 (-9)) (Or.inl rfl) (⟨z0 hrb, fun q => absurd q hrb⟩) (by rw [hrd]) dX2_readsStatement_232
        · skip
          exact absurd (by decide) c_219
      · skip
        have c_105 := b1_c c_105
        have hue := hq8 c_105
        subst hue
        have hw : Wd G (fA [(h0, .inr (2, [.ref a1, .ref a2, .ref a3, .ref a4, .int (nI im), .ref a5, .ref a6, .ref a7, .int (nI lm), .int (nI rm), .int (nI pl), .ref a8, .int sd])), (a5, aI G 96 (cN lf2)), (a8, aI G 3 nu)]) s [(h0, .inr (2, [.ref a1, .ref a2, .ref a3, .ref a4, .int (nI im), .ref a5, .ref a6, .ref a7, .int (nI lm), .int (nI rm), .int (nI (pl + 1 + 1 + 1)), .ref a8, .int sd])), (a5, aI G 96 (cN lf2)), (a8, aI G 3 (upd (upd nu 0 (onI (kd (hd lf2 lm (pl + 1))))) 1 (nI (dgV lf2 (pl + 1 + 1) 1))))] H locs := by rw [dg1E c_105] at hw; exact hw
        refine lv_iconst (v := nI 1) xx xb dX2_readsStatement_108 (by decide) ?_
        refine lv_goto (tgt := 113) xx xb dX2_readsStatement_109 (by decide) ?_
        refine lv_istore_n (lv' := [(2, .int (nI 1)), (1, .int (hrI lf2 lm pl)), (0, .ref h0)]) xx xb dX2_readsStatement_113 rfl hl (by decide) rfl (fun ls hl => ?_)
        refine lv_aload_n xx xb dX2_readsStatement_114 rfl (lv_at hl 2 rfl) ?_
        refine m_get C hw 0 rfl fk_X2_31 rfl dX2_readsStatement_115 ?_
        refine lv_iconst (v := nI 2) xx xb dX2_readsStatement_118 (by decide) ?_
        refine lv_bipush (v := (-9)) xx xb dX2_readsStatement_119 (by decide) ?_
        refine m_ast C hw 2 rfl 2 rfl (by omega) (by decide) (upd (upd (upd nu 0 (onI (kd (hd lf2 lm (pl + 1))))) 1 (nI (dgV lf2 (pl + 1 + 1) 1))) 2 (-9)) (rfl) dX2_readsStatement_121 (fun H locs hw => ?_)
        have hw : Wd G (fA [(h0, .inr (2, [.ref a1, .ref a2, .ref a3, .ref a4, .int (nI im), .ref a5, .ref a6, .ref a7, .int (nI lm), .int (nI rm), .int (nI pl), .ref a8, .int sd])), (a5, aI G 96 (cN lf2)), (a8, aI G 3 nu)]) s [(h0, .inr (2, [.ref a1, .ref a2, .ref a3, .ref a4, .int (nI im), .ref a5, .ref a6, .ref a7, .int (nI lm), .int (nI rm), .int (nI (pl + 1 + 1 + 1)), .ref a8, .int sd])), (a5, aI G 96 (cN lf2)), (a8, aI G 3 (upd (upd (upd nu 0 (onI (kd (hd lf2 lm (pl + 1))))) 1 (nI (dgV lf2 (pl + 1 + 1) 1))) 2 (-9)))] H locs := hw
        refine lv_goto (tgt := 218) xx xb dX2_readsStatement_122 (by decide) ?_
        refine lv_iload_n xx xb dX2_readsStatement_218 rfl (lv_at hl 0 rfl) ?_
        refine lv_if_eq (tgt := 231) xx xb dX2_readsStatement_219 (by decide) (fun c_219 => ?_) (fun c_219 => ?_)
        · skip
          exact absurd c_219 (by decide)
        · skip
          refine lv_aload_n xx xb dX2_readsStatement_222 rfl (lv_at hl 2 rfl) ?_
          have hM := kX2_here l G h0 a1 a2 a3 a4 a5 a6 a7 a8 im lm rm (pl + 1 + 1 + 1) sd lf2 (by first | assumption | omega) (by first | assumption | omega)
          refine cv_i C hw hM yvX2_here ml_X2_91 0 rfl rfl rfl [0, 1] rfl rfl (fun _ => (rfl : ([h0, a5] : List Nat) = [h0, a5])) (by decide) ⟨Nat.zero_le _, Nat.zero_le _⟩ hl.1 rfl (Nat.le_of_ble_eq_true rfl) dX2_readsStatement_223 (fun r _ H locs hr hw => ?_)
          have hw : Wd G (fA [(h0, .inr (2, [.ref a1, .ref a2, .ref a3, .ref a4, .int (nI im), .ref a5, .ref a6, .ref a7, .int (nI lm), .int (nI rm), .int (nI pl), .ref a8, .int sd])), (a5, aI G 96 (cN lf2)), (a8, aI G 3 nu)]) s [(h0, .inr (2, [.ref a1, .ref a2, .ref a3, .ref a4, .int (nI im), .ref a5, .ref a6, .ref a7, .int (nI lm), .int (nI rm), .int (nI (pl + 1 + 1 + 1)), .ref a8, .int sd])), (a5, aI G 96 (cN lf2)), (a8, aI G 3 (upd (upd (upd nu 0 (onI (kd (hd lf2 lm (pl + 1))))) 1 (nI (dgV lf2 (pl + 1 + 1) 1))) 2 (-9)))] H locs := hw
          subst hr
          refine lv_bipush (v := nI 59) xx xb dX2_readsStatement_226 (by decide) ?_
          refine lv_icmp_eq (tgt := 233) xx xb dX2_readsStatement_228 (by decide) (fun c_228 => ?_) (fun c_228 => ?_)
          · skip
            have c_228 := eq_c (hrI_t hLF (pl + 1 + 1 + 1)) (tN (by omega)) c_228
            refine lv_aload_n xx xb dX2_readsStatement_233 rfl (lv_at hl 2 rfl) ?_
            refine lv_dup xx xb dX2_readsStatement_234 rfl ?_
            refine m_get C hw 0 rfl fk_X2_88 rfl dX2_readsStatement_235 ?_
            refine lv_iconst (v := nI 1) xx xb dX2_readsStatement_238 (by decide) ?_
            refine lv_iadd xx xb dX2_readsStatement_239 ?_
            refine re_i (nI ((pl + 1 + 1 + 1) + 1)) (nI_add _ _) ?_
            refine m_put C hw 0 rfl rfl tyX2 tyX2_ok nmX2 fk_X2_88 rfl rfl rfl rfl (Nat.le_of_ble_eq_true rfl) dX2_readsStatement_240 (fun H locs hw => ?_)
            have hw : Wd G (fA [(h0, .inr (2, [.ref a1, .ref a2, .ref a3, .ref a4, .int (nI im), .ref a5, .ref a6, .ref a7, .int (nI lm), .int (nI rm), .int (nI pl), .ref a8, .int sd])), (a5, aI G 96 (cN lf2)), (a8, aI G 3 nu)]) s [(h0, .inr (2, [.ref a1, .ref a2, .ref a3, .ref a4, .int (nI im), .ref a5, .ref a6, .ref a7, .int (nI lm), .int (nI rm), .int (nI ((pl + 1 + 1 + 1) + 1)), .ref a8, .int sd])), (a5, aI G 96 (cN lf2)), (a8, aI G 3 (upd (upd (upd nu 0 (onI (kd (hd lf2 lm (pl + 1))))) 1 (nI (dgV lf2 (pl + 1 + 1) 1))) 2 (-9)))] H locs := hw
            refine lv_iconst (v := nI 1) xx xb dX2_readsStatement_243 (by decide) ?_
            have hmt : mtc lf2 lm (pl + 1) [0, 1, 2] = (pl + 1 + 1 + 1) + 1 := (mt_k1 c_96).trans ((mt_d1 c_105).trans ((mt_s1 c_228)))
            have hrd := (rdP_s hsh).trans hmt
            have hrb : rdB lf2 lm pl := (rdB_s hsh).mpr hmt
            exact rt_z C hw (upd (upd (upd nu 0 (onI (kd (hd lf2 lm (pl + 1))))) 1 (nI (dgV lf2 (pl + 1 + 1) 1))) 2 (-9)) (Or.inr rfl) (⟨z1 hrb, fun _ => nok_t zz.2.1 c_96⟩) (by rw [hrd]) dX2_readsStatement_244
          · skip
            have c_228 := ne_c (hrI_t hLF (pl + 1 + 1 + 1)) (tN (by omega)) c_228
            refine lv_iconst (v := nI 0) xx xb dX2_readsStatement_231 (by decide) ?_
            have hmt : mtc lf2 lm (pl + 1) [0, 1, 2] = pl + 1 + 1 + 1 := (mt_k1 c_96).trans ((mt_d1 c_105).trans ((mt_s0 c_228)))
            have hrd := (rdP_s hsh).trans hmt
            have hrb : ¬ rdB lf2 lm pl := fun q => by have z := (rdB_s hsh).mp q; rw [hmt] at z; simp only [List.length_cons, List.length_nil] at z; omega
            exact rt_z C hw (upd (upd (upd nu 0 (onI (kd (hd lf2 lm (pl + 1))))) 1 (nI (dgV lf2 (pl + 1 + 1) 1))) 2 (-9)) (Or.inl rfl) (⟨z0 hrb, fun q => absurd q hrb⟩) (by rw [hrd]) dX2_readsStatement_232
  have zk_16_116 := ne_c (hrI_t hLF pl) (tN (by decide)) k_16_116
  · skip
    refine lv_tableOut (tgt := 206) xx xb dX2_readsStatement_16 (by rw [show _ = _ from (hrI_t hLF pl)]; omega) (by decide) ?_
    refine lv_aload_n xx xb dX2_readsStatement_206 rfl (lv_at hl 1 rfl) ?_
    refine lv_dup xx xb dX2_readsStatement_207 rfl ?_
    refine m_get C hw 0 rfl fk_X2_88 rfl dX2_readsStatement_208 ?_
    refine lv_iconst (v := nI 1) xx xb dX2_readsStatement_211 (by decide) ?_
    refine lv_isub xx xb dX2_readsStatement_212 ?_
    refine re_i (nI ((pl + 1) - 1)) (pk_sub (by omega)) ?_
    refine m_put C hw 0 rfl rfl tyX2 tyX2_ok nmX2 fk_X2_88 rfl rfl rfl rfl (Nat.le_of_ble_eq_true rfl) dX2_readsStatement_213 (fun H locs hw => ?_)
    have hw : Wd G (fA [(h0, .inr (2, [.ref a1, .ref a2, .ref a3, .ref a4, .int (nI im), .ref a5, .ref a6, .ref a7, .int (nI lm), .int (nI rm), .int (nI pl), .ref a8, .int sd])), (a5, aI G 96 (cN lf2)), (a8, aI G 3 nu)]) s [(h0, .inr (2, [.ref a1, .ref a2, .ref a3, .ref a4, .int (nI im), .ref a5, .ref a6, .ref a7, .int (nI lm), .int (nI rm), .int (nI ((pl + 1) - 1)), .ref a8, .int sd])), (a5, aI G 96 (cN lf2)), (a8, aI G 3 nu)] H locs := hw
    have hw : Wd G (fA [(h0, .inr (2, [.ref a1, .ref a2, .ref a3, .ref a4, .int (nI im), .ref a5, .ref a6, .ref a7, .int (nI lm), .int (nI rm), .int (nI pl), .ref a8, .int sd])), (a5, aI G 96 (cN lf2)), (a8, aI G 3 nu)]) s [(h0, .inr (2, [.ref a1, .ref a2, .ref a3, .ref a4, .int (nI im), .ref a5, .ref a6, .ref a7, .int (nI lm), .int (nI rm), .int (nI pl), .ref a8, .int sd])), (a5, aI G 96 (cN lf2)), (a8, aI G 3 nu)] H locs := hw
    refine lv_iconst (v := nI 0) xx xb dX2_readsStatement_216 (by decide) ?_
    have hsh : shp (hd lf2 lm pl) = [] := shp_nil (by omega) (by omega) (by omega) (by omega) (by omega) (by omega)
    have hrd : rdP lf2 lm pl = pl := rdP_n hsh
    have hrb : ¬ rdB lf2 lm pl := rdB_n hsh
    exact rt_z C hw (nu) (Or.inl rfl) (⟨z0 hrb, fun q => absurd q hrb⟩) (by rw [hrd]) dX2_readsStatement_217
