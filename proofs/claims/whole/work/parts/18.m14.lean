-- ===== letters =====
/-- the letter at p; 256 at the end -/
def hd (lf : Nat → Nat) (n p : Nat) : Nat := if p < n then lf p else 256
def hrI (lf : Nat → Nat) (n p : Nat) : Int32 := if p < n then nI (lf p) else -1
def hrZ (lf : Nat → Nat) (n p : Nat) : Int := if p < n then ((lf p : Nat) : Int) else -1
def LOK (lf : Nat → Nat) (n : Nat) : Prop := ∀ j, j < n → lf j ≤ 255
theorem hrI_t {lf : Nat → Nat} {n : Nat} (h : LOK lf n) (p : Nat) : (hrI lf n p).toInt = hrZ lf n p := by
  unfold hrI hrZ
  by_cases q : p < n
  · have := h p q
    rw [if_pos q, if_pos q]; exact tN (by omega)
  · rw [if_neg q, if_neg q]; decide
def isD (c : Nat) : Bool := decide (48 ≤ c ∧ c ≤ 57)
/-- a letter's KIND; 10 of none -/
def kd (c : Nat) : Nat := if c = 116 then 0 else if c = 103 then 1 else if c = 112 then 2 else if c = 99 then 3 else if c = 119 then 4 else if c = 98 then 5 else 10
def kdZ (z : Int) : Nat := if z = 116 then 0 else if z = 103 then 1 else if z = 112 then 2 else if z = 99 then 3 else if z = 119 then 4 else if z = 98 then 5 else 10
theorem kdZ_le (z : Int) : kdZ z ≤ 10 := by unfold kdZ; repeat' split
                                            all_goals omega
theorem kdZ_hd (lf : Nat → Nat) (n p : Nat) : kdZ (hrZ lf n p) = kd (hd lf n p) := by
  unfold hrZ hd
  by_cases q : p < n
  · rw [if_pos q, if_pos q]
    unfold kdZ kd
    repeat' split
    all_goals omega
  · rw [if_neg q, if_neg q]; rfl
theorem kd_5 {c : Nat} (h : kd c < 10) : kd c ≤ 5 := by
  unfold kd at h ⊢
  repeat' split
  all_goals (first | omega | (simp_all))
theorem isD_hd {lf : Nat → Nat} {n p : Nat} : isD (hd lf n p) = true ↔ (48 ≤ hrZ lf n p ∧ hrZ lf n p ≤ 57) := by
  unfold isD hd hrZ
  rw [decide_eq_true_eq]
  by_cases q : p < n
  · rw [if_pos q, if_pos q]; omega
  · rw [if_neg q, if_neg q]; omega
theorem hd_lt {lf : Nat → Nat} {n p : Nat} (h : isD (hd lf n p) = true) : p < n := by
  unfold hd at h
  by_cases q : p < n
  · exact q
  · rw [if_neg q] at h; exact absurd h (by decide)
theorem hd_y {lf : Nat → Nat} {n p : Nat} (h : p < n) : hd lf n p = lf p := if_pos h
theorem hrI_y {lf : Nat → Nat} {n p : Nat} (h : p < n) : hrI lf n p = nI (lf p) := if_pos h
/-- what is wanted: 0 a KIND, 1 a digit, else ";" -/
def fitB (w c : Nat) : Bool := if w = 0 then decide (kd c < 10) else if w = 1 then isD c else decide (c = 59)
/-- as far as the letters from p on are what is wanted -/
def mtc (lf : Nat → Nat) (n : Nat) : Nat → List Nat → Nat
  | p, [] => p
  | p, w :: l => if fitB w (hd lf n p) = true then mtc lf n (p + 1) l else p
theorem mt_y {lf : Nat → Nat} {n p w : Nat} {l : List Nat} (h : fitB w (hd lf n p) = true) : mtc lf n p (w :: l) = mtc lf n (p + 1) l := if_pos h
theorem mt_n {lf : Nat → Nat} {n p w : Nat} {l : List Nat} (h : ¬ fitB w (hd lf n p) = true) : mtc lf n p (w :: l) = p := if_neg h
theorem mt_ge (lf : Nat → Nat) (n : Nat) : ∀ (l : List Nat) (p : Nat), p ≤ mtc lf n p l ∧ mtc lf n p l ≤ p + l.length
  | [], p => ⟨Nat.le_refl _, Nat.le_refl _⟩
  | w :: l, p => by
    have ih := mt_ge lf n l (p + 1)
    by_cases q : fitB w (hd lf n p) = true
    · rw [mt_y q]; simp only [List.length_cons]; omega
    · rw [mt_n q]; simp only [List.length_cons]; omega
/-- d digits from p on -/
def dgP (lf : Nat → Nat) (n p : Nat) : Nat → Bool
  | 0 => true
  | i + 1 => dgP lf n p i && isD (hd lf n (p + i))
def dgV (lf : Nat → Nat) (p : Nat) : Nat → Nat
  | 0 => 0
  | i + 1 => 10 * dgV lf p i + (lf (p + i) - 48)
/-- how far they go -/
def dgE (lf : Nat → Nat) (n p : Nat) : Nat → Nat
  | 0 => 0
  | i + 1 => if dgP lf n p i = true ∧ isD (hd lf n (p + i)) = true then i + 1 else dgE lf n p i
theorem dgP_s {lf : Nat → Nat} {n p i : Nat} (h : dgP lf n p i = true) (h2 : isD (hd lf n (p + i)) = true) : dgP lf n p (i + 1) = true := by
  show (dgP lf n p i && isD (hd lf n (p + i))) = true
  rw [h, h2]; rfl
theorem dgE_s {lf : Nat → Nat} {n p i : Nat} (h : dgP lf n p i = true) (h2 : isD (hd lf n (p + i)) = true) : dgE lf n p (i + 1) = i + 1 := if_pos ⟨h, h2⟩
theorem dgP_f {lf : Nat → Nat} {n p i : Nat} (h2 : ¬ isD (hd lf n (p + i)) = true) : ∀ d, dgP lf n p (i + 1 + d) = false
  | 0 => by
    show (dgP lf n p i && isD (hd lf n (p + i))) = false
    rw [Bool.eq_false_iff.mpr h2]; simp
  | d + 1 => by
    show (dgP lf n p (i + 1 + d) && _) = false
    rw [dgP_f h2 d]; rfl
theorem dgE_f {lf : Nat → Nat} {n p i : Nat} (he : dgE lf n p i = i) (h2 : ¬ isD (hd lf n (p + i)) = true) : ∀ d, dgE lf n p (i + 1 + d) = i
  | 0 => by
    show (if _ then _ else _) = _
    rw [if_neg (fun q => h2 q.2)]; exact he
  | d + 1 => by
    show (if dgP lf n p (i + 1 + d) = true ∧ _ then _ else dgE lf n p (i + 1 + d)) = _
    rw [if_neg (fun q => by rw [dgP_f h2 d] at q; exact absurd q.1 (by decide)), dgE_f he h2 d]
theorem dgV_lt (lf : Nat → Nat) (n p : Nat) : ∀ i, i ≤ 2 → dgP lf n p i = true → dgV lf p i ≤ 99 := by
  intro i hi h
  have d : ∀ j, isD (hd lf n (p + j)) = true → lf (p + j) - 48 ≤ 9 := fun j hj => by
    have := hd_lt hj
    unfold isD at hj
    rw [decide_eq_true_eq, hd_y this] at hj
    omega
  have e : i = 0 ∨ i = 1 ∨ i = 2 := by omega
  rcases e with e | e | e <;> subst e
  · show 0 ≤ 99; omega
  · simp only [dgP, Bool.and_eq_true] at h
    have := d 0 h.2
    show 10 * 0 + (lf (p + 0) - 48) ≤ 99
    omega
  · simp only [dgP, Bool.and_eq_true] at h
    have h1 := d 0 h.1.2
    have h2 := d 1 h.2
    show 10 * (10 * 0 + (lf (p + 0) - 48)) + (lf (p + 1) - 48) ≤ 99
    omega
theorem upd_s (f : Nat → Int32) (k : Nat) (v : Int32) : upd f k v k = v := by unfold upd; rw [if_pos rfl]
theorem upd_n {f : Nat → Int32} {k j : Nat} {v : Int32} (h : j ≠ k) : upd f k v j = f j := by unfold upd; rw [if_neg h]
theorem upd_2 (f : Nat → Int32) (k : Nat) (v w : Int32) : upd (upd f k v) k w = upd f k w := by
  funext j
  unfold upd
  by_cases h : j = k
  · rw [if_pos h, if_pos h]
  · rw [if_neg h, if_neg h, if_neg h]
set_option maxRecDepth 100000 in
set_option maxHeartbeats 4000000 in
theorem kX2_kindBy (l : Launch) (G : GT) (ch : Int32) (chz : Int) (h_ch : ch.toInt = chz) : Ct l yX2_kindBy cX2_kindBy 1 (some .int) 0 0 [.int ch] G [] (QI G [] (fun (r : Int32) (u : Unit) => r = onI (kdZ chz)) (fun u => [])) := by
  refine en (by decide +kernel) (Nat.le_of_ble_eq_true rfl) ?_
  intro p e s m below meth c ls H locs C hl hw
  have xx := C.1
  have xb := C.2.1
  have hw : Wd G (fA []) s [] H locs := hw
  have hl : lv_has ls 1 [(0, .int ch)] := hl
  refine lv_iload_n xx xb dX2_kindBy_0 rfl (lv_at hl 0 rfl) ?_
  by_cases k_1_98 : ch = nI 98
  · skip
    refine re_i (nI 98) k_1_98 ?_
    refine lv_lookup (off := 69) (tgt := 70) xx xb dX2_kindBy_1 (by decide +kernel) (by decide +kernel) (by decide) ?_
    have zz : chz = 98 := eq_c h_ch (tN (by decide)) k_1_98
    refine lv_iconst (v := nI 5) xx xb dX2_kindBy_70 (by decide) ?_
    exact rt_i C hw () (by first | (rw [zz]; rfl) | (unfold kdZ; rw [if_neg (by omega), if_neg (by omega), if_neg (by omega), if_neg (by omega), if_neg (by omega), if_neg (by omega)]; rfl)) rfl dX2_kindBy_71
  have zk_1_98 := ne_c h_ch (tN (by decide)) k_1_98
  by_cases k_1_99 : ch = nI 99
  · skip
    refine re_i (nI 99) k_1_99 ?_
    refine lv_lookup (off := 65) (tgt := 66) xx xb dX2_kindBy_1 (by decide +kernel) (by decide +kernel) (by decide) ?_
    have zz : chz = 99 := eq_c h_ch (tN (by decide)) k_1_99
    refine lv_iconst (v := nI 3) xx xb dX2_kindBy_66 (by decide) ?_
    exact rt_i C hw () (by first | (rw [zz]; rfl) | (unfold kdZ; rw [if_neg (by omega), if_neg (by omega), if_neg (by omega), if_neg (by omega), if_neg (by omega), if_neg (by omega)]; rfl)) rfl dX2_kindBy_67
  have zk_1_99 := ne_c h_ch (tN (by decide)) k_1_99
  by_cases k_1_103 : ch = nI 103
  · skip
    refine re_i (nI 103) k_1_103 ?_
    refine lv_lookup (off := 61) (tgt := 62) xx xb dX2_kindBy_1 (by decide +kernel) (by decide +kernel) (by decide) ?_
    have zz : chz = 103 := eq_c h_ch (tN (by decide)) k_1_103
    refine lv_iconst (v := nI 1) xx xb dX2_kindBy_62 (by decide) ?_
    exact rt_i C hw () (by first | (rw [zz]; rfl) | (unfold kdZ; rw [if_neg (by omega), if_neg (by omega), if_neg (by omega), if_neg (by omega), if_neg (by omega), if_neg (by omega)]; rfl)) rfl dX2_kindBy_63
  have zk_1_103 := ne_c h_ch (tN (by decide)) k_1_103
  by_cases k_1_112 : ch = nI 112
  · skip
    refine re_i (nI 112) k_1_112 ?_
    refine lv_lookup (off := 63) (tgt := 64) xx xb dX2_kindBy_1 (by decide +kernel) (by decide +kernel) (by decide) ?_
    have zz : chz = 112 := eq_c h_ch (tN (by decide)) k_1_112
    refine lv_iconst (v := nI 2) xx xb dX2_kindBy_64 (by decide) ?_
    exact rt_i C hw () (by first | (rw [zz]; rfl) | (unfold kdZ; rw [if_neg (by omega), if_neg (by omega), if_neg (by omega), if_neg (by omega), if_neg (by omega), if_neg (by omega)]; rfl)) rfl dX2_kindBy_65
  have zk_1_112 := ne_c h_ch (tN (by decide)) k_1_112
  by_cases k_1_116 : ch = nI 116
  · skip
    refine re_i (nI 116) k_1_116 ?_
    refine lv_lookup (off := 59) (tgt := 60) xx xb dX2_kindBy_1 (by decide +kernel) (by decide +kernel) (by decide) ?_
    have zz : chz = 116 := eq_c h_ch (tN (by decide)) k_1_116
    refine lv_iconst (v := nI 0) xx xb dX2_kindBy_60 (by decide) ?_
    exact rt_i C hw () (by first | (rw [zz]; rfl) | (unfold kdZ; rw [if_neg (by omega), if_neg (by omega), if_neg (by omega), if_neg (by omega), if_neg (by omega), if_neg (by omega)]; rfl)) rfl dX2_kindBy_61
  have zk_1_116 := ne_c h_ch (tN (by decide)) k_1_116
  by_cases k_1_119 : ch = nI 119
  · skip
    refine re_i (nI 119) k_1_119 ?_
    refine lv_lookup (off := 67) (tgt := 68) xx xb dX2_kindBy_1 (by decide +kernel) (by decide +kernel) (by decide) ?_
    have zz : chz = 119 := eq_c h_ch (tN (by decide)) k_1_119
    refine lv_iconst (v := nI 4) xx xb dX2_kindBy_68 (by decide) ?_
    exact rt_i C hw () (by first | (rw [zz]; rfl) | (unfold kdZ; rw [if_neg (by omega), if_neg (by omega), if_neg (by omega), if_neg (by omega), if_neg (by omega), if_neg (by omega)]; rfl)) rfl dX2_kindBy_69
  have zk_1_119 := ne_c h_ch (tN (by decide)) k_1_119
  · skip
    refine lv_lookup (off := 71) (tgt := 72) xx xb dX2_kindBy_1 (by decide +kernel) (by show Op.lookupswitch.offset [(98, 69), (99, 65), (103, 61), (112, 63), (116, 59), (119, 67)] 71 (ch).toInt = 71; rw [lv_osw (k := nI 98) k_1_98 (by decide +kernel), lv_osw (k := nI 99) k_1_99 (by decide +kernel), lv_osw (k := nI 103) k_1_103 (by decide +kernel), lv_osw (k := nI 112) k_1_112 (by decide +kernel), lv_osw (k := nI 116) k_1_116 (by decide +kernel), lv_osw (k := nI 119) k_1_119 (by decide +kernel)]; rfl) (by decide) ?_
    refine lv_bipush (v := (-9)) xx xb dX2_kindBy_72 (by decide) ?_
    exact rt_i C hw () (by first | (rw [zz]; rfl) | (unfold kdZ; rw [if_neg (by omega), if_neg (by omega), if_neg (by omega), if_neg (by omega), if_neg (by omega), if_neg (by omega)]; rfl)) rfl dX2_kindBy_74
set_option maxRecDepth 100000 in
set_option maxHeartbeats 4000000 in
theorem kX2_here (l : Launch) (G : GT) (h0 : Nat) (a1 : Nat) (a2 : Nat) (a3 : Nat) (a4 : Nat) (a5 : Nat) (a6 : Nat) (a7 : Nat) (a8 : Nat) (im : Nat) (lm : Nat) (rm : Nat) (pl : Nat) (sd : Int32) (lf2 : Nat → Nat) (hlm : lm ≤ 96) (hpl : pl < 200) : Ct l yX2_here cX2_here 1 (some .int) 0 0 [.ref h0] G [(h0, .inr (2, [.ref a1, .ref a2, .ref a3, .ref a4, .int (nI im), .ref a5, .ref a6, .ref a7, .int (nI lm), .int (nI rm), .int (nI pl), .ref a8, .int sd])), (a5, aI G 96 (cN lf2))] (QI G [(h0, .inr (2, [.ref a1, .ref a2, .ref a3, .ref a4, .int (nI im), .ref a5, .ref a6, .ref a7, .int (nI lm), .int (nI rm), .int (nI pl), .ref a8, .int sd])), (a5, aI G 96 (cN lf2))] (fun (r : Int32) (u : Unit) => r = hrI lf2 lm pl) (fun u => [(h0, .inr (2, [.ref a1, .ref a2, .ref a3, .ref a4, .int (nI im), .ref a5, .ref a6, .ref a7, .int (nI lm), .int (nI rm), .int (nI pl), .ref a8, .int sd])), (a5, aI G 96 (cN lf2))])) := by
  refine en (by decide +kernel) (Nat.le_of_ble_eq_true rfl) ?_
  intro p e s m below meth c ls H locs C hl hw
  have xx := C.1
  have xb := C.2.1
  have hw : Wd G (fA [(h0, .inr (2, [.ref a1, .ref a2, .ref a3, .ref a4, .int (nI im), .ref a5, .ref a6, .ref a7, .int (nI lm), .int (nI rm), .int (nI pl), .ref a8, .int sd])), (a5, aI G 96 (cN lf2))]) s [(h0, .inr (2, [.ref a1, .ref a2, .ref a3, .ref a4, .int (nI im), .ref a5, .ref a6, .ref a7, .int (nI lm), .int (nI rm), .int (nI pl), .ref a8, .int sd])), (a5, aI G 96 (cN lf2))] H locs := hw
  have hl : lv_has ls 1 [(0, .ref h0)] := hl
  refine lv_aload_n xx xb dX2_here_0 rfl (lv_at hl 0 rfl) ?_
  refine m_get C hw 0 rfl fk_X2_88 rfl dX2_here_1 ?_
  refine lv_aload_n xx xb dX2_here_4 rfl (lv_at hl 0 rfl) ?_
  refine m_get C hw 0 rfl fk_X2_84 rfl dX2_here_5 ?_
  refine lv_icmp_ge (tgt := 23) xx xb dX2_here_8 (by decide) (fun c_8 => ?_) (fun c_8 => ?_)
  · skip
    have c_8 := le_c (tN (by omega)) (tN (by omega)) c_8
    refine lv_iconst (v := (-1)) xx xb dX2_here_23 (by decide) ?_
    exact rt_i C hw () (by unfold hrI; first | (rw [if_pos (by omega)]; done) | (rw [if_neg (by omega)]; done)) rfl dX2_here_24
  · skip
    have c_8 := nle_c (tN (by omega)) (tN (by omega)) c_8
    refine lv_aload_n xx xb dX2_here_11 rfl (lv_at hl 0 rfl) ?_
    refine m_get C hw 0 rfl fk_X2_22 rfl dX2_here_12 ?_
    refine lv_aload_n xx xb dX2_here_15 rfl (lv_at hl 0 rfl) ?_
    refine m_get C hw 0 rfl fk_X2_88 rfl dX2_here_16 ?_
    refine m_ald C hw 1 rfl pl rfl (by omega) (by decide) dX2_here_19 ?_
    refine re_i (nI (lf2 pl)) rfl ?_
    refine lv_goto (tgt := 24) xx xb dX2_here_20 (by decide) ?_
    exact rt_i C hw () (by unfold hrI; first | (rw [if_pos (by omega)]; done) | (rw [if_neg (by omega)]; done)) rfl dX2_here_24
set_option maxRecDepth 100000 in
set_option maxHeartbeats 4000000 in
theorem kX2_readsNumber (l : Launch) (G : GT) (h0 : Nat) (a1 : Nat) (a2 : Nat) (a3 : Nat) (a4 : Nat) (a5 : Nat) (a6 : Nat) (a7 : Nat) (a8 : Nat) (im : Nat) (lm : Nat) (rm : Nat) (pl : Nat) (sd : Int32) (lf2 : Nat → Nat) (nu : Nat → Int32) (k : Nat) (d : Nat) (hLF : LOK lf2 lm) (hlm : lm ≤ 96) (hpl : pl < 150) (hk : k < 3) (hd2 : d ≤ 2) : Ct l yX2_readsNumber cX2_readsNumber 4 (some .boolean) 1 22 [.ref h0, .int (nI k), .int (nI d)] G [(h0, .inr (2, [.ref a1, .ref a2, .ref a3, .ref a4, .int (nI im), .ref a5, .ref a6, .ref a7, .int (nI lm), .int (nI rm), .int (nI pl), .ref a8, .int sd])), (a5, aI G 96 (cN lf2)), (a8, aI G 3 nu)] (QI G [(h0, .inr (2, [.ref a1, .ref a2, .ref a3, .ref a4, .int (nI im), .ref a5, .ref a6, .ref a7, .int (nI lm), .int (nI rm), .int (nI pl), .ref a8, .int sd])), (a5, aI G 96 (cN lf2)), (a8, aI G 3 nu)] (fun (r : Int32) (u : Nat → Int32) => r = (if dgP lf2 lm pl d = true then 1 else 0) ∧ (dgP lf2 lm pl d = true → u = upd nu k (nI (dgV lf2 pl d)))) (fun u => [(h0, .inr (2, [.ref a1, .ref a2, .ref a3, .ref a4, .int (nI im), .ref a5, .ref a6, .ref a7, .int (nI lm), .int (nI rm), .int (nI (pl + dgE lf2 lm pl d)), .ref a8, .int sd])), (a5, aI G 96 (cN lf2)), (a8, aI G 3 u)])) := by
  refine en (by decide +kernel) (Nat.le_of_ble_eq_true rfl) ?_
  intro p e s m below meth c ls H locs C hl hw
  have xx := C.1
  have xb := C.2.1
  have hw : Wd G (fA [(h0, .inr (2, [.ref a1, .ref a2, .ref a3, .ref a4, .int (nI im), .ref a5, .ref a6, .ref a7, .int (nI lm), .int (nI rm), .int (nI pl), .ref a8, .int sd])), (a5, aI G 96 (cN lf2)), (a8, aI G 3 nu)]) s [(h0, .inr (2, [.ref a1, .ref a2, .ref a3, .ref a4, .int (nI im), .ref a5, .ref a6, .ref a7, .int (nI lm), .int (nI rm), .int (nI pl), .ref a8, .int sd])), (a5, aI G 96 (cN lf2)), (a8, aI G 3 nu)] H locs := hw
  have hl : lv_has ls 4 [(0, .ref h0), (1, .int (nI k)), (2, .int (nI d))] := hl
  refine lv_aload_n xx xb dX2_readsNumber_0 rfl (lv_at hl 0 rfl) ?_
  refine m_get C hw 0 rfl fk_X2_31 rfl dX2_readsNumber_1 ?_
  refine lv_iload_n xx xb dX2_readsNumber_4 rfl (lv_at hl 1 rfl) ?_
  refine lv_iconst (v := nI 0) xx xb dX2_readsNumber_5 (by decide) ?_
  refine m_ast C hw 2 rfl k rfl (by omega) (by decide) (upd nu k (nI 0)) (rfl) dX2_readsNumber_6 (fun H locs hw => ?_)
  have hw : Wd G (fA [(h0, .inr (2, [.ref a1, .ref a2, .ref a3, .ref a4, .int (nI im), .ref a5, .ref a6, .ref a7, .int (nI lm), .int (nI rm), .int (nI pl), .ref a8, .int sd])), (a5, aI G 96 (cN lf2)), (a8, aI G 3 nu)]) s [(h0, .inr (2, [.ref a1, .ref a2, .ref a3, .ref a4, .int (nI im), .ref a5, .ref a6, .ref a7, .int (nI lm), .int (nI rm), .int (nI pl), .ref a8, .int sd])), (a5, aI G 96 (cN lf2)), (a8, aI G 3 (upd nu k (nI 0)))] H locs := hw
  refine lv_iconst (v := nI 0) xx xb dX2_readsNumber_7 (by decide) ?_
  refine lv_istore_n (lv' := [(3, .int (nI 0)), (0, .ref h0), (1, .int (nI k)), (2, .int (nI d))]) xx xb dX2_readsNumber_8 rfl hl (by decide) rfl (fun ls hl => ?_)
  have hw : Wd G (fA [(h0, .inr (2, [.ref a1, .ref a2, .ref a3, .ref a4, .int (nI im), .ref a5, .ref a6, .ref a7, .int (nI lm), .int (nI rm), .int (nI pl), .ref a8, .int sd])), (a5, aI G 96 (cN lf2)), (a8, aI G 3 nu)]) s [(h0, .inr (2, [.ref a1, .ref a2, .ref a3, .ref a4, .int (nI im), .ref a5, .ref a6, .ref a7, .int (nI lm), .int (nI rm), .int (nI (pl + 0)), .ref a8, .int sd])), (a5, aI G 96 (cN lf2)), (a8, aI G 3 (upd nu k (nI (dgV lf2 pl 0))))] H locs := hw
  have L_9 : ∀ (fu : Nat) (i : Nat) (H : Heap) (locs : List Loc) (ls : Array Slot), d - i < fu → (i ≤ d) → (dgP lf2 lm pl i = true) → (dgE lf2 lm pl i = i) → Wd G (fA [(h0, .inr (2, [.ref a1, .ref a2, .ref a3, .ref a4, .int (nI im), .ref a5, .ref a6, .ref a7, .int (nI lm), .int (nI rm), .int (nI pl), .ref a8, .int sd])), (a5, aI G 96 (cN lf2)), (a8, aI G 3 nu)]) s [(h0, .inr (2, [.ref a1, .ref a2, .ref a3, .ref a4, .int (nI im), .ref a5, .ref a6, .ref a7, .int (nI lm), .int (nI rm), .int (nI (pl + i)), .ref a8, .int sd])), (a5, aI G 96 (cN lf2)), (a8, aI G 3 (upd nu k (nI (dgV lf2 pl i))))] H locs → lv_has ls 4 [(0, .ref h0), (1, .int (nI k)), (2, .int (nI d)), (3, .int (nI i))] → W p l e ({ frames := 1, cells := 0, slots := 0, locals := 22 }) s m (([.ref h0, .int (nI k), .int (nI d)] : List Value).toArray) below meth c H locs 0 0 (MQ below (QI G [(h0, .inr (2, [.ref a1, .ref a2, .ref a3, .ref a4, .int (nI im), .ref a5, .ref a6, .ref a7, .int (nI lm), .int (nI rm), .int (nI pl), .ref a8, .int sd])), (a5, aI G 96 (cN lf2)), (a8, aI G 3 nu)] (fun (r : Int32) (u : Nat → Int32) => r = (if dgP lf2 lm pl d = true then 1 else 0) ∧ (dgP lf2 lm pl d = true → u = upd nu k (nI (dgV lf2 pl d)))) (fun u => [(h0, .inr (2, [.ref a1, .ref a2, .ref a3, .ref a4, .int (nI im), .ref a5, .ref a6, .ref a7, .int (nI lm), .int (nI rm), .int (nI (pl + dgE lf2 lm pl d)), .ref a8, .int sd])), (a5, aI G 96 (cN lf2)), (a8, aI G 3 u)])) (([.ref h0, .int (nI k), .int (nI d)] : List Value).toArray) s 0 0 (fA [(h0, .inr (2, [.ref a1, .ref a2, .ref a3, .ref a4, .int (nI im), .ref a5, .ref a6, .ref a7, .int (nI lm), .int (nI rm), .int (nI pl), .ref a8, .int sd])), (a5, aI G 96 (cN lf2)), (a8, aI G 3 nu)])) (F0 m 9 ls []) := by
    intro fu
    induction fu with
    | zero => intro i H locs ls hfu; exact absurd hfu (Nat.not_lt_zero _)
    | succ fu ih_9 =>
      intro i H locs ls hfu hi hP hE hw hl
      refine lv_iload_n xx xb dX2_readsNumber_9 rfl (lv_at hl 3 rfl) ?_
      refine lv_iload_n xx xb dX2_readsNumber_10 rfl (lv_at hl 2 rfl) ?_
      refine lv_icmp_ge (tgt := 69) xx xb dX2_readsNumber_11 (by decide) (fun c_11 => ?_) (fun c_11 => ?_)
      · skip
        have c_11 := le_c (tN (by omega)) (tN (by omega)) c_11
        have hid : i = d := by omega
        refine lv_iconst (v := nI 1) xx xb dX2_readsNumber_69 (by decide) ?_
        exact rt_z C hw (upd nu k (nI (dgV lf2 pl i))) (Or.inr rfl) (by first | (rw [← hid]; exact ⟨r1 hP, fun _ => rfl⟩) | exact ⟨r0 (by rw [hPf]; decide), fun q => by rw [hPf] at q; cases q⟩) (by first | (rw [hEf]; done) | (rw [← hid, hE]; done)) dX2_readsNumber_70
      · skip
        have c_11 := nle_c (tN (by omega)) (tN (by omega)) c_11
        refine lv_aload_n xx xb dX2_readsNumber_14 rfl (lv_at hl 0 rfl) ?_
        have hM := kX2_here l G h0 a1 a2 a3 a4 a5 a6 a7 a8 im lm rm (pl + i) sd lf2 (by first | assumption | omega) (by first | assumption | omega)
        refine cv_i C hw hM yvX2_here ml_X2_91 0 rfl rfl rfl [0, 1] rfl rfl (fun _ => (rfl : ([h0, a5] : List Nat) = [h0, a5])) (by decide) ⟨Nat.zero_le _, Nat.zero_le _⟩ hl.1 rfl (Nat.le_of_ble_eq_true rfl) dX2_readsNumber_15 (fun r _ H locs hr hw => ?_)
        have hw : Wd G (fA [(h0, .inr (2, [.ref a1, .ref a2, .ref a3, .ref a4, .int (nI im), .ref a5, .ref a6, .ref a7, .int (nI lm), .int (nI rm), .int (nI pl), .ref a8, .int sd])), (a5, aI G 96 (cN lf2)), (a8, aI G 3 nu)]) s [(h0, .inr (2, [.ref a1, .ref a2, .ref a3, .ref a4, .int (nI im), .ref a5, .ref a6, .ref a7, .int (nI lm), .int (nI rm), .int (nI (pl + i)), .ref a8, .int sd])), (a5, aI G 96 (cN lf2)), (a8, aI G 3 (upd nu k (nI (dgV lf2 pl i))))] H locs := hw
        subst hr
        refine lv_bipush (v := nI 48) xx xb dX2_readsNumber_18 (by decide) ?_
        refine lv_bipush (v := nI 57) xx xb dX2_readsNumber_20 (by decide) ?_
        have hM := kX2_isIn l G (hrI lf2 lm (pl + i)) (hrZ lf2 lm (pl + i)) (nI 48) 48 (nI 57) 57 (hrI_t hLF (pl + i)) (tN (by omega)) (tN (by omega))
        refine cs_i C hw hM ysX2_isIn ml_X2_40 rfl [] rfl rfl (fun _ => (rfl : ([] : List Nat) = [])) (by decide) ⟨Nat.zero_le _, Nat.zero_le _⟩ hl.1 rfl (Nat.le_of_ble_eq_true rfl) dX2_readsNumber_22 (fun r _ H locs hr hw => ?_)
        have hw : Wd G (fA [(h0, .inr (2, [.ref a1, .ref a2, .ref a3, .ref a4, .int (nI im), .ref a5, .ref a6, .ref a7, .int (nI lm), .int (nI rm), .int (nI pl), .ref a8, .int sd])), (a5, aI G 96 (cN lf2)), (a8, aI G 3 nu)]) s [(h0, .inr (2, [.ref a1, .ref a2, .ref a3, .ref a4, .int (nI im), .ref a5, .ref a6, .ref a7, .int (nI lm), .int (nI rm), .int (nI (pl + i)), .ref a8, .int sd])), (a5, aI G 96 (cN lf2)), (a8, aI G 3 (upd nu k (nI (dgV lf2 pl i))))] H locs := hw
        subst hr
        refine lv_if_ne (tgt := 30) xx xb dX2_readsNumber_25 (by decide) (fun c_25 => ?_) (fun c_25 => ?_)
        · skip
          have c_25 := b1_c c_25
          have hisD := isD_hd.mpr c_25
          have hpl2 := hd_lt hisD
          have hlfb := hLF (pl + i) hpl2
          have hvb := dgV_lt lf2 lm pl i (by omega) hP
          have hgd := isD_hd.mp hisD
          refine lv_aload_n xx xb dX2_readsNumber_30 rfl (lv_at hl 0 rfl) ?_
          refine m_get C hw 0 rfl fk_X2_31 rfl dX2_readsNumber_31 ?_
          refine lv_iload_n xx xb dX2_readsNumber_34 rfl (lv_at hl 1 rfl) ?_
          refine lv_bipush (v := nI 10) xx xb dX2_readsNumber_35 (by decide) ?_
          refine lv_aload_n xx xb dX2_readsNumber_37 rfl (lv_at hl 0 rfl) ?_
          refine m_get C hw 0 rfl fk_X2_31 rfl dX2_readsNumber_38 ?_
          refine lv_iload_n xx xb dX2_readsNumber_41 rfl (lv_at hl 1 rfl) ?_
          refine m_ald C hw 2 rfl k rfl (by omega) (by decide) dX2_readsNumber_42 ?_
          refine re_i (nI (dgV lf2 pl i)) (upd_s _ _ _) ?_
          refine lv_imul xx xb dX2_readsNumber_43 ?_
          refine re_i (nI (10 * (dgV lf2 pl i))) (pk_mul _ _) ?_
          refine lv_aload_n xx xb dX2_readsNumber_44 rfl (lv_at hl 0 rfl) ?_
          have hM := kX2_here l G h0 a1 a2 a3 a4 a5 a6 a7 a8 im lm rm (pl + i) sd lf2 (by first | assumption | omega) (by first | assumption | omega)
          refine cv_i C hw hM yvX2_here ml_X2_91 0 rfl rfl rfl [0, 1] rfl rfl (fun _ => (rfl : ([h0, a5] : List Nat) = [h0, a5])) (by decide) ⟨Nat.zero_le _, Nat.zero_le _⟩ hl.1 rfl (Nat.le_of_ble_eq_true rfl) dX2_readsNumber_45 (fun r _ H locs hr hw => ?_)
          have hw : Wd G (fA [(h0, .inr (2, [.ref a1, .ref a2, .ref a3, .ref a4, .int (nI im), .ref a5, .ref a6, .ref a7, .int (nI lm), .int (nI rm), .int (nI pl), .ref a8, .int sd])), (a5, aI G 96 (cN lf2)), (a8, aI G 3 nu)]) s [(h0, .inr (2, [.ref a1, .ref a2, .ref a3, .ref a4, .int (nI im), .ref a5, .ref a6, .ref a7, .int (nI lm), .int (nI rm), .int (nI (pl + i)), .ref a8, .int sd])), (a5, aI G 96 (cN lf2)), (a8, aI G 3 (upd nu k (nI (dgV lf2 pl i))))] H locs := hw
          subst hr
          refine re_i (nI (lf2 (pl + i))) (hrI_y hpl2) ?_
          have hl48 : 48 ≤ lf2 (pl + i) := by have := hgd; unfold hrZ at this; rw [if_pos hpl2] at this; omega
          refine lv_iadd xx xb dX2_readsNumber_48 ?_
          refine re_i (nI ((10 * (dgV lf2 pl i)) + (lf2 (pl + i)))) (nI_add _ _) ?_
          refine lv_bipush (v := nI 48) xx xb dX2_readsNumber_49 (by decide) ?_
          refine lv_isub xx xb dX2_readsNumber_51 ?_
          refine re_i (nI (((10 * (dgV lf2 pl i)) + (lf2 (pl + i))) - 48)) (pk_sub (by omega)) ?_
          refine re_i (nI (dgV lf2 pl (i + 1))) (congrArg nI (by show _ = 10 * dgV lf2 pl i + (lf2 (pl + i) - 48); omega)) ?_
          refine m_ast C hw 2 rfl k rfl (by omega) (by decide) (upd nu k (nI (dgV lf2 pl (i + 1)))) (upd_2 _ _ _ _) dX2_readsNumber_52 (fun H locs hw => ?_)
          have hw : Wd G (fA [(h0, .inr (2, [.ref a1, .ref a2, .ref a3, .ref a4, .int (nI im), .ref a5, .ref a6, .ref a7, .int (nI lm), .int (nI rm), .int (nI pl), .ref a8, .int sd])), (a5, aI G 96 (cN lf2)), (a8, aI G 3 nu)]) s [(h0, .inr (2, [.ref a1, .ref a2, .ref a3, .ref a4, .int (nI im), .ref a5, .ref a6, .ref a7, .int (nI lm), .int (nI rm), .int (nI (pl + i)), .ref a8, .int sd])), (a5, aI G 96 (cN lf2)), (a8, aI G 3 (upd nu k (nI (dgV lf2 pl (i + 1)))))] H locs := hw
          refine lv_aload_n xx xb dX2_readsNumber_53 rfl (lv_at hl 0 rfl) ?_
          refine lv_dup xx xb dX2_readsNumber_54 rfl ?_
          refine m_get C hw 0 rfl fk_X2_88 rfl dX2_readsNumber_55 ?_
          refine lv_iconst (v := nI 1) xx xb dX2_readsNumber_58 (by decide) ?_
          refine lv_iadd xx xb dX2_readsNumber_59 ?_
          refine re_i (nI ((pl + i) + 1)) (nI_add _ _) ?_
          refine m_put C hw 0 rfl rfl tyX2 tyX2_ok nmX2 fk_X2_88 rfl rfl rfl rfl (Nat.le_of_ble_eq_true rfl) dX2_readsNumber_60 (fun H locs hw => ?_)
          have hw : Wd G (fA [(h0, .inr (2, [.ref a1, .ref a2, .ref a3, .ref a4, .int (nI im), .ref a5, .ref a6, .ref a7, .int (nI lm), .int (nI rm), .int (nI pl), .ref a8, .int sd])), (a5, aI G 96 (cN lf2)), (a8, aI G 3 nu)]) s [(h0, .inr (2, [.ref a1, .ref a2, .ref a3, .ref a4, .int (nI im), .ref a5, .ref a6, .ref a7, .int (nI lm), .int (nI rm), .int (nI ((pl + i) + 1)), .ref a8, .int sd])), (a5, aI G 96 (cN lf2)), (a8, aI G 3 (upd nu k (nI (dgV lf2 pl (i + 1)))))] H locs := hw
          have hw : Wd G (fA [(h0, .inr (2, [.ref a1, .ref a2, .ref a3, .ref a4, .int (nI im), .ref a5, .ref a6, .ref a7, .int (nI lm), .int (nI rm), .int (nI pl), .ref a8, .int sd])), (a5, aI G 96 (cN lf2)), (a8, aI G 3 nu)]) s [(h0, .inr (2, [.ref a1, .ref a2, .ref a3, .ref a4, .int (nI im), .ref a5, .ref a6, .ref a7, .int (nI lm), .int (nI rm), .int (nI (pl + (i + 1))), .ref a8, .int sd])), (a5, aI G 96 (cN lf2)), (a8, aI G 3 (upd nu k (nI (dgV lf2 pl (i + 1)))))] H locs := hw
          have hP2 := dgP_s hP hisD
          have hE2 := dgE_s hP hisD
          refine lv_iinc (v := nI (i + 1)) (lv' := [(3, .int (nI (i + 1))), (0, .ref h0), (1, .int (nI k)), (2, .int (nI d))]) xx xb dX2_readsNumber_63 hl (k := 3) rfl (nI_add _ 1) (by decide) rfl (fun ls hl => ?_)
          refine lv_goto (tgt := 9) xx xb dX2_readsNumber_66 (by decide) ?_
          exact ih_9 (i + 1) H _ ls (by omega) (by omega) hP2 hE2 hw (lv_sub hl [1, 2, 3, 0] rfl)
        · skip
          have c_25 := b0_c c_25
          have hisN : ¬ isD (hd lf2 lm (pl + i)) = true := fun q => c_25 (isD_hd.mp q)
          have hdd : d = i + 1 + (d - (i + 1)) := by omega
          have hPf : dgP lf2 lm pl d = false := by rw [hdd]; exact dgP_f hisN _
          have hEf : dgE lf2 lm pl d = i := by rw [hdd]; exact dgE_f hE hisN _
          refine lv_iconst (v := nI 0) xx xb dX2_readsNumber_28 (by decide) ?_
          exact rt_z C hw (upd nu k (nI (dgV lf2 pl i))) (Or.inl rfl) (by first | (rw [← hid]; exact ⟨r1 hP, fun _ => rfl⟩) | exact ⟨r0 (by rw [hPf]; decide), fun q => by rw [hPf] at q; cases q⟩) (by first | (rw [hEf]; done) | (rw [← hid, hE]; done)) dX2_readsNumber_29
  exact L_9 (_ + 1) 0 H _ ls (Nat.lt_succ_self _) (by omega) rfl rfl hw (lv_sub hl [1, 2, 3, 0] rfl)
set_option maxRecDepth 100000 in
set_option maxHeartbeats 4000000 in
theorem kX2_readsKind (l : Launch) (G : GT) (h0 : Nat) (a1 : Nat) (a2 : Nat) (a3 : Nat) (a4 : Nat) (a5 : Nat) (a6 : Nat) (a7 : Nat) (a8 : Nat) (im : Nat) (lm : Nat) (rm : Nat) (pl : Nat) (sd : Int32) (lf2 : Nat → Nat) (nu : Nat → Int32) (hLF : LOK lf2 lm) (hlm : lm ≤ 96) (hpl : pl < 150) : Ct l yX2_readsKind cX2_readsKind 1 (some .boolean) 1 20 [.ref h0] G [(h0, .inr (2, [.ref a1, .ref a2, .ref a3, .ref a4, .int (nI im), .ref a5, .ref a6, .ref a7, .int (nI lm), .int (nI rm), .int (nI pl), .ref a8, .int sd])), (a5, aI G 96 (cN lf2)), (a8, aI G 3 nu)] (QI G [(h0, .inr (2, [.ref a1, .ref a2, .ref a3, .ref a4, .int (nI im), .ref a5, .ref a6, .ref a7, .int (nI lm), .int (nI rm), .int (nI pl), .ref a8, .int sd])), (a5, aI G 96 (cN lf2)), (a8, aI G 3 nu)] (fun (r : Int32) (u : Unit) => r = if kd (hd lf2 lm pl) < 10 then 1 else 0) (fun u => [(h0, .inr (2, [.ref a1, .ref a2, .ref a3, .ref a4, .int (nI im), .ref a5, .ref a6, .ref a7, .int (nI lm), .int (nI rm), .int (nI (pl + (if kd (hd lf2 lm pl) < 10 then 1 else 0))), .ref a8, .int sd])), (a5, aI G 96 (cN lf2)), (a8, aI G 3 (upd nu 0 (onI (kd (hd lf2 lm pl)))))])) := by
  refine en (by decide +kernel) (Nat.le_of_ble_eq_true rfl) ?_
  intro p e s m below meth c ls H locs C hl hw
  have xx := C.1
  have xb := C.2.1
  have hw : Wd G (fA [(h0, .inr (2, [.ref a1, .ref a2, .ref a3, .ref a4, .int (nI im), .ref a5, .ref a6, .ref a7, .int (nI lm), .int (nI rm), .int (nI pl), .ref a8, .int sd])), (a5, aI G 96 (cN lf2)), (a8, aI G 3 nu)]) s [(h0, .inr (2, [.ref a1, .ref a2, .ref a3, .ref a4, .int (nI im), .ref a5, .ref a6, .ref a7, .int (nI lm), .int (nI rm), .int (nI pl), .ref a8, .int sd])), (a5, aI G 96 (cN lf2)), (a8, aI G 3 nu)] H locs := hw
  have hl : lv_has ls 1 [(0, .ref h0)] := hl
  have hk9 := kdZ_le (hrZ lf2 lm pl)
  have hk8 := kdZ_hd lf2 lm pl
  refine lv_aload_n xx xb dX2_readsKind_0 rfl (lv_at hl 0 rfl) ?_
  refine m_get C hw 0 rfl fk_X2_31 rfl dX2_readsKind_1 ?_
  refine lv_iconst (v := nI 0) xx xb dX2_readsKind_4 (by decide) ?_
  refine lv_aload_n xx xb dX2_readsKind_5 rfl (lv_at hl 0 rfl) ?_
  have hM := kX2_here l G h0 a1 a2 a3 a4 a5 a6 a7 a8 im lm rm pl sd lf2 (by first | assumption | omega) (by first | assumption | omega)
  refine cv_i C hw hM yvX2_here ml_X2_91 0 rfl rfl rfl [0, 1] rfl rfl (fun _ => (rfl : ([h0, a5] : List Nat) = [h0, a5])) (by decide) ⟨Nat.zero_le _, Nat.zero_le _⟩ hl.1 rfl (Nat.le_of_ble_eq_true rfl) dX2_readsKind_6 (fun r _ H locs hr hw => ?_)
  have hw : Wd G (fA [(h0, .inr (2, [.ref a1, .ref a2, .ref a3, .ref a4, .int (nI im), .ref a5, .ref a6, .ref a7, .int (nI lm), .int (nI rm), .int (nI pl), .ref a8, .int sd])), (a5, aI G 96 (cN lf2)), (a8, aI G 3 nu)]) s [(h0, .inr (2, [.ref a1, .ref a2, .ref a3, .ref a4, .int (nI im), .ref a5, .ref a6, .ref a7, .int (nI lm), .int (nI rm), .int (nI pl), .ref a8, .int sd])), (a5, aI G 96 (cN lf2)), (a8, aI G 3 nu)] H locs := hw
  subst hr
  have hM := kX2_kindBy l G (hrI lf2 lm pl) (hrZ lf2 lm pl) (hrI_t hLF pl)
  refine cs_i C hw hM ysX2_kindBy ml_X2_95 rfl [] rfl rfl (fun _ => (rfl : ([] : List Nat) = [])) (by decide) ⟨Nat.zero_le _, Nat.zero_le _⟩ hl.1 rfl (Nat.le_of_ble_eq_true rfl) dX2_readsKind_9 (fun r _ H locs hr hw => ?_)
  have hw : Wd G (fA [(h0, .inr (2, [.ref a1, .ref a2, .ref a3, .ref a4, .int (nI im), .ref a5, .ref a6, .ref a7, .int (nI lm), .int (nI rm), .int (nI pl), .ref a8, .int sd])), (a5, aI G 96 (cN lf2)), (a8, aI G 3 nu)]) s [(h0, .inr (2, [.ref a1, .ref a2, .ref a3, .ref a4, .int (nI im), .ref a5, .ref a6, .ref a7, .int (nI lm), .int (nI rm), .int (nI pl), .ref a8, .int sd])), (a5, aI G 96 (cN lf2)), (a8, aI G 3 nu)] H locs := hw
  subst hr
  refine re_i (onI (kd (hd lf2 lm pl))) (congrArg onI hk8) ?_
  refine m_ast C hw 2 rfl 0 rfl (by omega) (by decide) (upd nu 0 (onI (kd (hd lf2 lm pl)))) (rfl) dX2_readsKind_12 (fun H locs hw => ?_)
  have hw : Wd G (fA [(h0, .inr (2, [.ref a1, .ref a2, .ref a3, .ref a4, .int (nI im), .ref a5, .ref a6, .ref a7, .int (nI lm), .int (nI rm), .int (nI pl), .ref a8, .int sd])), (a5, aI G 96 (cN lf2)), (a8, aI G 3 nu)]) s [(h0, .inr (2, [.ref a1, .ref a2, .ref a3, .ref a4, .int (nI im), .ref a5, .ref a6, .ref a7, .int (nI lm), .int (nI rm), .int (nI pl), .ref a8, .int sd])), (a5, aI G 96 (cN lf2)), (a8, aI G 3 (upd nu 0 (onI (kd (hd lf2 lm pl)))))] H locs := hw
  refine lv_aload_n xx xb dX2_readsKind_13 rfl (lv_at hl 0 rfl) ?_
  refine lv_dup xx xb dX2_readsKind_14 rfl ?_
  refine m_get C hw 0 rfl fk_X2_88 rfl dX2_readsKind_15 ?_
  refine lv_aload_n xx xb dX2_readsKind_18 rfl (lv_at hl 0 rfl) ?_
  refine m_get C hw 0 rfl fk_X2_31 rfl dX2_readsKind_19 ?_
  refine lv_iconst (v := nI 0) xx xb dX2_readsKind_22 (by decide) ?_
  refine m_ald C hw 2 rfl 0 rfl (by omega) (by decide) dX2_readsKind_23 ?_
  refine re_i (onI (kd (hd lf2 lm pl))) (upd_s _ _ _) ?_
  refine lv_if_ge (tgt := 31) xx xb dX2_readsKind_24 (by decide) (fun c_24 => ?_) (fun c_24 => ?_)
  · skip
    have c_24 := onI_nn (by omega) c_24
    refine lv_iconst (v := nI 1) xx xb dX2_readsKind_31 (by decide) ?_
    refine re_i (nI (if kd (hd lf2 lm pl) < 10 then 1 else 0)) (by first | (rw [if_pos (by omega)]; done) | (rw [if_neg (by omega)]; done)) ?_
    refine lv_iadd xx xb dX2_readsKind_32 ?_
    refine re_i (nI (pl + (if kd (hd lf2 lm pl) < 10 then 1 else 0))) (nI_add _ _) ?_
    refine m_put C hw 0 rfl rfl tyX2 tyX2_ok nmX2 fk_X2_88 rfl rfl rfl rfl (Nat.le_of_ble_eq_true rfl) dX2_readsKind_33 (fun H locs hw => ?_)
    have hw : Wd G (fA [(h0, .inr (2, [.ref a1, .ref a2, .ref a3, .ref a4, .int (nI im), .ref a5, .ref a6, .ref a7, .int (nI lm), .int (nI rm), .int (nI pl), .ref a8, .int sd])), (a5, aI G 96 (cN lf2)), (a8, aI G 3 nu)]) s [(h0, .inr (2, [.ref a1, .ref a2, .ref a3, .ref a4, .int (nI im), .ref a5, .ref a6, .ref a7, .int (nI lm), .int (nI rm), .int (nI (pl + (if kd (hd lf2 lm pl) < 10 then 1 else 0))), .ref a8, .int sd])), (a5, aI G 96 (cN lf2)), (a8, aI G 3 (upd nu 0 (onI (kd (hd lf2 lm pl)))))] H locs := hw
    refine lv_aload_n xx xb dX2_readsKind_36 rfl (lv_at hl 0 rfl) ?_
    refine m_get C hw 0 rfl fk_X2_31 rfl dX2_readsKind_37 ?_
    refine lv_iconst (v := nI 0) xx xb dX2_readsKind_40 (by decide) ?_
    refine m_ald C hw 2 rfl 0 rfl (by omega) (by decide) dX2_readsKind_41 ?_
    refine re_i (onI (kd (hd lf2 lm pl))) (upd_s _ _ _) ?_
    refine lv_if_lt (tgt := 49) xx xb dX2_readsKind_42 (by decide) (fun c_42 => ?_) (fun c_42 => ?_)
    · skip
      have c_42 := (onI_neg (by omega)).mp c_42
      refine lv_iconst (v := nI 0) xx xb dX2_readsKind_49 (by decide) ?_
      refine re_i (if kd (hd lf2 lm pl) < 10 then 1 else 0) (by first | exact r1 (by omega) | exact r0 (by omega)) ?_
      exact rt_z C hw () (b01 _) rfl rfl dX2_readsKind_50
    · skip
      have c_42 := mt (onI_neg (by omega)).mpr c_42
      refine lv_iconst (v := nI 1) xx xb dX2_readsKind_45 (by decide) ?_
      refine lv_goto (tgt := 50) xx xb dX2_readsKind_46 (by decide) ?_
      refine re_i (if kd (hd lf2 lm pl) < 10 then 1 else 0) (by first | exact r1 (by omega) | exact r0 (by omega)) ?_
      exact rt_z C hw () (b01 _) rfl rfl dX2_readsKind_50
  · skip
    have c_24 := onI_ng (by omega) c_24
    refine lv_iconst (v := nI 0) xx xb dX2_readsKind_27 (by decide) ?_
    refine lv_goto (tgt := 32) xx xb dX2_readsKind_28 (by decide) ?_
    refine re_i (nI (if kd (hd lf2 lm pl) < 10 then 1 else 0)) (by first | (rw [if_pos (by omega)]; done) | (rw [if_neg (by omega)]; done)) ?_
    refine lv_iadd xx xb dX2_readsKind_32 ?_
    refine re_i (nI (pl + (if kd (hd lf2 lm pl) < 10 then 1 else 0))) (nI_add _ _) ?_
    refine m_put C hw 0 rfl rfl tyX2 tyX2_ok nmX2 fk_X2_88 rfl rfl rfl rfl (Nat.le_of_ble_eq_true rfl) dX2_readsKind_33 (fun H locs hw => ?_)
    have hw : Wd G (fA [(h0, .inr (2, [.ref a1, .ref a2, .ref a3, .ref a4, .int (nI im), .ref a5, .ref a6, .ref a7, .int (nI lm), .int (nI rm), .int (nI pl), .ref a8, .int sd])), (a5, aI G 96 (cN lf2)), (a8, aI G 3 nu)]) s [(h0, .inr (2, [.ref a1, .ref a2, .ref a3, .ref a4, .int (nI im), .ref a5, .ref a6, .ref a7, .int (nI lm), .int (nI rm), .int (nI (pl + (if kd (hd lf2 lm pl) < 10 then 1 else 0))), .ref a8, .int sd])), (a5, aI G 96 (cN lf2)), (a8, aI G 3 (upd nu 0 (onI (kd (hd lf2 lm pl)))))] H locs := hw
    refine lv_aload_n xx xb dX2_readsKind_36 rfl (lv_at hl 0 rfl) ?_
    refine m_get C hw 0 rfl fk_X2_31 rfl dX2_readsKind_37 ?_
    refine lv_iconst (v := nI 0) xx xb dX2_readsKind_40 (by decide) ?_
    refine m_ald C hw 2 rfl 0 rfl (by omega) (by decide) dX2_readsKind_41 ?_
    refine re_i (onI (kd (hd lf2 lm pl))) (upd_s _ _ _) ?_
    refine lv_if_lt (tgt := 49) xx xb dX2_readsKind_42 (by decide) (fun c_42 => ?_) (fun c_42 => ?_)
    · skip
      have c_42 := (onI_neg (by omega)).mp c_42
      refine lv_iconst (v := nI 0) xx xb dX2_readsKind_49 (by decide) ?_
      refine re_i (if kd (hd lf2 lm pl) < 10 then 1 else 0) (by first | exact r1 (by omega) | exact r0 (by omega)) ?_
      exact rt_z C hw () (b01 _) rfl rfl dX2_readsKind_50
    · skip
      have c_42 := mt (onI_neg (by omega)).mpr c_42
      refine lv_iconst (v := nI 1) xx xb dX2_readsKind_45 (by decide) ?_
      refine lv_goto (tgt := 50) xx xb dX2_readsKind_46 (by decide) ?_
      refine re_i (if kd (hd lf2 lm pl) < 10 then 1 else 0) (by first | exact r1 (by omega) | exact r0 (by omega)) ?_
      exact rt_z C hw () (b01 _) rfl rfl dX2_readsKind_50
