theorem drW_ex (z : Int32) (n : Nat) : ∃ x : Nat, x = drN z n := ⟨_, rfl⟩
/-- a DRAW, not to be reckoned -/
noncomputable def drW (z : Int32) (n : Nat) : Nat := Classical.choose (drW_ex z n)
theorem drW_e (z : Int32) (n : Nat) : drW z n = drN z n := Classical.choose_spec (drW_ex z n)
/-- the seed behind k DRAWS -/
def drz (z : Int32) : Nat → Int32
  | 0 => z
  | k + 1 => nxI (drz z k)
/-- a room by lot, behind i MINUTES -/
noncomputable def ltR (R : RT) (z : Int32) : Nat → RT
  | 0 => R
  | i + 1 => miF (obP (ltR R z i) (drW (drz z (2 * i + 1)) (R 0 0)) (drW (drz z (2 * i + 2)) 10)) 0
theorem ltR_00 (R : RT) (z : Int32) : ∀ i, ltR R z i 0 0 = R 0 0
  | 0 => rfl
  | i + 1 => by
    show obP (ltR R z i) _ _ 0 0 = R 0 0
    rw [obP_00]; exact ltR_00 R z i
theorem drW_lt (z : Int32) {n : Nat} (h : 1 ≤ n) : drW z n < n := by rw [drW_e]; exact Nat.mod_lt _ (by omega)
theorem OK_ltR {R : RT} (hR : OK R) (h1 : 1 ≤ R 0 0) (z : Int32) : ∀ i, OK (ltR R z i)
  | 0 => hR
  | i + 1 => OK_miF 0 (OK_obP (OK_ltR hR h1 z i) (Or.inr (by rw [ltR_00]; exact drW_lt _ h1)) _)
theorem AK_ltR {R : RT} (hR : OK R) (hK : AK R) (h1 : 1 ≤ R 0 0) (z : Int32) : ∀ i, AK (ltR R z i)
  | 0 => hK
  | i + 1 => AK_miF (by omega) (OK_obP (OK_ltR hR h1 z i) (Or.inr (by rw [ltR_00]; exact drW_lt _ h1)) _) (AK_obP (AK_ltR hR hK h1 z i) _ _)
theorem drz_add (z : Int32) (a : Nat) : ∀ b, drz (drz z a) b = drz z (a + b)
  | 0 => rfl
  | b + 1 => congrArg nxI (drz_add z a b)
def ltV (w : Int) (R : RT) : Nat := if w = 0 then stN R else lyN R
noncomputable def ltT (R : RT) (z : Int32) (w : Int) : Nat → Nat
  | 0 => 0
  | k + 1 => ltT R z w k + ltV w (ltR R (drz z (10 * k)) 5)
def cLots (R : RT) (n w : Int) : Nat := if n < 1 then 4 else if 20 < n then 6 else if 0 ≤ w ∧ w ≤ 1 then (if R 0 0 = 0 then 3 else 0) else 2
theorem ob_gt {t s : Nat} (ht : t ≤ 11) (hs : s ≤ 10) : nI t - nI 1 < nI s ↔ t < s + 1 := by
  have : ∀ t, t ≤ 11 → ∀ s, s ≤ 10 → (nI t - nI 1 < nI s ↔ t < s + 1) := by decide +kernel
  exact this t ht s hs
theorem ob_gn {t : Nat} (ht : t ≤ 11) (h : nI t - nI 1 < -1) : False := by
  have : ∀ t, t ≤ 11 → nI t - nI 1 < -1 → False := by decide +kernel
  exact this t ht h
theorem plX_e {ax bx cx : Int32} {a b c k : Nat} (ha : ax = nI a) (hb : bx = nI b) (hc : cx = nI c) : (if k = 0 then ax else if k = 1 then bx else cx) = nI (plX a b c k) := by
  subst ha; subst hb; subst hc
  unfold plX
  repeat' split
  all_goals rfl
theorem plX_lt {n a b c k : Nat} (ha : a < n) (hb : b < n) (hc : c < n) : plX a b c k < n := by
  unfold plX
  repeat' split
  all_goals omega
theorem orS_q {R : RT} {a b c v x y : Nat} (hy : y < 3) : stN (obF R (plX a b c x) (plX a b c y) (plX a b c (3 - x - y)) v 10) = orS R a b c v (3 * x + y) := by
  unfold orS
  rw [show (3 * x + y) / 3 = x by omega, show (3 * x + y) % 3 = y by omega]
theorem orT_y {R : RT} {a b c v q : Nat} (h : q % 4 ≠ 0 ∧ orT R a b c v q < orS R a b c v q + 1) : orT R a b c v (q + 1) = orS R a b c v q + 1 := if_pos h
theorem orT_n {R : RT} {a b c v q : Nat} (h : ¬ (q % 4 ≠ 0 ∧ orT R a b c v q < orS R a b c v q + 1)) : orT R a b c v (q + 1) = orT R a b c v q := if_neg h
theorem orC_y {R : RT} {a b c v q : Nat} (h : q % 4 ≠ 0 ∧ orT R a b c v q < orS R a b c v q + 1) : orC R a b c v (q + 1) = 100 * (q / 3) + 10 * (q % 3) + (3 - q / 3 - q % 3) := if_pos h
theorem orC_n {R : RT} {a b c v q : Nat} (h : ¬ (q % 4 ≠ 0 ∧ orT R a b c v q < orS R a b c v q + 1)) : orC R a b c v (q + 1) = orC R a b c v q := if_neg h
theorem orT_pos (R : RT) (a b c v : Nat) : 1 ≤ orT R a b c v 9 := by
  have m : ∀ q, orT R a b c v q ≤ orT R a b c v (q + 1) := fun q => by
    by_cases h : q % 4 ≠ 0 ∧ orT R a b c v q < orS R a b c v q + 1
    · rw [orT_y h]; omega
    · rw [orT_n h]; exact Nat.le_refl _
  have h2 : 1 ≤ orT R a b c v 2 := by
    by_cases h : 1 % 4 ≠ 0 ∧ orT R a b c v 1 < orS R a b c v 1 + 1
    · rw [show (2 : Nat) = 1 + 1 from rfl, orT_y h]; omega
    · rw [show (2 : Nat) = 1 + 1 from rfl, orT_n h]; omega
  have m2 : orT R a b c v 2 ≤ orT R a b c v 3 := m 2
  have m3 : orT R a b c v 3 ≤ orT R a b c v 4 := m 3
  have m4 : orT R a b c v 4 ≤ orT R a b c v 5 := m 4
  have m5 : orT R a b c v 5 ≤ orT R a b c v 6 := m 5
  have m6 : orT R a b c v 6 ≤ orT R a b c v 7 := m 6
  have m7 : orT R a b c v 7 ≤ orT R a b c v 8 := m 7
  have m8 : orT R a b c v 8 ≤ orT R a b c v 9 := m 8
  omega
set_option maxRecDepth 100000 in
set_option maxHeartbeats 4000000 in
theorem kX2_lots (l : Launch) (G : GT) (h0 : Nat) (a1 : Nat) (a2 : Nat) (a3 : Nat) (a4 : Nat) (a5 : Nat) (a6 : Nat) (a7 : Nat) (a8 : Nat) (im : Nat) (lm : Nat) (rm : Nat) (pl : Nat) (sd : Int32) (R : RT) (Rm : RT) (rf : Nat → Nat) (z : Int32) (n : Int32) (nz : Int) (ww : Int32) (wwz : Int) (h_n : n.toInt = nz) (h_ww : ww.toInt = wwz) (hR : OK R) (hK : AK R) : Ct l yX2_lots cX2_lots 10 (some .int) 4 91 [.ref h0, .int n, .int z, .int ww] G [(h0, .inr (2, [.ref a1, .ref a2, .ref a3, .ref a4, .int (nI im), .ref a5, .ref a6, .ref a7, .int (nI lm), .int (nI rm), .int (nI pl), .ref a8, .int sd])), (a1, aI G 54 (fl R)), (a2, aI G 54 (fl Rm)), (a7, aI G 7 (cN rf))] (QI G [(h0, .inr (2, [.ref a1, .ref a2, .ref a3, .ref a4, .int (nI im), .ref a5, .ref a6, .ref a7, .int (nI lm), .int (nI rm), .int (nI pl), .ref a8, .int sd])), (a1, aI G 54 (fl R)), (a2, aI G 54 (fl Rm)), (a7, aI G 7 (cN rf))] (fun (r : Int32) (u : RT × Int32) => r = anI (cLots R nz wwz) (nI (ltT R z wwz nz.toNat))) (fun u => [(h0, .inr (2, [.ref a1, .ref a2, .ref a3, .ref a4, .int (nI im), .ref a5, .ref a6, .ref a7, .int (nI lm), .int (nI rm), .int (nI pl), .ref a8, .int u.2])), (a1, aI G 54 (fl R)), (a2, aI G 54 (fl u.1)), (a7, aI G 7 (cN (rfU rf (cLots R nz wwz))))])) := by
  refine en (by decide +kernel) (Nat.le_of_ble_eq_true rfl) ?_
  intro p e s m below meth c ls H locs C hl hw
  have xx := C.1
  have xb := C.2.1
  have hw : Wd G (fA [(h0, .inr (2, [.ref a1, .ref a2, .ref a3, .ref a4, .int (nI im), .ref a5, .ref a6, .ref a7, .int (nI lm), .int (nI rm), .int (nI pl), .ref a8, .int sd])), (a1, aI G 54 (fl R)), (a2, aI G 54 (fl Rm)), (a7, aI G 7 (cN rf))]) s [(h0, .inr (2, [.ref a1, .ref a2, .ref a3, .ref a4, .int (nI im), .ref a5, .ref a6, .ref a7, .int (nI lm), .int (nI rm), .int (nI pl), .ref a8, .int sd])), (a1, aI G 54 (fl R)), (a2, aI G 54 (fl Rm)), (a7, aI G 7 (cN rf))] H locs := hw
  have hl : lv_has ls 10 [(0, .ref h0), (1, .int n), (2, .int z), (3, .int ww)] := hl
  obtain ⟨hn, hf0, hpr, hA⟩ := id hR
  refine lv_iload_n xx xb dX2_lots_0 rfl (lv_at hl 1 rfl) ?_
  refine lv_iconst (v := nI 1) xx xb dX2_lots_1 (by decide) ?_
  refine lv_icmp_ge (tgt := 12) xx xb dX2_lots_2 (by decide) (fun c_2 => ?_) (fun c_2 => ?_)
  · skip
    have c_2 := le_c (tN (by omega)) h_n c_2
    refine lv_iload_n xx xb dX2_lots_12 rfl (lv_at hl 1 rfl) ?_
    refine lv_bipush (v := nI 20) xx xb dX2_lots_13 (by decide) ?_
    refine lv_icmp_le (tgt := 25) xx xb dX2_lots_15 (by decide) (fun c_15 => ?_) (fun c_15 => ?_)
    · skip
      have c_15 := le_c h_n (tN (by omega)) c_15
      refine lv_iload_n xx xb dX2_lots_25 rfl (lv_at hl 3 rfl) ?_
      refine lv_iconst (v := nI 0) xx xb dX2_lots_26 (by decide) ?_
      refine lv_iconst (v := nI 1) xx xb dX2_lots_27 (by decide) ?_
      have hM := kX2_isIn l G ww wwz (nI 0) 0 (nI 1) 1 h_ww (tN (by omega)) (tN (by omega))
      refine cs_i C hw hM ysX2_isIn ml_X2_40 rfl [] rfl rfl (fun _ => (rfl : ([] : List Nat) = [])) (by decide) ⟨Nat.zero_le _, Nat.zero_le _⟩ hl.1 rfl (Nat.le_of_ble_eq_true rfl) dX2_lots_28 (fun r _ H locs hr hw => ?_)
      have hw : Wd G (fA [(h0, .inr (2, [.ref a1, .ref a2, .ref a3, .ref a4, .int (nI im), .ref a5, .ref a6, .ref a7, .int (nI lm), .int (nI rm), .int (nI pl), .ref a8, .int sd])), (a1, aI G 54 (fl R)), (a2, aI G 54 (fl Rm)), (a7, aI G 7 (cN rf))]) s [(h0, .inr (2, [.ref a1, .ref a2, .ref a3, .ref a4, .int (nI im), .ref a5, .ref a6, .ref a7, .int (nI lm), .int (nI rm), .int (nI pl), .ref a8, .int sd])), (a1, aI G 54 (fl R)), (a2, aI G 54 (fl Rm)), (a7, aI G 7 (cN rf))] H locs := hw
      subst hr
      refine lv_if_ne (tgt := 41) xx xb dX2_lots_31 (by decide) (fun c_31 => ?_) (fun c_31 => ?_)
      · skip
        have c_31 := b1_c c_31
        refine lv_aload_n xx xb dX2_lots_41 rfl (lv_at hl 0 rfl) ?_
        refine m_get C hw 0 rfl fk_X2_9 rfl dX2_lots_42 ?_
        refine lv_iconst (v := nI 0) xx xb dX2_lots_45 (by decide) ?_
        refine m_ald C hw 1 rfl 0 rfl (by omega) (by decide) dX2_lots_46 ?_
        refine re_i (nI (R 0 0)) (fl_h R (by decide)) ?_
        refine lv_if_ne (tgt := 57) xx xb dX2_lots_47 (by decide) (fun c_47 => ?_) (fun c_47 => ?_)
        · skip
          have c_47 := ne_c (tN (by omega)) Int32.toInt_zero c_47
          have h1 : 1 ≤ R 0 0 := by omega
          refine lv_aload_n xx xb dX2_lots_57 rfl (lv_at hl 0 rfl) ?_
          refine lv_iload_n xx xb dX2_lots_58 rfl (lv_at hl 2 rfl) ?_
          refine m_put C hw 0 rfl rfl tyX2 tyX2_ok nmX2 fk_X2_184 rfl rfl rfl rfl (Nat.le_of_ble_eq_true rfl) dX2_lots_59 (fun H locs hw => ?_)
          have hw : Wd G (fA [(h0, .inr (2, [.ref a1, .ref a2, .ref a3, .ref a4, .int (nI im), .ref a5, .ref a6, .ref a7, .int (nI lm), .int (nI rm), .int (nI pl), .ref a8, .int sd])), (a1, aI G 54 (fl R)), (a2, aI G 54 (fl Rm)), (a7, aI G 7 (cN rf))]) s [(h0, .inr (2, [.ref a1, .ref a2, .ref a3, .ref a4, .int (nI im), .ref a5, .ref a6, .ref a7, .int (nI lm), .int (nI rm), .int (nI pl), .ref a8, .int z])), (a1, aI G 54 (fl R)), (a2, aI G 54 (fl Rm)), (a7, aI G 7 (cN rf))] H locs := hw
          refine lv_iconst (v := nI 0) xx xb dX2_lots_62 (by decide) ?_
          refine lv_istore (lv' := [(4, .int (nI 0)), (0, .ref h0), (1, .int n), (2, .int z), (3, .int ww)]) xx xb dX2_lots_63 hl (by decide) rfl (fun ls hl => ?_)
          refine lv_iconst (v := nI 0) xx xb dX2_lots_65 (by decide) ?_
          refine lv_istore (lv' := [(5, .int (nI 0)), (4, .int (nI 0)), (0, .ref h0), (1, .int n), (2, .int z), (3, .int ww)]) xx xb dX2_lots_66 hl (by decide) rfl (fun ls hl => ?_)
          have hw : Wd G (fA [(h0, .inr (2, [.ref a1, .ref a2, .ref a3, .ref a4, .int (nI im), .ref a5, .ref a6, .ref a7, .int (nI lm), .int (nI rm), .int (nI pl), .ref a8, .int sd])), (a1, aI G 54 (fl R)), (a2, aI G 54 (fl Rm)), (a7, aI G 7 (cN rf))]) s [(h0, .inr (2, [.ref a1, .ref a2, .ref a3, .ref a4, .int (nI im), .ref a5, .ref a6, .ref a7, .int (nI lm), .int (nI rm), .int (nI pl), .ref a8, .int (drz z (10 * 0))])), (a1, aI G 54 (fl R)), (a2, aI G 54 (fl Rm)), (a7, aI G 7 (cN rf))] H locs := hw
          have L_68 : ∀ (fu : Nat) (k : Nat) (Y : RT) (H : Heap) (locs : List Loc) (ls : Array Slot), nz.toNat - k < fu → ((k : Int) ≤ nz) → Wd G (fA [(h0, .inr (2, [.ref a1, .ref a2, .ref a3, .ref a4, .int (nI im), .ref a5, .ref a6, .ref a7, .int (nI lm), .int (nI rm), .int (nI pl), .ref a8, .int sd])), (a1, aI G 54 (fl R)), (a2, aI G 54 (fl Rm)), (a7, aI G 7 (cN rf))]) s [(h0, .inr (2, [.ref a1, .ref a2, .ref a3, .ref a4, .int (nI im), .ref a5, .ref a6, .ref a7, .int (nI lm), .int (nI rm), .int (nI pl), .ref a8, .int (drz z (10 * k))])), (a1, aI G 54 (fl R)), (a2, aI G 54 (fl Y)), (a7, aI G 7 (cN rf))] H locs → lv_has ls 10 [(0, .ref h0), (1, .int n), (2, .int z), (3, .int ww), (4, .int (nI (ltT R z wwz k))), (5, .int (nI k))] → W p l e ({ frames := 4, cells := 0, slots := 0, locals := 91 }) s m (([.ref h0, .int n, .int z, .int ww] : List Value).toArray) below meth c H locs 0 0 (MQ below (QI G [(h0, .inr (2, [.ref a1, .ref a2, .ref a3, .ref a4, .int (nI im), .ref a5, .ref a6, .ref a7, .int (nI lm), .int (nI rm), .int (nI pl), .ref a8, .int sd])), (a1, aI G 54 (fl R)), (a2, aI G 54 (fl Rm)), (a7, aI G 7 (cN rf))] (fun (r : Int32) (u : RT × Int32) => r = anI (cLots R nz wwz) (nI (ltT R z wwz nz.toNat))) (fun u => [(h0, .inr (2, [.ref a1, .ref a2, .ref a3, .ref a4, .int (nI im), .ref a5, .ref a6, .ref a7, .int (nI lm), .int (nI rm), .int (nI pl), .ref a8, .int u.2])), (a1, aI G 54 (fl R)), (a2, aI G 54 (fl u.1)), (a7, aI G 7 (cN (rfU rf (cLots R nz wwz))))])) (([.ref h0, .int n, .int z, .int ww] : List Value).toArray) s 0 0 (fA [(h0, .inr (2, [.ref a1, .ref a2, .ref a3, .ref a4, .int (nI im), .ref a5, .ref a6, .ref a7, .int (nI lm), .int (nI rm), .int (nI pl), .ref a8, .int sd])), (a1, aI G 54 (fl R)), (a2, aI G 54 (fl Rm)), (a7, aI G 7 (cN rf))])) (F0 m 68 ls []) := by
            intro fu
            induction fu with
            | zero => intro k Y H locs ls hfu; exact absurd hfu (Nat.not_lt_zero _)
            | succ fu ih_68 =>
              intro k Y H locs ls hfu hk hw hl
              refine lv_iload xx xb dX2_lots_68 (lv_at hl 5 rfl) ?_
              refine lv_iload_n xx xb dX2_lots_70 rfl (lv_at hl 1 rfl) ?_
              refine lv_icmp_ge (tgt := 187) xx xb dX2_lots_71 (by decide) (fun c_71 => ?_) (fun c_71 => ?_)
              · skip
                have c_71 := le_c h_n (tN (by omega)) c_71
                refine lv_iload xx xb dX2_lots_187 (lv_at hl 4 rfl) ?_
                refine re_i (nI (ltT R z wwz nz.toNat)) (congrArg nI (by rw [show nz.toNat = k by omega])) ?_
                have hc : cLots R nz wwz = 0 := by unfold cLots; (repeat' split) <;> omega
                exact rt_i C hw (Y, drz z (10 * k)) (by exact (anI_0 hc _).symm) (by rw [rfU_0 hc]) dX2_lots_189
              · skip
                have c_71 := nle_c h_n (tN (by omega)) c_71
                refine lv_aload_n xx xb dX2_lots_74 rfl (lv_at hl 0 rfl) ?_
                refine m_get C hw 0 rfl fk_X2_9 rfl dX2_lots_75 ?_
                refine lv_aload_n xx xb dX2_lots_78 rfl (lv_at hl 0 rfl) ?_
                refine m_get C hw 0 rfl fk_X2_13 rfl dX2_lots_79 ?_
                have hM := kX2_copies l G a1 a2 (fl R) (fl Y) 
                refine cs_v C hw hM ysX2_copies ml_X2_121 rfl [1, 2] rfl rfl (fun _ => (rfl : ([a1, a2] : List Nat) = [a1, a2])) (by decide) ⟨Nat.zero_le _, Nat.zero_le _⟩ hl.1 rfl (Nat.le_of_ble_eq_true rfl) dX2_lots_82 (fun _ H locs hr hw => ?_)
                have hw : Wd G (fA [(h0, .inr (2, [.ref a1, .ref a2, .ref a3, .ref a4, .int (nI im), .ref a5, .ref a6, .ref a7, .int (nI lm), .int (nI rm), .int (nI pl), .ref a8, .int sd])), (a1, aI G 54 (fl R)), (a2, aI G 54 (fl Rm)), (a7, aI G 7 (cN rf))]) s [(h0, .inr (2, [.ref a1, .ref a2, .ref a3, .ref a4, .int (nI im), .ref a5, .ref a6, .ref a7, .int (nI lm), .int (nI rm), .int (nI pl), .ref a8, .int (drz z (10 * k))])), (a1, aI G 54 (fl R)), (a2, aI G 54 (fl R)), (a7, aI G 7 (cN rf))] H locs := hw
                refine lv_iconst (v := nI 0) xx xb dX2_lots_85 (by decide) ?_
                refine lv_istore (lv' := [(6, .int (nI 0)), (0, .ref h0), (1, .int n), (2, .int z), (3, .int ww), (4, .int (nI (ltT R z wwz k))), (5, .int (nI k))]) xx xb dX2_lots_86 hl (by decide) rfl (fun ls hl => ?_)
                have hw : Wd G (fA [(h0, .inr (2, [.ref a1, .ref a2, .ref a3, .ref a4, .int (nI im), .ref a5, .ref a6, .ref a7, .int (nI lm), .int (nI rm), .int (nI pl), .ref a8, .int sd])), (a1, aI G 54 (fl R)), (a2, aI G 54 (fl Rm)), (a7, aI G 7 (cN rf))]) s [(h0, .inr (2, [.ref a1, .ref a2, .ref a3, .ref a4, .int (nI im), .ref a5, .ref a6, .ref a7, .int (nI lm), .int (nI rm), .int (nI pl), .ref a8, .int (drz (drz z (10 * k)) (2 * 0))])), (a1, aI G 54 (fl R)), (a2, aI G 54 (fl (ltR R (drz z (10 * k)) 0))), (a7, aI G 7 (cN rf))] H locs := hw
                have L_88 : ∀ (fu : Nat) (i : Nat) (H : Heap) (locs : List Loc) (ls : Array Slot), 5 - i < fu → (i ≤ 5) → Wd G (fA [(h0, .inr (2, [.ref a1, .ref a2, .ref a3, .ref a4, .int (nI im), .ref a5, .ref a6, .ref a7, .int (nI lm), .int (nI rm), .int (nI pl), .ref a8, .int sd])), (a1, aI G 54 (fl R)), (a2, aI G 54 (fl Rm)), (a7, aI G 7 (cN rf))]) s [(h0, .inr (2, [.ref a1, .ref a2, .ref a3, .ref a4, .int (nI im), .ref a5, .ref a6, .ref a7, .int (nI lm), .int (nI rm), .int (nI pl), .ref a8, .int (drz (drz z (10 * k)) (2 * i))])), (a1, aI G 54 (fl R)), (a2, aI G 54 (fl (ltR R (drz z (10 * k)) i))), (a7, aI G 7 (cN rf))] H locs → lv_has ls 10 [(0, .ref h0), (1, .int n), (2, .int z), (3, .int ww), (4, .int (nI (ltT R z wwz k))), (5, .int (nI k)), (6, .int (nI i))] → W p l e ({ frames := 4, cells := 0, slots := 0, locals := 91 }) s m (([.ref h0, .int n, .int z, .int ww] : List Value).toArray) below meth c H locs 0 0 (MQ below (QI G [(h0, .inr (2, [.ref a1, .ref a2, .ref a3, .ref a4, .int (nI im), .ref a5, .ref a6, .ref a7, .int (nI lm), .int (nI rm), .int (nI pl), .ref a8, .int sd])), (a1, aI G 54 (fl R)), (a2, aI G 54 (fl Rm)), (a7, aI G 7 (cN rf))] (fun (r : Int32) (u : RT × Int32) => r = anI (cLots R nz wwz) (nI (ltT R z wwz nz.toNat))) (fun u => [(h0, .inr (2, [.ref a1, .ref a2, .ref a3, .ref a4, .int (nI im), .ref a5, .ref a6, .ref a7, .int (nI lm), .int (nI rm), .int (nI pl), .ref a8, .int u.2])), (a1, aI G 54 (fl R)), (a2, aI G 54 (fl u.1)), (a7, aI G 7 (cN (rfU rf (cLots R nz wwz))))])) (([.ref h0, .int n, .int z, .int ww] : List Value).toArray) s 0 0 (fA [(h0, .inr (2, [.ref a1, .ref a2, .ref a3, .ref a4, .int (nI im), .ref a5, .ref a6, .ref a7, .int (nI lm), .int (nI rm), .int (nI pl), .ref a8, .int sd])), (a1, aI G 54 (fl R)), (a2, aI G 54 (fl Rm)), (a7, aI G 7 (cN rf))])) (F0 m 88 ls []) := by
                  intro fu
                  induction fu with
                  | zero => intro i H locs ls hfu; exact absurd hfu (Nat.not_lt_zero _)
                  | succ fu ih_88 =>
                    intro i H locs ls hfu hi hw hl
                    refine lv_iload xx xb dX2_lots_88 (lv_at hl 6 rfl) ?_
                    refine lv_iconst (v := nI 5) xx xb dX2_lots_90 (by decide) ?_
                    refine lv_icmp_ge (tgt := 157) xx xb dX2_lots_91 (by decide) (fun c_91 => ?_) (fun c_91 => ?_)
                    · skip
                      have c_91 := le_c (tN (by omega)) (tN (by omega)) c_91
                      have hi5 : i = 5 := by omega
                      have hw : Wd G (fA [(h0, .inr (2, [.ref a1, .ref a2, .ref a3, .ref a4, .int (nI im), .ref a5, .ref a6, .ref a7, .int (nI lm), .int (nI rm), .int (nI pl), .ref a8, .int sd])), (a1, aI G 54 (fl R)), (a2, aI G 54 (fl Rm)), (a7, aI G 7 (cN rf))]) s [(h0, .inr (2, [.ref a1, .ref a2, .ref a3, .ref a4, .int (nI im), .ref a5, .ref a6, .ref a7, .int (nI lm), .int (nI rm), .int (nI pl), .ref a8, .int (drz (drz z (10 * k)) (2 * 5))])), (a1, aI G 54 (fl R)), (a2, aI G 54 (fl (ltR R (drz z (10 * k)) 5))), (a7, aI G 7 (cN rf))] H locs := by rw [hi5] at hw; exact hw
                      have hMO := OK_ltR hR h1 (drz z (10 * k)) 5
                      have hMN := ltR_00 R (drz z (10 * k)) 5
                      have hs0 := setF_lt hMO 0
                      have hs1 := setF_lt hMO 1
                      refine lv_iload xx xb dX2_lots_157 (lv_at hl 4 rfl) ?_
                      refine lv_aload_n xx xb dX2_lots_159 rfl (lv_at hl 0 rfl) ?_
                      refine m_get C hw 0 rfl fk_X2_13 rfl dX2_lots_160 ?_
                      refine lv_iload_n xx xb dX2_lots_163 rfl (lv_at hl 3 rfl) ?_
                      refine lv_if_ne (tgt := 171) xx xb dX2_lots_164 (by decide) (fun c_164 => ?_) (fun c_164 => ?_)
                      · skip
                        have c_164 := ne_c h_ww Int32.toInt_zero c_164
                        refine lv_iconst (v := nI 1) xx xb dX2_lots_171 (by decide) ?_
                        have hM := kX2_setOf l G a2 (ltR R (drz z (10 * k)) 5) 1 (by first | assumption | omega) (by first | assumption | omega)
                        refine cs_i C hw hM ysX2_setOf ml_X2_73 rfl [2] rfl rfl (fun _ => (rfl : ([a2] : List Nat) = [a2])) (by decide) ⟨Nat.zero_le _, Nat.zero_le _⟩ hl.1 rfl (Nat.le_of_ble_eq_true rfl) dX2_lots_172 (fun r _ H locs hr hw => ?_)
                        have hw : Wd G (fA [(h0, .inr (2, [.ref a1, .ref a2, .ref a3, .ref a4, .int (nI im), .ref a5, .ref a6, .ref a7, .int (nI lm), .int (nI rm), .int (nI pl), .ref a8, .int sd])), (a1, aI G 54 (fl R)), (a2, aI G 54 (fl Rm)), (a7, aI G 7 (cN rf))]) s [(h0, .inr (2, [.ref a1, .ref a2, .ref a3, .ref a4, .int (nI im), .ref a5, .ref a6, .ref a7, .int (nI lm), .int (nI rm), .int (nI pl), .ref a8, .int (drz (drz z (10 * k)) (2 * 5))])), (a1, aI G 54 (fl R)), (a2, aI G 54 (fl (ltR R (drz z (10 * k)) 5))), (a7, aI G 7 (cN rf))] H locs := hw
                        subst hr
                        have hM := kX2_bits l G (setF (ltR R (drz z (10 * k)) 5) 1) (by first | assumption | omega)
                        refine cs_i C hw hM ysX2_bits ml_X2_67 rfl [] rfl rfl (fun _ => (rfl : ([] : List Nat) = [])) (by decide) ⟨Nat.zero_le _, Nat.zero_le _⟩ hl.1 rfl (Nat.le_of_ble_eq_true rfl) dX2_lots_175 (fun r _ H locs hr hw => ?_)
                        have hw : Wd G (fA [(h0, .inr (2, [.ref a1, .ref a2, .ref a3, .ref a4, .int (nI im), .ref a5, .ref a6, .ref a7, .int (nI lm), .int (nI rm), .int (nI pl), .ref a8, .int sd])), (a1, aI G 54 (fl R)), (a2, aI G 54 (fl Rm)), (a7, aI G 7 (cN rf))]) s [(h0, .inr (2, [.ref a1, .ref a2, .ref a3, .ref a4, .int (nI im), .ref a5, .ref a6, .ref a7, .int (nI lm), .int (nI rm), .int (nI pl), .ref a8, .int (drz (drz z (10 * k)) (2 * 5))])), (a1, aI G 54 (fl R)), (a2, aI G 54 (fl (ltR R (drz z (10 * k)) 5))), (a7, aI G 7 (cN rf))] H locs := hw
                        subst hr
                        refine re_i (nI (ltV wwz (ltR R (drz z (10 * k)) 5))) (congrArg nI ((pc_bs _ hMO.1).trans (by unfold ltV; first | (rw [if_pos (by omega)]; rfl) | (rw [if_neg (by omega)]; rfl)))) ?_
                        refine lv_iadd xx xb dX2_lots_178 ?_
                        refine re_i (nI ((ltT R z wwz k) + (ltV wwz (ltR R (drz z (10 * k)) 5)))) (nI_add _ _) ?_
                        refine lv_istore (lv' := [(4, .int (nI ((ltT R z wwz k) + (ltV wwz (ltR R (drz z (10 * k)) 5))))), (0, .ref h0), (1, .int n), (2, .int z), (3, .int ww), (5, .int (nI k)), (6, .int (nI i))]) xx xb dX2_lots_179 hl (by decide) rfl (fun ls hl => ?_)
                        have hw : Wd G (fA [(h0, .inr (2, [.ref a1, .ref a2, .ref a3, .ref a4, .int (nI im), .ref a5, .ref a6, .ref a7, .int (nI lm), .int (nI rm), .int (nI pl), .ref a8, .int sd])), (a1, aI G 54 (fl R)), (a2, aI G 54 (fl Rm)), (a7, aI G 7 (cN rf))]) s [(h0, .inr (2, [.ref a1, .ref a2, .ref a3, .ref a4, .int (nI im), .ref a5, .ref a6, .ref a7, .int (nI lm), .int (nI rm), .int (nI pl), .ref a8, .int (drz z (10 * (k + 1)))])), (a1, aI G 54 (fl R)), (a2, aI G 54 (fl (ltR R (drz z (10 * k)) 5))), (a7, aI G 7 (cN rf))] H locs := by rw [show drz z (10 * (k + 1)) = drz (drz z (10 * k)) (2 * 5) from (drz_add z (10 * k) 10).symm]; exact hw
                        refine lv_iinc (v := nI (k + 1)) (lv' := [(5, .int (nI (k + 1))), (4, .int (nI ((ltT R z wwz k) + (ltV wwz (ltR R (drz z (10 * k)) 5))))), (0, .ref h0), (1, .int n), (2, .int z), (3, .int ww), (6, .int (nI i))]) xx xb dX2_lots_181 hl (k := 5) rfl (nI_add _ 1) (by decide) rfl (fun ls hl => ?_)
                        refine lv_goto (tgt := 68) xx xb dX2_lots_184 (by decide) ?_
                        exact ih_68 (k + 1) (ltR R (drz z (10 * k)) 5) H _ ls (by omega) (by omega) hw (lv_sub hl [2, 3, 4, 5, 1, 0] rfl)
                      · skip
                        have c_164 := eq_c h_ww Int32.toInt_zero c_164
                        refine lv_iconst (v := nI 0) xx xb dX2_lots_167 (by decide) ?_
                        refine lv_goto (tgt := 172) xx xb dX2_lots_168 (by decide) ?_
                        have hM := kX2_setOf l G a2 (ltR R (drz z (10 * k)) 5) 0 (by first | assumption | omega) (by first | assumption | omega)
                        refine cs_i C hw hM ysX2_setOf ml_X2_73 rfl [2] rfl rfl (fun _ => (rfl : ([a2] : List Nat) = [a2])) (by decide) ⟨Nat.zero_le _, Nat.zero_le _⟩ hl.1 rfl (Nat.le_of_ble_eq_true rfl) dX2_lots_172 (fun r _ H locs hr hw => ?_)
                        have hw : Wd G (fA [(h0, .inr (2, [.ref a1, .ref a2, .ref a3, .ref a4, .int (nI im), .ref a5, .ref a6, .ref a7, .int (nI lm), .int (nI rm), .int (nI pl), .ref a8, .int sd])), (a1, aI G 54 (fl R)), (a2, aI G 54 (fl Rm)), (a7, aI G 7 (cN rf))]) s [(h0, .inr (2, [.ref a1, .ref a2, .ref a3, .ref a4, .int (nI im), .ref a5, .ref a6, .ref a7, .int (nI lm), .int (nI rm), .int (nI pl), .ref a8, .int (drz (drz z (10 * k)) (2 * 5))])), (a1, aI G 54 (fl R)), (a2, aI G 54 (fl (ltR R (drz z (10 * k)) 5))), (a7, aI G 7 (cN rf))] H locs := hw
                        subst hr
                        have hM := kX2_bits l G (setF (ltR R (drz z (10 * k)) 5) 0) (by first | assumption | omega)
                        refine cs_i C hw hM ysX2_bits ml_X2_67 rfl [] rfl rfl (fun _ => (rfl : ([] : List Nat) = [])) (by decide) ⟨Nat.zero_le _, Nat.zero_le _⟩ hl.1 rfl (Nat.le_of_ble_eq_true rfl) dX2_lots_175 (fun r _ H locs hr hw => ?_)
                        have hw : Wd G (fA [(h0, .inr (2, [.ref a1, .ref a2, .ref a3, .ref a4, .int (nI im), .ref a5, .ref a6, .ref a7, .int (nI lm), .int (nI rm), .int (nI pl), .ref a8, .int sd])), (a1, aI G 54 (fl R)), (a2, aI G 54 (fl Rm)), (a7, aI G 7 (cN rf))]) s [(h0, .inr (2, [.ref a1, .ref a2, .ref a3, .ref a4, .int (nI im), .ref a5, .ref a6, .ref a7, .int (nI lm), .int (nI rm), .int (nI pl), .ref a8, .int (drz (drz z (10 * k)) (2 * 5))])), (a1, aI G 54 (fl R)), (a2, aI G 54 (fl (ltR R (drz z (10 * k)) 5))), (a7, aI G 7 (cN rf))] H locs := hw
                        subst hr
                        refine re_i (nI (ltV wwz (ltR R (drz z (10 * k)) 5))) (congrArg nI ((pc_bs _ hMO.1).trans (by unfold ltV; first | (rw [if_pos (by omega)]; rfl) | (rw [if_neg (by omega)]; rfl)))) ?_
                        refine lv_iadd xx xb dX2_lots_178 ?_
                        refine re_i (nI ((ltT R z wwz k) + (ltV wwz (ltR R (drz z (10 * k)) 5)))) (nI_add _ _) ?_
                        refine lv_istore (lv' := [(4, .int (nI ((ltT R z wwz k) + (ltV wwz (ltR R (drz z (10 * k)) 5))))), (0, .ref h0), (1, .int n), (2, .int z), (3, .int ww), (5, .int (nI k)), (6, .int (nI i))]) xx xb dX2_lots_179 hl (by decide) rfl (fun ls hl => ?_)
                        have hw : Wd G (fA [(h0, .inr (2, [.ref a1, .ref a2, .ref a3, .ref a4, .int (nI im), .ref a5, .ref a6, .ref a7, .int (nI lm), .int (nI rm), .int (nI pl), .ref a8, .int sd])), (a1, aI G 54 (fl R)), (a2, aI G 54 (fl Rm)), (a7, aI G 7 (cN rf))]) s [(h0, .inr (2, [.ref a1, .ref a2, .ref a3, .ref a4, .int (nI im), .ref a5, .ref a6, .ref a7, .int (nI lm), .int (nI rm), .int (nI pl), .ref a8, .int (drz z (10 * (k + 1)))])), (a1, aI G 54 (fl R)), (a2, aI G 54 (fl (ltR R (drz z (10 * k)) 5))), (a7, aI G 7 (cN rf))] H locs := by rw [show drz z (10 * (k + 1)) = drz (drz z (10 * k)) (2 * 5) from (drz_add z (10 * k) 10).symm]; exact hw
                        refine lv_iinc (v := nI (k + 1)) (lv' := [(5, .int (nI (k + 1))), (4, .int (nI ((ltT R z wwz k) + (ltV wwz (ltR R (drz z (10 * k)) 5))))), (0, .ref h0), (1, .int n), (2, .int z), (3, .int ww), (6, .int (nI i))]) xx xb dX2_lots_181 hl (k := 5) rfl (nI_add _ 1) (by decide) rfl (fun ls hl => ?_)
                        refine lv_goto (tgt := 68) xx xb dX2_lots_184 (by decide) ?_
                        exact ih_68 (k + 1) (ltR R (drz z (10 * k)) 5) H _ ls (by omega) (by omega) hw (lv_sub hl [2, 3, 4, 5, 1, 0] rfl)
                    · skip
                      have c_91 := nle_c (tN (by omega)) (tN (by omega)) c_91
                      refine lv_aload_n xx xb dX2_lots_94 rfl (lv_at hl 0 rfl) ?_
                      refine lv_aload_n xx xb dX2_lots_95 rfl (lv_at hl 0 rfl) ?_
                      refine m_get C hw 0 rfl fk_X2_9 rfl dX2_lots_96 ?_
                      refine lv_iconst (v := nI 0) xx xb dX2_lots_99 (by decide) ?_
                      refine m_ald C hw 1 rfl 0 rfl (by omega) (by decide) dX2_lots_100 ?_
                      refine re_i (nI (R 0 0)) (fl_h R (by decide)) ?_
                      have hM := kX2_drawn l G h0 a1 a2 a3 a4 a5 a6 a7 a8 im lm rm pl (drz (drz z (10 * k)) (2 * i)) (R 0 0) (by first | assumption | omega)
                      refine cv_i C hw hM yvX2_drawn ml_X2_190 0 rfl rfl rfl [0] rfl rfl (fun _ => (rfl : ([h0] : List Nat) = [h0])) (by decide) ⟨Nat.zero_le _, Nat.zero_le _⟩ hl.1 rfl (Nat.le_of_ble_eq_true rfl) dX2_lots_101 (fun r _ H locs hr hw => ?_)
                      have hw : Wd G (fA [(h0, .inr (2, [.ref a1, .ref a2, .ref a3, .ref a4, .int (nI im), .ref a5, .ref a6, .ref a7, .int (nI lm), .int (nI rm), .int (nI pl), .ref a8, .int sd])), (a1, aI G 54 (fl R)), (a2, aI G 54 (fl Rm)), (a7, aI G 7 (cN rf))]) s [(h0, .inr (2, [.ref a1, .ref a2, .ref a3, .ref a4, .int (nI im), .ref a5, .ref a6, .ref a7, .int (nI lm), .int (nI rm), .int (nI pl), .ref a8, .int (nxI (drz (drz z (10 * k)) (2 * i)))])), (a1, aI G 54 (fl R)), (a2, aI G 54 (fl (ltR R (drz z (10 * k)) i))), (a7, aI G 7 (cN rf))] H locs := hw
                      subst hr
                      refine re_i (nI (drW (drz (drz z (10 * k)) (2 * i + 1)) (R 0 0))) (congrArg nI (drW_e _ _).symm) ?_
                      refine lv_istore (lv' := [(7, .int (nI (drW (drz (drz z (10 * k)) (2 * i + 1)) (R 0 0)))), (0, .ref h0), (1, .int n), (2, .int z), (3, .int ww), (4, .int (nI (ltT R z wwz k))), (5, .int (nI k)), (6, .int (nI i))]) xx xb dX2_lots_104 hl (by decide) rfl (fun ls hl => ?_)
                      refine lv_aload_n xx xb dX2_lots_106 rfl (lv_at hl 1 rfl) ?_
                      refine lv_bipush (v := nI 10) xx xb dX2_lots_107 (by decide) ?_
                      have hM := kX2_drawn l G h0 a1 a2 a3 a4 a5 a6 a7 a8 im lm rm pl (nxI (drz (drz z (10 * k)) (2 * i))) 10 (by first | assumption | omega)
                      refine cv_i C hw hM yvX2_drawn ml_X2_190 0 rfl rfl rfl [0] rfl rfl (fun _ => (rfl : ([h0] : List Nat) = [h0])) (by decide) ⟨Nat.zero_le _, Nat.zero_le _⟩ hl.1 rfl (Nat.le_of_ble_eq_true rfl) dX2_lots_109 (fun r _ H locs hr hw => ?_)
                      have hw : Wd G (fA [(h0, .inr (2, [.ref a1, .ref a2, .ref a3, .ref a4, .int (nI im), .ref a5, .ref a6, .ref a7, .int (nI lm), .int (nI rm), .int (nI pl), .ref a8, .int sd])), (a1, aI G 54 (fl R)), (a2, aI G 54 (fl Rm)), (a7, aI G 7 (cN rf))]) s [(h0, .inr (2, [.ref a1, .ref a2, .ref a3, .ref a4, .int (nI im), .ref a5, .ref a6, .ref a7, .int (nI lm), .int (nI rm), .int (nI pl), .ref a8, .int (nxI (nxI (drz (drz z (10 * k)) (2 * i))))])), (a1, aI G 54 (fl R)), (a2, aI G 54 (fl (ltR R (drz z (10 * k)) i))), (a7, aI G 7 (cN rf))] H locs := hw
                      subst hr
                      refine re_i (nI (drW (drz (drz z (10 * k)) (2 * i + 2)) 10)) (congrArg nI (drW_e _ _).symm) ?_
                      refine lv_istore (lv' := [(8, .int (nI (drW (drz (drz z (10 * k)) (2 * i + 2)) 10))), (7, .int (nI (drW (drz (drz z (10 * k)) (2 * i + 1)) (R 0 0)))), (0, .ref h0), (1, .int n), (2, .int z), (3, .int ww), (4, .int (nI (ltT R z wwz k))), (5, .int (nI k)), (6, .int (nI i))]) xx xb dX2_lots_112 hl (by decide) rfl (fun ls hl => ?_)
                      have hMO := OK_ltR hR h1 (drz z (10 * k)) i
                      have hMK := AK_ltR hR hK h1 (drz z (10 * k)) i
                      have hMN := ltR_00 R (drz z (10 * k)) i
                      have hd1 := drW_lt (drz (drz z (10 * k)) (2 * i + 1)) h1
                      have hd2 := drW_lt (drz (drz z (10 * k)) (2 * i + 2)) (n := 10) (by decide)
                      refine lv_aload_n xx xb dX2_lots_114 rfl (lv_at hl 2 rfl) ?_
                      refine m_get C hw 0 rfl fk_X2_13 rfl dX2_lots_115 ?_
                      refine lv_iload xx xb dX2_lots_118 (lv_at hl 1 rfl) ?_
                      have hM := kX2_stands l G a2 (ltR R (drz z (10 * k)) i) (drW (drz (drz z (10 * k)) (2 * i + 1)) (R 0 0)) hMO (by rw [hMN]; exact hd1)
                      refine cs_i C hw hM ysX2_stands ml_X2_55 rfl [2] rfl rfl (fun _ => (rfl : ([a2] : List Nat) = [a2])) (by decide) ⟨Nat.zero_le _, Nat.zero_le _⟩ hl.1 rfl (Nat.le_of_ble_eq_true rfl) dX2_lots_120 (fun r _ H locs hr hw => ?_)
                      have hw : Wd G (fA [(h0, .inr (2, [.ref a1, .ref a2, .ref a3, .ref a4, .int (nI im), .ref a5, .ref a6, .ref a7, .int (nI lm), .int (nI rm), .int (nI pl), .ref a8, .int sd])), (a1, aI G 54 (fl R)), (a2, aI G 54 (fl Rm)), (a7, aI G 7 (cN rf))]) s [(h0, .inr (2, [.ref a1, .ref a2, .ref a3, .ref a4, .int (nI im), .ref a5, .ref a6, .ref a7, .int (nI lm), .int (nI rm), .int (nI pl), .ref a8, .int (nxI (nxI (drz (drz z (10 * k)) (2 * i))))])), (a1, aI G 54 (fl R)), (a2, aI G 54 (fl (ltR R (drz z (10 * k)) i))), (a7, aI G 7 (cN rf))] H locs := hw
                      subst hr
                      refine lv_if_eq (tgt := 140) xx xb dX2_lots_123 (by decide) (fun c_123 => ?_) (fun c_123 => ?_)
                      · skip
                        have c_123 := b0_c c_123
                        refine lv_iconst (v := nI 0) xx xb dX2_lots_140 (by decide) ?_
                        refine lv_istore (lv' := [(9, .int (nI 0)), (8, .int (nI (drW (drz (drz z (10 * k)) (2 * i + 2)) 10))), (7, .int (nI (drW (drz (drz z (10 * k)) (2 * i + 1)) (R 0 0)))), (0, .ref h0), (1, .int n), (2, .int z), (3, .int ww), (4, .int (nI (ltT R z wwz k))), (5, .int (nI k)), (6, .int (nI i))]) xx xb dX2_lots_141 hl (by decide) rfl (fun ls hl => ?_)
                        have hw : Wd G (fA [(h0, .inr (2, [.ref a1, .ref a2, .ref a3, .ref a4, .int (nI im), .ref a5, .ref a6, .ref a7, .int (nI lm), .int (nI rm), .int (nI pl), .ref a8, .int sd])), (a1, aI G 54 (fl R)), (a2, aI G 54 (fl Rm)), (a7, aI G 7 (cN rf))]) s [(h0, .inr (2, [.ref a1, .ref a2, .ref a3, .ref a4, .int (nI im), .ref a5, .ref a6, .ref a7, .int (nI lm), .int (nI rm), .int (nI pl), .ref a8, .int (nxI (nxI (drz (drz z (10 * k)) (2 * i))))])), (a1, aI G 54 (fl R)), (a2, aI G 54 (fl (obP (ltR R (drz z (10 * k)) i) (drW (drz (drz z (10 * k)) (2 * i + 1)) (R 0 0)) (drW (drz (drz z (10 * k)) (2 * i + 2)) 10)))), (a7, aI G 7 (cN rf))] H locs := by unfold obP; first | (rw [if_pos (And.intro (by omega) c_123)]; exact hw) | (rw [if_neg (fun q => c_123 q.2)]; exact hw)
                        refine lv_aload_n xx xb dX2_lots_143 rfl (lv_at hl 3 rfl) ?_
                        refine m_get C hw 0 rfl fk_X2_13 rfl dX2_lots_144 ?_
                        refine lv_iconst (v := nI 0) xx xb dX2_lots_147 (by decide) ?_
                        have hM := kX2_minute l G a2 (obP (ltR R (drz z (10 * k)) i) (drW (drz (drz z (10 * k)) (2 * i + 1)) (R 0 0)) (drW (drz (drz z (10 * k)) (2 * i + 2)) 10)) 0 (OK_obP hMO (Or.inr (by rw [hMN]; exact hd1)) _) (AK_obP hMK _ _) (by first | assumption | omega)
                        refine cs_v C hw hM ysX2_minute ml_X2_80 rfl [2] rfl rfl (fun _ => (rfl : ([a2] : List Nat) = [a2])) (by decide) ⟨Nat.zero_le _, Nat.zero_le _⟩ hl.1 rfl (Nat.le_of_ble_eq_true rfl) dX2_lots_148 (fun _ H locs hr hw => ?_)
                        have hw : Wd G (fA [(h0, .inr (2, [.ref a1, .ref a2, .ref a3, .ref a4, .int (nI im), .ref a5, .ref a6, .ref a7, .int (nI lm), .int (nI rm), .int (nI pl), .ref a8, .int sd])), (a1, aI G 54 (fl R)), (a2, aI G 54 (fl Rm)), (a7, aI G 7 (cN rf))]) s [(h0, .inr (2, [.ref a1, .ref a2, .ref a3, .ref a4, .int (nI im), .ref a5, .ref a6, .ref a7, .int (nI lm), .int (nI rm), .int (nI pl), .ref a8, .int (nxI (nxI (drz (drz z (10 * k)) (2 * i))))])), (a1, aI G 54 (fl R)), (a2, aI G 54 (fl (miF (obP (ltR R (drz z (10 * k)) i) (drW (drz (drz z (10 * k)) (2 * i + 1)) (R 0 0)) (drW (drz (drz z (10 * k)) (2 * i + 2)) 10)) 0))), (a7, aI G 7 (cN rf))] H locs := hw
                        have hw : Wd G (fA [(h0, .inr (2, [.ref a1, .ref a2, .ref a3, .ref a4, .int (nI im), .ref a5, .ref a6, .ref a7, .int (nI lm), .int (nI rm), .int (nI pl), .ref a8, .int sd])), (a1, aI G 54 (fl R)), (a2, aI G 54 (fl Rm)), (a7, aI G 7 (cN rf))]) s [(h0, .inr (2, [.ref a1, .ref a2, .ref a3, .ref a4, .int (nI im), .ref a5, .ref a6, .ref a7, .int (nI lm), .int (nI rm), .int (nI pl), .ref a8, .int (drz (drz z (10 * k)) (2 * (i + 1)))])), (a1, aI G 54 (fl R)), (a2, aI G 54 (fl (ltR R (drz z (10 * k)) (i + 1)))), (a7, aI G 7 (cN rf))] H locs := hw
                        refine lv_iinc (v := nI (i + 1)) (lv' := [(6, .int (nI (i + 1))), (9, .int (nI 0)), (8, .int (nI (drW (drz (drz z (10 * k)) (2 * i + 2)) 10))), (7, .int (nI (drW (drz (drz z (10 * k)) (2 * i + 1)) (R 0 0)))), (0, .ref h0), (1, .int n), (2, .int z), (3, .int ww), (4, .int (nI (ltT R z wwz k))), (5, .int (nI k))]) xx xb dX2_lots_151 hl (k := 9) rfl (nI_add _ 1) (by decide) rfl (fun ls hl => ?_)
                        refine lv_goto (tgt := 88) xx xb dX2_lots_154 (by decide) ?_
                        exact ih_88 (i + 1) H _ ls (by omega) (by omega) hw (lv_sub hl [4, 5, 6, 7, 8, 9, 0] rfl)
                      · skip
                        have c_123 := b1_c c_123
                        refine lv_aload_n xx xb dX2_lots_126 rfl (lv_at hl 2 rfl) ?_
                        refine m_get C hw 0 rfl fk_X2_13 rfl dX2_lots_127 ?_
                        refine lv_iload xx xb dX2_lots_130 (lv_at hl 1 rfl) ?_
                        refine re_i (onI (drW (drz (drz z (10 * k)) (2 * i + 1)) (R 0 0))) ((onI_lt (by omega)).symm) ?_
                        refine lv_iload xx xb dX2_lots_132 (lv_at hl 0 rfl) ?_
                        have hM := kX2_pullsIn l G a2 (ltR R (drz z (10 * k)) i) (drW (drz (drz z (10 * k)) (2 * i + 1)) (R 0 0)) (drW (drz (drz z (10 * k)) (2 * i + 2)) 10) hMO (Or.inr (by rw [hMN]; exact hd1)) (by omega)
                        refine cs_i C hw hM ysX2_pullsIn ml_X2_112 rfl [2] rfl rfl (fun _ => (rfl : ([a2] : List Nat) = [a2])) (by decide) ⟨Nat.zero_le _, Nat.zero_le _⟩ hl.1 rfl (Nat.le_of_ble_eq_true rfl) dX2_lots_134 (fun r _ H locs hr hw => ?_)
                        have hw : Wd G (fA [(h0, .inr (2, [.ref a1, .ref a2, .ref a3, .ref a4, .int (nI im), .ref a5, .ref a6, .ref a7, .int (nI lm), .int (nI rm), .int (nI pl), .ref a8, .int sd])), (a1, aI G 54 (fl R)), (a2, aI G 54 (fl Rm)), (a7, aI G 7 (cN rf))]) s [(h0, .inr (2, [.ref a1, .ref a2, .ref a3, .ref a4, .int (nI im), .ref a5, .ref a6, .ref a7, .int (nI lm), .int (nI rm), .int (nI pl), .ref a8, .int (nxI (nxI (drz (drz z (10 * k)) (2 * i))))])), (a1, aI G 54 (fl R)), (a2, aI G 54 (fl (pulF (ltR R (drz z (10 * k)) i) (drW (drz (drz z (10 * k)) (2 * i + 1)) (R 0 0)) (drW (drz (drz z (10 * k)) (2 * i + 2)) 10)))), (a7, aI G 7 (cN rf))] H locs := hw
                        subst hr
                        refine lv_goto (tgt := 141) xx xb dX2_lots_137 (by decide) ?_
                        refine lv_istore (lv' := [(9, .int (nI (ct (shkF (ltR R (drz z (10 * k)) i) (drW (drz (drz z (10 * k)) (2 * i + 1)) (R 0 0)) (drW (drz (drz z (10 * k)) (2 * i + 2)) 10)) ((ltR R (drz z (10 * k)) i) 0 0)))), (8, .int (nI (drW (drz (drz z (10 * k)) (2 * i + 2)) 10))), (7, .int (nI (drW (drz (drz z (10 * k)) (2 * i + 1)) (R 0 0)))), (0, .ref h0), (1, .int n), (2, .int z), (3, .int ww), (4, .int (nI (ltT R z wwz k))), (5, .int (nI k)), (6, .int (nI i))]) xx xb dX2_lots_141 hl (by decide) rfl (fun ls hl => ?_)
                        have hw : Wd G (fA [(h0, .inr (2, [.ref a1, .ref a2, .ref a3, .ref a4, .int (nI im), .ref a5, .ref a6, .ref a7, .int (nI lm), .int (nI rm), .int (nI pl), .ref a8, .int sd])), (a1, aI G 54 (fl R)), (a2, aI G 54 (fl Rm)), (a7, aI G 7 (cN rf))]) s [(h0, .inr (2, [.ref a1, .ref a2, .ref a3, .ref a4, .int (nI im), .ref a5, .ref a6, .ref a7, .int (nI lm), .int (nI rm), .int (nI pl), .ref a8, .int (nxI (nxI (drz (drz z (10 * k)) (2 * i))))])), (a1, aI G 54 (fl R)), (a2, aI G 54 (fl (obP (ltR R (drz z (10 * k)) i) (drW (drz (drz z (10 * k)) (2 * i + 1)) (R 0 0)) (drW (drz (drz z (10 * k)) (2 * i + 2)) 10)))), (a7, aI G 7 (cN rf))] H locs := by unfold obP; first | (rw [if_pos (And.intro (by omega) c_123)]; exact hw) | (rw [if_neg (fun q => c_123 q.2)]; exact hw)
                        refine lv_aload_n xx xb dX2_lots_143 rfl (lv_at hl 3 rfl) ?_
                        refine m_get C hw 0 rfl fk_X2_13 rfl dX2_lots_144 ?_
                        refine lv_iconst (v := nI 0) xx xb dX2_lots_147 (by decide) ?_
                        have hM := kX2_minute l G a2 (obP (ltR R (drz z (10 * k)) i) (drW (drz (drz z (10 * k)) (2 * i + 1)) (R 0 0)) (drW (drz (drz z (10 * k)) (2 * i + 2)) 10)) 0 (OK_obP hMO (Or.inr (by rw [hMN]; exact hd1)) _) (AK_obP hMK _ _) (by first | assumption | omega)
                        refine cs_v C hw hM ysX2_minute ml_X2_80 rfl [2] rfl rfl (fun _ => (rfl : ([a2] : List Nat) = [a2])) (by decide) ⟨Nat.zero_le _, Nat.zero_le _⟩ hl.1 rfl (Nat.le_of_ble_eq_true rfl) dX2_lots_148 (fun _ H locs hr hw => ?_)
                        have hw : Wd G (fA [(h0, .inr (2, [.ref a1, .ref a2, .ref a3, .ref a4, .int (nI im), .ref a5, .ref a6, .ref a7, .int (nI lm), .int (nI rm), .int (nI pl), .ref a8, .int sd])), (a1, aI G 54 (fl R)), (a2, aI G 54 (fl Rm)), (a7, aI G 7 (cN rf))]) s [(h0, .inr (2, [.ref a1, .ref a2, .ref a3, .ref a4, .int (nI im), .ref a5, .ref a6, .ref a7, .int (nI lm), .int (nI rm), .int (nI pl), .ref a8, .int (nxI (nxI (drz (drz z (10 * k)) (2 * i))))])), (a1, aI G 54 (fl R)), (a2, aI G 54 (fl (miF (obP (ltR R (drz z (10 * k)) i) (drW (drz (drz z (10 * k)) (2 * i + 1)) (R 0 0)) (drW (drz (drz z (10 * k)) (2 * i + 2)) 10)) 0))), (a7, aI G 7 (cN rf))] H locs := hw
                        have hw : Wd G (fA [(h0, .inr (2, [.ref a1, .ref a2, .ref a3, .ref a4, .int (nI im), .ref a5, .ref a6, .ref a7, .int (nI lm), .int (nI rm), .int (nI pl), .ref a8, .int sd])), (a1, aI G 54 (fl R)), (a2, aI G 54 (fl Rm)), (a7, aI G 7 (cN rf))]) s [(h0, .inr (2, [.ref a1, .ref a2, .ref a3, .ref a4, .int (nI im), .ref a5, .ref a6, .ref a7, .int (nI lm), .int (nI rm), .int (nI pl), .ref a8, .int (drz (drz z (10 * k)) (2 * (i + 1)))])), (a1, aI G 54 (fl R)), (a2, aI G 54 (fl (ltR R (drz z (10 * k)) (i + 1)))), (a7, aI G 7 (cN rf))] H locs := hw
                        refine lv_iinc (v := nI (i + 1)) (lv' := [(6, .int (nI (i + 1))), (9, .int (nI (ct (shkF (ltR R (drz z (10 * k)) i) (drW (drz (drz z (10 * k)) (2 * i + 1)) (R 0 0)) (drW (drz (drz z (10 * k)) (2 * i + 2)) 10)) ((ltR R (drz z (10 * k)) i) 0 0)))), (8, .int (nI (drW (drz (drz z (10 * k)) (2 * i + 2)) 10))), (7, .int (nI (drW (drz (drz z (10 * k)) (2 * i + 1)) (R 0 0)))), (0, .ref h0), (1, .int n), (2, .int z), (3, .int ww), (4, .int (nI (ltT R z wwz k))), (5, .int (nI k))]) xx xb dX2_lots_151 hl (k := 9) rfl (nI_add _ 1) (by decide) rfl (fun ls hl => ?_)
                        refine lv_goto (tgt := 88) xx xb dX2_lots_154 (by decide) ?_
                        exact ih_88 (i + 1) H _ ls (by omega) (by omega) hw (lv_sub hl [4, 5, 6, 7, 8, 9, 0] rfl)
                exact L_88 (_ + 1) 0 H _ ls (Nat.lt_succ_self _) (by omega) hw (lv_sub hl [1, 2, 3, 4, 5, 6, 0] rfl)
          exact L_68 (_ + 1) 0 Rm H _ ls (Nat.lt_succ_self _) (by omega) hw (lv_sub hl [2, 3, 4, 5, 1, 0] rfl)
        · skip
          have c_47 := eq_c (tN (by omega)) Int32.toInt_zero c_47
          refine lv_aload_n xx xb dX2_lots_50 rfl (lv_at hl 0 rfl) ?_
          refine lv_bipush (v := (-3)) xx xb dX2_lots_51 (by decide) ?_
          have hM := kX2_no l G h0 a1 a2 a3 a4 a5 a6 a7 a8 im lm rm pl sd rf 3 (by first | assumption | omega)
          refine cv_i C hw hM yvX2_no ml_X2_36 0 rfl rfl rfl [0, 3] rfl rfl (fun _ => (rfl : ([h0, a7] : List Nat) = [h0, a7])) (by decide) ⟨Nat.zero_le _, Nat.zero_le _⟩ hl.1 rfl (Nat.le_of_ble_eq_true rfl) dX2_lots_53 (fun r _ H locs hr hw => ?_)
          have hw : Wd G (fA [(h0, .inr (2, [.ref a1, .ref a2, .ref a3, .ref a4, .int (nI im), .ref a5, .ref a6, .ref a7, .int (nI lm), .int (nI rm), .int (nI pl), .ref a8, .int sd])), (a1, aI G 54 (fl R)), (a2, aI G 54 (fl Rm)), (a7, aI G 7 (cN rf))]) s [(h0, .inr (2, [.ref a1, .ref a2, .ref a3, .ref a4, .int (nI im), .ref a5, .ref a6, .ref a7, .int (nI lm), .int (nI rm), .int (nI pl), .ref a8, .int sd])), (a1, aI G 54 (fl R)), (a2, aI G 54 (fl Rm)), (a7, aI G 7 (cN (upN rf 3 (rf 3 + 1))))] H locs := hw
          subst hr
          have hc : cLots R nz wwz = 3 := by unfold cLots; (repeat' split) <;> omega
          have hj : 3 ≠ 0 := by omega
          exact rt_i C hw (Rm, sd) (by exact (anI_r hc hj _).symm) (by rw [rfU_r hc hj]) dX2_lots_56
      · skip
        have c_31 := b0_c c_31
        refine lv_aload_n xx xb dX2_lots_34 rfl (lv_at hl 0 rfl) ?_
        refine lv_bipush (v := (-2)) xx xb dX2_lots_35 (by decide) ?_
        have hM := kX2_no l G h0 a1 a2 a3 a4 a5 a6 a7 a8 im lm rm pl sd rf 2 (by first | assumption | omega)
        refine cv_i C hw hM yvX2_no ml_X2_36 0 rfl rfl rfl [0, 3] rfl rfl (fun _ => (rfl : ([h0, a7] : List Nat) = [h0, a7])) (by decide) ⟨Nat.zero_le _, Nat.zero_le _⟩ hl.1 rfl (Nat.le_of_ble_eq_true rfl) dX2_lots_37 (fun r _ H locs hr hw => ?_)
        have hw : Wd G (fA [(h0, .inr (2, [.ref a1, .ref a2, .ref a3, .ref a4, .int (nI im), .ref a5, .ref a6, .ref a7, .int (nI lm), .int (nI rm), .int (nI pl), .ref a8, .int sd])), (a1, aI G 54 (fl R)), (a2, aI G 54 (fl Rm)), (a7, aI G 7 (cN rf))]) s [(h0, .inr (2, [.ref a1, .ref a2, .ref a3, .ref a4, .int (nI im), .ref a5, .ref a6, .ref a7, .int (nI lm), .int (nI rm), .int (nI pl), .ref a8, .int sd])), (a1, aI G 54 (fl R)), (a2, aI G 54 (fl Rm)), (a7, aI G 7 (cN (upN rf 2 (rf 2 + 1))))] H locs := hw
        subst hr
        have hc : cLots R nz wwz = 2 := by unfold cLots; (repeat' split) <;> omega
        have hj : 2 ≠ 0 := by omega
        exact rt_i C hw (Rm, sd) (by exact (anI_r hc hj _).symm) (by rw [rfU_r hc hj]) dX2_lots_40
    · skip
      have c_15 := nle_c h_n (tN (by omega)) c_15
      refine lv_aload_n xx xb dX2_lots_18 rfl (lv_at hl 0 rfl) ?_
      refine lv_bipush (v := (-6)) xx xb dX2_lots_19 (by decide) ?_
      have hM := kX2_no l G h0 a1 a2 a3 a4 a5 a6 a7 a8 im lm rm pl sd rf 6 (by first | assumption | omega)
      refine cv_i C hw hM yvX2_no ml_X2_36 0 rfl rfl rfl [0, 3] rfl rfl (fun _ => (rfl : ([h0, a7] : List Nat) = [h0, a7])) (by decide) ⟨Nat.zero_le _, Nat.zero_le _⟩ hl.1 rfl (Nat.le_of_ble_eq_true rfl) dX2_lots_21 (fun r _ H locs hr hw => ?_)
      have hw : Wd G (fA [(h0, .inr (2, [.ref a1, .ref a2, .ref a3, .ref a4, .int (nI im), .ref a5, .ref a6, .ref a7, .int (nI lm), .int (nI rm), .int (nI pl), .ref a8, .int sd])), (a1, aI G 54 (fl R)), (a2, aI G 54 (fl Rm)), (a7, aI G 7 (cN rf))]) s [(h0, .inr (2, [.ref a1, .ref a2, .ref a3, .ref a4, .int (nI im), .ref a5, .ref a6, .ref a7, .int (nI lm), .int (nI rm), .int (nI pl), .ref a8, .int sd])), (a1, aI G 54 (fl R)), (a2, aI G 54 (fl Rm)), (a7, aI G 7 (cN (upN rf 6 (rf 6 + 1))))] H locs := hw
      subst hr
      have hc : cLots R nz wwz = 6 := by unfold cLots; (repeat' split) <;> omega
      have hj : 6 ≠ 0 := by omega
      exact rt_i C hw (Rm, sd) (by exact (anI_r hc hj _).symm) (by rw [rfU_r hc hj]) dX2_lots_24
  · skip
    have c_2 := nle_c (tN (by omega)) h_n c_2
    refine lv_aload_n xx xb dX2_lots_5 rfl (lv_at hl 0 rfl) ?_
    refine lv_bipush (v := (-4)) xx xb dX2_lots_6 (by decide) ?_
    have hM := kX2_no l G h0 a1 a2 a3 a4 a5 a6 a7 a8 im lm rm pl sd rf 4 (by first | assumption | omega)
    refine cv_i C hw hM yvX2_no ml_X2_36 0 rfl rfl rfl [0, 3] rfl rfl (fun _ => (rfl : ([h0, a7] : List Nat) = [h0, a7])) (by decide) ⟨Nat.zero_le _, Nat.zero_le _⟩ hl.1 rfl (Nat.le_of_ble_eq_true rfl) dX2_lots_8 (fun r _ H locs hr hw => ?_)
    have hw : Wd G (fA [(h0, .inr (2, [.ref a1, .ref a2, .ref a3, .ref a4, .int (nI im), .ref a5, .ref a6, .ref a7, .int (nI lm), .int (nI rm), .int (nI pl), .ref a8, .int sd])), (a1, aI G 54 (fl R)), (a2, aI G 54 (fl Rm)), (a7, aI G 7 (cN rf))]) s [(h0, .inr (2, [.ref a1, .ref a2, .ref a3, .ref a4, .int (nI im), .ref a5, .ref a6, .ref a7, .int (nI lm), .int (nI rm), .int (nI pl), .ref a8, .int sd])), (a1, aI G 54 (fl R)), (a2, aI G 54 (fl Rm)), (a7, aI G 7 (cN (upN rf 4 (rf 4 + 1))))] H locs := hw
    subst hr
    have hc : cLots R nz wwz = 4 := by unfold cLots; (repeat' split) <;> omega
    have hj : 4 ≠ 0 := by omega
    exact rt_i C hw (Rm, sd) (by exact (anI_r hc hj _).symm) (by rw [rfU_r hc hj]) dX2_lots_11
set_option maxRecDepth 100000 in
set_option maxHeartbeats 4000000 in
theorem kX2_order (l : Launch) (G : GT) (h0 : Nat) (a1 : Nat) (a2 : Nat) (a3 : Nat) (a4 : Nat) (a5 : Nat) (a6 : Nat) (a7 : Nat) (a8 : Nat) (im : Nat) (lm : Nat) (rm : Nat) (pl : Nat) (sd : Int32) (R : RT) (Rm : RT) (rf : Nat → Nat) (ta : Int32) (taz : Int) (tb : Int32) (tbz : Int) (tc : Int32) (tcz : Int) (v : Int32) (vz : Int) (ww : Int32) (wwz : Int) (h_ta : ta.toInt = taz) (h_tb : tb.toInt = tbz) (h_tc : tc.toInt = tcz) (h_v : v.toInt = vz) (h_ww : ww.toInt = wwz) (hR : OK R) (hK : AK R) : Ct l yX2_order cX2_order 13 (some .int) 5 118 [.ref h0, .int ta, .int tb, .int tc, .int v, .int ww] G [(h0, .inr (2, [.ref a1, .ref a2, .ref a3, .ref a4, .int (nI im), .ref a5, .ref a6, .ref a7, .int (nI lm), .int (nI rm), .int (nI pl), .ref a8, .int sd])), (a1, aI G 54 (fl R)), (a2, aI G 54 (fl Rm)), (a7, aI G 7 (cN rf))] (QI G [(h0, .inr (2, [.ref a1, .ref a2, .ref a3, .ref a4, .int (nI im), .ref a5, .ref a6, .ref a7, .int (nI lm), .int (nI rm), .int (nI pl), .ref a8, .int sd])), (a1, aI G 54 (fl R)), (a2, aI G 54 (fl Rm)), (a7, aI G 7 (cN rf))] (fun (r : Int32) (u : RT) => r = anI (cOrd R taz tbz tcz vz wwz) (vOrd R taz.toNat tbz.toNat tcz.toNat vz.toNat wwz)) (fun u => [(h0, .inr (2, [.ref a1, .ref a2, .ref a3, .ref a4, .int (nI im), .ref a5, .ref a6, .ref a7, .int (nI lm), .int (nI rm), .int (nI pl), .ref a8, .int sd])), (a1, aI G 54 (fl R)), (a2, aI G 54 (fl u)), (a7, aI G 7 (cN (rfU rf (cOrd R taz tbz tcz vz wwz))))])) := by
  refine en (by decide +kernel) (Nat.le_of_ble_eq_true rfl) ?_
  intro p e s m below meth c ls H locs C hl hw
  have xx := C.1
  have xb := C.2.1
  have hw : Wd G (fA [(h0, .inr (2, [.ref a1, .ref a2, .ref a3, .ref a4, .int (nI im), .ref a5, .ref a6, .ref a7, .int (nI lm), .int (nI rm), .int (nI pl), .ref a8, .int sd])), (a1, aI G 54 (fl R)), (a2, aI G 54 (fl Rm)), (a7, aI G 7 (cN rf))]) s [(h0, .inr (2, [.ref a1, .ref a2, .ref a3, .ref a4, .int (nI im), .ref a5, .ref a6, .ref a7, .int (nI lm), .int (nI rm), .int (nI pl), .ref a8, .int sd])), (a1, aI G 54 (fl R)), (a2, aI G 54 (fl Rm)), (a7, aI G 7 (cN rf))] H locs := hw
  have hl : lv_has ls 13 [(0, .ref h0), (1, .int ta), (2, .int tb), (3, .int tc), (4, .int v), (5, .int ww)] := hl
  obtain ⟨hn, hf0, hpr, hA⟩ := id hR
  have hb9 := wbN_le vz 9
  refine lv_aload_n xx xb dX2_order_0 rfl (lv_at hl 0 rfl) ?_
  refine lv_iload_n xx xb dX2_order_1 rfl (lv_at hl 1 rfl) ?_
  have hM := kX2_isThing l G h0 a1 a2 a3 a4 a5 a6 a7 a8 im lm rm pl sd R ta taz h_ta (by first | assumption | omega)
  refine cv_i C hw hM yvX2_isThing ml_X2_105 0 rfl rfl rfl [0, 1] rfl rfl (fun _ => (rfl : ([h0, a1] : List Nat) = [h0, a1])) (by decide) ⟨Nat.zero_le _, Nat.zero_le _⟩ hl.1 rfl (Nat.le_of_ble_eq_true rfl) dX2_order_2 (fun r _ H locs hr hw => ?_)
  have hw : Wd G (fA [(h0, .inr (2, [.ref a1, .ref a2, .ref a3, .ref a4, .int (nI im), .ref a5, .ref a6, .ref a7, .int (nI lm), .int (nI rm), .int (nI pl), .ref a8, .int sd])), (a1, aI G 54 (fl R)), (a2, aI G 54 (fl Rm)), (a7, aI G 7 (cN rf))]) s [(h0, .inr (2, [.ref a1, .ref a2, .ref a3, .ref a4, .int (nI im), .ref a5, .ref a6, .ref a7, .int (nI lm), .int (nI rm), .int (nI pl), .ref a8, .int sd])), (a1, aI G 54 (fl R)), (a2, aI G 54 (fl Rm)), (a7, aI G 7 (cN rf))] H locs := hw
  subst hr
  refine lv_if_eq (tgt := 39) xx xb dX2_order_5 (by decide) (fun c_5 => ?_) (fun c_5 => ?_)
  · skip
    have c_5 := b0_c c_5
    refine lv_iconst (v := (-1)) xx xb dX2_order_39 (by decide) ?_
    refine lv_goto (tgt := 50) xx xb dX2_order_40 (by decide) ?_
    refine lv_istore (lv' := [(6, .int (-1)), (0, .ref h0), (1, .int ta), (2, .int tb), (3, .int tc), (4, .int v), (5, .int ww)]) xx xb dX2_order_50 hl (by decide) rfl (fun ls hl => ?_)
    refine lv_iload xx xb dX2_order_52 (lv_at hl 0 rfl) ?_
    refine lv_if_ne (tgt := 71) xx xb dX2_order_54 (by decide) (fun c_54 => ?_) (fun c_54 => ?_)
    · skip
      refine lv_iload xx xb dX2_order_71 (lv_at hl 0 rfl) ?_
      refine lv_if_eq (tgt := 83) xx xb dX2_order_73 (by decide) (fun c_73 => ?_) (fun c_73 => ?_)
      · skip
        exact absurd c_73 (by decide)
      · skip
        refine lv_aload_n xx xb dX2_order_76 rfl (lv_at hl 1 rfl) ?_
        refine lv_iload xx xb dX2_order_77 (lv_at hl 0 rfl) ?_
        have hM := kX2_no l G h0 a1 a2 a3 a4 a5 a6 a7 a8 im lm rm pl sd rf 1 (by omega)
        refine cv_i C hw hM yvX2_no ml_X2_36 0 rfl rfl rfl [0, 3] rfl rfl (fun _ => (rfl : ([h0, a7] : List Nat) = [h0, a7])) (by decide) ⟨Nat.zero_le _, Nat.zero_le _⟩ hl.1 rfl (Nat.le_of_ble_eq_true rfl) dX2_order_79 (fun r _ H locs hr hw => ?_)
        have hw : Wd G (fA [(h0, .inr (2, [.ref a1, .ref a2, .ref a3, .ref a4, .int (nI im), .ref a5, .ref a6, .ref a7, .int (nI lm), .int (nI rm), .int (nI pl), .ref a8, .int sd])), (a1, aI G 54 (fl R)), (a2, aI G 54 (fl Rm)), (a7, aI G 7 (cN rf))]) s [(h0, .inr (2, [.ref a1, .ref a2, .ref a3, .ref a4, .int (nI im), .ref a5, .ref a6, .ref a7, .int (nI lm), .int (nI rm), .int (nI pl), .ref a8, .int sd])), (a1, aI G 54 (fl R)), (a2, aI G 54 (fl Rm)), (a7, aI G 7 (cN (upN rf 1 (rf 1 + 1))))] H locs := hw
        subst hr
        have hc : cOrd R taz tbz tcz vz wwz = 1 := by unfold cOrd; (repeat' split) <;> omega
        have hj : 1 ≠ 0 := by omega
        exact rt_i C hw Rm (by exact (anI_r hc hj _).symm) (by rw [rfU_r hc hj]) dX2_order_82
    · skip
      exact absurd c_54 (by decide)
  · skip
    have c_5 := b1_c c_5
    refine lv_aload_n xx xb dX2_order_8 rfl (lv_at hl 0 rfl) ?_
    refine lv_iload_n xx xb dX2_order_9 rfl (lv_at hl 2 rfl) ?_
    have hM := kX2_isThing l G h0 a1 a2 a3 a4 a5 a6 a7 a8 im lm rm pl sd R tb tbz h_tb (by first | assumption | omega)
    refine cv_i C hw hM yvX2_isThing ml_X2_105 0 rfl rfl rfl [0, 1] rfl rfl (fun _ => (rfl : ([h0, a1] : List Nat) = [h0, a1])) (by decide) ⟨Nat.zero_le _, Nat.zero_le _⟩ hl.1 rfl (Nat.le_of_ble_eq_true rfl) dX2_order_10 (fun r _ H locs hr hw => ?_)
    have hw : Wd G (fA [(h0, .inr (2, [.ref a1, .ref a2, .ref a3, .ref a4, .int (nI im), .ref a5, .ref a6, .ref a7, .int (nI lm), .int (nI rm), .int (nI pl), .ref a8, .int sd])), (a1, aI G 54 (fl R)), (a2, aI G 54 (fl Rm)), (a7, aI G 7 (cN rf))]) s [(h0, .inr (2, [.ref a1, .ref a2, .ref a3, .ref a4, .int (nI im), .ref a5, .ref a6, .ref a7, .int (nI lm), .int (nI rm), .int (nI pl), .ref a8, .int sd])), (a1, aI G 54 (fl R)), (a2, aI G 54 (fl Rm)), (a7, aI G 7 (cN rf))] H locs := hw
    subst hr
    refine lv_if_eq (tgt := 39) xx xb dX2_order_13 (by decide) (fun c_13 => ?_) (fun c_13 => ?_)
    · skip
      have c_13 := b0_c c_13
      refine lv_iconst (v := (-1)) xx xb dX2_order_39 (by decide) ?_
      refine lv_goto (tgt := 50) xx xb dX2_order_40 (by decide) ?_
      refine lv_istore (lv' := [(6, .int (-1)), (0, .ref h0), (1, .int ta), (2, .int tb), (3, .int tc), (4, .int v), (5, .int ww)]) xx xb dX2_order_50 hl (by decide) rfl (fun ls hl => ?_)
      refine lv_iload xx xb dX2_order_52 (lv_at hl 0 rfl) ?_
      refine lv_if_ne (tgt := 71) xx xb dX2_order_54 (by decide) (fun c_54 => ?_) (fun c_54 => ?_)
      · skip
        refine lv_iload xx xb dX2_order_71 (lv_at hl 0 rfl) ?_
        refine lv_if_eq (tgt := 83) xx xb dX2_order_73 (by decide) (fun c_73 => ?_) (fun c_73 => ?_)
        · skip
          exact absurd c_73 (by decide)
        · skip
          refine lv_aload_n xx xb dX2_order_76 rfl (lv_at hl 1 rfl) ?_
          refine lv_iload xx xb dX2_order_77 (lv_at hl 0 rfl) ?_
          have hM := kX2_no l G h0 a1 a2 a3 a4 a5 a6 a7 a8 im lm rm pl sd rf 1 (by omega)
          refine cv_i C hw hM yvX2_no ml_X2_36 0 rfl rfl rfl [0, 3] rfl rfl (fun _ => (rfl : ([h0, a7] : List Nat) = [h0, a7])) (by decide) ⟨Nat.zero_le _, Nat.zero_le _⟩ hl.1 rfl (Nat.le_of_ble_eq_true rfl) dX2_order_79 (fun r _ H locs hr hw => ?_)
          have hw : Wd G (fA [(h0, .inr (2, [.ref a1, .ref a2, .ref a3, .ref a4, .int (nI im), .ref a5, .ref a6, .ref a7, .int (nI lm), .int (nI rm), .int (nI pl), .ref a8, .int sd])), (a1, aI G 54 (fl R)), (a2, aI G 54 (fl Rm)), (a7, aI G 7 (cN rf))]) s [(h0, .inr (2, [.ref a1, .ref a2, .ref a3, .ref a4, .int (nI im), .ref a5, .ref a6, .ref a7, .int (nI lm), .int (nI rm), .int (nI pl), .ref a8, .int sd])), (a1, aI G 54 (fl R)), (a2, aI G 54 (fl Rm)), (a7, aI G 7 (cN (upN rf 1 (rf 1 + 1))))] H locs := hw
          subst hr
          have hc : cOrd R taz tbz tcz vz wwz = 1 := by unfold cOrd; (repeat' split) <;> omega
          have hj : 1 ≠ 0 := by omega
          exact rt_i C hw Rm (by exact (anI_r hc hj _).symm) (by rw [rfU_r hc hj]) dX2_order_82
      · skip
        exact absurd c_54 (by decide)
    · skip
      have c_13 := b1_c c_13
      refine lv_aload_n xx xb dX2_order_16 rfl (lv_at hl 0 rfl) ?_
      refine lv_iload_n xx xb dX2_order_17 rfl (lv_at hl 3 rfl) ?_
      have hM := kX2_isThing l G h0 a1 a2 a3 a4 a5 a6 a7 a8 im lm rm pl sd R tc tcz h_tc (by first | assumption | omega)
      refine cv_i C hw hM yvX2_isThing ml_X2_105 0 rfl rfl rfl [0, 1] rfl rfl (fun _ => (rfl : ([h0, a1] : List Nat) = [h0, a1])) (by decide) ⟨Nat.zero_le _, Nat.zero_le _⟩ hl.1 rfl (Nat.le_of_ble_eq_true rfl) dX2_order_18 (fun r _ H locs hr hw => ?_)
      have hw : Wd G (fA [(h0, .inr (2, [.ref a1, .ref a2, .ref a3, .ref a4, .int (nI im), .ref a5, .ref a6, .ref a7, .int (nI lm), .int (nI rm), .int (nI pl), .ref a8, .int sd])), (a1, aI G 54 (fl R)), (a2, aI G 54 (fl Rm)), (a7, aI G 7 (cN rf))]) s [(h0, .inr (2, [.ref a1, .ref a2, .ref a3, .ref a4, .int (nI im), .ref a5, .ref a6, .ref a7, .int (nI lm), .int (nI rm), .int (nI pl), .ref a8, .int sd])), (a1, aI G 54 (fl R)), (a2, aI G 54 (fl Rm)), (a7, aI G 7 (cN rf))] H locs := hw
      subst hr
      refine lv_if_eq (tgt := 39) xx xb dX2_order_21 (by decide) (fun c_21 => ?_) (fun c_21 => ?_)
      · skip
        have c_21 := b0_c c_21
        refine lv_iconst (v := (-1)) xx xb dX2_order_39 (by decide) ?_
        refine lv_goto (tgt := 50) xx xb dX2_order_40 (by decide) ?_
        refine lv_istore (lv' := [(6, .int (-1)), (0, .ref h0), (1, .int ta), (2, .int tb), (3, .int tc), (4, .int v), (5, .int ww)]) xx xb dX2_order_50 hl (by decide) rfl (fun ls hl => ?_)
        refine lv_iload xx xb dX2_order_52 (lv_at hl 0 rfl) ?_
        refine lv_if_ne (tgt := 71) xx xb dX2_order_54 (by decide) (fun c_54 => ?_) (fun c_54 => ?_)
        · skip
          refine lv_iload xx xb dX2_order_71 (lv_at hl 0 rfl) ?_
          refine lv_if_eq (tgt := 83) xx xb dX2_order_73 (by decide) (fun c_73 => ?_) (fun c_73 => ?_)
          · skip
            exact absurd c_73 (by decide)
          · skip
            refine lv_aload_n xx xb dX2_order_76 rfl (lv_at hl 1 rfl) ?_
            refine lv_iload xx xb dX2_order_77 (lv_at hl 0 rfl) ?_
            have hM := kX2_no l G h0 a1 a2 a3 a4 a5 a6 a7 a8 im lm rm pl sd rf 1 (by omega)
            refine cv_i C hw hM yvX2_no ml_X2_36 0 rfl rfl rfl [0, 3] rfl rfl (fun _ => (rfl : ([h0, a7] : List Nat) = [h0, a7])) (by decide) ⟨Nat.zero_le _, Nat.zero_le _⟩ hl.1 rfl (Nat.le_of_ble_eq_true rfl) dX2_order_79 (fun r _ H locs hr hw => ?_)
            have hw : Wd G (fA [(h0, .inr (2, [.ref a1, .ref a2, .ref a3, .ref a4, .int (nI im), .ref a5, .ref a6, .ref a7, .int (nI lm), .int (nI rm), .int (nI pl), .ref a8, .int sd])), (a1, aI G 54 (fl R)), (a2, aI G 54 (fl Rm)), (a7, aI G 7 (cN rf))]) s [(h0, .inr (2, [.ref a1, .ref a2, .ref a3, .ref a4, .int (nI im), .ref a5, .ref a6, .ref a7, .int (nI lm), .int (nI rm), .int (nI pl), .ref a8, .int sd])), (a1, aI G 54 (fl R)), (a2, aI G 54 (fl Rm)), (a7, aI G 7 (cN (upN rf 1 (rf 1 + 1))))] H locs := hw
            subst hr
            have hc : cOrd R taz tbz tcz vz wwz = 1 := by unfold cOrd; (repeat' split) <;> omega
            have hj : 1 ≠ 0 := by omega
            exact rt_i C hw Rm (by exact (anI_r hc hj _).symm) (by rw [rfU_r hc hj]) dX2_order_82
        · skip
          exact absurd c_54 (by decide)
      · skip
        have c_21 := b1_c c_21
        refine lv_iload_n xx xb dX2_order_24 rfl (lv_at hl 1 rfl) ?_
        refine lv_iload_n xx xb dX2_order_25 rfl (lv_at hl 2 rfl) ?_
        refine lv_icmp_eq (tgt := 39) xx xb dX2_order_26 (by decide) (fun c_26 => ?_) (fun c_26 => ?_)
        · skip
          have c_26 := eq_c h_ta h_tb c_26
          refine lv_iconst (v := (-1)) xx xb dX2_order_39 (by decide) ?_
          refine lv_goto (tgt := 50) xx xb dX2_order_40 (by decide) ?_
          refine lv_istore (lv' := [(6, .int (-1)), (0, .ref h0), (1, .int ta), (2, .int tb), (3, .int tc), (4, .int v), (5, .int ww)]) xx xb dX2_order_50 hl (by decide) rfl (fun ls hl => ?_)
          refine lv_iload xx xb dX2_order_52 (lv_at hl 0 rfl) ?_
          refine lv_if_ne (tgt := 71) xx xb dX2_order_54 (by decide) (fun c_54 => ?_) (fun c_54 => ?_)
          · skip
            refine lv_iload xx xb dX2_order_71 (lv_at hl 0 rfl) ?_
            refine lv_if_eq (tgt := 83) xx xb dX2_order_73 (by decide) (fun c_73 => ?_) (fun c_73 => ?_)
            · skip
              exact absurd c_73 (by decide)
            · skip
              refine lv_aload_n xx xb dX2_order_76 rfl (lv_at hl 1 rfl) ?_
              refine lv_iload xx xb dX2_order_77 (lv_at hl 0 rfl) ?_
              have hM := kX2_no l G h0 a1 a2 a3 a4 a5 a6 a7 a8 im lm rm pl sd rf 1 (by omega)
              refine cv_i C hw hM yvX2_no ml_X2_36 0 rfl rfl rfl [0, 3] rfl rfl (fun _ => (rfl : ([h0, a7] : List Nat) = [h0, a7])) (by decide) ⟨Nat.zero_le _, Nat.zero_le _⟩ hl.1 rfl (Nat.le_of_ble_eq_true rfl) dX2_order_79 (fun r _ H locs hr hw => ?_)
              have hw : Wd G (fA [(h0, .inr (2, [.ref a1, .ref a2, .ref a3, .ref a4, .int (nI im), .ref a5, .ref a6, .ref a7, .int (nI lm), .int (nI rm), .int (nI pl), .ref a8, .int sd])), (a1, aI G 54 (fl R)), (a2, aI G 54 (fl Rm)), (a7, aI G 7 (cN rf))]) s [(h0, .inr (2, [.ref a1, .ref a2, .ref a3, .ref a4, .int (nI im), .ref a5, .ref a6, .ref a7, .int (nI lm), .int (nI rm), .int (nI pl), .ref a8, .int sd])), (a1, aI G 54 (fl R)), (a2, aI G 54 (fl Rm)), (a7, aI G 7 (cN (upN rf 1 (rf 1 + 1))))] H locs := hw
              subst hr
              have hc : cOrd R taz tbz tcz vz wwz = 1 := by unfold cOrd; (repeat' split) <;> omega
              have hj : 1 ≠ 0 := by omega
              exact rt_i C hw Rm (by exact (anI_r hc hj _).symm) (by rw [rfU_r hc hj]) dX2_order_82
          · skip
            exact absurd c_54 (by decide)
        · skip
          have c_26 := ne_c h_ta h_tb c_26
          refine lv_iload_n xx xb dX2_order_29 rfl (lv_at hl 1 rfl) ?_
          refine lv_iload_n xx xb dX2_order_30 rfl (lv_at hl 3 rfl) ?_
          refine lv_icmp_eq (tgt := 39) xx xb dX2_order_31 (by decide) (fun c_31 => ?_) (fun c_31 => ?_)
          · skip
            have c_31 := eq_c h_ta h_tc c_31
            refine lv_iconst (v := (-1)) xx xb dX2_order_39 (by decide) ?_
            refine lv_goto (tgt := 50) xx xb dX2_order_40 (by decide) ?_
            refine lv_istore (lv' := [(6, .int (-1)), (0, .ref h0), (1, .int ta), (2, .int tb), (3, .int tc), (4, .int v), (5, .int ww)]) xx xb dX2_order_50 hl (by decide) rfl (fun ls hl => ?_)
            refine lv_iload xx xb dX2_order_52 (lv_at hl 0 rfl) ?_
            refine lv_if_ne (tgt := 71) xx xb dX2_order_54 (by decide) (fun c_54 => ?_) (fun c_54 => ?_)
            · skip
              refine lv_iload xx xb dX2_order_71 (lv_at hl 0 rfl) ?_
              refine lv_if_eq (tgt := 83) xx xb dX2_order_73 (by decide) (fun c_73 => ?_) (fun c_73 => ?_)
              · skip
                exact absurd c_73 (by decide)
              · skip
                refine lv_aload_n xx xb dX2_order_76 rfl (lv_at hl 1 rfl) ?_
                refine lv_iload xx xb dX2_order_77 (lv_at hl 0 rfl) ?_
                have hM := kX2_no l G h0 a1 a2 a3 a4 a5 a6 a7 a8 im lm rm pl sd rf 1 (by omega)
                refine cv_i C hw hM yvX2_no ml_X2_36 0 rfl rfl rfl [0, 3] rfl rfl (fun _ => (rfl : ([h0, a7] : List Nat) = [h0, a7])) (by decide) ⟨Nat.zero_le _, Nat.zero_le _⟩ hl.1 rfl (Nat.le_of_ble_eq_true rfl) dX2_order_79 (fun r _ H locs hr hw => ?_)
                have hw : Wd G (fA [(h0, .inr (2, [.ref a1, .ref a2, .ref a3, .ref a4, .int (nI im), .ref a5, .ref a6, .ref a7, .int (nI lm), .int (nI rm), .int (nI pl), .ref a8, .int sd])), (a1, aI G 54 (fl R)), (a2, aI G 54 (fl Rm)), (a7, aI G 7 (cN rf))]) s [(h0, .inr (2, [.ref a1, .ref a2, .ref a3, .ref a4, .int (nI im), .ref a5, .ref a6, .ref a7, .int (nI lm), .int (nI rm), .int (nI pl), .ref a8, .int sd])), (a1, aI G 54 (fl R)), (a2, aI G 54 (fl Rm)), (a7, aI G 7 (cN (upN rf 1 (rf 1 + 1))))] H locs := hw
                subst hr
                have hc : cOrd R taz tbz tcz vz wwz = 1 := by unfold cOrd; (repeat' split) <;> omega
                have hj : 1 ≠ 0 := by omega
                exact rt_i C hw Rm (by exact (anI_r hc hj _).symm) (by rw [rfU_r hc hj]) dX2_order_82
            · skip
              exact absurd c_54 (by decide)
          · skip
            have c_31 := ne_c h_ta h_tc c_31
            refine lv_iload_n xx xb dX2_order_34 rfl (lv_at hl 2 rfl) ?_
            refine lv_iload_n xx xb dX2_order_35 rfl (lv_at hl 3 rfl) ?_
            refine lv_icmp_ne (tgt := 43) xx xb dX2_order_36 (by decide) (fun c_36 => ?_) (fun c_36 => ?_)
            · skip
              have c_36 := ne_c h_tb h_tc c_36
              refine lv_iload xx xb dX2_order_43 (lv_at hl 4 rfl) ?_
              refine lv_bipush (v := nI 9) xx xb dX2_order_45 (by decide) ?_
              have hM := kX2_wrongBy l G v vz (nI 9) 9 h_v (tN (by omega))
              refine cs_i C hw hM ysX2_wrongBy ml_X2_128 rfl [] rfl rfl (fun _ => (rfl : ([] : List Nat) = [])) (by decide) ⟨Nat.zero_le _, Nat.zero_le _⟩ hl.1 rfl (Nat.le_of_ble_eq_true rfl) dX2_order_47 (fun r _ H locs hr hw => ?_)
              have hw : Wd G (fA [(h0, .inr (2, [.ref a1, .ref a2, .ref a3, .ref a4, .int (nI im), .ref a5, .ref a6, .ref a7, .int (nI lm), .int (nI rm), .int (nI pl), .ref a8, .int sd])), (a1, aI G 54 (fl R)), (a2, aI G 54 (fl Rm)), (a7, aI G 7 (cN rf))]) s [(h0, .inr (2, [.ref a1, .ref a2, .ref a3, .ref a4, .int (nI im), .ref a5, .ref a6, .ref a7, .int (nI lm), .int (nI rm), .int (nI pl), .ref a8, .int sd])), (a1, aI G 54 (fl R)), (a2, aI G 54 (fl Rm)), (a7, aI G 7 (cN rf))] H locs := hw
              subst hr
              refine lv_istore (lv' := [(6, .int (nG (wbN vz 9))), (0, .ref h0), (1, .int ta), (2, .int tb), (3, .int tc), (4, .int v), (5, .int ww)]) xx xb dX2_order_50 hl (by decide) rfl (fun ls hl => ?_)
              refine lv_iload xx xb dX2_order_52 (lv_at hl 0 rfl) ?_
              refine lv_if_ne (tgt := 71) xx xb dX2_order_54 (by decide) (fun c_54 => ?_) (fun c_54 => ?_)
              · skip
                have c_54 := g0_n c_54
                refine lv_iload xx xb dX2_order_71 (lv_at hl 0 rfl) ?_
                refine lv_if_eq (tgt := 83) xx xb dX2_order_73 (by decide) (fun c_73 => ?_) (fun c_73 => ?_)
                · skip
                  have c_73 := g0_c (by omega) c_73
                  obtain ⟨g1, g2⟩ := wbN_0 (z := vz) (a := 9) (by omega)
                  refine lv_iconst (v := nI 0) xx xb dX2_order_83 (by decide) ?_
                  refine lv_istore (lv' := [(7, .int (nI 0)), (6, .int (nG (wbN vz 9))), (0, .ref h0), (1, .int ta), (2, .int tb), (3, .int tc), (4, .int v), (5, .int ww)]) xx xb dX2_order_84 hl (by decide) rfl (fun ls hl => ?_)
                  refine lv_iconst (v := (-1)) xx xb dX2_order_86 (by decide) ?_
                  refine lv_istore (lv' := [(8, .int (-1)), (7, .int (nI 0)), (6, .int (nG (wbN vz 9))), (0, .ref h0), (1, .int ta), (2, .int tb), (3, .int tc), (4, .int v), (5, .int ww)]) xx xb dX2_order_87 hl (by decide) rfl (fun ls hl => ?_)
                  refine lv_iconst (v := nI 0) xx xb dX2_order_89 (by decide) ?_
                  refine lv_istore (lv' := [(9, .int (nI 0)), (8, .int (-1)), (7, .int (nI 0)), (6, .int (nG (wbN vz 9))), (0, .ref h0), (1, .int ta), (2, .int tb), (3, .int tc), (4, .int v), (5, .int ww)]) xx xb dX2_order_90 hl (by decide) rfl (fun ls hl => ?_)
                  have hl : lv_has ls 13 [(9, .int (nI 0)), (8, .int (-1)), (7, .int (nI (orC R taz.toNat tbz.toNat tcz.toNat vz.toNat (3 * 0)))), (6, .int (nG (wbN vz 9))), (0, .ref h0), (1, .int ta), (2, .int tb), (3, .int tc), (4, .int v), (5, .int ww)] := hl
                  have hl : lv_has ls 13 [(9, .int (nI 0)), (8, .int (nI (orT R taz.toNat tbz.toNat tcz.toNat vz.toNat (3 * 0)) - nI 1)), (7, .int (nI (orC R taz.toNat tbz.toNat tcz.toNat vz.toNat (3 * 0)))), (6, .int (nG (wbN vz 9))), (0, .ref h0), (1, .int ta), (2, .int tb), (3, .int tc), (4, .int v), (5, .int ww)] := by rw [show nI (orT R taz.toNat tbz.toNat tcz.toNat vz.toNat (3 * 0)) - nI 1 = -1 from (by show nI 0 - nI 1 = -1; decide)]; exact hl
                  have L_92 : ∀ (fu : Nat) (x : Nat) (Y : RT) (H : Heap) (locs : List Loc) (ls : Array Slot), 3 - x < fu → (x ≤ 3) → Wd G (fA [(h0, .inr (2, [.ref a1, .ref a2, .ref a3, .ref a4, .int (nI im), .ref a5, .ref a6, .ref a7, .int (nI lm), .int (nI rm), .int (nI pl), .ref a8, .int sd])), (a1, aI G 54 (fl R)), (a2, aI G 54 (fl Rm)), (a7, aI G 7 (cN rf))]) s [(h0, .inr (2, [.ref a1, .ref a2, .ref a3, .ref a4, .int (nI im), .ref a5, .ref a6, .ref a7, .int (nI lm), .int (nI rm), .int (nI pl), .ref a8, .int sd])), (a1, aI G 54 (fl R)), (a2, aI G 54 (fl Y)), (a7, aI G 7 (cN rf))] H locs → lv_has ls 13 [(0, .ref h0), (1, .int ta), (2, .int tb), (3, .int tc), (4, .int v), (5, .int ww), (7, .int (nI (orC R taz.toNat tbz.toNat tcz.toNat vz.toNat (3 * x)))), (8, .int (nI (orT R taz.toNat tbz.toNat tcz.toNat vz.toNat (3 * x)) - nI 1)), (9, .int (nI x))] → W p l e ({ frames := 5, cells := 0, slots := 0, locals := 118 }) s m (([.ref h0, .int ta, .int tb, .int tc, .int v, .int ww] : List Value).toArray) below meth c H locs 0 0 (MQ below (QI G [(h0, .inr (2, [.ref a1, .ref a2, .ref a3, .ref a4, .int (nI im), .ref a5, .ref a6, .ref a7, .int (nI lm), .int (nI rm), .int (nI pl), .ref a8, .int sd])), (a1, aI G 54 (fl R)), (a2, aI G 54 (fl Rm)), (a7, aI G 7 (cN rf))] (fun (r : Int32) (u : RT) => r = anI (cOrd R taz tbz tcz vz wwz) (vOrd R taz.toNat tbz.toNat tcz.toNat vz.toNat wwz)) (fun u => [(h0, .inr (2, [.ref a1, .ref a2, .ref a3, .ref a4, .int (nI im), .ref a5, .ref a6, .ref a7, .int (nI lm), .int (nI rm), .int (nI pl), .ref a8, .int sd])), (a1, aI G 54 (fl R)), (a2, aI G 54 (fl u)), (a7, aI G 7 (cN (rfU rf (cOrd R taz tbz tcz vz wwz))))])) (([.ref h0, .int ta, .int tb, .int tc, .int v, .int ww] : List Value).toArray) s 0 0 (fA [(h0, .inr (2, [.ref a1, .ref a2, .ref a3, .ref a4, .int (nI im), .ref a5, .ref a6, .ref a7, .int (nI lm), .int (nI rm), .int (nI pl), .ref a8, .int sd])), (a1, aI G 54 (fl R)), (a2, aI G 54 (fl Rm)), (a7, aI G 7 (cN rf))])) (F0 m 92 ls []) := by
                    intro fu
                    induction fu with
                    | zero => intro x Y H locs ls hfu; exact absurd hfu (Nat.not_lt_zero _)
                    | succ fu ih_92 =>
                      intro x Y H locs ls hfu hx hw hl
                      refine lv_iload xx xb dX2_order_92 (lv_at hl 8 rfl) ?_
                      refine lv_iconst (v := nI 3) xx xb dX2_order_94 (by decide) ?_
                      refine lv_icmp_ge (tgt := 201) xx xb dX2_order_95 (by decide) (fun c_95 => ?_) (fun c_95 => ?_)
                      · skip
                        have c_95 := le_c (tN (by omega)) (tN (by omega)) c_95
                        refine lv_iload xx xb dX2_order_201 (lv_at hl 5 rfl) ?_
                        refine lv_if_ne (tgt := 211) xx xb dX2_order_203 (by decide) (fun c_203 => ?_) (fun c_203 => ?_)
                        · skip
                          have c_203 := ne_c h_ww Int32.toInt_zero c_203
                          refine lv_iload xx xb dX2_order_211 (lv_at hl 7 rfl) ?_
                          refine re_i (vOrd R taz.toNat tbz.toNat tcz.toNat vz.toNat wwz) (by (have hx3 : 3 * x = 9 := (by omega)); unfold vOrd; rw [hx3]; first | (rw [if_pos (by omega)]; done) | (rw [if_neg (by omega)]; exact pk_sub (orT_pos _ _ _ _ _))) ?_
                          have hc : cOrd R taz tbz tcz vz wwz = 0 := by unfold cOrd; (repeat' split) <;> omega
                          exact rt_i C hw Y (by exact (anI_0 hc _).symm) (by rw [rfU_0 hc]) dX2_order_213
                        · skip
                          have c_203 := eq_c h_ww Int32.toInt_zero c_203
                          refine lv_iload xx xb dX2_order_206 (lv_at hl 6 rfl) ?_
                          refine lv_goto (tgt := 213) xx xb dX2_order_208 (by decide) ?_
                          refine re_i (vOrd R taz.toNat tbz.toNat tcz.toNat vz.toNat wwz) (by (have hx3 : 3 * x = 9 := (by omega)); unfold vOrd; rw [hx3]; first | (rw [if_pos (by omega)]; done) | (rw [if_neg (by omega)]; exact pk_sub (orT_pos _ _ _ _ _))) ?_
                          have hc : cOrd R taz tbz tcz vz wwz = 0 := by unfold cOrd; (repeat' split) <;> omega
                          exact rt_i C hw Y (by exact (anI_0 hc _).symm) (by rw [rfU_0 hc]) dX2_order_213
                      · skip
                        have c_95 := nle_c (tN (by omega)) (tN (by omega)) c_95
                        refine lv_iconst (v := nI 0) xx xb dX2_order_98 (by decide) ?_
                        refine lv_istore (lv' := [(10, .int (nI 0)), (0, .ref h0), (1, .int ta), (2, .int tb), (3, .int tc), (4, .int v), (5, .int ww), (7, .int (nI (orC R taz.toNat tbz.toNat tcz.toNat vz.toNat (3 * x)))), (8, .int (nI (orT R taz.toNat tbz.toNat tcz.toNat vz.toNat (3 * x)) - nI 1)), (9, .int (nI x))]) xx xb dX2_order_99 hl (by decide) rfl (fun ls hl => ?_)
                        have hl : lv_has ls 13 [(10, .int (nI 0)), (0, .ref h0), (1, .int ta), (2, .int tb), (3, .int tc), (4, .int v), (5, .int ww), (7, .int (nI (orC R taz.toNat tbz.toNat tcz.toNat vz.toNat (3 * x + 0)))), (8, .int (nI (orT R taz.toNat tbz.toNat tcz.toNat vz.toNat (3 * x)) - nI 1)), (9, .int (nI x))] := hl
                        have hl : lv_has ls 13 [(10, .int (nI 0)), (0, .ref h0), (1, .int ta), (2, .int tb), (3, .int tc), (4, .int v), (5, .int ww), (7, .int (nI (orC R taz.toNat tbz.toNat tcz.toNat vz.toNat (3 * x + 0)))), (8, .int (nI (orT R taz.toNat tbz.toNat tcz.toNat vz.toNat (3 * x + 0)) - nI 1)), (9, .int (nI x))] := hl
                        have L_101 : ∀ (fu : Nat) (y : Nat) (Y : RT) (H : Heap) (locs : List Loc) (ls : Array Slot), 3 - y < fu → (y ≤ 3) → Wd G (fA [(h0, .inr (2, [.ref a1, .ref a2, .ref a3, .ref a4, .int (nI im), .ref a5, .ref a6, .ref a7, .int (nI lm), .int (nI rm), .int (nI pl), .ref a8, .int sd])), (a1, aI G 54 (fl R)), (a2, aI G 54 (fl Rm)), (a7, aI G 7 (cN rf))]) s [(h0, .inr (2, [.ref a1, .ref a2, .ref a3, .ref a4, .int (nI im), .ref a5, .ref a6, .ref a7, .int (nI lm), .int (nI rm), .int (nI pl), .ref a8, .int sd])), (a1, aI G 54 (fl R)), (a2, aI G 54 (fl Y)), (a7, aI G 7 (cN rf))] H locs → lv_has ls 13 [(0, .ref h0), (1, .int ta), (2, .int tb), (3, .int tc), (4, .int v), (5, .int ww), (7, .int (nI (orC R taz.toNat tbz.toNat tcz.toNat vz.toNat (3 * x + y)))), (8, .int (nI (orT R taz.toNat tbz.toNat tcz.toNat vz.toNat (3 * x + y)) - nI 1)), (9, .int (nI x)), (10, .int (nI y))] → W p l e ({ frames := 5, cells := 0, slots := 0, locals := 118 }) s m (([.ref h0, .int ta, .int tb, .int tc, .int v, .int ww] : List Value).toArray) below meth c H locs 0 0 (MQ below (QI G [(h0, .inr (2, [.ref a1, .ref a2, .ref a3, .ref a4, .int (nI im), .ref a5, .ref a6, .ref a7, .int (nI lm), .int (nI rm), .int (nI pl), .ref a8, .int sd])), (a1, aI G 54 (fl R)), (a2, aI G 54 (fl Rm)), (a7, aI G 7 (cN rf))] (fun (r : Int32) (u : RT) => r = anI (cOrd R taz tbz tcz vz wwz) (vOrd R taz.toNat tbz.toNat tcz.toNat vz.toNat wwz)) (fun u => [(h0, .inr (2, [.ref a1, .ref a2, .ref a3, .ref a4, .int (nI im), .ref a5, .ref a6, .ref a7, .int (nI lm), .int (nI rm), .int (nI pl), .ref a8, .int sd])), (a1, aI G 54 (fl R)), (a2, aI G 54 (fl u)), (a7, aI G 7 (cN (rfU rf (cOrd R taz tbz tcz vz wwz))))])) (([.ref h0, .int ta, .int tb, .int tc, .int v, .int ww] : List Value).toArray) s 0 0 (fA [(h0, .inr (2, [.ref a1, .ref a2, .ref a3, .ref a4, .int (nI im), .ref a5, .ref a6, .ref a7, .int (nI lm), .int (nI rm), .int (nI pl), .ref a8, .int sd])), (a1, aI G 54 (fl R)), (a2, aI G 54 (fl Rm)), (a7, aI G 7 (cN rf))])) (F0 m 101 ls []) := by
                          intro fu
                          induction fu with
                          | zero => intro y Y H locs ls hfu; exact absurd hfu (Nat.not_lt_zero _)
                          | succ fu ih_101 =>
                            intro y Y H locs ls hfu hy hw hl
                            refine lv_iload xx xb dX2_order_101 (lv_at hl 9 rfl) ?_
                            refine lv_iconst (v := nI 3) xx xb dX2_order_103 (by decide) ?_
                            refine lv_icmp_ge (tgt := 195) xx xb dX2_order_104 (by decide) (fun c_104 => ?_) (fun c_104 => ?_)
                            · skip
                              have c_104 := le_c (tN (by omega)) (tN (by omega)) c_104
                              have hy3 : y = 3 := by omega
                              have eC : orC R taz.toNat tbz.toNat tcz.toNat vz.toNat (3 * (x + 1)) = orC R taz.toNat tbz.toNat tcz.toNat vz.toNat (3 * x + y) := by rw [show 3 * (x + 1) = 3 * x + y by omega]
                              have eT : orT R taz.toNat tbz.toNat tcz.toNat vz.toNat (3 * (x + 1)) = orT R taz.toNat tbz.toNat tcz.toNat vz.toNat (3 * x + y) := by rw [show 3 * (x + 1) = 3 * x + y by omega]
                              have hl : lv_has ls 13 [(0, .ref h0), (1, .int ta), (2, .int tb), (3, .int tc), (4, .int v), (5, .int ww), (7, .int (nI (orC R taz.toNat tbz.toNat tcz.toNat vz.toNat (3 * (x + 1))))), (8, .int (nI (orT R taz.toNat tbz.toNat tcz.toNat vz.toNat (3 * x + y)) - nI 1)), (9, .int (nI x)), (10, .int (nI y))] := by rw [eC]; exact hl
                              have hl : lv_has ls 13 [(0, .ref h0), (1, .int ta), (2, .int tb), (3, .int tc), (4, .int v), (5, .int ww), (7, .int (nI (orC R taz.toNat tbz.toNat tcz.toNat vz.toNat (3 * (x + 1))))), (8, .int (nI (orT R taz.toNat tbz.toNat tcz.toNat vz.toNat (3 * (x + 1))) - nI 1)), (9, .int (nI x)), (10, .int (nI y))] := by rw [eT]; exact hl
                              refine lv_iinc (v := nI (x + 1)) (lv' := [(9, .int (nI (x + 1))), (0, .ref h0), (1, .int ta), (2, .int tb), (3, .int tc), (4, .int v), (5, .int ww), (7, .int (nI (orC R taz.toNat tbz.toNat tcz.toNat vz.toNat (3 * (x + 1))))), (8, .int (nI (orT R taz.toNat tbz.toNat tcz.toNat vz.toNat (3 * (x + 1))) - nI 1)), (10, .int (nI y))]) xx xb dX2_order_195 hl (k := 8) rfl (nI_add _ 1) (by decide) rfl (fun ls hl => ?_)
                              refine lv_goto (tgt := 92) xx xb dX2_order_198 (by decide) ?_
                              exact ih_92 (x + 1) Y H _ ls (by omega) (by omega) hw (lv_sub hl [1, 2, 3, 4, 5, 6, 7, 8, 0] rfl)
                            · skip
                              have c_104 := nle_c (tN (by omega)) (tN (by omega)) c_104
                              refine lv_iconst (v := nI 3) xx xb dX2_order_107 (by decide) ?_
                              refine lv_iload xx xb dX2_order_108 (lv_at hl 8 rfl) ?_
                              refine lv_isub xx xb dX2_order_110 ?_
                              refine re_i (nI (3 - x)) (pk_sub (by omega)) ?_
                              refine lv_iload xx xb dX2_order_111 (lv_at hl 9 rfl) ?_
                              refine lv_isub xx xb dX2_order_113 ?_
                              refine lv_istore (lv' := [(11, .int ((nI (3 - x)) - (nI y))), (0, .ref h0), (1, .int ta), (2, .int tb), (3, .int tc), (4, .int v), (5, .int ww), (7, .int (nI (orC R taz.toNat tbz.toNat tcz.toNat vz.toNat (3 * x + y)))), (8, .int (nI (orT R taz.toNat tbz.toNat tcz.toNat vz.toNat (3 * x + y)) - nI 1)), (9, .int (nI x)), (10, .int (nI y))]) xx xb dX2_order_114 hl (by decide) rfl (fun ls hl => ?_)
                              refine lv_iload xx xb dX2_order_116 (lv_at hl 9 rfl) ?_
                              refine lv_iload xx xb dX2_order_118 (lv_at hl 10 rfl) ?_
                              refine lv_icmp_ne (tgt := 127) xx xb dX2_order_120 (by decide) (fun c_120 => ?_) (fun c_120 => ?_)
                              · skip
                                have c_120 := ne_c (tN (by omega)) (tN (by omega)) c_120
                                have hl : lv_has ls 13 [(11, .int (nI (3 - x - y))), (0, .ref h0), (1, .int ta), (2, .int tb), (3, .int tc), (4, .int v), (5, .int ww), (7, .int (nI (orC R taz.toNat tbz.toNat tcz.toNat vz.toNat (3 * x + y)))), (8, .int (nI (orT R taz.toNat tbz.toNat tcz.toNat vz.toNat (3 * x + y)) - nI 1)), (9, .int (nI x)), (10, .int (nI y))] := by rw [← pk_sub (show y ≤ 3 - x by omega)]; exact hl
                                refine lv_aload_n xx xb dX2_order_127 rfl (lv_at hl 1 rfl) ?_
                                refine lv_iload_n xx xb dX2_order_128 rfl (lv_at hl 2 rfl) ?_
                                refine lv_iload_n xx xb dX2_order_129 rfl (lv_at hl 3 rfl) ?_
                                refine lv_iload_n xx xb dX2_order_130 rfl (lv_at hl 4 rfl) ?_
                                refine lv_iload xx xb dX2_order_131 (lv_at hl 9 rfl) ?_
                                have hM := kX2_placed l G ta tb tc x (by first | assumption | omega)
                                refine cs_i C hw hM ysX2_placed ml_X2_154 rfl [] rfl rfl (fun _ => (rfl : ([] : List Nat) = [])) (by decide) ⟨Nat.zero_le _, Nat.zero_le _⟩ hl.1 rfl (Nat.le_of_ble_eq_true rfl) dX2_order_133 (fun r _ H locs hr hw => ?_)
                                have hw : Wd G (fA [(h0, .inr (2, [.ref a1, .ref a2, .ref a3, .ref a4, .int (nI im), .ref a5, .ref a6, .ref a7, .int (nI lm), .int (nI rm), .int (nI pl), .ref a8, .int sd])), (a1, aI G 54 (fl R)), (a2, aI G 54 (fl Rm)), (a7, aI G 7 (cN rf))]) s [(h0, .inr (2, [.ref a1, .ref a2, .ref a3, .ref a4, .int (nI im), .ref a5, .ref a6, .ref a7, .int (nI lm), .int (nI rm), .int (nI pl), .ref a8, .int sd])), (a1, aI G 54 (fl R)), (a2, aI G 54 (fl Y)), (a7, aI G 7 (cN rf))] H locs := hw
                                subst hr
                                refine re_i (nI (plX taz.toNat tbz.toNat tcz.toNat x)) (plX_e (ofT h_ta (by omega) (by omega)) (ofT h_tb (by omega) (by omega)) (ofT h_tc (by omega) (by omega))) ?_
                                refine lv_iload_n xx xb dX2_order_136 rfl (lv_at hl 2 rfl) ?_
                                refine lv_iload_n xx xb dX2_order_137 rfl (lv_at hl 3 rfl) ?_
                                refine lv_iload_n xx xb dX2_order_138 rfl (lv_at hl 4 rfl) ?_
                                refine lv_iload xx xb dX2_order_139 (lv_at hl 10 rfl) ?_
                                have hM := kX2_placed l G ta tb tc y (by first | assumption | omega)
                                refine cs_i C hw hM ysX2_placed ml_X2_154 rfl [] rfl rfl (fun _ => (rfl : ([] : List Nat) = [])) (by decide) ⟨Nat.zero_le _, Nat.zero_le _⟩ hl.1 rfl (Nat.le_of_ble_eq_true rfl) dX2_order_141 (fun r _ H locs hr hw => ?_)
                                have hw : Wd G (fA [(h0, .inr (2, [.ref a1, .ref a2, .ref a3, .ref a4, .int (nI im), .ref a5, .ref a6, .ref a7, .int (nI lm), .int (nI rm), .int (nI pl), .ref a8, .int sd])), (a1, aI G 54 (fl R)), (a2, aI G 54 (fl Rm)), (a7, aI G 7 (cN rf))]) s [(h0, .inr (2, [.ref a1, .ref a2, .ref a3, .ref a4, .int (nI im), .ref a5, .ref a6, .ref a7, .int (nI lm), .int (nI rm), .int (nI pl), .ref a8, .int sd])), (a1, aI G 54 (fl R)), (a2, aI G 54 (fl Y)), (a7, aI G 7 (cN rf))] H locs := hw
                                subst hr
                                refine re_i (nI (plX taz.toNat tbz.toNat tcz.toNat y)) (plX_e (ofT h_ta (by omega) (by omega)) (ofT h_tb (by omega) (by omega)) (ofT h_tc (by omega) (by omega))) ?_
                                refine lv_iload_n xx xb dX2_order_144 rfl (lv_at hl 2 rfl) ?_
                                refine lv_iload_n xx xb dX2_order_145 rfl (lv_at hl 3 rfl) ?_
                                refine lv_iload_n xx xb dX2_order_146 rfl (lv_at hl 4 rfl) ?_
                                refine lv_iload xx xb dX2_order_147 (lv_at hl 0 rfl) ?_
                                have hM := kX2_placed l G ta tb tc (3 - x - y) (by first | assumption | omega)
                                refine cs_i C hw hM ysX2_placed ml_X2_154 rfl [] rfl rfl (fun _ => (rfl : ([] : List Nat) = [])) (by decide) ⟨Nat.zero_le _, Nat.zero_le _⟩ hl.1 rfl (Nat.le_of_ble_eq_true rfl) dX2_order_149 (fun r _ H locs hr hw => ?_)
                                have hw : Wd G (fA [(h0, .inr (2, [.ref a1, .ref a2, .ref a3, .ref a4, .int (nI im), .ref a5, .ref a6, .ref a7, .int (nI lm), .int (nI rm), .int (nI pl), .ref a8, .int sd])), (a1, aI G 54 (fl R)), (a2, aI G 54 (fl Rm)), (a7, aI G 7 (cN rf))]) s [(h0, .inr (2, [.ref a1, .ref a2, .ref a3, .ref a4, .int (nI im), .ref a5, .ref a6, .ref a7, .int (nI lm), .int (nI rm), .int (nI pl), .ref a8, .int sd])), (a1, aI G 54 (fl R)), (a2, aI G 54 (fl Y)), (a7, aI G 7 (cN rf))] H locs := hw
                                subst hr
                                refine re_i (nI (plX taz.toNat tbz.toNat tcz.toNat (3 - x - y))) (plX_e (ofT h_ta (by omega) (by omega)) (ofT h_tb (by omega) (by omega)) (ofT h_tc (by omega) (by omega))) ?_
                                refine lv_iload xx xb dX2_order_152 (lv_at hl 5 rfl) ?_
                                refine re_i (nI vz.toNat) (ofT h_v (by omega) (by omega)) ?_
                                have hM := kX2_standingBy l G h0 a1 a2 a3 a4 a5 a6 a7 a8 im lm rm pl sd R Y (plX taz.toNat tbz.toNat tcz.toNat x) (plX taz.toNat tbz.toNat tcz.toNat y) (plX taz.toNat tbz.toNat tcz.toNat (3 - x - y)) vz.toNat (by first | assumption | omega) (by first | assumption | omega) (plX_lt (by omega) (by omega) (by omega)) (plX_lt (by omega) (by omega) (by omega)) (plX_lt (by omega) (by omega) (by omega)) (by first | assumption | omega)
                                refine cv_i C hw hM yvX2_standingBy ml_X2_158 0 rfl rfl rfl [0, 1, 2] rfl rfl (fun _ => (rfl : ([h0, a1, a2] : List Nat) = [h0, a1, a2])) (by decide) ⟨Nat.zero_le _, Nat.zero_le _⟩ hl.1 rfl (Nat.le_of_ble_eq_true rfl) dX2_order_154 (fun r _ H locs hr hw => ?_)
                                have hw : Wd G (fA [(h0, .inr (2, [.ref a1, .ref a2, .ref a3, .ref a4, .int (nI im), .ref a5, .ref a6, .ref a7, .int (nI lm), .int (nI rm), .int (nI pl), .ref a8, .int sd])), (a1, aI G 54 (fl R)), (a2, aI G 54 (fl Rm)), (a7, aI G 7 (cN rf))]) s [(h0, .inr (2, [.ref a1, .ref a2, .ref a3, .ref a4, .int (nI im), .ref a5, .ref a6, .ref a7, .int (nI lm), .int (nI rm), .int (nI pl), .ref a8, .int sd])), (a1, aI G 54 (fl R)), (a2, aI G 54 (fl (obF R (plX taz.toNat tbz.toNat tcz.toNat x) (plX taz.toNat tbz.toNat tcz.toNat y) (plX taz.toNat tbz.toNat tcz.toNat (3 - x - y)) vz.toNat 10))), (a7, aI G 7 (cN rf))] H locs := hw
                                subst hr
                                refine re_i (nI (orS R taz.toNat tbz.toNat tcz.toNat vz.toNat (3 * x + y))) (congrArg nI (orS_q (by omega))) ?_
                                refine lv_istore (lv' := [(12, .int (nI (orS R taz.toNat tbz.toNat tcz.toNat vz.toNat (3 * x + y)))), (11, .int (nI (3 - x - y))), (0, .ref h0), (1, .int ta), (2, .int tb), (3, .int tc), (4, .int v), (5, .int ww), (7, .int (nI (orC R taz.toNat tbz.toNat tcz.toNat vz.toNat (3 * x + y)))), (8, .int (nI (orT R taz.toNat tbz.toNat tcz.toNat vz.toNat (3 * x + y)) - nI 1)), (9, .int (nI x)), (10, .int (nI y))]) xx xb dX2_order_157 hl (by decide) rfl (fun ls hl => ?_)
                                refine lv_iload xx xb dX2_order_159 (lv_at hl 0 rfl) ?_
                                refine lv_iload xx xb dX2_order_161 (lv_at hl 9 rfl) ?_
                                refine lv_icmp_gt (tgt := 169) xx xb dX2_order_163 (by decide) (fun c_163 => ?_) (fun c_163 => ?_)
                                · skip
                                  have c_163 := (ob_gt (orT_le R hn taz.toNat tbz.toNat tcz.toNat vz.toNat _) (orS_le R hn _ _ _ _ _)).mp c_163
                                  refine lv_bipush (v := nI 100) xx xb dX2_order_169 (by decide) ?_
                                  refine lv_iload xx xb dX2_order_171 (lv_at hl 10 rfl) ?_
                                  refine lv_imul xx xb dX2_order_173 ?_
                                  refine re_i (nI (100 * x)) (pk_mul _ _) ?_
                                  refine lv_bipush (v := nI 10) xx xb dX2_order_174 (by decide) ?_
                                  refine lv_iload xx xb dX2_order_176 (lv_at hl 11 rfl) ?_
                                  refine lv_imul xx xb dX2_order_178 ?_
                                  refine re_i (nI (10 * y)) (pk_mul _ _) ?_
                                  refine lv_iadd xx xb dX2_order_179 ?_
                                  refine re_i (nI ((100 * x) + (10 * y))) (nI_add _ _) ?_
                                  refine lv_iload xx xb dX2_order_180 (lv_at hl 1 rfl) ?_
                                  refine lv_iadd xx xb dX2_order_182 ?_
                                  refine re_i (nI (((100 * x) + (10 * y)) + (3 - x - y))) (nI_add _ _) ?_
                                  refine lv_istore (lv' := [(7, .int (nI (((100 * x) + (10 * y)) + (3 - x - y)))), (12, .int (nI (orS R taz.toNat tbz.toNat tcz.toNat vz.toNat (3 * x + y)))), (11, .int (nI (3 - x - y))), (0, .ref h0), (1, .int ta), (2, .int tb), (3, .int tc), (4, .int v), (5, .int ww), (8, .int (nI (orT R taz.toNat tbz.toNat tcz.toNat vz.toNat (3 * x + y)) - nI 1)), (9, .int (nI x)), (10, .int (nI y))]) xx xb dX2_order_183 hl (by decide) rfl (fun ls hl => ?_)
                                  refine lv_iload xx xb dX2_order_185 (lv_at hl 1 rfl) ?_
                                  refine lv_istore (lv' := [(8, .int (nI (orS R taz.toNat tbz.toNat tcz.toNat vz.toNat (3 * x + y)))), (7, .int (nI (((100 * x) + (10 * y)) + (3 - x - y)))), (12, .int (nI (orS R taz.toNat tbz.toNat tcz.toNat vz.toNat (3 * x + y)))), (11, .int (nI (3 - x - y))), (0, .ref h0), (1, .int ta), (2, .int tb), (3, .int tc), (4, .int v), (5, .int ww), (9, .int (nI x)), (10, .int (nI y))]) xx xb dX2_order_187 hl (by decide) rfl (fun ls hl => ?_)
                                  have hq : (3 * x + y) % 4 ≠ 0 ∧ orT R taz.toNat tbz.toNat tcz.toNat vz.toNat (3 * x + y) < orS R taz.toNat tbz.toNat tcz.toNat vz.toNat (3 * x + y) + 1 := ⟨by omega, c_163⟩
                                  have eC : orC R taz.toNat tbz.toNat tcz.toNat vz.toNat (3 * x + (y + 1)) = 100 * x + 10 * y + (3 - x - y) := by rw [show 3 * x + (y + 1) = (3 * x + y) + 1 from rfl, orC_y hq, show (3 * x + y) / 3 = x by omega, show (3 * x + y) % 3 = y by omega]
                                  have eT : nI (orT R taz.toNat tbz.toNat tcz.toNat vz.toNat (3 * x + (y + 1))) - nI 1 = nI (orS R taz.toNat tbz.toNat tcz.toNat vz.toNat (3 * x + y)) := by rw [show 3 * x + (y + 1) = (3 * x + y) + 1 from rfl, orT_y hq, pk_sub (by omega), Nat.add_sub_cancel]
                                  have hl : lv_has ls 13 [(8, .int (nI (orS R taz.toNat tbz.toNat tcz.toNat vz.toNat (3 * x + y)))), (7, .int (nI (orC R taz.toNat tbz.toNat tcz.toNat vz.toNat (3 * x + (y + 1))))), (12, .int (nI (orS R taz.toNat tbz.toNat tcz.toNat vz.toNat (3 * x + y)))), (11, .int (nI (3 - x - y))), (0, .ref h0), (1, .int ta), (2, .int tb), (3, .int tc), (4, .int v), (5, .int ww), (9, .int (nI x)), (10, .int (nI y))] := by rw [eC]; exact hl
                                  have hl : lv_has ls 13 [(8, .int (nI (orT R taz.toNat tbz.toNat tcz.toNat vz.toNat (3 * x + (y + 1))) - nI 1)), (7, .int (nI (orC R taz.toNat tbz.toNat tcz.toNat vz.toNat (3 * x + (y + 1))))), (12, .int (nI (orS R taz.toNat tbz.toNat tcz.toNat vz.toNat (3 * x + y)))), (11, .int (nI (3 - x - y))), (0, .ref h0), (1, .int ta), (2, .int tb), (3, .int tc), (4, .int v), (5, .int ww), (9, .int (nI x)), (10, .int (nI y))] := by rw [eT]; exact hl
                                  refine lv_iinc (v := nI (y + 1)) (lv' := [(10, .int (nI (y + 1))), (8, .int (nI (orT R taz.toNat tbz.toNat tcz.toNat vz.toNat (3 * x + (y + 1))) - nI 1)), (7, .int (nI (orC R taz.toNat tbz.toNat tcz.toNat vz.toNat (3 * x + (y + 1))))), (12, .int (nI (orS R taz.toNat tbz.toNat tcz.toNat vz.toNat (3 * x + y)))), (11, .int (nI (3 - x - y))), (0, .ref h0), (1, .int ta), (2, .int tb), (3, .int tc), (4, .int v), (5, .int ww), (9, .int (nI x))]) xx xb dX2_order_189 hl (k := 11) rfl (nI_add _ 1) (by decide) rfl (fun ls hl => ?_)
                                  refine lv_goto (tgt := 101) xx xb dX2_order_192 (by decide) ?_
                                  exact ih_101 (y + 1) (obF R (plX taz.toNat tbz.toNat tcz.toNat x) (plX taz.toNat tbz.toNat tcz.toNat y) (plX taz.toNat tbz.toNat tcz.toNat (3 - x - y)) vz.toNat 10) H _ ls (by omega) (by omega) hw (lv_sub hl [5, 6, 7, 8, 9, 10, 2, 1, 11, 0] rfl)
                                · skip
                                  have c_163 := mt (ob_gt (orT_le R hn taz.toNat tbz.toNat tcz.toNat vz.toNat _) (orS_le R hn _ _ _ _ _)).mpr c_163
                                  refine lv_goto (tgt := 189) xx xb dX2_order_166 (by decide) ?_
                                  have hq : ¬ ((3 * x + y) % 4 ≠ 0 ∧ orT R taz.toNat tbz.toNat tcz.toNat vz.toNat (3 * x + y) < orS R taz.toNat tbz.toNat tcz.toNat vz.toNat (3 * x + y) + 1) := fun z => by first | exact c_163 z.2 | (have z1 := z.1; omega)
                                  have eC : orC R taz.toNat tbz.toNat tcz.toNat vz.toNat (3 * x + (y + 1)) = orC R taz.toNat tbz.toNat tcz.toNat vz.toNat (3 * x + y) := orC_n hq
                                  have eT : orT R taz.toNat tbz.toNat tcz.toNat vz.toNat (3 * x + (y + 1)) = orT R taz.toNat tbz.toNat tcz.toNat vz.toNat (3 * x + y) := orT_n hq
                                  have hl : lv_has ls 13 [(12, .int (nI (orS R taz.toNat tbz.toNat tcz.toNat vz.toNat (3 * x + y)))), (11, .int (nI (3 - x - y))), (0, .ref h0), (1, .int ta), (2, .int tb), (3, .int tc), (4, .int v), (5, .int ww), (7, .int (nI (orC R taz.toNat tbz.toNat tcz.toNat vz.toNat (3 * x + (y + 1))))), (8, .int (nI (orT R taz.toNat tbz.toNat tcz.toNat vz.toNat (3 * x + y)) - nI 1)), (9, .int (nI x)), (10, .int (nI y))] := by rw [eC]; exact hl
                                  have hl : lv_has ls 13 [(12, .int (nI (orS R taz.toNat tbz.toNat tcz.toNat vz.toNat (3 * x + y)))), (11, .int (nI (3 - x - y))), (0, .ref h0), (1, .int ta), (2, .int tb), (3, .int tc), (4, .int v), (5, .int ww), (7, .int (nI (orC R taz.toNat tbz.toNat tcz.toNat vz.toNat (3 * x + (y + 1))))), (8, .int (nI (orT R taz.toNat tbz.toNat tcz.toNat vz.toNat (3 * x + (y + 1))) - nI 1)), (9, .int (nI x)), (10, .int (nI y))] := by rw [eT]; exact hl
                                  refine lv_iinc (v := nI (y + 1)) (lv' := [(10, .int (nI (y + 1))), (12, .int (nI (orS R taz.toNat tbz.toNat tcz.toNat vz.toNat (3 * x + y)))), (11, .int (nI (3 - x - y))), (0, .ref h0), (1, .int ta), (2, .int tb), (3, .int tc), (4, .int v), (5, .int ww), (7, .int (nI (orC R taz.toNat tbz.toNat tcz.toNat vz.toNat (3 * x + (y + 1))))), (8, .int (nI (orT R taz.toNat tbz.toNat tcz.toNat vz.toNat (3 * x + (y + 1))) - nI 1)), (9, .int (nI x))]) xx xb dX2_order_189 hl (k := 11) rfl (nI_add _ 1) (by decide) rfl (fun ls hl => ?_)
                                  refine lv_goto (tgt := 101) xx xb dX2_order_192 (by decide) ?_
                                  exact ih_101 (y + 1) (obF R (plX taz.toNat tbz.toNat tcz.toNat x) (plX taz.toNat tbz.toNat tcz.toNat y) (plX taz.toNat tbz.toNat tcz.toNat (3 - x - y)) vz.toNat 10) H _ ls (by omega) (by omega) hw (lv_sub hl [3, 4, 5, 6, 7, 8, 9, 10, 11, 0] rfl)
                              · skip
                                have c_120 := eq_c (tN (by omega)) (tN (by omega)) c_120
                                refine lv_iconst (v := (-1)) xx xb dX2_order_123 (by decide) ?_
                                refine lv_goto (tgt := 157) xx xb dX2_order_124 (by decide) ?_
                                refine lv_istore (lv' := [(12, .int (-1)), (11, .int ((nI (3 - x)) - (nI y))), (0, .ref h0), (1, .int ta), (2, .int tb), (3, .int tc), (4, .int v), (5, .int ww), (7, .int (nI (orC R taz.toNat tbz.toNat tcz.toNat vz.toNat (3 * x + y)))), (8, .int (nI (orT R taz.toNat tbz.toNat tcz.toNat vz.toNat (3 * x + y)) - nI 1)), (9, .int (nI x)), (10, .int (nI y))]) xx xb dX2_order_157 hl (by decide) rfl (fun ls hl => ?_)
                                refine lv_iload xx xb dX2_order_159 (lv_at hl 0 rfl) ?_
                                refine lv_iload xx xb dX2_order_161 (lv_at hl 9 rfl) ?_
                                refine lv_icmp_gt (tgt := 169) xx xb dX2_order_163 (by decide) (fun c_163 => ?_) (fun c_163 => ?_)
                                · skip
                                  have c_163 := ob_gn (orT_le R hn taz.toNat tbz.toNat tcz.toNat vz.toNat _) c_163
                                  exact c_163.elim
                                · skip
                                  refine lv_goto (tgt := 189) xx xb dX2_order_166 (by decide) ?_
                                  have hq : ¬ ((3 * x + y) % 4 ≠ 0 ∧ orT R taz.toNat tbz.toNat tcz.toNat vz.toNat (3 * x + y) < orS R taz.toNat tbz.toNat tcz.toNat vz.toNat (3 * x + y) + 1) := fun z => by first | exact c_163 z.2 | (have z1 := z.1; omega)
                                  have eC : orC R taz.toNat tbz.toNat tcz.toNat vz.toNat (3 * x + (y + 1)) = orC R taz.toNat tbz.toNat tcz.toNat vz.toNat (3 * x + y) := orC_n hq
                                  have eT : orT R taz.toNat tbz.toNat tcz.toNat vz.toNat (3 * x + (y + 1)) = orT R taz.toNat tbz.toNat tcz.toNat vz.toNat (3 * x + y) := orT_n hq
                                  have hl : lv_has ls 13 [(12, .int (-1)), (11, .int ((nI (3 - x)) - (nI y))), (0, .ref h0), (1, .int ta), (2, .int tb), (3, .int tc), (4, .int v), (5, .int ww), (7, .int (nI (orC R taz.toNat tbz.toNat tcz.toNat vz.toNat (3 * x + (y + 1))))), (8, .int (nI (orT R taz.toNat tbz.toNat tcz.toNat vz.toNat (3 * x + y)) - nI 1)), (9, .int (nI x)), (10, .int (nI y))] := by rw [eC]; exact hl
                                  have hl : lv_has ls 13 [(12, .int (-1)), (11, .int ((nI (3 - x)) - (nI y))), (0, .ref h0), (1, .int ta), (2, .int tb), (3, .int tc), (4, .int v), (5, .int ww), (7, .int (nI (orC R taz.toNat tbz.toNat tcz.toNat vz.toNat (3 * x + (y + 1))))), (8, .int (nI (orT R taz.toNat tbz.toNat tcz.toNat vz.toNat (3 * x + (y + 1))) - nI 1)), (9, .int (nI x)), (10, .int (nI y))] := by rw [eT]; exact hl
                                  refine lv_iinc (v := nI (y + 1)) (lv' := [(10, .int (nI (y + 1))), (12, .int (-1)), (11, .int ((nI (3 - x)) - (nI y))), (0, .ref h0), (1, .int ta), (2, .int tb), (3, .int tc), (4, .int v), (5, .int ww), (7, .int (nI (orC R taz.toNat tbz.toNat tcz.toNat vz.toNat (3 * x + (y + 1))))), (8, .int (nI (orT R taz.toNat tbz.toNat tcz.toNat vz.toNat (3 * x + (y + 1))) - nI 1)), (9, .int (nI x))]) xx xb dX2_order_189 hl (k := 11) rfl (nI_add _ 1) (by decide) rfl (fun ls hl => ?_)
                                  refine lv_goto (tgt := 101) xx xb dX2_order_192 (by decide) ?_
                                  exact ih_101 (y + 1) Y H _ ls (by omega) (by omega) hw (lv_sub hl [3, 4, 5, 6, 7, 8, 9, 10, 11, 0] rfl)
                        exact L_101 (_ + 1) 0 Y H _ ls (Nat.lt_succ_self _) (by omega) hw (lv_sub hl [1, 2, 3, 4, 5, 6, 7, 8, 9, 0] rfl)
                  exact L_92 (_ + 1) 0 Rm H _ ls (Nat.lt_succ_self _) (by omega) hw (lv_sub hl [4, 5, 6, 7, 8, 9, 2, 1, 0] rfl)
                · skip
                  have c_73 := g0_n c_73
                  refine lv_aload_n xx xb dX2_order_76 rfl (lv_at hl 1 rfl) ?_
                  refine lv_iload xx xb dX2_order_77 (lv_at hl 0 rfl) ?_
                  have hM := kX2_no l G h0 a1 a2 a3 a4 a5 a6 a7 a8 im lm rm pl sd rf (wbN vz 9) (by omega)
                  refine cv_i C hw hM yvX2_no ml_X2_36 0 rfl rfl rfl [0, 3] rfl rfl (fun _ => (rfl : ([h0, a7] : List Nat) = [h0, a7])) (by decide) ⟨Nat.zero_le _, Nat.zero_le _⟩ hl.1 rfl (Nat.le_of_ble_eq_true rfl) dX2_order_79 (fun r _ H locs hr hw => ?_)
                  have hw : Wd G (fA [(h0, .inr (2, [.ref a1, .ref a2, .ref a3, .ref a4, .int (nI im), .ref a5, .ref a6, .ref a7, .int (nI lm), .int (nI rm), .int (nI pl), .ref a8, .int sd])), (a1, aI G 54 (fl R)), (a2, aI G 54 (fl Rm)), (a7, aI G 7 (cN rf))]) s [(h0, .inr (2, [.ref a1, .ref a2, .ref a3, .ref a4, .int (nI im), .ref a5, .ref a6, .ref a7, .int (nI lm), .int (nI rm), .int (nI pl), .ref a8, .int sd])), (a1, aI G 54 (fl R)), (a2, aI G 54 (fl Rm)), (a7, aI G 7 (cN (upN rf (wbN vz 9) (rf (wbN vz 9) + 1))))] H locs := hw
                  subst hr
                  have hc : cOrd R taz tbz tcz vz wwz = (wbN vz 9) := by unfold cOrd; (repeat' split) <;> omega
                  have hj : (wbN vz 9) ≠ 0 := by omega
                  exact rt_i C hw Rm (by exact (anI_r hc hj _).symm) (by rw [rfU_r hc hj]) dX2_order_82
              · skip
                have c_54 := g0_c (by omega) c_54
                refine lv_iload xx xb dX2_order_57 (lv_at hl 6 rfl) ?_
                refine lv_iconst (v := nI 0) xx xb dX2_order_59 (by decide) ?_
                refine lv_iconst (v := nI 1) xx xb dX2_order_60 (by decide) ?_
                have hM := kX2_isIn l G ww wwz (nI 0) 0 (nI 1) 1 h_ww (tN (by omega)) (tN (by omega))
                refine cs_i C hw hM ysX2_isIn ml_X2_40 rfl [] rfl rfl (fun _ => (rfl : ([] : List Nat) = [])) (by decide) ⟨Nat.zero_le _, Nat.zero_le _⟩ hl.1 rfl (Nat.le_of_ble_eq_true rfl) dX2_order_61 (fun r _ H locs hr hw => ?_)
                have hw : Wd G (fA [(h0, .inr (2, [.ref a1, .ref a2, .ref a3, .ref a4, .int (nI im), .ref a5, .ref a6, .ref a7, .int (nI lm), .int (nI rm), .int (nI pl), .ref a8, .int sd])), (a1, aI G 54 (fl R)), (a2, aI G 54 (fl Rm)), (a7, aI G 7 (cN rf))]) s [(h0, .inr (2, [.ref a1, .ref a2, .ref a3, .ref a4, .int (nI im), .ref a5, .ref a6, .ref a7, .int (nI lm), .int (nI rm), .int (nI pl), .ref a8, .int sd])), (a1, aI G 54 (fl R)), (a2, aI G 54 (fl Rm)), (a7, aI G 7 (cN rf))] H locs := hw
                subst hr
                refine lv_if_ne (tgt := 71) xx xb dX2_order_64 (by decide) (fun c_64 => ?_) (fun c_64 => ?_)
                · skip
                  have c_64 := b1_c c_64
                  refine lv_iload xx xb dX2_order_71 (lv_at hl 0 rfl) ?_
                  refine lv_if_eq (tgt := 83) xx xb dX2_order_73 (by decide) (fun c_73 => ?_) (fun c_73 => ?_)
                  · skip
                    have c_73 := g0_c (by omega) c_73
                    obtain ⟨g1, g2⟩ := wbN_0 (z := vz) (a := 9) (by omega)
                    refine lv_iconst (v := nI 0) xx xb dX2_order_83 (by decide) ?_
                    refine lv_istore (lv' := [(7, .int (nI 0)), (6, .int (nG (wbN vz 9))), (0, .ref h0), (1, .int ta), (2, .int tb), (3, .int tc), (4, .int v), (5, .int ww)]) xx xb dX2_order_84 hl (by decide) rfl (fun ls hl => ?_)
                    refine lv_iconst (v := (-1)) xx xb dX2_order_86 (by decide) ?_
                    refine lv_istore (lv' := [(8, .int (-1)), (7, .int (nI 0)), (6, .int (nG (wbN vz 9))), (0, .ref h0), (1, .int ta), (2, .int tb), (3, .int tc), (4, .int v), (5, .int ww)]) xx xb dX2_order_87 hl (by decide) rfl (fun ls hl => ?_)
                    refine lv_iconst (v := nI 0) xx xb dX2_order_89 (by decide) ?_
                    refine lv_istore (lv' := [(9, .int (nI 0)), (8, .int (-1)), (7, .int (nI 0)), (6, .int (nG (wbN vz 9))), (0, .ref h0), (1, .int ta), (2, .int tb), (3, .int tc), (4, .int v), (5, .int ww)]) xx xb dX2_order_90 hl (by decide) rfl (fun ls hl => ?_)
                    have hl : lv_has ls 13 [(9, .int (nI 0)), (8, .int (-1)), (7, .int (nI (orC R taz.toNat tbz.toNat tcz.toNat vz.toNat (3 * 0)))), (6, .int (nG (wbN vz 9))), (0, .ref h0), (1, .int ta), (2, .int tb), (3, .int tc), (4, .int v), (5, .int ww)] := hl
                    have hl : lv_has ls 13 [(9, .int (nI 0)), (8, .int (nI (orT R taz.toNat tbz.toNat tcz.toNat vz.toNat (3 * 0)) - nI 1)), (7, .int (nI (orC R taz.toNat tbz.toNat tcz.toNat vz.toNat (3 * 0)))), (6, .int (nG (wbN vz 9))), (0, .ref h0), (1, .int ta), (2, .int tb), (3, .int tc), (4, .int v), (5, .int ww)] := by rw [show nI (orT R taz.toNat tbz.toNat tcz.toNat vz.toNat (3 * 0)) - nI 1 = -1 from (by show nI 0 - nI 1 = -1; decide)]; exact hl
                    have L_92 : ∀ (fu : Nat) (x : Nat) (Y : RT) (H : Heap) (locs : List Loc) (ls : Array Slot), 3 - x < fu → (x ≤ 3) → Wd G (fA [(h0, .inr (2, [.ref a1, .ref a2, .ref a3, .ref a4, .int (nI im), .ref a5, .ref a6, .ref a7, .int (nI lm), .int (nI rm), .int (nI pl), .ref a8, .int sd])), (a1, aI G 54 (fl R)), (a2, aI G 54 (fl Rm)), (a7, aI G 7 (cN rf))]) s [(h0, .inr (2, [.ref a1, .ref a2, .ref a3, .ref a4, .int (nI im), .ref a5, .ref a6, .ref a7, .int (nI lm), .int (nI rm), .int (nI pl), .ref a8, .int sd])), (a1, aI G 54 (fl R)), (a2, aI G 54 (fl Y)), (a7, aI G 7 (cN rf))] H locs → lv_has ls 13 [(0, .ref h0), (1, .int ta), (2, .int tb), (3, .int tc), (4, .int v), (5, .int ww), (7, .int (nI (orC R taz.toNat tbz.toNat tcz.toNat vz.toNat (3 * x)))), (8, .int (nI (orT R taz.toNat tbz.toNat tcz.toNat vz.toNat (3 * x)) - nI 1)), (9, .int (nI x))] → W p l e ({ frames := 5, cells := 0, slots := 0, locals := 118 }) s m (([.ref h0, .int ta, .int tb, .int tc, .int v, .int ww] : List Value).toArray) below meth c H locs 0 0 (MQ below (QI G [(h0, .inr (2, [.ref a1, .ref a2, .ref a3, .ref a4, .int (nI im), .ref a5, .ref a6, .ref a7, .int (nI lm), .int (nI rm), .int (nI pl), .ref a8, .int sd])), (a1, aI G 54 (fl R)), (a2, aI G 54 (fl Rm)), (a7, aI G 7 (cN rf))] (fun (r : Int32) (u : RT) => r = anI (cOrd R taz tbz tcz vz wwz) (vOrd R taz.toNat tbz.toNat tcz.toNat vz.toNat wwz)) (fun u => [(h0, .inr (2, [.ref a1, .ref a2, .ref a3, .ref a4, .int (nI im), .ref a5, .ref a6, .ref a7, .int (nI lm), .int (nI rm), .int (nI pl), .ref a8, .int sd])), (a1, aI G 54 (fl R)), (a2, aI G 54 (fl u)), (a7, aI G 7 (cN (rfU rf (cOrd R taz tbz tcz vz wwz))))])) (([.ref h0, .int ta, .int tb, .int tc, .int v, .int ww] : List Value).toArray) s 0 0 (fA [(h0, .inr (2, [.ref a1, .ref a2, .ref a3, .ref a4, .int (nI im), .ref a5, .ref a6, .ref a7, .int (nI lm), .int (nI rm), .int (nI pl), .ref a8, .int sd])), (a1, aI G 54 (fl R)), (a2, aI G 54 (fl Rm)), (a7, aI G 7 (cN rf))])) (F0 m 92 ls []) := by
                      intro fu
                      induction fu with
                      | zero => intro x Y H locs ls hfu; exact absurd hfu (Nat.not_lt_zero _)
                      | succ fu ih_92 =>
                        intro x Y H locs ls hfu hx hw hl
                        refine lv_iload xx xb dX2_order_92 (lv_at hl 8 rfl) ?_
                        refine lv_iconst (v := nI 3) xx xb dX2_order_94 (by decide) ?_
                        refine lv_icmp_ge (tgt := 201) xx xb dX2_order_95 (by decide) (fun c_95 => ?_) (fun c_95 => ?_)
                        · skip
                          have c_95 := le_c (tN (by omega)) (tN (by omega)) c_95
                          refine lv_iload xx xb dX2_order_201 (lv_at hl 5 rfl) ?_
                          refine lv_if_ne (tgt := 211) xx xb dX2_order_203 (by decide) (fun c_203 => ?_) (fun c_203 => ?_)
                          · skip
                            have c_203 := ne_c h_ww Int32.toInt_zero c_203
                            refine lv_iload xx xb dX2_order_211 (lv_at hl 7 rfl) ?_
                            refine re_i (vOrd R taz.toNat tbz.toNat tcz.toNat vz.toNat wwz) (by (have hx3 : 3 * x = 9 := (by omega)); unfold vOrd; rw [hx3]; first | (rw [if_pos (by omega)]; done) | (rw [if_neg (by omega)]; exact pk_sub (orT_pos _ _ _ _ _))) ?_
                            have hc : cOrd R taz tbz tcz vz wwz = 0 := by unfold cOrd; (repeat' split) <;> omega
                            exact rt_i C hw Y (by exact (anI_0 hc _).symm) (by rw [rfU_0 hc]) dX2_order_213
                          · skip
                            have c_203 := eq_c h_ww Int32.toInt_zero c_203
                            refine lv_iload xx xb dX2_order_206 (lv_at hl 6 rfl) ?_
                            refine lv_goto (tgt := 213) xx xb dX2_order_208 (by decide) ?_
                            refine re_i (vOrd R taz.toNat tbz.toNat tcz.toNat vz.toNat wwz) (by (have hx3 : 3 * x = 9 := (by omega)); unfold vOrd; rw [hx3]; first | (rw [if_pos (by omega)]; done) | (rw [if_neg (by omega)]; exact pk_sub (orT_pos _ _ _ _ _))) ?_
                            have hc : cOrd R taz tbz tcz vz wwz = 0 := by unfold cOrd; (repeat' split) <;> omega
                            exact rt_i C hw Y (by exact (anI_0 hc _).symm) (by rw [rfU_0 hc]) dX2_order_213
                        · skip
                          have c_95 := nle_c (tN (by omega)) (tN (by omega)) c_95
                          refine lv_iconst (v := nI 0) xx xb dX2_order_98 (by decide) ?_
                          refine lv_istore (lv' := [(10, .int (nI 0)), (0, .ref h0), (1, .int ta), (2, .int tb), (3, .int tc), (4, .int v), (5, .int ww), (7, .int (nI (orC R taz.toNat tbz.toNat tcz.toNat vz.toNat (3 * x)))), (8, .int (nI (orT R taz.toNat tbz.toNat tcz.toNat vz.toNat (3 * x)) - nI 1)), (9, .int (nI x))]) xx xb dX2_order_99 hl (by decide) rfl (fun ls hl => ?_)
                          have hl : lv_has ls 13 [(10, .int (nI 0)), (0, .ref h0), (1, .int ta), (2, .int tb), (3, .int tc), (4, .int v), (5, .int ww), (7, .int (nI (orC R taz.toNat tbz.toNat tcz.toNat vz.toNat (3 * x + 0)))), (8, .int (nI (orT R taz.toNat tbz.toNat tcz.toNat vz.toNat (3 * x)) - nI 1)), (9, .int (nI x))] := hl
                          have hl : lv_has ls 13 [(10, .int (nI 0)), (0, .ref h0), (1, .int ta), (2, .int tb), (3, .int tc), (4, .int v), (5, .int ww), (7, .int (nI (orC R taz.toNat tbz.toNat tcz.toNat vz.toNat (3 * x + 0)))), (8, .int (nI (orT R taz.toNat tbz.toNat tcz.toNat vz.toNat (3 * x + 0)) - nI 1)), (9, .int (nI x))] := hl
                          have L_101 : ∀ (fu : Nat) (y : Nat) (Y : RT) (H : Heap) (locs : List Loc) (ls : Array Slot), 3 - y < fu → (y ≤ 3) → Wd G (fA [(h0, .inr (2, [.ref a1, .ref a2, .ref a3, .ref a4, .int (nI im), .ref a5, .ref a6, .ref a7, .int (nI lm), .int (nI rm), .int (nI pl), .ref a8, .int sd])), (a1, aI G 54 (fl R)), (a2, aI G 54 (fl Rm)), (a7, aI G 7 (cN rf))]) s [(h0, .inr (2, [.ref a1, .ref a2, .ref a3, .ref a4, .int (nI im), .ref a5, .ref a6, .ref a7, .int (nI lm), .int (nI rm), .int (nI pl), .ref a8, .int sd])), (a1, aI G 54 (fl R)), (a2, aI G 54 (fl Y)), (a7, aI G 7 (cN rf))] H locs → lv_has ls 13 [(0, .ref h0), (1, .int ta), (2, .int tb), (3, .int tc), (4, .int v), (5, .int ww), (7, .int (nI (orC R taz.toNat tbz.toNat tcz.toNat vz.toNat (3 * x + y)))), (8, .int (nI (orT R taz.toNat tbz.toNat tcz.toNat vz.toNat (3 * x + y)) - nI 1)), (9, .int (nI x)), (10, .int (nI y))] → W p l e ({ frames := 5, cells := 0, slots := 0, locals := 118 }) s m (([.ref h0, .int ta, .int tb, .int tc, .int v, .int ww] : List Value).toArray) below meth c H locs 0 0 (MQ below (QI G [(h0, .inr (2, [.ref a1, .ref a2, .ref a3, .ref a4, .int (nI im), .ref a5, .ref a6, .ref a7, .int (nI lm), .int (nI rm), .int (nI pl), .ref a8, .int sd])), (a1, aI G 54 (fl R)), (a2, aI G 54 (fl Rm)), (a7, aI G 7 (cN rf))] (fun (r : Int32) (u : RT) => r = anI (cOrd R taz tbz tcz vz wwz) (vOrd R taz.toNat tbz.toNat tcz.toNat vz.toNat wwz)) (fun u => [(h0, .inr (2, [.ref a1, .ref a2, .ref a3, .ref a4, .int (nI im), .ref a5, .ref a6, .ref a7, .int (nI lm), .int (nI rm), .int (nI pl), .ref a8, .int sd])), (a1, aI G 54 (fl R)), (a2, aI G 54 (fl u)), (a7, aI G 7 (cN (rfU rf (cOrd R taz tbz tcz vz wwz))))])) (([.ref h0, .int ta, .int tb, .int tc, .int v, .int ww] : List Value).toArray) s 0 0 (fA [(h0, .inr (2, [.ref a1, .ref a2, .ref a3, .ref a4, .int (nI im), .ref a5, .ref a6, .ref a7, .int (nI lm), .int (nI rm), .int (nI pl), .ref a8, .int sd])), (a1, aI G 54 (fl R)), (a2, aI G 54 (fl Rm)), (a7, aI G 7 (cN rf))])) (F0 m 101 ls []) := by
                            intro fu
                            induction fu with
                            | zero => intro y Y H locs ls hfu; exact absurd hfu (Nat.not_lt_zero _)
                            | succ fu ih_101 =>
                              intro y Y H locs ls hfu hy hw hl
                              refine lv_iload xx xb dX2_order_101 (lv_at hl 9 rfl) ?_
                              refine lv_iconst (v := nI 3) xx xb dX2_order_103 (by decide) ?_
                              refine lv_icmp_ge (tgt := 195) xx xb dX2_order_104 (by decide) (fun c_104 => ?_) (fun c_104 => ?_)
                              · skip
                                have c_104 := le_c (tN (by omega)) (tN (by omega)) c_104
                                have hy3 : y = 3 := by omega
                                have eC : orC R taz.toNat tbz.toNat tcz.toNat vz.toNat (3 * (x + 1)) = orC R taz.toNat tbz.toNat tcz.toNat vz.toNat (3 * x + y) := by rw [show 3 * (x + 1) = 3 * x + y by omega]
                                have eT : orT R taz.toNat tbz.toNat tcz.toNat vz.toNat (3 * (x + 1)) = orT R taz.toNat tbz.toNat tcz.toNat vz.toNat (3 * x + y) := by rw [show 3 * (x + 1) = 3 * x + y by omega]
                                have hl : lv_has ls 13 [(0, .ref h0), (1, .int ta), (2, .int tb), (3, .int tc), (4, .int v), (5, .int ww), (7, .int (nI (orC R taz.toNat tbz.toNat tcz.toNat vz.toNat (3 * (x + 1))))), (8, .int (nI (orT R taz.toNat tbz.toNat tcz.toNat vz.toNat (3 * x + y)) - nI 1)), (9, .int (nI x)), (10, .int (nI y))] := by rw [eC]; exact hl
                                have hl : lv_has ls 13 [(0, .ref h0), (1, .int ta), (2, .int tb), (3, .int tc), (4, .int v), (5, .int ww), (7, .int (nI (orC R taz.toNat tbz.toNat tcz.toNat vz.toNat (3 * (x + 1))))), (8, .int (nI (orT R taz.toNat tbz.toNat tcz.toNat vz.toNat (3 * (x + 1))) - nI 1)), (9, .int (nI x)), (10, .int (nI y))] := by rw [eT]; exact hl
                                refine lv_iinc (v := nI (x + 1)) (lv' := [(9, .int (nI (x + 1))), (0, .ref h0), (1, .int ta), (2, .int tb), (3, .int tc), (4, .int v), (5, .int ww), (7, .int (nI (orC R taz.toNat tbz.toNat tcz.toNat vz.toNat (3 * (x + 1))))), (8, .int (nI (orT R taz.toNat tbz.toNat tcz.toNat vz.toNat (3 * (x + 1))) - nI 1)), (10, .int (nI y))]) xx xb dX2_order_195 hl (k := 8) rfl (nI_add _ 1) (by decide) rfl (fun ls hl => ?_)
                                refine lv_goto (tgt := 92) xx xb dX2_order_198 (by decide) ?_
                                exact ih_92 (x + 1) Y H _ ls (by omega) (by omega) hw (lv_sub hl [1, 2, 3, 4, 5, 6, 7, 8, 0] rfl)
                              · skip
                                have c_104 := nle_c (tN (by omega)) (tN (by omega)) c_104
                                refine lv_iconst (v := nI 3) xx xb dX2_order_107 (by decide) ?_
                                refine lv_iload xx xb dX2_order_108 (lv_at hl 8 rfl) ?_
                                refine lv_isub xx xb dX2_order_110 ?_
                                refine re_i (nI (3 - x)) (pk_sub (by omega)) ?_
                                refine lv_iload xx xb dX2_order_111 (lv_at hl 9 rfl) ?_
                                refine lv_isub xx xb dX2_order_113 ?_
                                refine lv_istore (lv' := [(11, .int ((nI (3 - x)) - (nI y))), (0, .ref h0), (1, .int ta), (2, .int tb), (3, .int tc), (4, .int v), (5, .int ww), (7, .int (nI (orC R taz.toNat tbz.toNat tcz.toNat vz.toNat (3 * x + y)))), (8, .int (nI (orT R taz.toNat tbz.toNat tcz.toNat vz.toNat (3 * x + y)) - nI 1)), (9, .int (nI x)), (10, .int (nI y))]) xx xb dX2_order_114 hl (by decide) rfl (fun ls hl => ?_)
                                refine lv_iload xx xb dX2_order_116 (lv_at hl 9 rfl) ?_
                                refine lv_iload xx xb dX2_order_118 (lv_at hl 10 rfl) ?_
                                refine lv_icmp_ne (tgt := 127) xx xb dX2_order_120 (by decide) (fun c_120 => ?_) (fun c_120 => ?_)
                                · skip
                                  have c_120 := ne_c (tN (by omega)) (tN (by omega)) c_120
                                  have hl : lv_has ls 13 [(11, .int (nI (3 - x - y))), (0, .ref h0), (1, .int ta), (2, .int tb), (3, .int tc), (4, .int v), (5, .int ww), (7, .int (nI (orC R taz.toNat tbz.toNat tcz.toNat vz.toNat (3 * x + y)))), (8, .int (nI (orT R taz.toNat tbz.toNat tcz.toNat vz.toNat (3 * x + y)) - nI 1)), (9, .int (nI x)), (10, .int (nI y))] := by rw [← pk_sub (show y ≤ 3 - x by omega)]; exact hl
                                  refine lv_aload_n xx xb dX2_order_127 rfl (lv_at hl 1 rfl) ?_
                                  refine lv_iload_n xx xb dX2_order_128 rfl (lv_at hl 2 rfl) ?_
                                  refine lv_iload_n xx xb dX2_order_129 rfl (lv_at hl 3 rfl) ?_
                                  refine lv_iload_n xx xb dX2_order_130 rfl (lv_at hl 4 rfl) ?_
                                  refine lv_iload xx xb dX2_order_131 (lv_at hl 9 rfl) ?_
                                  have hM := kX2_placed l G ta tb tc x (by first | assumption | omega)
                                  refine cs_i C hw hM ysX2_placed ml_X2_154 rfl [] rfl rfl (fun _ => (rfl : ([] : List Nat) = [])) (by decide) ⟨Nat.zero_le _, Nat.zero_le _⟩ hl.1 rfl (Nat.le_of_ble_eq_true rfl) dX2_order_133 (fun r _ H locs hr hw => ?_)
                                  have hw : Wd G (fA [(h0, .inr (2, [.ref a1, .ref a2, .ref a3, .ref a4, .int (nI im), .ref a5, .ref a6, .ref a7, .int (nI lm), .int (nI rm), .int (nI pl), .ref a8, .int sd])), (a1, aI G 54 (fl R)), (a2, aI G 54 (fl Rm)), (a7, aI G 7 (cN rf))]) s [(h0, .inr (2, [.ref a1, .ref a2, .ref a3, .ref a4, .int (nI im), .ref a5, .ref a6, .ref a7, .int (nI lm), .int (nI rm), .int (nI pl), .ref a8, .int sd])), (a1, aI G 54 (fl R)), (a2, aI G 54 (fl Y)), (a7, aI G 7 (cN rf))] H locs := hw
                                  subst hr
                                  refine re_i (nI (plX taz.toNat tbz.toNat tcz.toNat x)) (plX_e (ofT h_ta (by omega) (by omega)) (ofT h_tb (by omega) (by omega)) (ofT h_tc (by omega) (by omega))) ?_
                                  refine lv_iload_n xx xb dX2_order_136 rfl (lv_at hl 2 rfl) ?_
                                  refine lv_iload_n xx xb dX2_order_137 rfl (lv_at hl 3 rfl) ?_
                                  refine lv_iload_n xx xb dX2_order_138 rfl (lv_at hl 4 rfl) ?_
                                  refine lv_iload xx xb dX2_order_139 (lv_at hl 10 rfl) ?_
                                  have hM := kX2_placed l G ta tb tc y (by first | assumption | omega)
                                  refine cs_i C hw hM ysX2_placed ml_X2_154 rfl [] rfl rfl (fun _ => (rfl : ([] : List Nat) = [])) (by decide) ⟨Nat.zero_le _, Nat.zero_le _⟩ hl.1 rfl (Nat.le_of_ble_eq_true rfl) dX2_order_141 (fun r _ H locs hr hw => ?_)
                                  have hw : Wd G (fA [(h0, .inr (2, [.ref a1, .ref a2, .ref a3, .ref a4, .int (nI im), .ref a5, .ref a6, .ref a7, .int (nI lm), .int (nI rm), .int (nI pl), .ref a8, .int sd])), (a1, aI G 54 (fl R)), (a2, aI G 54 (fl Rm)), (a7, aI G 7 (cN rf))]) s [(h0, .inr (2, [.ref a1, .ref a2, .ref a3, .ref a4, .int (nI im), .ref a5, .ref a6, .ref a7, .int (nI lm), .int (nI rm), .int (nI pl), .ref a8, .int sd])), (a1, aI G 54 (fl R)), (a2, aI G 54 (fl Y)), (a7, aI G 7 (cN rf))] H locs := hw
                                  subst hr
                                  refine re_i (nI (plX taz.toNat tbz.toNat tcz.toNat y)) (plX_e (ofT h_ta (by omega) (by omega)) (ofT h_tb (by omega) (by omega)) (ofT h_tc (by omega) (by omega))) ?_
                                  refine lv_iload_n xx xb dX2_order_144 rfl (lv_at hl 2 rfl) ?_
                                  refine lv_iload_n xx xb dX2_order_145 rfl (lv_at hl 3 rfl) ?_
                                  refine lv_iload_n xx xb dX2_order_146 rfl (lv_at hl 4 rfl) ?_
                                  refine lv_iload xx xb dX2_order_147 (lv_at hl 0 rfl) ?_
                                  have hM := kX2_placed l G ta tb tc (3 - x - y) (by first | assumption | omega)
                                  refine cs_i C hw hM ysX2_placed ml_X2_154 rfl [] rfl rfl (fun _ => (rfl : ([] : List Nat) = [])) (by decide) ⟨Nat.zero_le _, Nat.zero_le _⟩ hl.1 rfl (Nat.le_of_ble_eq_true rfl) dX2_order_149 (fun r _ H locs hr hw => ?_)
                                  have hw : Wd G (fA [(h0, .inr (2, [.ref a1, .ref a2, .ref a3, .ref a4, .int (nI im), .ref a5, .ref a6, .ref a7, .int (nI lm), .int (nI rm), .int (nI pl), .ref a8, .int sd])), (a1, aI G 54 (fl R)), (a2, aI G 54 (fl Rm)), (a7, aI G 7 (cN rf))]) s [(h0, .inr (2, [.ref a1, .ref a2, .ref a3, .ref a4, .int (nI im), .ref a5, .ref a6, .ref a7, .int (nI lm), .int (nI rm), .int (nI pl), .ref a8, .int sd])), (a1, aI G 54 (fl R)), (a2, aI G 54 (fl Y)), (a7, aI G 7 (cN rf))] H locs := hw
                                  subst hr
                                  refine re_i (nI (plX taz.toNat tbz.toNat tcz.toNat (3 - x - y))) (plX_e (ofT h_ta (by omega) (by omega)) (ofT h_tb (by omega) (by omega)) (ofT h_tc (by omega) (by omega))) ?_
                                  refine lv_iload xx xb dX2_order_152 (lv_at hl 5 rfl) ?_
                                  refine re_i (nI vz.toNat) (ofT h_v (by omega) (by omega)) ?_
                                  have hM := kX2_standingBy l G h0 a1 a2 a3 a4 a5 a6 a7 a8 im lm rm pl sd R Y (plX taz.toNat tbz.toNat tcz.toNat x) (plX taz.toNat tbz.toNat tcz.toNat y) (plX taz.toNat tbz.toNat tcz.toNat (3 - x - y)) vz.toNat (by first | assumption | omega) (by first | assumption | omega) (plX_lt (by omega) (by omega) (by omega)) (plX_lt (by omega) (by omega) (by omega)) (plX_lt (by omega) (by omega) (by omega)) (by first | assumption | omega)
                                  refine cv_i C hw hM yvX2_standingBy ml_X2_158 0 rfl rfl rfl [0, 1, 2] rfl rfl (fun _ => (rfl : ([h0, a1, a2] : List Nat) = [h0, a1, a2])) (by decide) ⟨Nat.zero_le _, Nat.zero_le _⟩ hl.1 rfl (Nat.le_of_ble_eq_true rfl) dX2_order_154 (fun r _ H locs hr hw => ?_)
                                  have hw : Wd G (fA [(h0, .inr (2, [.ref a1, .ref a2, .ref a3, .ref a4, .int (nI im), .ref a5, .ref a6, .ref a7, .int (nI lm), .int (nI rm), .int (nI pl), .ref a8, .int sd])), (a1, aI G 54 (fl R)), (a2, aI G 54 (fl Rm)), (a7, aI G 7 (cN rf))]) s [(h0, .inr (2, [.ref a1, .ref a2, .ref a3, .ref a4, .int (nI im), .ref a5, .ref a6, .ref a7, .int (nI lm), .int (nI rm), .int (nI pl), .ref a8, .int sd])), (a1, aI G 54 (fl R)), (a2, aI G 54 (fl (obF R (plX taz.toNat tbz.toNat tcz.toNat x) (plX taz.toNat tbz.toNat tcz.toNat y) (plX taz.toNat tbz.toNat tcz.toNat (3 - x - y)) vz.toNat 10))), (a7, aI G 7 (cN rf))] H locs := hw
                                  subst hr
                                  refine re_i (nI (orS R taz.toNat tbz.toNat tcz.toNat vz.toNat (3 * x + y))) (congrArg nI (orS_q (by omega))) ?_
                                  refine lv_istore (lv' := [(12, .int (nI (orS R taz.toNat tbz.toNat tcz.toNat vz.toNat (3 * x + y)))), (11, .int (nI (3 - x - y))), (0, .ref h0), (1, .int ta), (2, .int tb), (3, .int tc), (4, .int v), (5, .int ww), (7, .int (nI (orC R taz.toNat tbz.toNat tcz.toNat vz.toNat (3 * x + y)))), (8, .int (nI (orT R taz.toNat tbz.toNat tcz.toNat vz.toNat (3 * x + y)) - nI 1)), (9, .int (nI x)), (10, .int (nI y))]) xx xb dX2_order_157 hl (by decide) rfl (fun ls hl => ?_)
                                  refine lv_iload xx xb dX2_order_159 (lv_at hl 0 rfl) ?_
                                  refine lv_iload xx xb dX2_order_161 (lv_at hl 9 rfl) ?_
                                  refine lv_icmp_gt (tgt := 169) xx xb dX2_order_163 (by decide) (fun c_163 => ?_) (fun c_163 => ?_)
                                  · skip
                                    have c_163 := (ob_gt (orT_le R hn taz.toNat tbz.toNat tcz.toNat vz.toNat _) (orS_le R hn _ _ _ _ _)).mp c_163
                                    refine lv_bipush (v := nI 100) xx xb dX2_order_169 (by decide) ?_
                                    refine lv_iload xx xb dX2_order_171 (lv_at hl 10 rfl) ?_
                                    refine lv_imul xx xb dX2_order_173 ?_
                                    refine re_i (nI (100 * x)) (pk_mul _ _) ?_
                                    refine lv_bipush (v := nI 10) xx xb dX2_order_174 (by decide) ?_
                                    refine lv_iload xx xb dX2_order_176 (lv_at hl 11 rfl) ?_
                                    refine lv_imul xx xb dX2_order_178 ?_
                                    refine re_i (nI (10 * y)) (pk_mul _ _) ?_
                                    refine lv_iadd xx xb dX2_order_179 ?_
                                    refine re_i (nI ((100 * x) + (10 * y))) (nI_add _ _) ?_
                                    refine lv_iload xx xb dX2_order_180 (lv_at hl 1 rfl) ?_
                                    refine lv_iadd xx xb dX2_order_182 ?_
                                    refine re_i (nI (((100 * x) + (10 * y)) + (3 - x - y))) (nI_add _ _) ?_
                                    refine lv_istore (lv' := [(7, .int (nI (((100 * x) + (10 * y)) + (3 - x - y)))), (12, .int (nI (orS R taz.toNat tbz.toNat tcz.toNat vz.toNat (3 * x + y)))), (11, .int (nI (3 - x - y))), (0, .ref h0), (1, .int ta), (2, .int tb), (3, .int tc), (4, .int v), (5, .int ww), (8, .int (nI (orT R taz.toNat tbz.toNat tcz.toNat vz.toNat (3 * x + y)) - nI 1)), (9, .int (nI x)), (10, .int (nI y))]) xx xb dX2_order_183 hl (by decide) rfl (fun ls hl => ?_)
                                    refine lv_iload xx xb dX2_order_185 (lv_at hl 1 rfl) ?_
                                    refine lv_istore (lv' := [(8, .int (nI (orS R taz.toNat tbz.toNat tcz.toNat vz.toNat (3 * x + y)))), (7, .int (nI (((100 * x) + (10 * y)) + (3 - x - y)))), (12, .int (nI (orS R taz.toNat tbz.toNat tcz.toNat vz.toNat (3 * x + y)))), (11, .int (nI (3 - x - y))), (0, .ref h0), (1, .int ta), (2, .int tb), (3, .int tc), (4, .int v), (5, .int ww), (9, .int (nI x)), (10, .int (nI y))]) xx xb dX2_order_187 hl (by decide) rfl (fun ls hl => ?_)
                                    have hq : (3 * x + y) % 4 ≠ 0 ∧ orT R taz.toNat tbz.toNat tcz.toNat vz.toNat (3 * x + y) < orS R taz.toNat tbz.toNat tcz.toNat vz.toNat (3 * x + y) + 1 := ⟨by omega, c_163⟩
                                    have eC : orC R taz.toNat tbz.toNat tcz.toNat vz.toNat (3 * x + (y + 1)) = 100 * x + 10 * y + (3 - x - y) := by rw [show 3 * x + (y + 1) = (3 * x + y) + 1 from rfl, orC_y hq, show (3 * x + y) / 3 = x by omega, show (3 * x + y) % 3 = y by omega]
                                    have eT : nI (orT R taz.toNat tbz.toNat tcz.toNat vz.toNat (3 * x + (y + 1))) - nI 1 = nI (orS R taz.toNat tbz.toNat tcz.toNat vz.toNat (3 * x + y)) := by rw [show 3 * x + (y + 1) = (3 * x + y) + 1 from rfl, orT_y hq, pk_sub (by omega), Nat.add_sub_cancel]
                                    have hl : lv_has ls 13 [(8, .int (nI (orS R taz.toNat tbz.toNat tcz.toNat vz.toNat (3 * x + y)))), (7, .int (nI (orC R taz.toNat tbz.toNat tcz.toNat vz.toNat (3 * x + (y + 1))))), (12, .int (nI (orS R taz.toNat tbz.toNat tcz.toNat vz.toNat (3 * x + y)))), (11, .int (nI (3 - x - y))), (0, .ref h0), (1, .int ta), (2, .int tb), (3, .int tc), (4, .int v), (5, .int ww), (9, .int (nI x)), (10, .int (nI y))] := by rw [eC]; exact hl
                                    have hl : lv_has ls 13 [(8, .int (nI (orT R taz.toNat tbz.toNat tcz.toNat vz.toNat (3 * x + (y + 1))) - nI 1)), (7, .int (nI (orC R taz.toNat tbz.toNat tcz.toNat vz.toNat (3 * x + (y + 1))))), (12, .int (nI (orS R taz.toNat tbz.toNat tcz.toNat vz.toNat (3 * x + y)))), (11, .int (nI (3 - x - y))), (0, .ref h0), (1, .int ta), (2, .int tb), (3, .int tc), (4, .int v), (5, .int ww), (9, .int (nI x)), (10, .int (nI y))] := by rw [eT]; exact hl
                                    refine lv_iinc (v := nI (y + 1)) (lv' := [(10, .int (nI (y + 1))), (8, .int (nI (orT R taz.toNat tbz.toNat tcz.toNat vz.toNat (3 * x + (y + 1))) - nI 1)), (7, .int (nI (orC R taz.toNat tbz.toNat tcz.toNat vz.toNat (3 * x + (y + 1))))), (12, .int (nI (orS R taz.toNat tbz.toNat tcz.toNat vz.toNat (3 * x + y)))), (11, .int (nI (3 - x - y))), (0, .ref h0), (1, .int ta), (2, .int tb), (3, .int tc), (4, .int v), (5, .int ww), (9, .int (nI x))]) xx xb dX2_order_189 hl (k := 11) rfl (nI_add _ 1) (by decide) rfl (fun ls hl => ?_)
                                    refine lv_goto (tgt := 101) xx xb dX2_order_192 (by decide) ?_
                                    exact ih_101 (y + 1) (obF R (plX taz.toNat tbz.toNat tcz.toNat x) (plX taz.toNat tbz.toNat tcz.toNat y) (plX taz.toNat tbz.toNat tcz.toNat (3 - x - y)) vz.toNat 10) H _ ls (by omega) (by omega) hw (lv_sub hl [5, 6, 7, 8, 9, 10, 2, 1, 11, 0] rfl)
                                  · skip
                                    have c_163 := mt (ob_gt (orT_le R hn taz.toNat tbz.toNat tcz.toNat vz.toNat _) (orS_le R hn _ _ _ _ _)).mpr c_163
                                    refine lv_goto (tgt := 189) xx xb dX2_order_166 (by decide) ?_
                                    have hq : ¬ ((3 * x + y) % 4 ≠ 0 ∧ orT R taz.toNat tbz.toNat tcz.toNat vz.toNat (3 * x + y) < orS R taz.toNat tbz.toNat tcz.toNat vz.toNat (3 * x + y) + 1) := fun z => by first | exact c_163 z.2 | (have z1 := z.1; omega)
                                    have eC : orC R taz.toNat tbz.toNat tcz.toNat vz.toNat (3 * x + (y + 1)) = orC R taz.toNat tbz.toNat tcz.toNat vz.toNat (3 * x + y) := orC_n hq
                                    have eT : orT R taz.toNat tbz.toNat tcz.toNat vz.toNat (3 * x + (y + 1)) = orT R taz.toNat tbz.toNat tcz.toNat vz.toNat (3 * x + y) := orT_n hq
                                    have hl : lv_has ls 13 [(12, .int (nI (orS R taz.toNat tbz.toNat tcz.toNat vz.toNat (3 * x + y)))), (11, .int (nI (3 - x - y))), (0, .ref h0), (1, .int ta), (2, .int tb), (3, .int tc), (4, .int v), (5, .int ww), (7, .int (nI (orC R taz.toNat tbz.toNat tcz.toNat vz.toNat (3 * x + (y + 1))))), (8, .int (nI (orT R taz.toNat tbz.toNat tcz.toNat vz.toNat (3 * x + y)) - nI 1)), (9, .int (nI x)), (10, .int (nI y))] := by rw [eC]; exact hl
                                    have hl : lv_has ls 13 [(12, .int (nI (orS R taz.toNat tbz.toNat tcz.toNat vz.toNat (3 * x + y)))), (11, .int (nI (3 - x - y))), (0, .ref h0), (1, .int ta), (2, .int tb), (3, .int tc), (4, .int v), (5, .int ww), (7, .int (nI (orC R taz.toNat tbz.toNat tcz.toNat vz.toNat (3 * x + (y + 1))))), (8, .int (nI (orT R taz.toNat tbz.toNat tcz.toNat vz.toNat (3 * x + (y + 1))) - nI 1)), (9, .int (nI x)), (10, .int (nI y))] := by rw [eT]; exact hl
                                    refine lv_iinc (v := nI (y + 1)) (lv' := [(10, .int (nI (y + 1))), (12, .int (nI (orS R taz.toNat tbz.toNat tcz.toNat vz.toNat (3 * x + y)))), (11, .int (nI (3 - x - y))), (0, .ref h0), (1, .int ta), (2, .int tb), (3, .int tc), (4, .int v), (5, .int ww), (7, .int (nI (orC R taz.toNat tbz.toNat tcz.toNat vz.toNat (3 * x + (y + 1))))), (8, .int (nI (orT R taz.toNat tbz.toNat tcz.toNat vz.toNat (3 * x + (y + 1))) - nI 1)), (9, .int (nI x))]) xx xb dX2_order_189 hl (k := 11) rfl (nI_add _ 1) (by decide) rfl (fun ls hl => ?_)
                                    refine lv_goto (tgt := 101) xx xb dX2_order_192 (by decide) ?_
                                    exact ih_101 (y + 1) (obF R (plX taz.toNat tbz.toNat tcz.toNat x) (plX taz.toNat tbz.toNat tcz.toNat y) (plX taz.toNat tbz.toNat tcz.toNat (3 - x - y)) vz.toNat 10) H _ ls (by omega) (by omega) hw (lv_sub hl [3, 4, 5, 6, 7, 8, 9, 10, 11, 0] rfl)
                                · skip
                                  have c_120 := eq_c (tN (by omega)) (tN (by omega)) c_120
                                  refine lv_iconst (v := (-1)) xx xb dX2_order_123 (by decide) ?_
                                  refine lv_goto (tgt := 157) xx xb dX2_order_124 (by decide) ?_
                                  refine lv_istore (lv' := [(12, .int (-1)), (11, .int ((nI (3 - x)) - (nI y))), (0, .ref h0), (1, .int ta), (2, .int tb), (3, .int tc), (4, .int v), (5, .int ww), (7, .int (nI (orC R taz.toNat tbz.toNat tcz.toNat vz.toNat (3 * x + y)))), (8, .int (nI (orT R taz.toNat tbz.toNat tcz.toNat vz.toNat (3 * x + y)) - nI 1)), (9, .int (nI x)), (10, .int (nI y))]) xx xb dX2_order_157 hl (by decide) rfl (fun ls hl => ?_)
                                  refine lv_iload xx xb dX2_order_159 (lv_at hl 0 rfl) ?_
                                  refine lv_iload xx xb dX2_order_161 (lv_at hl 9 rfl) ?_
                                  refine lv_icmp_gt (tgt := 169) xx xb dX2_order_163 (by decide) (fun c_163 => ?_) (fun c_163 => ?_)
                                  · skip
                                    have c_163 := ob_gn (orT_le R hn taz.toNat tbz.toNat tcz.toNat vz.toNat _) c_163
                                    exact c_163.elim
                                  · skip
                                    refine lv_goto (tgt := 189) xx xb dX2_order_166 (by decide) ?_
                                    have hq : ¬ ((3 * x + y) % 4 ≠ 0 ∧ orT R taz.toNat tbz.toNat tcz.toNat vz.toNat (3 * x + y) < orS R taz.toNat tbz.toNat tcz.toNat vz.toNat (3 * x + y) + 1) := fun z => by first | exact c_163 z.2 | (have z1 := z.1; omega)
                                    have eC : orC R taz.toNat tbz.toNat tcz.toNat vz.toNat (3 * x + (y + 1)) = orC R taz.toNat tbz.toNat tcz.toNat vz.toNat (3 * x + y) := orC_n hq
                                    have eT : orT R taz.toNat tbz.toNat tcz.toNat vz.toNat (3 * x + (y + 1)) = orT R taz.toNat tbz.toNat tcz.toNat vz.toNat (3 * x + y) := orT_n hq
                                    have hl : lv_has ls 13 [(12, .int (-1)), (11, .int ((nI (3 - x)) - (nI y))), (0, .ref h0), (1, .int ta), (2, .int tb), (3, .int tc), (4, .int v), (5, .int ww), (7, .int (nI (orC R taz.toNat tbz.toNat tcz.toNat vz.toNat (3 * x + (y + 1))))), (8, .int (nI (orT R taz.toNat tbz.toNat tcz.toNat vz.toNat (3 * x + y)) - nI 1)), (9, .int (nI x)), (10, .int (nI y))] := by rw [eC]; exact hl
                                    have hl : lv_has ls 13 [(12, .int (-1)), (11, .int ((nI (3 - x)) - (nI y))), (0, .ref h0), (1, .int ta), (2, .int tb), (3, .int tc), (4, .int v), (5, .int ww), (7, .int (nI (orC R taz.toNat tbz.toNat tcz.toNat vz.toNat (3 * x + (y + 1))))), (8, .int (nI (orT R taz.toNat tbz.toNat tcz.toNat vz.toNat (3 * x + (y + 1))) - nI 1)), (9, .int (nI x)), (10, .int (nI y))] := by rw [eT]; exact hl
                                    refine lv_iinc (v := nI (y + 1)) (lv' := [(10, .int (nI (y + 1))), (12, .int (-1)), (11, .int ((nI (3 - x)) - (nI y))), (0, .ref h0), (1, .int ta), (2, .int tb), (3, .int tc), (4, .int v), (5, .int ww), (7, .int (nI (orC R taz.toNat tbz.toNat tcz.toNat vz.toNat (3 * x + (y + 1))))), (8, .int (nI (orT R taz.toNat tbz.toNat tcz.toNat vz.toNat (3 * x + (y + 1))) - nI 1)), (9, .int (nI x))]) xx xb dX2_order_189 hl (k := 11) rfl (nI_add _ 1) (by decide) rfl (fun ls hl => ?_)
                                    refine lv_goto (tgt := 101) xx xb dX2_order_192 (by decide) ?_
                                    exact ih_101 (y + 1) Y H _ ls (by omega) (by omega) hw (lv_sub hl [3, 4, 5, 6, 7, 8, 9, 10, 11, 0] rfl)
                          exact L_101 (_ + 1) 0 Y H _ ls (Nat.lt_succ_self _) (by omega) hw (lv_sub hl [1, 2, 3, 4, 5, 6, 7, 8, 9, 0] rfl)
                    exact L_92 (_ + 1) 0 Rm H _ ls (Nat.lt_succ_self _) (by omega) hw (lv_sub hl [4, 5, 6, 7, 8, 9, 2, 1, 0] rfl)
                  · skip
                    have c_73 := g0_n c_73
                    refine lv_aload_n xx xb dX2_order_76 rfl (lv_at hl 1 rfl) ?_
                    refine lv_iload xx xb dX2_order_77 (lv_at hl 0 rfl) ?_
                    have hM := kX2_no l G h0 a1 a2 a3 a4 a5 a6 a7 a8 im lm rm pl sd rf (wbN vz 9) (by omega)
                    refine cv_i C hw hM yvX2_no ml_X2_36 0 rfl rfl rfl [0, 3] rfl rfl (fun _ => (rfl : ([h0, a7] : List Nat) = [h0, a7])) (by decide) ⟨Nat.zero_le _, Nat.zero_le _⟩ hl.1 rfl (Nat.le_of_ble_eq_true rfl) dX2_order_79 (fun r _ H locs hr hw => ?_)
                    have hw : Wd G (fA [(h0, .inr (2, [.ref a1, .ref a2, .ref a3, .ref a4, .int (nI im), .ref a5, .ref a6, .ref a7, .int (nI lm), .int (nI rm), .int (nI pl), .ref a8, .int sd])), (a1, aI G 54 (fl R)), (a2, aI G 54 (fl Rm)), (a7, aI G 7 (cN rf))]) s [(h0, .inr (2, [.ref a1, .ref a2, .ref a3, .ref a4, .int (nI im), .ref a5, .ref a6, .ref a7, .int (nI lm), .int (nI rm), .int (nI pl), .ref a8, .int sd])), (a1, aI G 54 (fl R)), (a2, aI G 54 (fl Rm)), (a7, aI G 7 (cN (upN rf (wbN vz 9) (rf (wbN vz 9) + 1))))] H locs := hw
                    subst hr
                    have hc : cOrd R taz tbz tcz vz wwz = (wbN vz 9) := by unfold cOrd; (repeat' split) <;> omega
                    have hj : (wbN vz 9) ≠ 0 := by omega
                    exact rt_i C hw Rm (by exact (anI_r hc hj _).symm) (by rw [rfU_r hc hj]) dX2_order_82
                · skip
                  have c_64 := b0_c c_64
                  refine lv_bipush (v := (-2)) xx xb dX2_order_67 (by decide) ?_
                  refine lv_istore (lv' := [(6, .int (-2)), (0, .ref h0), (1, .int ta), (2, .int tb), (3, .int tc), (4, .int v), (5, .int ww)]) xx xb dX2_order_69 hl (by decide) rfl (fun ls hl => ?_)
                  refine lv_iload xx xb dX2_order_71 (lv_at hl 0 rfl) ?_
                  refine lv_if_eq (tgt := 83) xx xb dX2_order_73 (by decide) (fun c_73 => ?_) (fun c_73 => ?_)
                  · skip
                    exact absurd c_73 (by decide)
                  · skip
                    refine lv_aload_n xx xb dX2_order_76 rfl (lv_at hl 1 rfl) ?_
                    refine lv_iload xx xb dX2_order_77 (lv_at hl 0 rfl) ?_
                    have hM := kX2_no l G h0 a1 a2 a3 a4 a5 a6 a7 a8 im lm rm pl sd rf 2 (by omega)
                    refine cv_i C hw hM yvX2_no ml_X2_36 0 rfl rfl rfl [0, 3] rfl rfl (fun _ => (rfl : ([h0, a7] : List Nat) = [h0, a7])) (by decide) ⟨Nat.zero_le _, Nat.zero_le _⟩ hl.1 rfl (Nat.le_of_ble_eq_true rfl) dX2_order_79 (fun r _ H locs hr hw => ?_)
                    have hw : Wd G (fA [(h0, .inr (2, [.ref a1, .ref a2, .ref a3, .ref a4, .int (nI im), .ref a5, .ref a6, .ref a7, .int (nI lm), .int (nI rm), .int (nI pl), .ref a8, .int sd])), (a1, aI G 54 (fl R)), (a2, aI G 54 (fl Rm)), (a7, aI G 7 (cN rf))]) s [(h0, .inr (2, [.ref a1, .ref a2, .ref a3, .ref a4, .int (nI im), .ref a5, .ref a6, .ref a7, .int (nI lm), .int (nI rm), .int (nI pl), .ref a8, .int sd])), (a1, aI G 54 (fl R)), (a2, aI G 54 (fl Rm)), (a7, aI G 7 (cN (upN rf 2 (rf 2 + 1))))] H locs := hw
                    subst hr
                    have hc : cOrd R taz tbz tcz vz wwz = 2 := by unfold cOrd; (repeat' split) <;> omega
                    have hj : 2 ≠ 0 := by omega
                    exact rt_i C hw Rm (by exact (anI_r hc hj _).symm) (by rw [rfU_r hc hj]) dX2_order_82
            · skip
              have c_36 := eq_c h_tb h_tc c_36
              refine lv_iconst (v := (-1)) xx xb dX2_order_39 (by decide) ?_
              refine lv_goto (tgt := 50) xx xb dX2_order_40 (by decide) ?_
              refine lv_istore (lv' := [(6, .int (-1)), (0, .ref h0), (1, .int ta), (2, .int tb), (3, .int tc), (4, .int v), (5, .int ww)]) xx xb dX2_order_50 hl (by decide) rfl (fun ls hl => ?_)
              refine lv_iload xx xb dX2_order_52 (lv_at hl 0 rfl) ?_
              refine lv_if_ne (tgt := 71) xx xb dX2_order_54 (by decide) (fun c_54 => ?_) (fun c_54 => ?_)
              · skip
                refine lv_iload xx xb dX2_order_71 (lv_at hl 0 rfl) ?_
                refine lv_if_eq (tgt := 83) xx xb dX2_order_73 (by decide) (fun c_73 => ?_) (fun c_73 => ?_)
                · skip
                  exact absurd c_73 (by decide)
                · skip
                  refine lv_aload_n xx xb dX2_order_76 rfl (lv_at hl 1 rfl) ?_
                  refine lv_iload xx xb dX2_order_77 (lv_at hl 0 rfl) ?_
                  have hM := kX2_no l G h0 a1 a2 a3 a4 a5 a6 a7 a8 im lm rm pl sd rf 1 (by omega)
                  refine cv_i C hw hM yvX2_no ml_X2_36 0 rfl rfl rfl [0, 3] rfl rfl (fun _ => (rfl : ([h0, a7] : List Nat) = [h0, a7])) (by decide) ⟨Nat.zero_le _, Nat.zero_le _⟩ hl.1 rfl (Nat.le_of_ble_eq_true rfl) dX2_order_79 (fun r _ H locs hr hw => ?_)
                  have hw : Wd G (fA [(h0, .inr (2, [.ref a1, .ref a2, .ref a3, .ref a4, .int (nI im), .ref a5, .ref a6, .ref a7, .int (nI lm), .int (nI rm), .int (nI pl), .ref a8, .int sd])), (a1, aI G 54 (fl R)), (a2, aI G 54 (fl Rm)), (a7, aI G 7 (cN rf))]) s [(h0, .inr (2, [.ref a1, .ref a2, .ref a3, .ref a4, .int (nI im), .ref a5, .ref a6, .ref a7, .int (nI lm), .int (nI rm), .int (nI pl), .ref a8, .int sd])), (a1, aI G 54 (fl R)), (a2, aI G 54 (fl Rm)), (a7, aI G 7 (cN (upN rf 1 (rf 1 + 1))))] H locs := hw
                  subst hr
                  have hc : cOrd R taz tbz tcz vz wwz = 1 := by unfold cOrd; (repeat' split) <;> omega
                  have hj : 1 ≠ 0 := by omega
                  exact rt_i C hw Rm (by exact (anI_r hc hj _).symm) (by rw [rfU_r hc hj]) dX2_order_82
              · skip
                exact absurd c_54 (by decide)
