theorem mt_all {lf : Nat → Nat} {n p w : Nat} {l : List Nat} (h : mtc lf n p (w :: l) = p + (l.length + 1)) : fitB w (hd lf n p) = true ∧ mtc lf n (p + 1) l = p + 1 + l.length := by
  by_cases q : fitB w (hd lf n p) = true
  · rw [mt_y q] at h; exact ⟨q, by omega⟩
  · rw [mt_n q] at h; omega
theorem fit0 {c : Nat} (h : fitB 0 c = true) : kd c < 10 := by simpa [fitB] using h
theorem fit1 {lf : Nat → Nat} {n p : Nat} (h : fitB 1 (hd lf n p) = true) : lf p - 48 ≤ 9 := by
  have h : isD (hd lf n p) = true := by simpa [fitB] using h
  exact d9 (n := n) (by rw [dg1P]; exact h)
theorem shp_six {c : Nat} (h : shp c ≠ []) : c = 116 ∨ c = 111 ∨ c = 112 ∨ c = 102 ∨ c = 104 ∨ c = 109 := by
  unfold shp at h
  repeat' split at h
  all_goals (first | omega | exact absurd rfl h)
/-- what a readable STATEMENT's numbers keep to -/
def nmB (lf : Nat → Nat) (p : Nat) : Prop := (lf p = 116 ∨ lf p = 111 ∨ lf p = 112 ∨ lf p = 102 ∨ lf p = 104 ∨ lf p = 109) ∧ n0F lf p ≤ 99 ∧ (lf p ≠ 109 → n0F lf p ≤ 9) ∧ (lf p = 116 ∨ lf p = 111 → n0F lf p ≤ 5) ∧ (lf p = 116 ∨ lf p = 111 ∨ lf p = 112 → n1F lf p ≤ 9) ∧ (lf p = 116 ∨ lf p = 111 → n2F lf p ≤ 10)
theorem nm_bd {lf : Nat → Nat} {n p : Nat} (hp : p < n) (h : rdB lf n p) : nmB lf p := by
  have hs := shp_six h.1
  rw [hd_y hp] at hs
  have e : hd lf n p = lf p := hd_y hp
  unfold nmB
  refine ⟨hs, ?_⟩
  rcases hs with c | c | c | c | c | c
  · have hsh : shp (hd lf n p) = [0, 1, 2] := by rw [e, c]; rfl
    have a1 := mt_all ((rdB_s hsh).mp h)
    have a2 := mt_all a1.2
    have k0 := fit0 a1.1
    have k5 := kd_5 k0
    have f2 := fit1 a2.1
    rw [kd_hd k0] at k5
    have e0 : n0F lf p = kd (lf (p + 1)) := by unfold n0F; rw [if_pos c]
    have e2 : n2F lf p = 10 := by unfold n2F; rw [if_pos c]
    rw [e0, e2]; unfold n1F; omega
  · have hsh : shp (hd lf n p) = [0, 1, 1, 2] := by rw [e, c]; rfl
    have a1 := mt_all ((rdB_s hsh).mp h)
    have a2 := mt_all a1.2
    have a3 := mt_all a2.2
    have k0 := fit0 a1.1
    have k5 := kd_5 k0
    have f2 := fit1 a2.1
    have f3 := fit1 a3.1
    rw [kd_hd k0] at k5
    have e0 : n0F lf p = kd (lf (p + 1)) := by unfold n0F; rw [if_neg (by omega), if_pos c]
    have e2 : n2F lf p = lf (p + 1 + 1 + 1) - 48 := by unfold n2F; rw [if_neg (by omega)]
    rw [e0, e2]; unfold n1F; omega
  · have hsh : shp (hd lf n p) = [1, 1, 2] := by rw [e, c]; rfl
    have a1 := mt_all ((rdB_s hsh).mp h)
    have a2 := mt_all a1.2
    have f1 := fit1 a1.1
    have f2 := fit1 a2.1
    have e0 : n0F lf p = lf (p + 1) - 48 := by unfold n0F; rw [if_neg (by omega), if_neg (by omega), if_neg (by omega)]
    rw [e0]; unfold n1F; omega
  · have hsh : shp (hd lf n p) = [1, 2] := by rw [e, c]; rfl
    have a1 := mt_all ((rdB_s hsh).mp h)
    have f1 := fit1 a1.1
    have e0 : n0F lf p = lf (p + 1) - 48 := by unfold n0F; rw [if_neg (by omega), if_neg (by omega), if_neg (by omega)]
    rw [e0]; omega
  · have hsh : shp (hd lf n p) = [1, 2] := by rw [e, c]; rfl
    have a1 := mt_all ((rdB_s hsh).mp h)
    have f1 := fit1 a1.1
    have e0 : n0F lf p = lf (p + 1) - 48 := by unfold n0F; rw [if_neg (by omega), if_neg (by omega), if_neg (by omega)]
    rw [e0]; omega
  · have hsh : shp (hd lf n p) = [1, 1, 2] := by rw [e, c]; rfl
    have a1 := mt_all ((rdB_s hsh).mp h)
    have a2 := mt_all a1.2
    have f1 := fit1 a1.1
    have f2 := fit1 a2.1
    have e0 : n0F lf p = 10 * (lf (p + 1) - 48) + (lf (p + 1 + 1) - 48) := by unfold n0F; rw [if_neg (by omega), if_neg (by omega), if_pos c]
    rw [e0]; omega
theorem rd_gt {lf : Nat → Nat} {n p : Nat} (h : rdB lf n p) : p < rdP lf n p := by have := h.2; omega
theorem rd_le {lf : Nat → Nat} {n p : Nat} (h : rdB lf n p) (hp : p ≤ n) : rdP lf n p ≤ n := by
  have key : ∀ (l : List Nat) (q : Nat), q ≤ n → mtc lf n q l = q + l.length → q + l.length ≤ n := by
    intro l
    induction l with
    | nil => intro q hq _; simpa using hq
    | cons w l ih =>
      intro q hq hm
      have a := mt_all (by simpa using hm : mtc lf n q (w :: l) = q + (l.length + 1))
      have hqn : q < n := by
        apply Classical.byContradiction
        intro z
        have e : hd lf n q = 256 := if_neg z
        rw [e] at a
        have := a.1
        unfold fitB at this
        revert this
        repeat' split
        all_goals decide
      have := ih (q + 1) (by omega) a.2
      simp only [List.length_cons]; omega
  have hpn : p < n := by
    apply Classical.byContradiction
    intro z
    have e : hd lf n p = 256 := if_neg z
    have := h.1
    rw [e] at this
    exact this (by decide)
  have e : rdP lf n p = mtc lf n (p + 1) (shp (hd lf n p)) := if_neg h.1
  have h2 := h.2
  rw [h2]
  exact key _ (p + 1) (by omega) (by rw [← e]; exact h2)
theorem rdP_bd (lf : Nat → Nat) (n p : Nat) : rdP lf n p ≤ p + 5 := by
  unfold rdP
  split
  · omega
  · have h := (mt_ge lf n (shp (hd lf n p)) (p + 1)).2
    have h2 : (shp (hd lf n p)).length ≤ 4 := by unfold shp; repeat' split
                                                 all_goals decide
    omega
/-- letters alone: where the first STATEMENT that can't be read breaks off, +1; how many are read -/
noncomputable def phF (lf : Nat → Nat) (n : Nat) : Nat → Nat → Nat
  | 0, _ => 0
  | f + 1, p => @ite Nat (rdB lf n p) (Classical.propDecidable _) (if rdP lf n p < n then phF lf n f (rdP lf n p) else 0) (rdP lf n p + 1)
noncomputable def phC (lf : Nat → Nat) (n : Nat) : Nat → Nat → Nat
  | 0, _ => 0
  | f + 1, p => @ite Nat (rdB lf n p) (Classical.propDecidable _) (if rdP lf n p < n then phC lf n f (rdP lf n p) + 1 else 1) 1
theorem phF_n {lf : Nat → Nat} {n f p : Nat} (h : ¬ rdB lf n p) : phF lf n (f + 1) p = rdP lf n p + 1 := if_neg h
theorem phC_n {lf : Nat → Nat} {n f p : Nat} (h : ¬ rdB lf n p) : phC lf n (f + 1) p = 1 := if_neg h
theorem phF_y {lf : Nat → Nat} {n f p : Nat} (h : rdB lf n p) (h2 : rdP lf n p < n) : phF lf n (f + 1) p = phF lf n f (rdP lf n p) := (if_pos h).trans (if_pos h2)
theorem phC_y {lf : Nat → Nat} {n f p : Nat} (h : rdB lf n p) (h2 : rdP lf n p < n) : phC lf n (f + 1) p = phC lf n f (rdP lf n p) + 1 := (if_pos h).trans (if_pos h2)
theorem phF_e {lf : Nat → Nat} {n f p : Nat} (h : rdB lf n p) (h2 : ¬ rdP lf n p < n) : phF lf n (f + 1) p = 0 := (if_pos h).trans (if_neg h2)
theorem phC_e {lf : Nat → Nat} {n f p : Nat} (h : rdB lf n p) (h2 : ¬ rdP lf n p < n) : phC lf n (f + 1) p = 1 := (if_pos h).trans (if_neg h2)
theorem phF_0 {lf : Nat → Nat} {n f p : Nat} (h : phF lf n (f + 1) p = 0) : rdB lf n p ∧ (rdP lf n p < n → phF lf n f (rdP lf n p) = 0) := by
  by_cases q : rdB lf n p
  · refine ⟨q, fun z => ?_⟩
    rw [phF_y q z] at h; exact h
  · rw [phF_n q] at h; omega
/-- the STATEMENTS as they come: where one isn't as it must be, +1; what they make -/
noncomputable def ruF (lf : Nat → Nat) (n : Nat) : Nat → Nat → RT → Nat
  | 0, _, _ => 0
  | f + 1, p, R => if p < n then @ite Nat (stB R (lf p) (n0F lf p) (n1F lf p) (n2F lf p)) (Classical.propDecidable _) (ruF lf n f (rdP lf n p) (stR R (lf p) (n0F lf p) (n1F lf p) (n2F lf p))) (p + 1) else 0
noncomputable def ruR (lf : Nat → Nat) (n : Nat) : Nat → Nat → RT → RT
  | 0, _, R => R
  | f + 1, p, R => if p < n then @ite RT (stB R (lf p) (n0F lf p) (n1F lf p) (n2F lf p)) (Classical.propDecidable _) (ruR lf n f (rdP lf n p) (stR R (lf p) (n0F lf p) (n1F lf p) (n2F lf p))) R else R
theorem ruF_y {lf : Nat → Nat} {n f p : Nat} {R : RT} (h : p < n) (h2 : stB R (lf p) (n0F lf p) (n1F lf p) (n2F lf p)) : ruF lf n (f + 1) p R = ruF lf n f (rdP lf n p) (stR R (lf p) (n0F lf p) (n1F lf p) (n2F lf p)) := (if_pos h).trans (if_pos h2)
theorem ruF_n {lf : Nat → Nat} {n f p : Nat} {R : RT} (h : p < n) (h2 : ¬ stB R (lf p) (n0F lf p) (n1F lf p) (n2F lf p)) : ruF lf n (f + 1) p R = p + 1 := (if_pos h).trans (if_neg h2)
theorem ruF_e {lf : Nat → Nat} {n f p : Nat} {R : RT} (h : ¬ p < n) : ruF lf n f p R = 0 := by
  cases f
  · rfl
  · exact if_neg h
theorem ruR_y {lf : Nat → Nat} {n f p : Nat} {R : RT} (h : p < n) (h2 : stB R (lf p) (n0F lf p) (n1F lf p) (n2F lf p)) : ruR lf n (f + 1) p R = ruR lf n f (rdP lf n p) (stR R (lf p) (n0F lf p) (n1F lf p) (n2F lf p)) := (if_pos h).trans (if_pos h2)
theorem ruR_e {lf : Nat → Nat} {n f p : Nat} {R : RT} (h : ¬ p < n) : ruR lf n f p R = R := by
  cases f
  · rfl
  · exact if_neg h
/-- what room answers, and makes -/
noncomputable def vRoom (lf : Nat → Nat) (n : Nat) (R : RT) : Int32 := if phF lf n 97 0 ≠ 0 then -1000 - nI (phF lf n 97 0 - 1) else if ruF lf n 97 0 R ≠ 0 then -2000 - nI (ruF lf n 97 0 R - 1) else nI (phC lf n 97 0)
noncomputable def sRoom (lf : Nat → Nat) (n : Nat) (R : RT) : RT := if phF lf n 97 0 ≠ 0 then R else if ruF lf n 97 0 R ≠ 0 then R else ruR lf n 97 0 R
theorem vRoom_1 {lf : Nat → Nat} {n p : Nat} {R : RT} (h : phF lf n 97 0 = p + 1) : vRoom lf n R = -1000 - nI p := by unfold vRoom; rw [h, if_pos (by omega)]; rfl
theorem vRoom_2 {lf : Nat → Nat} {n p : Nat} {R : RT} (h0 : phF lf n 97 0 = 0) (h : ruF lf n 97 0 R = p + 1) : vRoom lf n R = -2000 - nI p := by unfold vRoom; rw [h0, h, if_neg (by omega), if_pos (by omega)]; rfl
theorem vRoom_3 {lf : Nat → Nat} {n : Nat} {R : RT} (h0 : phF lf n 97 0 = 0) (h : ruF lf n 97 0 R = 0) : vRoom lf n R = nI (phC lf n 97 0) := by unfold vRoom; rw [h0, h, if_neg (by omega), if_neg (by omega)]
theorem sRoom_1 {lf : Nat → Nat} {n p : Nat} {R : RT} (h : phF lf n 97 0 = p + 1) : sRoom lf n R = R := by unfold sRoom; rw [h, if_pos (by omega)]
theorem sRoom_2 {lf : Nat → Nat} {n p : Nat} {R : RT} (h0 : phF lf n 97 0 = 0) (h : ruF lf n 97 0 R = p + 1) : sRoom lf n R = R := by unfold sRoom; rw [h0, h, if_neg (by omega), if_pos (by omega)]
theorem sRoom_3 {lf : Nat → Nat} {n : Nat} {R : RT} (h0 : phF lf n 97 0 = 0) (h : ruF lf n 97 0 R = 0) : sRoom lf n R = ruR lf n 97 0 R := by unfold sRoom; rw [h0, h, if_neg (by omega), if_neg (by omega)]
theorem f1_t : ∀ x, x ≤ 200 → ((-1000 : Int32) - nI x).toInt = -1000 - (x : Int) := by decide +kernel
theorem f2_t : ∀ x, x ≤ 200 → ((-2000 : Int32) - nI x).toInt = -2000 - (x : Int) := by decide +kernel
set_option maxRecDepth 100000 in
set_option maxHeartbeats 4000000 in
theorem kX2_room (l : Launch) (G : GT) (h0 : Nat) (a1 : Nat) (a2 : Nat) (a3 : Nat) (a4 : Nat) (a5 : Nat) (a6 : Nat) (a7 : Nat) (a8 : Nat) (im : Nat) (lm : Nat) (rm : Nat) (pl : Nat) (sd : Int32) (R : RT) (Rw : RT) (lf2 : Nat → Nat) (nu : Nat → Int32) (hR : OK R) (hK : AK R) (hm : R 0 1 ≤ 999) (hLF : LOK lf2 lm) (hlm : lm ≤ 96) : Ct l yX2_room cX2_room 6 (some .int) 6 133 [.ref h0] G [(h0, .inr (2, [.ref a1, .ref a2, .ref a3, .ref a4, .int (nI im), .ref a5, .ref a6, .ref a7, .int (nI lm), .int (nI rm), .int (nI pl), .ref a8, .int sd])), (a1, aI G 54 (fl R)), (a4, aI G 54 (fl Rw)), (a5, aI G 96 (cN lf2)), (a8, aI G 3 nu)] (QI G [(h0, .inr (2, [.ref a1, .ref a2, .ref a3, .ref a4, .int (nI im), .ref a5, .ref a6, .ref a7, .int (nI lm), .int (nI rm), .int (nI pl), .ref a8, .int sd])), (a1, aI G 54 (fl R)), (a4, aI G 54 (fl Rw)), (a5, aI G 96 (cN lf2)), (a8, aI G 3 nu)] (fun (r : Int32) (u : Nat × (Nat → Int32)) => r = vRoom lf2 lm R) (fun u => [(h0, .inr (2, [.ref a1, .ref a2, .ref a3, .ref a4, .int (nI im), .ref a5, .ref a6, .ref a7, .int (nI 0), .int (nI rm), .int (nI u.1), .ref a8, .int sd])), (a1, aI G 54 (fl (sRoom lf2 lm R))), (a4, aI G 54 (fl R)), (a5, aI G 96 (cN lf2)), (a8, aI G 3 u.2)])) := by
  refine en (by decide +kernel) (Nat.le_of_ble_eq_true rfl) ?_
  intro p e s m below meth c ls H locs C hl hw
  have xx := C.1
  have xb := C.2.1
  have hw : Wd G (fA [(h0, .inr (2, [.ref a1, .ref a2, .ref a3, .ref a4, .int (nI im), .ref a5, .ref a6, .ref a7, .int (nI lm), .int (nI rm), .int (nI pl), .ref a8, .int sd])), (a1, aI G 54 (fl R)), (a4, aI G 54 (fl Rw)), (a5, aI G 96 (cN lf2)), (a8, aI G 3 nu)]) s [(h0, .inr (2, [.ref a1, .ref a2, .ref a3, .ref a4, .int (nI im), .ref a5, .ref a6, .ref a7, .int (nI lm), .int (nI rm), .int (nI pl), .ref a8, .int sd])), (a1, aI G 54 (fl R)), (a4, aI G 54 (fl Rw)), (a5, aI G 96 (cN lf2)), (a8, aI G 3 nu)] H locs := hw
  have hl : lv_has ls 6 [(0, .ref h0)] := hl
  refine lv_aload_n xx xb dX2_room_0 rfl (lv_at hl 0 rfl) ?_
  refine lv_iconst (v := nI 0) xx xb dX2_room_1 (by decide) ?_
  refine m_put C hw 0 rfl rfl tyX2 tyX2_ok nmX2 fk_X2_88 rfl rfl rfl rfl (Nat.le_of_ble_eq_true rfl) dX2_room_2 (fun H locs hw => ?_)
  have hw : Wd G (fA [(h0, .inr (2, [.ref a1, .ref a2, .ref a3, .ref a4, .int (nI im), .ref a5, .ref a6, .ref a7, .int (nI lm), .int (nI rm), .int (nI pl), .ref a8, .int sd])), (a1, aI G 54 (fl R)), (a4, aI G 54 (fl Rw)), (a5, aI G 96 (cN lf2)), (a8, aI G 3 nu)]) s [(h0, .inr (2, [.ref a1, .ref a2, .ref a3, .ref a4, .int (nI im), .ref a5, .ref a6, .ref a7, .int (nI lm), .int (nI rm), .int (nI 0), .ref a8, .int sd])), (a1, aI G 54 (fl R)), (a4, aI G 54 (fl Rw)), (a5, aI G 96 (cN lf2)), (a8, aI G 3 nu)] H locs := hw
  refine lv_iconst (v := nI 0) xx xb dX2_room_5 (by decide) ?_
  refine lv_istore_n (lv' := [(1, .int (nI 0)), (0, .ref h0)]) xx xb dX2_room_6 rfl hl (by decide) rfl (fun ls hl => ?_)
  refine lv_bipush (v := (-9)) xx xb dX2_room_7 (by decide) ?_
  refine lv_istore_n (lv' := [(2, .int (-9)), (1, .int (nI 0)), (0, .ref h0)]) xx xb dX2_room_9 rfl hl (by decide) rfl (fun ls hl => ?_)
  have L_10 : ∀ (fu : Nat) (p1 : Nat) (f : Nat) (cn : Nat) (nu : Nat → Int32) (H : Heap) (locs : List Loc) (ls : Array Slot), f < fu → (p1 ≤ 96) → (p1 ≤ lm ∧ lm ≤ p1 + f) → (phF lf2 lm 97 0 = phF lf2 lm (f + 1) p1) → (phC lf2 lm 97 0 = phC lf2 lm (f + 1) p1 + cn) → Wd G (fA [(h0, .inr (2, [.ref a1, .ref a2, .ref a3, .ref a4, .int (nI im), .ref a5, .ref a6, .ref a7, .int (nI lm), .int (nI rm), .int (nI pl), .ref a8, .int sd])), (a1, aI G 54 (fl R)), (a4, aI G 54 (fl Rw)), (a5, aI G 96 (cN lf2)), (a8, aI G 3 nu)]) s [(h0, .inr (2, [.ref a1, .ref a2, .ref a3, .ref a4, .int (nI im), .ref a5, .ref a6, .ref a7, .int (nI lm), .int (nI rm), .int (nI p1), .ref a8, .int sd])), (a1, aI G 54 (fl R)), (a4, aI G 54 (fl Rw)), (a5, aI G 96 (cN lf2)), (a8, aI G 3 nu)] H locs → lv_has ls 6 [(0, .ref h0), (1, .int (nI cn)), (2, .int (-9))] → W p l e ({ frames := 6, cells := 0, slots := 0, locals := 133 }) s m (([.ref h0] : List Value).toArray) below meth c H locs 0 0 (MQ below (QI G [(h0, .inr (2, [.ref a1, .ref a2, .ref a3, .ref a4, .int (nI im), .ref a5, .ref a6, .ref a7, .int (nI lm), .int (nI rm), .int (nI pl), .ref a8, .int sd])), (a1, aI G 54 (fl R)), (a4, aI G 54 (fl Rw)), (a5, aI G 96 (cN lf2)), (a8, aI G 3 nu)] (fun (r : Int32) (u : Nat × (Nat → Int32)) => r = vRoom lf2 lm R) (fun u => [(h0, .inr (2, [.ref a1, .ref a2, .ref a3, .ref a4, .int (nI im), .ref a5, .ref a6, .ref a7, .int (nI 0), .int (nI rm), .int (nI u.1), .ref a8, .int sd])), (a1, aI G 54 (fl (sRoom lf2 lm R))), (a4, aI G 54 (fl R)), (a5, aI G 96 (cN lf2)), (a8, aI G 3 u.2)])) (([.ref h0] : List Value).toArray) s 0 0 (fA [(h0, .inr (2, [.ref a1, .ref a2, .ref a3, .ref a4, .int (nI im), .ref a5, .ref a6, .ref a7, .int (nI lm), .int (nI rm), .int (nI pl), .ref a8, .int sd])), (a1, aI G 54 (fl R)), (a4, aI G 54 (fl Rw)), (a5, aI G 96 (cN lf2)), (a8, aI G 3 nu)])) (F0 m 10 ls []) := by
    intro fu
    induction fu with
    | zero => intro p1 f cn nu H locs ls hfu; exact absurd hfu (Nat.not_lt_zero _)
    | succ fu ih_10 =>
      intro p1 f cn nu H locs ls hfu hp1 hf hF hC hw hl
      refine lv_aload_n xx xb dX2_room_10 rfl (lv_at hl 0 rfl) ?_
      have hM := kX2_readsStatement l G h0 a1 a2 a3 a4 a5 a6 a7 a8 im lm rm p1 sd lf2 nu (by first | assumption | omega) (by first | assumption | omega) (by first | assumption | omega)
      refine cv_i C hw hM yvX2_readsStatement ml_X2_118 0 rfl rfl rfl [0, 3, 4] rfl rfl (fun _ => (rfl : ([h0, a5, a8] : List Nat) = [h0, a5, a8])) (by decide) ⟨Nat.zero_le _, Nat.zero_le _⟩ hl.1 rfl (Nat.le_of_ble_eq_true rfl) dX2_room_11 (fun r u H locs hr hw => ?_)
      obtain ⟨u1, hu1⟩ : ∃ z, z = u := ⟨_, rfl⟩
      subst hu1
      have hw : Wd G (fA [(h0, .inr (2, [.ref a1, .ref a2, .ref a3, .ref a4, .int (nI im), .ref a5, .ref a6, .ref a7, .int (nI lm), .int (nI rm), .int (nI pl), .ref a8, .int sd])), (a1, aI G 54 (fl R)), (a4, aI G 54 (fl Rw)), (a5, aI G 96 (cN lf2)), (a8, aI G 3 nu)]) s [(h0, .inr (2, [.ref a1, .ref a2, .ref a3, .ref a4, .int (nI im), .ref a5, .ref a6, .ref a7, .int (nI lm), .int (nI rm), .int (nI (rdP lf2 lm p1)), .ref a8, .int sd])), (a1, aI G 54 (fl R)), (a4, aI G 54 (fl Rw)), (a5, aI G 96 (cN lf2)), (a8, aI G 3 u1)] H locs := hw
      obtain ⟨hr, hq1⟩ := hr
      subst hr
      refine lv_if_ne (tgt := 26) xx xb dX2_room_14 (by decide) (fun c_14 => ?_) (fun c_14 => ?_)
      · skip
        have c_14 := z01_1 c_14
        have hrl0 := rd_le c_14 hf.1
        have hrg := rd_gt c_14
        refine lv_iinc (v := nI (cn + 1)) (lv' := [(1, .int (nI (cn + 1))), (0, .ref h0), (2, .int (-9))]) xx xb dX2_room_26 hl (k := 1) rfl (nI_add _ 1) (by decide) rfl (fun ls hl => ?_)
        refine lv_iload_n xx xb dX2_room_29 rfl (lv_at hl 2 rfl) ?_
        refine lv_bipush (v := (-9)) xx xb dX2_room_30 (by decide) ?_
        refine lv_icmp_ne (tgt := 46) xx xb dX2_room_32 (by decide) (fun c_32 => ?_) (fun c_32 => ?_)
        · skip
          exact absurd (by decide) c_32
        · skip
          refine lv_aload_n xx xb dX2_room_35 rfl (lv_at hl 1 rfl) ?_
          refine m_get C hw 0 rfl fk_X2_88 rfl dX2_room_36 ?_
          refine lv_aload_n xx xb dX2_room_39 rfl (lv_at hl 1 rfl) ?_
          refine m_get C hw 0 rfl fk_X2_84 rfl dX2_room_40 ?_
          refine lv_icmp_lt (tgt := 10) xx xb dX2_room_43 (by decide) (fun c_43 => ?_) (fun c_43 => ?_)
          · skip
            have c_43 := lt_c (tN (by omega)) (tN (by omega)) c_43
            obtain ⟨f1, rfl⟩ : ∃ z, f = z + 1 := ⟨f - 1, by omega⟩
            have hF2 := hF.trans (phF_y c_14 (by omega))
            have hC2 : phC lf2 lm 97 0 = phC lf2 lm (f1 + 1) (rdP lf2 lm p1) + (cn + 1) := by rw [hC, phC_y c_14 (by omega)]; omega
            exact ih_10 (rdP lf2 lm p1) f1 (cn + 1) u1 H _ ls (by omega) (by omega) (by omega) hF2 hC2 hw (lv_sub hl [1, 0, 2] rfl)
          · skip
            have c_43 := nlt_c (tN (by omega)) (tN (by omega)) c_43
            have hph0 : phF lf2 lm 97 0 = 0 := by rw [hF, phF_e c_14 (by omega)]
            have hcn : phC lf2 lm 97 0 = cn + 1 := by rw [hC, phC_e c_14 (by omega)]; omega
            refine lv_aload_n xx xb dX2_room_46 rfl (lv_at hl 1 rfl) ?_
            refine m_get C hw 0 rfl fk_X2_9 rfl dX2_room_47 ?_
            refine lv_aload_n xx xb dX2_room_50 rfl (lv_at hl 1 rfl) ?_
            refine m_get C hw 0 rfl fk_X2_19 rfl dX2_room_51 ?_
            have hM := kX2_copies l G a1 a4 (fl R) (fl Rw) 
            refine cs_v C hw hM ysX2_copies ml_X2_121 rfl [1, 2] rfl rfl (fun _ => (rfl : ([a1, a4] : List Nat) = [a1, a4])) (by decide) ⟨Nat.zero_le _, Nat.zero_le _⟩ hl.1 rfl (Nat.le_of_ble_eq_true rfl) dX2_room_54 (fun _ H locs hr hw => ?_)
            have hw : Wd G (fA [(h0, .inr (2, [.ref a1, .ref a2, .ref a3, .ref a4, .int (nI im), .ref a5, .ref a6, .ref a7, .int (nI lm), .int (nI rm), .int (nI pl), .ref a8, .int sd])), (a1, aI G 54 (fl R)), (a4, aI G 54 (fl Rw)), (a5, aI G 96 (cN lf2)), (a8, aI G 3 nu)]) s [(h0, .inr (2, [.ref a1, .ref a2, .ref a3, .ref a4, .int (nI im), .ref a5, .ref a6, .ref a7, .int (nI lm), .int (nI rm), .int (nI (rdP lf2 lm p1)), .ref a8, .int sd])), (a1, aI G 54 (fl R)), (a4, aI G 54 (fl R)), (a5, aI G 96 (cN lf2)), (a8, aI G 3 u1)] H locs := hw
            refine lv_aload_n xx xb dX2_room_57 rfl (lv_at hl 1 rfl) ?_
            refine lv_iconst (v := nI 0) xx xb dX2_room_58 (by decide) ?_
            refine m_put C hw 0 rfl rfl tyX2 tyX2_ok nmX2 fk_X2_88 rfl rfl rfl rfl (Nat.le_of_ble_eq_true rfl) dX2_room_59 (fun H locs hw => ?_)
            have hw : Wd G (fA [(h0, .inr (2, [.ref a1, .ref a2, .ref a3, .ref a4, .int (nI im), .ref a5, .ref a6, .ref a7, .int (nI lm), .int (nI rm), .int (nI pl), .ref a8, .int sd])), (a1, aI G 54 (fl R)), (a4, aI G 54 (fl Rw)), (a5, aI G 96 (cN lf2)), (a8, aI G 3 nu)]) s [(h0, .inr (2, [.ref a1, .ref a2, .ref a3, .ref a4, .int (nI im), .ref a5, .ref a6, .ref a7, .int (nI lm), .int (nI rm), .int (nI 0), .ref a8, .int sd])), (a1, aI G 54 (fl R)), (a4, aI G 54 (fl R)), (a5, aI G 96 (cN lf2)), (a8, aI G 3 u1)] H locs := hw
            have L_62 : ∀ (fu : Nat) (p2 : Nat) (S : RT) (g : Nat) (nu : Nat → Int32) (H : Heap) (locs : List Loc) (ls : Array Slot), g < fu → (OK S) → (AK S) → (S 0 1 ≤ 999) → (p2 < lm → phF lf2 lm g p2 = 0) → (p2 ≤ lm ∧ lm < p2 + g) → (ruF lf2 lm 97 0 R = ruF lf2 lm g p2 S) → (ruR lf2 lm 97 0 R = ruR lf2 lm g p2 S) → Wd G (fA [(h0, .inr (2, [.ref a1, .ref a2, .ref a3, .ref a4, .int (nI im), .ref a5, .ref a6, .ref a7, .int (nI lm), .int (nI rm), .int (nI pl), .ref a8, .int sd])), (a1, aI G 54 (fl R)), (a4, aI G 54 (fl Rw)), (a5, aI G 96 (cN lf2)), (a8, aI G 3 nu)]) s [(h0, .inr (2, [.ref a1, .ref a2, .ref a3, .ref a4, .int (nI im), .ref a5, .ref a6, .ref a7, .int (nI lm), .int (nI rm), .int (nI p2), .ref a8, .int sd])), (a1, aI G 54 (fl S)), (a4, aI G 54 (fl R)), (a5, aI G 96 (cN lf2)), (a8, aI G 3 nu)] H locs → lv_has ls 6 [(0, .ref h0), (1, .int (nI (cn + 1))), (2, .int (-9))] → W p l e ({ frames := 6, cells := 0, slots := 0, locals := 133 }) s m (([.ref h0] : List Value).toArray) below meth c H locs 0 0 (MQ below (QI G [(h0, .inr (2, [.ref a1, .ref a2, .ref a3, .ref a4, .int (nI im), .ref a5, .ref a6, .ref a7, .int (nI lm), .int (nI rm), .int (nI pl), .ref a8, .int sd])), (a1, aI G 54 (fl R)), (a4, aI G 54 (fl Rw)), (a5, aI G 96 (cN lf2)), (a8, aI G 3 nu)] (fun (r : Int32) (u : Nat × (Nat → Int32)) => r = vRoom lf2 lm R) (fun u => [(h0, .inr (2, [.ref a1, .ref a2, .ref a3, .ref a4, .int (nI im), .ref a5, .ref a6, .ref a7, .int (nI 0), .int (nI rm), .int (nI u.1), .ref a8, .int sd])), (a1, aI G 54 (fl (sRoom lf2 lm R))), (a4, aI G 54 (fl R)), (a5, aI G 96 (cN lf2)), (a8, aI G 3 u.2)])) (([.ref h0] : List Value).toArray) s 0 0 (fA [(h0, .inr (2, [.ref a1, .ref a2, .ref a3, .ref a4, .int (nI im), .ref a5, .ref a6, .ref a7, .int (nI lm), .int (nI rm), .int (nI pl), .ref a8, .int sd])), (a1, aI G 54 (fl R)), (a4, aI G 54 (fl Rw)), (a5, aI G 96 (cN lf2)), (a8, aI G 3 nu)])) (F0 m 62 ls []) := by
              intro fu
              induction fu with
              | zero => intro p2 S g nu H locs ls hfu; exact absurd hfu (Nat.not_lt_zero _)
              | succ fu ih_62 =>
                intro p2 S g nu H locs ls hfu hS hSK hSm hz0 hg hRF hRR hw hl
                refine lv_iload_n xx xb dX2_room_62 rfl (lv_at hl 2 rfl) ?_
                refine lv_bipush (v := (-9)) xx xb dX2_room_63 (by decide) ?_
                refine lv_icmp_ne (tgt := 128) xx xb dX2_room_65 (by decide) (fun c_65 => ?_) (fun c_65 => ?_)
                · skip
                  exact absurd (by decide) c_65
                · skip
                  refine lv_aload_n xx xb dX2_room_68 rfl (lv_at hl 0 rfl) ?_
                  refine m_get C hw 0 rfl fk_X2_88 rfl dX2_room_69 ?_
                  refine lv_aload_n xx xb dX2_room_72 rfl (lv_at hl 0 rfl) ?_
                  refine m_get C hw 0 rfl fk_X2_84 rfl dX2_room_73 ?_
                  refine lv_icmp_ge (tgt := 128) xx xb dX2_room_76 (by decide) (fun c_76 => ?_) (fun c_76 => ?_)
                  · skip
                    have c_76 := le_c (tN (by omega)) (tN (by omega)) c_76
                    have hrend : ruF lf2 lm 97 0 R = 0 := hRF.trans (ruF_e (by omega))
                    have hRe := hRR.trans (ruR_e (by omega))
                    refine lv_aload_n xx xb dX2_room_128 rfl (lv_at hl 0 rfl) ?_
                    refine lv_iconst (v := nI 0) xx xb dX2_room_129 (by decide) ?_
                    refine m_put C hw 0 rfl rfl tyX2 tyX2_ok nmX2 fk_X2_84 rfl rfl rfl rfl (Nat.le_of_ble_eq_true rfl) dX2_room_130 (fun H locs hw => ?_)
                    have hw : Wd G (fA [(h0, .inr (2, [.ref a1, .ref a2, .ref a3, .ref a4, .int (nI im), .ref a5, .ref a6, .ref a7, .int (nI lm), .int (nI rm), .int (nI pl), .ref a8, .int sd])), (a1, aI G 54 (fl R)), (a4, aI G 54 (fl Rw)), (a5, aI G 96 (cN lf2)), (a8, aI G 3 nu)]) s [(h0, .inr (2, [.ref a1, .ref a2, .ref a3, .ref a4, .int (nI im), .ref a5, .ref a6, .ref a7, .int (nI 0), .int (nI rm), .int (nI p2), .ref a8, .int sd])), (a1, aI G 54 (fl S)), (a4, aI G 54 (fl R)), (a5, aI G 96 (cN lf2)), (a8, aI G 3 nu)] H locs := hw
                    refine lv_iload_n xx xb dX2_room_133 rfl (lv_at hl 2 rfl) ?_
                    refine lv_bipush (v := (-9)) xx xb dX2_room_134 (by decide) ?_
                    refine lv_icmp_ne (tgt := 143) xx xb dX2_room_136 (by decide) (fun c_136 => ?_) (fun c_136 => ?_)
                    · skip
                      exact absurd (by decide) c_136
                    · skip
                      refine lv_iload_n xx xb dX2_room_139 rfl (lv_at hl 1 rfl) ?_
                      refine lv_goto (tgt := 144) xx xb dX2_room_140 (by decide) ?_
                      have hvr := (vRoom_3 (R := R) hph0 hrend).trans (congrArg nI hcn)
                      have hsr := sRoom_3 hph0 hrend
                      exact rt_i C hw (p2, nu) hvr.symm (by first | (rw [hsr]; done) | (rw [hsr, hRe]; done)) dX2_room_144
                  · skip
                    have c_76 := nle_c (tN (by omega)) (tN (by omega)) c_76
                    refine lv_aload_n xx xb dX2_room_79 rfl (lv_at hl 0 rfl) ?_
                    refine m_get C hw 0 rfl fk_X2_88 rfl dX2_room_80 ?_
                    refine lv_istore_n (lv' := [(3, .int (nI p2)), (0, .ref h0), (1, .int (nI (cn + 1))), (2, .int (-9))]) xx xb dX2_room_83 rfl hl (by decide) rfl (fun ls hl => ?_)
                    have hpn : p2 < lm := by omega
                    obtain ⟨g1, rfl⟩ : ∃ z, g = z + 1 := ⟨g - 1, by omega⟩
                    have hz := phF_0 (hz0 hpn)
                    have hbd := nm_bd hpn hz.1
                    obtain ⟨k1, k2, k3, k4, k5, k6⟩ := hbd
                    refine lv_aload_n xx xb dX2_room_84 rfl (lv_at hl 1 rfl) ?_
                    have hM := kX2_here l G h0 a1 a2 a3 a4 a5 a6 a7 a8 im lm rm p2 sd lf2 (by first | assumption | omega) (by first | assumption | omega)
                    refine cv_i C hw hM yvX2_here ml_X2_91 0 rfl rfl rfl [0, 3] rfl rfl (fun _ => (rfl : ([h0, a5] : List Nat) = [h0, a5])) (by decide) ⟨Nat.zero_le _, Nat.zero_le _⟩ hl.1 rfl (Nat.le_of_ble_eq_true rfl) dX2_room_85 (fun r _ H locs hr hw => ?_)
                    have hw : Wd G (fA [(h0, .inr (2, [.ref a1, .ref a2, .ref a3, .ref a4, .int (nI im), .ref a5, .ref a6, .ref a7, .int (nI lm), .int (nI rm), .int (nI pl), .ref a8, .int sd])), (a1, aI G 54 (fl R)), (a4, aI G 54 (fl Rw)), (a5, aI G 96 (cN lf2)), (a8, aI G 3 nu)]) s [(h0, .inr (2, [.ref a1, .ref a2, .ref a3, .ref a4, .int (nI im), .ref a5, .ref a6, .ref a7, .int (nI lm), .int (nI rm), .int (nI p2), .ref a8, .int sd])), (a1, aI G 54 (fl S)), (a4, aI G 54 (fl R)), (a5, aI G 96 (cN lf2)), (a8, aI G 3 nu)] H locs := hw
                    subst hr
                    refine re_i (nI (lf2 p2)) (hrI_y hpn) ?_
                    refine lv_istore (lv' := [(4, .int (nI (lf2 p2))), (3, .int (nI p2)), (0, .ref h0), (1, .int (nI (cn + 1))), (2, .int (-9))]) xx xb dX2_room_88 hl (by decide) rfl (fun ls hl => ?_)
                    refine lv_aload_n xx xb dX2_room_90 rfl (lv_at hl 2 rfl) ?_
                    have hM := kX2_readsStatement l G h0 a1 a2 a3 a4 a5 a6 a7 a8 im lm rm p2 sd lf2 nu (by first | assumption | omega) (by first | assumption | omega) (by first | assumption | omega)
                    refine cv_i C hw hM yvX2_readsStatement ml_X2_118 0 rfl rfl rfl [0, 3, 4] rfl rfl (fun _ => (rfl : ([h0, a5, a8] : List Nat) = [h0, a5, a8])) (by decide) ⟨Nat.zero_le _, Nat.zero_le _⟩ hl.1 rfl (Nat.le_of_ble_eq_true rfl) dX2_room_91 (fun r u H locs hr hw => ?_)
                    obtain ⟨u2, hu2⟩ : ∃ z, z = u := ⟨_, rfl⟩
                    subst hu2
                    have hw : Wd G (fA [(h0, .inr (2, [.ref a1, .ref a2, .ref a3, .ref a4, .int (nI im), .ref a5, .ref a6, .ref a7, .int (nI lm), .int (nI rm), .int (nI pl), .ref a8, .int sd])), (a1, aI G 54 (fl R)), (a4, aI G 54 (fl Rw)), (a5, aI G 96 (cN lf2)), (a8, aI G 3 nu)]) s [(h0, .inr (2, [.ref a1, .ref a2, .ref a3, .ref a4, .int (nI im), .ref a5, .ref a6, .ref a7, .int (nI lm), .int (nI rm), .int (nI (rdP lf2 lm p2)), .ref a8, .int sd])), (a1, aI G 54 (fl S)), (a4, aI G 54 (fl R)), (a5, aI G 96 (cN lf2)), (a8, aI G 3 u2)] H locs := hw
                    obtain ⟨hr, hq2⟩ := hr
                    subst hr
                    have hno := hq2 hz.1
                    obtain ⟨m1, m2, m3⟩ := hno
                    refine lv_istore (lv' := [(5, .int (z01 (rdB lf2 lm p2))), (4, .int (nI (lf2 p2))), (3, .int (nI p2)), (0, .ref h0), (1, .int (nI (cn + 1))), (2, .int (-9))]) xx xb dX2_room_94 hl (by decide) rfl (fun ls hl => ?_)
                    refine lv_aload_n xx xb dX2_room_96 rfl (lv_at hl 3 rfl) ?_
                    refine lv_iload xx xb dX2_room_97 (lv_at hl 1 rfl) ?_
                    have hM := kX2_isDone l G h0 a1 a2 a3 a4 a5 a6 a7 a8 im lm rm (rdP lf2 lm p2) sd S u2 (lf2 p2) (n0F lf2 p2) (n1F lf2 p2) (n2F lf2 p2) hS hSK hSm k1 m1 k2 k3 (fun q => ⟨m2 q, k5 q⟩) (fun q => ⟨m3 q, k6 q⟩)
                    refine cv_i C hw hM yvX2_isDone ml_X2_125 0 rfl rfl rfl [0, 1, 4] rfl rfl (fun _ => (rfl : ([h0, a1, a8] : List Nat) = [h0, a1, a8])) (by decide) ⟨Nat.zero_le _, Nat.zero_le _⟩ hl.1 rfl (Nat.le_of_ble_eq_true rfl) dX2_room_99 (fun r _ H locs hr hw => ?_)
                    have hw : Wd G (fA [(h0, .inr (2, [.ref a1, .ref a2, .ref a3, .ref a4, .int (nI im), .ref a5, .ref a6, .ref a7, .int (nI lm), .int (nI rm), .int (nI pl), .ref a8, .int sd])), (a1, aI G 54 (fl R)), (a4, aI G 54 (fl Rw)), (a5, aI G 96 (cN lf2)), (a8, aI G 3 nu)]) s [(h0, .inr (2, [.ref a1, .ref a2, .ref a3, .ref a4, .int (nI im), .ref a5, .ref a6, .ref a7, .int (nI lm), .int (nI rm), .int (nI (rdP lf2 lm p2)), .ref a8, .int sd])), (a1, aI G 54 (fl (selP (stB S (lf2 p2) (n0F lf2 p2) (n1F lf2 p2) (n2F lf2 p2)) (stR S (lf2 p2) (n0F lf2 p2) (n1F lf2 p2) (n2F lf2 p2)) S))), (a4, aI G 54 (fl R)), (a5, aI G 96 (cN lf2)), (a8, aI G 3 u2)] H locs := hw
                    subst hr
                    refine lv_if_eq (tgt := 108) xx xb dX2_room_102 (by decide) (fun c_102 => ?_) (fun c_102 => ?_)
                    · skip
                      have c_102 := z01_0 c_102
                      refine lv_sipush (v := (-2000)) xx xb dX2_room_108 (by decide) ?_
                      refine lv_iload_n xx xb dX2_room_111 rfl (lv_at hl 2 rfl) ?_
                      refine lv_isub xx xb dX2_room_112 ?_
                      refine re_i ((-2000) - nI (p2)) rfl ?_
                      have hrfault : ruF lf2 lm 97 0 R = p2 + 1 := hRF.trans (ruF_n hpn c_102)
                      refine lv_istore_n (lv' := [(2, .int ((-2000) - nI (p2))), (5, .int (z01 (rdB lf2 lm p2))), (4, .int (nI (lf2 p2))), (3, .int (nI p2)), (0, .ref h0), (1, .int (nI (cn + 1)))]) xx xb dX2_room_113 rfl hl (by decide) rfl (fun ls hl => ?_)
                      refine lv_aload_n xx xb dX2_room_114 rfl (lv_at hl 4 rfl) ?_
                      refine m_get C hw 0 rfl fk_X2_19 rfl dX2_room_115 ?_
                      refine lv_aload_n xx xb dX2_room_118 rfl (lv_at hl 4 rfl) ?_
                      refine m_get C hw 0 rfl fk_X2_9 rfl dX2_room_119 ?_
                      have hM := kX2_copies l G a4 a1 (fl R) (fl (selP (stB S (lf2 p2) (n0F lf2 p2) (n1F lf2 p2) (n2F lf2 p2)) (stR S (lf2 p2) (n0F lf2 p2) (n1F lf2 p2) (n2F lf2 p2)) S)) 
                      refine cs_v C hw hM ysX2_copies ml_X2_121 rfl [2, 1] rfl rfl (fun _ => (rfl : ([a4, a1] : List Nat) = [a4, a1])) (by decide) ⟨Nat.zero_le _, Nat.zero_le _⟩ hl.1 rfl (Nat.le_of_ble_eq_true rfl) dX2_room_122 (fun _ H locs hr hw => ?_)
                      have hw : Wd G (fA [(h0, .inr (2, [.ref a1, .ref a2, .ref a3, .ref a4, .int (nI im), .ref a5, .ref a6, .ref a7, .int (nI lm), .int (nI rm), .int (nI pl), .ref a8, .int sd])), (a1, aI G 54 (fl R)), (a4, aI G 54 (fl Rw)), (a5, aI G 96 (cN lf2)), (a8, aI G 3 nu)]) s [(h0, .inr (2, [.ref a1, .ref a2, .ref a3, .ref a4, .int (nI im), .ref a5, .ref a6, .ref a7, .int (nI lm), .int (nI rm), .int (nI (rdP lf2 lm p2)), .ref a8, .int sd])), (a1, aI G 54 (fl R)), (a4, aI G 54 (fl R)), (a5, aI G 96 (cN lf2)), (a8, aI G 3 u2)] H locs := hw
                      refine lv_goto (tgt := 62) xx xb dX2_room_125 (by decide) ?_
                      refine lv_iload_n xx xb dX2_room_62 rfl (lv_at hl 0 rfl) ?_
                      refine lv_bipush (v := (-9)) xx xb dX2_room_63 (by decide) ?_
                      refine lv_icmp_ne (tgt := 128) xx xb dX2_room_65 (by decide) (fun c_65 => ?_) (fun c_65 => ?_)
                      · skip
                        have c_65 := ne_c (f2_t (p2) (by omega)) tM9 c_65
                        refine lv_aload_n xx xb dX2_room_128 rfl (lv_at hl 4 rfl) ?_
                        refine lv_iconst (v := nI 0) xx xb dX2_room_129 (by decide) ?_
                        refine m_put C hw 0 rfl rfl tyX2 tyX2_ok nmX2 fk_X2_84 rfl rfl rfl rfl (Nat.le_of_ble_eq_true rfl) dX2_room_130 (fun H locs hw => ?_)
                        have hw : Wd G (fA [(h0, .inr (2, [.ref a1, .ref a2, .ref a3, .ref a4, .int (nI im), .ref a5, .ref a6, .ref a7, .int (nI lm), .int (nI rm), .int (nI pl), .ref a8, .int sd])), (a1, aI G 54 (fl R)), (a4, aI G 54 (fl Rw)), (a5, aI G 96 (cN lf2)), (a8, aI G 3 nu)]) s [(h0, .inr (2, [.ref a1, .ref a2, .ref a3, .ref a4, .int (nI im), .ref a5, .ref a6, .ref a7, .int (nI 0), .int (nI rm), .int (nI (rdP lf2 lm p2)), .ref a8, .int sd])), (a1, aI G 54 (fl R)), (a4, aI G 54 (fl R)), (a5, aI G 96 (cN lf2)), (a8, aI G 3 u2)] H locs := hw
                        refine lv_iload_n xx xb dX2_room_133 rfl (lv_at hl 0 rfl) ?_
                        refine lv_bipush (v := (-9)) xx xb dX2_room_134 (by decide) ?_
                        refine lv_icmp_ne (tgt := 143) xx xb dX2_room_136 (by decide) (fun c_136 => ?_) (fun c_136 => ?_)
                        · skip
                          have c_136 := ne_c (f2_t (p2) (by omega)) tM9 c_136
                          refine lv_iload_n xx xb dX2_room_143 rfl (lv_at hl 0 rfl) ?_
                          have hvr := vRoom_2 hph0 hrfault
                          have hsr := sRoom_2 hph0 hrfault
                          exact rt_i C hw (rdP lf2 lm p2, u2) hvr.symm (by first | (rw [hsr]; done) | (rw [hsr, hRe]; done)) dX2_room_144
                        · skip
                          have c_136 := eq_c (f2_t (p2) (by omega)) tM9 c_136
                          exact absurd c_136 (by omega)
                      · skip
                        have c_65 := eq_c (f2_t (p2) (by omega)) tM9 c_65
                        exact absurd c_65 (by omega)
                    · skip
                      have c_102 := z01_1 c_102
                      have hw : Wd G (fA [(h0, .inr (2, [.ref a1, .ref a2, .ref a3, .ref a4, .int (nI im), .ref a5, .ref a6, .ref a7, .int (nI lm), .int (nI rm), .int (nI pl), .ref a8, .int sd])), (a1, aI G 54 (fl R)), (a4, aI G 54 (fl Rw)), (a5, aI G 96 (cN lf2)), (a8, aI G 3 nu)]) s [(h0, .inr (2, [.ref a1, .ref a2, .ref a3, .ref a4, .int (nI im), .ref a5, .ref a6, .ref a7, .int (nI lm), .int (nI rm), .int (nI (rdP lf2 lm p2)), .ref a8, .int sd])), (a1, aI G 54 (fl (stR S (lf2 p2) (n0F lf2 p2) (n1F lf2 p2) (n2F lf2 p2)))), (a4, aI G 54 (fl R)), (a5, aI G 96 (cN lf2)), (a8, aI G 3 u2)] H locs := by rw [selP_1 c_102] at hw; exact hw
                      have hS2 := OK_stR hS c_102 (fun q => ⟨k4 q, k5 (by omega)⟩)
                      have hSK2 := AK_stR hS hSK (lf2 p2) (n0F lf2 p2) (n1F lf2 p2) (n2F lf2 p2)
                      have hSm2 := mn_stR hSm c_102
                      have hrl := rd_le hz.1 (Nat.le_of_lt hpn)
                      have hrg := rd_gt hz.1
                      have hF3 := hRF.trans (ruF_y hpn c_102)
                      have hR3 := hRR.trans (ruR_y hpn c_102)
                      refine lv_goto (tgt := 62) xx xb dX2_room_105 (by decide) ?_
                      exact ih_62 (rdP lf2 lm p2) (stR S (lf2 p2) (n0F lf2 p2) (n1F lf2 p2) (n2F lf2 p2)) g1 u2 H _ ls (by omega) hS2 hSK2 hSm2 hz.2 (by omega) hF3 hR3 hw (lv_sub hl [3, 4, 5] rfl)
            exact L_62 (_ + 1) 0 R 97 u1 H _ ls (Nat.lt_succ_self _) hR hK hm (fun _ => hph0) (by omega) rfl rfl hw (lv_sub hl [1, 0, 2] rfl)
      · skip
        have c_14 := z01_0 c_14
        refine lv_sipush (v := (-1000)) xx xb dX2_room_17 (by decide) ?_
        refine lv_aload_n xx xb dX2_room_20 rfl (lv_at hl 0 rfl) ?_
        refine m_get C hw 0 rfl fk_X2_88 rfl dX2_room_21 ?_
        refine lv_isub xx xb dX2_room_24 ?_
        have hrbd := rdP_bd lf2 lm p1
        refine re_i ((-1000) - nI (rdP lf2 lm p1)) rfl ?_
        have hfault : phF lf2 lm 97 0 = rdP lf2 lm p1 + 1 := by rw [hF, phF_n c_14]
        refine lv_istore_n (lv' := [(2, .int ((-1000) - nI (rdP lf2 lm p1))), (0, .ref h0), (1, .int (nI cn))]) xx xb dX2_room_25 rfl hl (by decide) rfl (fun ls hl => ?_)
        refine lv_iinc (v := nI (cn + 1)) (lv' := [(1, .int (nI (cn + 1))), (2, .int ((-1000) - nI (rdP lf2 lm p1))), (0, .ref h0)]) xx xb dX2_room_26 hl (k := 2) rfl (nI_add _ 1) (by decide) rfl (fun ls hl => ?_)
        refine lv_iload_n xx xb dX2_room_29 rfl (lv_at hl 1 rfl) ?_
        refine lv_bipush (v := (-9)) xx xb dX2_room_30 (by decide) ?_
        refine lv_icmp_ne (tgt := 46) xx xb dX2_room_32 (by decide) (fun c_32 => ?_) (fun c_32 => ?_)
        · skip
          have c_32 := ne_c (f1_t (rdP lf2 lm p1) (by omega)) tM9 c_32
          refine lv_aload_n xx xb dX2_room_46 rfl (lv_at hl 2 rfl) ?_
          refine m_get C hw 0 rfl fk_X2_9 rfl dX2_room_47 ?_
          refine lv_aload_n xx xb dX2_room_50 rfl (lv_at hl 2 rfl) ?_
          refine m_get C hw 0 rfl fk_X2_19 rfl dX2_room_51 ?_
          have hM := kX2_copies l G a1 a4 (fl R) (fl Rw) 
          refine cs_v C hw hM ysX2_copies ml_X2_121 rfl [1, 2] rfl rfl (fun _ => (rfl : ([a1, a4] : List Nat) = [a1, a4])) (by decide) ⟨Nat.zero_le _, Nat.zero_le _⟩ hl.1 rfl (Nat.le_of_ble_eq_true rfl) dX2_room_54 (fun _ H locs hr hw => ?_)
          have hw : Wd G (fA [(h0, .inr (2, [.ref a1, .ref a2, .ref a3, .ref a4, .int (nI im), .ref a5, .ref a6, .ref a7, .int (nI lm), .int (nI rm), .int (nI pl), .ref a8, .int sd])), (a1, aI G 54 (fl R)), (a4, aI G 54 (fl Rw)), (a5, aI G 96 (cN lf2)), (a8, aI G 3 nu)]) s [(h0, .inr (2, [.ref a1, .ref a2, .ref a3, .ref a4, .int (nI im), .ref a5, .ref a6, .ref a7, .int (nI lm), .int (nI rm), .int (nI (rdP lf2 lm p1)), .ref a8, .int sd])), (a1, aI G 54 (fl R)), (a4, aI G 54 (fl R)), (a5, aI G 96 (cN lf2)), (a8, aI G 3 u1)] H locs := hw
          refine lv_aload_n xx xb dX2_room_57 rfl (lv_at hl 2 rfl) ?_
          refine lv_iconst (v := nI 0) xx xb dX2_room_58 (by decide) ?_
          refine m_put C hw 0 rfl rfl tyX2 tyX2_ok nmX2 fk_X2_88 rfl rfl rfl rfl (Nat.le_of_ble_eq_true rfl) dX2_room_59 (fun H locs hw => ?_)
          have hw : Wd G (fA [(h0, .inr (2, [.ref a1, .ref a2, .ref a3, .ref a4, .int (nI im), .ref a5, .ref a6, .ref a7, .int (nI lm), .int (nI rm), .int (nI pl), .ref a8, .int sd])), (a1, aI G 54 (fl R)), (a4, aI G 54 (fl Rw)), (a5, aI G 96 (cN lf2)), (a8, aI G 3 nu)]) s [(h0, .inr (2, [.ref a1, .ref a2, .ref a3, .ref a4, .int (nI im), .ref a5, .ref a6, .ref a7, .int (nI lm), .int (nI rm), .int (nI 0), .ref a8, .int sd])), (a1, aI G 54 (fl R)), (a4, aI G 54 (fl R)), (a5, aI G 96 (cN lf2)), (a8, aI G 3 u1)] H locs := hw
          refine lv_iload_n xx xb dX2_room_62 rfl (lv_at hl 1 rfl) ?_
          refine lv_bipush (v := (-9)) xx xb dX2_room_63 (by decide) ?_
          refine lv_icmp_ne (tgt := 128) xx xb dX2_room_65 (by decide) (fun c_65 => ?_) (fun c_65 => ?_)
          · skip
            have c_65 := ne_c (f1_t (rdP lf2 lm p1) (by omega)) tM9 c_65
            refine lv_aload_n xx xb dX2_room_128 rfl (lv_at hl 2 rfl) ?_
            refine lv_iconst (v := nI 0) xx xb dX2_room_129 (by decide) ?_
            refine m_put C hw 0 rfl rfl tyX2 tyX2_ok nmX2 fk_X2_84 rfl rfl rfl rfl (Nat.le_of_ble_eq_true rfl) dX2_room_130 (fun H locs hw => ?_)
            have hw : Wd G (fA [(h0, .inr (2, [.ref a1, .ref a2, .ref a3, .ref a4, .int (nI im), .ref a5, .ref a6, .ref a7, .int (nI lm), .int (nI rm), .int (nI pl), .ref a8, .int sd])), (a1, aI G 54 (fl R)), (a4, aI G 54 (fl Rw)), (a5, aI G 96 (cN lf2)), (a8, aI G 3 nu)]) s [(h0, .inr (2, [.ref a1, .ref a2, .ref a3, .ref a4, .int (nI im), .ref a5, .ref a6, .ref a7, .int (nI 0), .int (nI rm), .int (nI 0), .ref a8, .int sd])), (a1, aI G 54 (fl R)), (a4, aI G 54 (fl R)), (a5, aI G 96 (cN lf2)), (a8, aI G 3 u1)] H locs := hw
            refine lv_iload_n xx xb dX2_room_133 rfl (lv_at hl 1 rfl) ?_
            refine lv_bipush (v := (-9)) xx xb dX2_room_134 (by decide) ?_
            refine lv_icmp_ne (tgt := 143) xx xb dX2_room_136 (by decide) (fun c_136 => ?_) (fun c_136 => ?_)
            · skip
              have c_136 := ne_c (f1_t (rdP lf2 lm p1) (by omega)) tM9 c_136
              refine lv_iload_n xx xb dX2_room_143 rfl (lv_at hl 1 rfl) ?_
              have hvr := vRoom_1 (R := R) hfault
              have hsr := sRoom_1 (R := R) hfault
              exact rt_i C hw (0, u1) hvr.symm (by first | (rw [hsr]; done) | (rw [hsr, hRe]; done)) dX2_room_144
            · skip
              have c_136 := eq_c (f1_t (rdP lf2 lm p1) (by omega)) tM9 c_136
              exact absurd c_136 (by omega)
          · skip
            have c_65 := eq_c (f1_t (rdP lf2 lm p1) (by omega)) tM9 c_65
            exact absurd c_65 (by omega)
        · skip
          have c_32 := eq_c (f1_t (rdP lf2 lm p1) (by omega)) tM9 c_32
          exact absurd c_32 (by omega)
  exact L_10 (_ + 1) 0 96 0 nu H _ ls (Nat.lt_succ_self _) (by omega) (by omega) rfl rfl hw (lv_sub hl [2, 1, 0] rfl)
