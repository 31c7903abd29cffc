def plX (a b c q : Nat) : Nat := if q = 0 then a else if q = 1 then b else c
def orS (R : RT) (a b c v q : Nat) : Nat := stN (obF R (plX a b c (q / 3)) (plX a b c (q % 3)) (plX a b c (3 - q / 3 - q % 3)) v 10)
def orT (R : RT) (a b c v : Nat) : Nat → Nat
  | 0 => 0
  | q + 1 => if q % 4 ≠ 0 ∧ orT R a b c v q < orS R a b c v q + 1 then orS R a b c v q + 1 else orT R a b c v q
def orC (R : RT) (a b c v : Nat) : Nat → Nat
  | 0 => 0
  | q + 1 => if q % 4 ≠ 0 ∧ orT R a b c v q < orS R a b c v q + 1 then 100 * (q / 3) + 10 * (q % 3) + (3 - q / 3 - q % 3) else orC R a b c v q
theorem orS_le (R : RT) (h : R 0 0 ≤ 10) (a b c v q : Nat) : orS R a b c v q ≤ 10 := stN_le _ (by rw [obF_00]; exact h)
theorem orT_le (R : RT) (h : R 0 0 ≤ 10) (a b c v : Nat) : ∀ q, orT R a b c v q ≤ 11
  | 0 => Nat.zero_le _
  | q + 1 => by
    have h1 := orT_le R h a b c v q
    have h2 := orS_le R h a b c v q
    unfold orT
    split <;> omega
def cOrd (R : RT) (a b c v w : Int) : Nat := if (0 ≤ a ∧ a < ((R 0 0 : Nat) : Int)) ∧ (0 ≤ b ∧ b < ((R 0 0 : Nat) : Int)) ∧ (0 ≤ c ∧ c < ((R 0 0 : Nat) : Int)) ∧ a ≠ b ∧ a ≠ c ∧ b ≠ c then (if wbN v 9 ≠ 0 then wbN v 9 else if 0 ≤ w ∧ w ≤ 1 then 0 else 2) else 1
def vOrd (R : RT) (a b c v : Nat) (w : Int) : Int32 := if w = 0 then nI (orC R a b c v 9) else nI (orT R a b c v 9 - 1)
set_option maxRecDepth 100000 in
set_option maxHeartbeats 4000000 in
theorem kX2_key (l : Launch) (G : GT) (h0 : Nat) (a1 : Nat) (a2 : Nat) (a3 : Nat) (a4 : Nat) (a5 : Nat) (a6 : Nat) (a7 : Nat) (a8 : Nat) (im : Nat) (lm : Nat) (rm : Nat) (pl : Nat) (sd : Int32) (R : RT) (Rm : RT) (rf : Nat → Nat) (n : Int32) (nz : Int) (h_n : n.toInt = nz) (hR : OK R) (hK : AK R) : Ct l yX2_key cX2_key 6 (some .int) 5 114 [.ref h0, .int n] G [(h0, .inr (2, [.ref a1, .ref a2, .ref a3, .ref a4, .int (nI im), .ref a5, .ref a6, .ref a7, .int (nI lm), .int (nI rm), .int (nI pl), .ref a8, .int sd])), (a1, aI G 54 (fl R)), (a2, aI G 54 (fl Rm)), (a7, aI G 7 (cN rf))] (QI G [(h0, .inr (2, [.ref a1, .ref a2, .ref a3, .ref a4, .int (nI im), .ref a5, .ref a6, .ref a7, .int (nI lm), .int (nI rm), .int (nI pl), .ref a8, .int sd])), (a1, aI G 54 (fl R)), (a2, aI G 54 (fl Rm)), (a7, aI G 7 (cN rf))] (fun (r : Int32) (u : RT) => r = anI (wbN nz 99) (onI (kyI R nz.toNat (R 0 0)))) (fun u => [(h0, .inr (2, [.ref a1, .ref a2, .ref a3, .ref a4, .int (nI im), .ref a5, .ref a6, .ref a7, .int (nI lm), .int (nI rm), .int (nI pl), .ref a8, .int sd])), (a1, aI G 54 (fl R)), (a2, aI G 54 (fl u)), (a7, aI G 7 (cN (rfU rf (wbN nz 99))))])) := by
  refine en (by decide +kernel) (Nat.le_of_ble_eq_true rfl) ?_
  intro p e s m below meth c ls H locs C hl hw
  have xx := C.1
  have xb := C.2.1
  have hw : Wd G (fA [(h0, .inr (2, [.ref a1, .ref a2, .ref a3, .ref a4, .int (nI im), .ref a5, .ref a6, .ref a7, .int (nI lm), .int (nI rm), .int (nI pl), .ref a8, .int sd])), (a1, aI G 54 (fl R)), (a2, aI G 54 (fl Rm)), (a7, aI G 7 (cN rf))]) s [(h0, .inr (2, [.ref a1, .ref a2, .ref a3, .ref a4, .int (nI im), .ref a5, .ref a6, .ref a7, .int (nI lm), .int (nI rm), .int (nI pl), .ref a8, .int sd])), (a1, aI G 54 (fl R)), (a2, aI G 54 (fl Rm)), (a7, aI G 7 (cN rf))] H locs := hw
  have hl : lv_has ls 6 [(0, .ref h0), (1, .int n)] := hl
  obtain ⟨hn, hf0, hpr, hA⟩ := id hR
  have hb9 := wbN_le nz 99
  refine lv_iload_n xx xb dX2_key_0 rfl (lv_at hl 1 rfl) ?_
  refine lv_bipush (v := nI 99) xx xb dX2_key_1 (by decide) ?_
  have hM := kX2_wrongBy l G n nz (nI 99) 99 h_n (tN (by omega))
  refine cs_i C hw hM ysX2_wrongBy ml_X2_128 rfl [] rfl rfl (fun _ => (rfl : ([] : List Nat) = [])) (by decide) ⟨Nat.zero_le _, Nat.zero_le _⟩ hl.1 rfl (Nat.le_of_ble_eq_true rfl) dX2_key_3 (fun r _ H locs hr hw => ?_)
  have hw : Wd G (fA [(h0, .inr (2, [.ref a1, .ref a2, .ref a3, .ref a4, .int (nI im), .ref a5, .ref a6, .ref a7, .int (nI lm), .int (nI rm), .int (nI pl), .ref a8, .int sd])), (a1, aI G 54 (fl R)), (a2, aI G 54 (fl Rm)), (a7, aI G 7 (cN rf))]) s [(h0, .inr (2, [.ref a1, .ref a2, .ref a3, .ref a4, .int (nI im), .ref a5, .ref a6, .ref a7, .int (nI lm), .int (nI rm), .int (nI pl), .ref a8, .int sd])), (a1, aI G 54 (fl R)), (a2, aI G 54 (fl Rm)), (a7, aI G 7 (cN rf))] H locs := hw
  subst hr
  refine lv_istore_n (lv' := [(2, .int (nG (wbN nz 99))), (0, .ref h0), (1, .int n)]) xx xb dX2_key_6 rfl hl (by decide) rfl (fun ls hl => ?_)
  refine lv_iload_n xx xb dX2_key_7 rfl (lv_at hl 0 rfl) ?_
  refine lv_if_eq (tgt := 17) xx xb dX2_key_8 (by decide) (fun c_8 => ?_) (fun c_8 => ?_)
  · skip
    have c_8 := g0_c (by omega) c_8
    obtain ⟨g1, g2⟩ := wbN_0 c_8
    refine lv_bipush (v := (-9)) xx xb dX2_key_17 (by decide) ?_
    refine lv_istore_n (lv' := [(3, .int (-9)), (2, .int (nG (wbN nz 99))), (0, .ref h0), (1, .int n)]) xx xb dX2_key_19 rfl hl (by decide) rfl (fun ls hl => ?_)
    refine m_ldc C kc_X2_147 dX2_key_20 ?_
    refine lv_istore (lv' := [(4, .int (1000000000 : Int32)), (3, .int (-9)), (2, .int (nG (wbN nz 99))), (0, .ref h0), (1, .int n)]) xx xb dX2_key_22 hl (by decide) rfl (fun ls hl => ?_)
    refine lv_iconst (v := nI 0) xx xb dX2_key_24 (by decide) ?_
    refine lv_istore (lv' := [(5, .int (nI 0)), (4, .int (1000000000 : Int32)), (3, .int (-9)), (2, .int (nG (wbN nz 99))), (0, .ref h0), (1, .int n)]) xx xb dX2_key_25 hl (by decide) rfl (fun ls hl => ?_)
    have hl : lv_has ls 6 [(5, .int (nI 0)), (4, .int (1000000000 : Int32)), (3, .int (onI (kyI R nz.toNat 0))), (2, .int (nG (wbN nz 99))), (0, .ref h0), (1, .int n)] := hl
    have hl : lv_has ls 6 [(5, .int (nI 0)), (4, .int (bsk (kyT R nz.toNat 0))), (3, .int (onI (kyI R nz.toNat 0))), (2, .int (nG (wbN nz 99))), (0, .ref h0), (1, .int n)] := hl
    have L_27 : ∀ (fu : Nat) (i : Nat) (Y : RT) (H : Heap) (locs : List Loc) (ls : Array Slot), 10 - i < fu → (i ≤ R 0 0) → Wd G (fA [(h0, .inr (2, [.ref a1, .ref a2, .ref a3, .ref a4, .int (nI im), .ref a5, .ref a6, .ref a7, .int (nI lm), .int (nI rm), .int (nI pl), .ref a8, .int sd])), (a1, aI G 54 (fl R)), (a2, aI G 54 (fl Rm)), (a7, aI G 7 (cN rf))]) s [(h0, .inr (2, [.ref a1, .ref a2, .ref a3, .ref a4, .int (nI im), .ref a5, .ref a6, .ref a7, .int (nI lm), .int (nI rm), .int (nI pl), .ref a8, .int sd])), (a1, aI G 54 (fl R)), (a2, aI G 54 (fl Y)), (a7, aI G 7 (cN rf))] H locs → lv_has ls 6 [(0, .ref h0), (1, .int n), (3, .int (onI (kyI R nz.toNat i))), (4, .int (bsk (kyT R nz.toNat i))), (5, .int (nI i))] → W p l e ({ frames := 5, cells := 0, slots := 0, locals := 114 }) s m (([.ref h0, .int n] : List Value).toArray) below meth c H locs 0 0 (MQ below (QI G [(h0, .inr (2, [.ref a1, .ref a2, .ref a3, .ref a4, .int (nI im), .ref a5, .ref a6, .ref a7, .int (nI lm), .int (nI rm), .int (nI pl), .ref a8, .int sd])), (a1, aI G 54 (fl R)), (a2, aI G 54 (fl Rm)), (a7, aI G 7 (cN rf))] (fun (r : Int32) (u : RT) => r = anI (wbN nz 99) (onI (kyI R nz.toNat (R 0 0)))) (fun u => [(h0, .inr (2, [.ref a1, .ref a2, .ref a3, .ref a4, .int (nI im), .ref a5, .ref a6, .ref a7, .int (nI lm), .int (nI rm), .int (nI pl), .ref a8, .int sd])), (a1, aI G 54 (fl R)), (a2, aI G 54 (fl u)), (a7, aI G 7 (cN (rfU rf (wbN nz 99))))])) (([.ref h0, .int n] : List Value).toArray) s 0 0 (fA [(h0, .inr (2, [.ref a1, .ref a2, .ref a3, .ref a4, .int (nI im), .ref a5, .ref a6, .ref a7, .int (nI lm), .int (nI rm), .int (nI pl), .ref a8, .int sd])), (a1, aI G 54 (fl R)), (a2, aI G 54 (fl Rm)), (a7, aI G 7 (cN rf))])) (F0 m 27 ls []) := by
      intro fu
      induction fu with
      | zero => intro i Y H locs ls hfu; exact absurd hfu (Nat.not_lt_zero _)
      | succ fu ih_27 =>
        intro i Y H locs ls hfu hi hw hl
        refine lv_iload xx xb dX2_key_27 (lv_at hl 4 rfl) ?_
        refine lv_aload_n xx xb dX2_key_29 rfl (lv_at hl 0 rfl) ?_
        refine m_get C hw 0 rfl fk_X2_9 rfl dX2_key_30 ?_
        refine lv_iconst (v := nI 0) xx xb dX2_key_33 (by decide) ?_
        refine m_ald C hw 1 rfl 0 rfl (by omega) (by decide) dX2_key_34 ?_
        refine re_i (nI (R 0 0)) (fl_h R (by decide)) ?_
        refine lv_icmp_ge (tgt := 87) xx xb dX2_key_35 (by decide) (fun c_35 => ?_) (fun c_35 => ?_)
        · skip
          have c_35 := le_c (tN (by omega)) (tN (by omega)) c_35
          refine lv_iload_n xx xb dX2_key_87 rfl (lv_at hl 2 rfl) ?_
          refine re_i (onI (kyI R nz.toNat (R 0 0))) (by rw [show R 0 0 = i by omega]) ?_
          have hc : wbN nz 99 = 0 := by first | assumption | rfl
          exact rt_i C hw Y (by exact (anI_0 hc _).symm) (by rw [rfU_0 hc]) dX2_key_88
        · skip
          have c_35 := nle_c (tN (by omega)) (tN (by omega)) c_35
          have h2i : 2 ^ i ≤ 2 ^ 9 := Nat.pow_le_pow_right (by decide) (by omega)
          refine lv_aload_n xx xb dX2_key_38 rfl (lv_at hl 0 rfl) ?_
          refine lv_iconst (v := nI 1) xx xb dX2_key_39 (by decide) ?_
          refine lv_iload xx xb dX2_key_40 (lv_at hl 4 rfl) ?_
          refine lv_ishl xx xb dX2_key_42 ?_
          refine re_i (nI (2 ^ i)) (shl1 (by omega)) ?_
          have hM := kX2_pullsSet l G h0 a1 a2 a3 a4 a5 a6 a7 a8 im lm rm pl sd R Y (2 ^ i) (by first | assumption | omega) (by first | assumption | omega)
          refine cv_i C hw hM yvX2_pullsSet ml_X2_151 0 rfl rfl rfl [0, 1, 2] rfl rfl (fun _ => (rfl : ([h0, a1, a2] : List Nat) = [h0, a1, a2])) (by decide) ⟨Nat.zero_le _, Nat.zero_le _⟩ hl.1 rfl (Nat.le_of_ble_eq_true rfl) dX2_key_43 (fun r u H locs hr hw => ?_)
          obtain ⟨u1, hu1⟩ : ∃ z, z = u := ⟨_, rfl⟩
          subst hu1
          have hw : Wd G (fA [(h0, .inr (2, [.ref a1, .ref a2, .ref a3, .ref a4, .int (nI im), .ref a5, .ref a6, .ref a7, .int (nI lm), .int (nI rm), .int (nI pl), .ref a8, .int sd])), (a1, aI G 54 (fl R)), (a2, aI G 54 (fl Rm)), (a7, aI G 7 (cN rf))]) s [(h0, .inr (2, [.ref a1, .ref a2, .ref a3, .ref a4, .int (nI im), .ref a5, .ref a6, .ref a7, .int (nI lm), .int (nI rm), .int (nI pl), .ref a8, .int sd])), (a1, aI G 54 (fl R)), (a2, aI G 54 (fl u1)), (a7, aI G 7 (cN rf))] H locs := hw
          obtain ⟨hr, hq1⟩ := hr
          subst hr
          refine lv_if_ne (tgt := 52) xx xb dX2_key_46 (by decide) (fun c_46 => ?_) (fun c_46 => ?_)
          · skip
            have c_46 := b1_c c_46
            have h4i : R 4 i = 0 := (psB_1 R i _).mp c_46 (by omega)
            have hue := hq1 c_46
            rw [psR_1, if_pos (show i < R 0 0 by omega)] at hue
            subst hue
            have hw : Wd G (fA [(h0, .inr (2, [.ref a1, .ref a2, .ref a3, .ref a4, .int (nI im), .ref a5, .ref a6, .ref a7, .int (nI lm), .int (nI rm), .int (nI pl), .ref a8, .int sd])), (a1, aI G 54 (fl R)), (a2, aI G 54 (fl Rm)), (a7, aI G 7 (cN rf))]) s [(h0, .inr (2, [.ref a1, .ref a2, .ref a3, .ref a4, .int (nI im), .ref a5, .ref a6, .ref a7, .int (nI lm), .int (nI rm), .int (nI pl), .ref a8, .int sd])), (a1, aI G 54 (fl R)), (a2, aI G 54 (fl (pulF R i 9))), (a7, aI G 7 (cN rf))] H locs := hw
            have hpO := OK_pulF i 9 hR (Or.inr (by omega))
            have hpK := AK_pulF i 9 hK
            have hit := OK_itF hpO nz.toNat
            have hks : kyS R nz.toNat i ≤ 10 := stN_le _ (by rw [itF_00, pulF_00]; exact hn)
            refine lv_aload_n xx xb dX2_key_52 rfl (lv_at hl 0 rfl) ?_
            refine m_get C hw 0 rfl fk_X2_13 rfl dX2_key_53 ?_
            refine lv_iload_n xx xb dX2_key_56 rfl (lv_at hl 1 rfl) ?_
            refine re_i (nI nz.toNat) (ofT h_n (by omega) (by omega)) ?_
            have hM := kX2_minutesOn l G a2 (pulF R i 9) nz.toNat (by first | assumption | omega) (by first | assumption | omega) (by first | assumption | omega)
            refine cs_v C hw hM ysX2_minutesOn ml_X2_115 rfl [2] rfl rfl (fun _ => (rfl : ([a2] : List Nat) = [a2])) (by decide) ⟨Nat.zero_le _, Nat.zero_le _⟩ hl.1 rfl (Nat.le_of_ble_eq_true rfl) dX2_key_57 (fun _ H locs hr hw => ?_)
            have hw : Wd G (fA [(h0, .inr (2, [.ref a1, .ref a2, .ref a3, .ref a4, .int (nI im), .ref a5, .ref a6, .ref a7, .int (nI lm), .int (nI rm), .int (nI pl), .ref a8, .int sd])), (a1, aI G 54 (fl R)), (a2, aI G 54 (fl Rm)), (a7, aI G 7 (cN rf))]) s [(h0, .inr (2, [.ref a1, .ref a2, .ref a3, .ref a4, .int (nI im), .ref a5, .ref a6, .ref a7, .int (nI lm), .int (nI rm), .int (nI pl), .ref a8, .int sd])), (a1, aI G 54 (fl R)), (a2, aI G 54 (fl (itF (pulF R i 9) nz.toNat))), (a7, aI G 7 (cN rf))] H locs := hw
            refine lv_aload_n xx xb dX2_key_60 rfl (lv_at hl 0 rfl) ?_
            have hM := kX2_standingIn l G h0 a1 a2 a3 a4 a5 a6 a7 a8 im lm rm pl sd (itF (pulF R i 9) nz.toNat) (by first | assumption | omega)
            refine cv_i C hw hM yvX2_standingIn ml_X2_138 0 rfl rfl rfl [0, 2] rfl rfl (fun _ => (rfl : ([h0, a2] : List Nat) = [h0, a2])) (by decide) ⟨Nat.zero_le _, Nat.zero_le _⟩ hl.1 rfl (Nat.le_of_ble_eq_true rfl) dX2_key_61 (fun r _ H locs hr hw => ?_)
            have hw : Wd G (fA [(h0, .inr (2, [.ref a1, .ref a2, .ref a3, .ref a4, .int (nI im), .ref a5, .ref a6, .ref a7, .int (nI lm), .int (nI rm), .int (nI pl), .ref a8, .int sd])), (a1, aI G 54 (fl R)), (a2, aI G 54 (fl Rm)), (a7, aI G 7 (cN rf))]) s [(h0, .inr (2, [.ref a1, .ref a2, .ref a3, .ref a4, .int (nI im), .ref a5, .ref a6, .ref a7, .int (nI lm), .int (nI rm), .int (nI pl), .ref a8, .int sd])), (a1, aI G 54 (fl R)), (a2, aI G 54 (fl (itF (pulF R i 9) nz.toNat))), (a7, aI G 7 (cN rf))] H locs := hw
            subst hr
            refine re_i (nI (kyS R nz.toNat i)) rfl ?_
            refine lv_iload xx xb dX2_key_64 (lv_at hl 3 rfl) ?_
            refine lv_icmp_lt (tgt := 72) xx xb dX2_key_66 (by decide) (fun c_66 => ?_) (fun c_66 => ?_)
            · skip
              have c_66 := (bsk_lt hks (kyT_le _ _ _)).mp c_66
              refine lv_iload xx xb dX2_key_72 (lv_at hl 4 rfl) ?_
              refine lv_istore_n (lv' := [(3, .int (nI i)), (0, .ref h0), (1, .int n), (4, .int (bsk (kyT R nz.toNat i))), (5, .int (nI i))]) xx xb dX2_key_74 rfl hl (by decide) rfl (fun ls hl => ?_)
              refine lv_aload_n xx xb dX2_key_75 rfl (lv_at hl 1 rfl) ?_
              have hM := kX2_standingIn l G h0 a1 a2 a3 a4 a5 a6 a7 a8 im lm rm pl sd (itF (pulF R i 9) nz.toNat) (by first | assumption | omega)
              refine cv_i C hw hM yvX2_standingIn ml_X2_138 0 rfl rfl rfl [0, 2] rfl rfl (fun _ => (rfl : ([h0, a2] : List Nat) = [h0, a2])) (by decide) ⟨Nat.zero_le _, Nat.zero_le _⟩ hl.1 rfl (Nat.le_of_ble_eq_true rfl) dX2_key_76 (fun r _ H locs hr hw => ?_)
              have hw : Wd G (fA [(h0, .inr (2, [.ref a1, .ref a2, .ref a3, .ref a4, .int (nI im), .ref a5, .ref a6, .ref a7, .int (nI lm), .int (nI rm), .int (nI pl), .ref a8, .int sd])), (a1, aI G 54 (fl R)), (a2, aI G 54 (fl Rm)), (a7, aI G 7 (cN rf))]) s [(h0, .inr (2, [.ref a1, .ref a2, .ref a3, .ref a4, .int (nI im), .ref a5, .ref a6, .ref a7, .int (nI lm), .int (nI rm), .int (nI pl), .ref a8, .int sd])), (a1, aI G 54 (fl R)), (a2, aI G 54 (fl (itF (pulF R i 9) nz.toNat))), (a7, aI G 7 (cN rf))] H locs := hw
              subst hr
              refine re_i (nI (kyS R nz.toNat i)) rfl ?_
              refine lv_istore (lv' := [(4, .int (nI (kyS R nz.toNat i))), (3, .int (nI i)), (0, .ref h0), (1, .int n), (5, .int (nI i))]) xx xb dX2_key_79 hl (by decide) rfl (fun ls hl => ?_)
              have e1 : kyI R nz.toNat (i + 1) = i := if_pos ⟨h4i, c_66⟩
              have e2 : kyT R nz.toNat (i + 1) = kyS R nz.toNat i := if_pos ⟨h4i, c_66⟩
              have hl : lv_has ls 6 [(4, .int (nI (kyS R nz.toNat i))), (3, .int (onI (kyI R nz.toNat (i + 1)))), (0, .ref h0), (1, .int n), (5, .int (nI i))] := by rw [e1, onI_lt (by omega)]; exact hl
              have hl : lv_has ls 6 [(4, .int (bsk (kyT R nz.toNat (i + 1)))), (3, .int (onI (kyI R nz.toNat (i + 1)))), (0, .ref h0), (1, .int n), (5, .int (nI i))] := by rw [e2, show bsk (kyS R nz.toNat i) = nI (kyS R nz.toNat i) from if_pos (by omega)]; exact hl
              refine lv_iinc (v := nI (i + 1)) (lv' := [(5, .int (nI (i + 1))), (4, .int (bsk (kyT R nz.toNat (i + 1)))), (3, .int (onI (kyI R nz.toNat (i + 1)))), (0, .ref h0), (1, .int n)]) xx xb dX2_key_81 hl (k := 4) rfl (nI_add _ 1) (by decide) rfl (fun ls hl => ?_)
              refine lv_goto (tgt := 27) xx xb dX2_key_84 (by decide) ?_
              exact ih_27 (i + 1) (itF (pulF R i 9) nz.toNat) H _ ls (by omega) (by omega) hw (lv_sub hl [3, 4, 2, 1, 0] rfl)
            · skip
              have c_66 := mt (bsk_lt hks (kyT_le _ _ _)).mpr c_66
              refine lv_goto (tgt := 81) xx xb dX2_key_69 (by decide) ?_
              have hnq : ¬ (R 4 i = 0 ∧ kyS R nz.toNat i < kyT R nz.toNat i) := fun q => by first | exact c_66 q.2 | exact c_46 ((psB_1 R i _).mpr (fun _ => q.1))
              have e1 : kyI R nz.toNat (i + 1) = kyI R nz.toNat i := if_neg hnq
              have e2 : kyT R nz.toNat (i + 1) = kyT R nz.toNat i := if_neg hnq
              have hl : lv_has ls 6 [(0, .ref h0), (1, .int n), (3, .int (onI (kyI R nz.toNat (i + 1)))), (4, .int (bsk (kyT R nz.toNat i))), (5, .int (nI i))] := by rw [e1]; exact hl
              have hl : lv_has ls 6 [(0, .ref h0), (1, .int n), (3, .int (onI (kyI R nz.toNat (i + 1)))), (4, .int (bsk (kyT R nz.toNat (i + 1)))), (5, .int (nI i))] := by rw [e2]; exact hl
              refine lv_iinc (v := nI (i + 1)) (lv' := [(5, .int (nI (i + 1))), (0, .ref h0), (1, .int n), (3, .int (onI (kyI R nz.toNat (i + 1)))), (4, .int (bsk (kyT R nz.toNat (i + 1))))]) xx xb dX2_key_81 hl (k := 4) rfl (nI_add _ 1) (by decide) rfl (fun ls hl => ?_)
              refine lv_goto (tgt := 27) xx xb dX2_key_84 (by decide) ?_
              exact ih_27 (i + 1) (itF (pulF R i 9) nz.toNat) H _ ls (by omega) (by omega) hw (lv_sub hl [1, 2, 3, 4, 0] rfl)
          · skip
            have c_46 := b0_c c_46
            refine lv_goto (tgt := 81) xx xb dX2_key_49 (by decide) ?_
            have hnq : ¬ (R 4 i = 0 ∧ kyS R nz.toNat i < kyT R nz.toNat i) := fun q => by first | exact c_66 q.2 | exact c_46 ((psB_1 R i _).mpr (fun _ => q.1))
            have e1 : kyI R nz.toNat (i + 1) = kyI R nz.toNat i := if_neg hnq
            have e2 : kyT R nz.toNat (i + 1) = kyT R nz.toNat i := if_neg hnq
            have hl : lv_has ls 6 [(0, .ref h0), (1, .int n), (3, .int (onI (kyI R nz.toNat (i + 1)))), (4, .int (bsk (kyT R nz.toNat i))), (5, .int (nI i))] := by rw [e1]; exact hl
            have hl : lv_has ls 6 [(0, .ref h0), (1, .int n), (3, .int (onI (kyI R nz.toNat (i + 1)))), (4, .int (bsk (kyT R nz.toNat (i + 1)))), (5, .int (nI i))] := by rw [e2]; exact hl
            refine lv_iinc (v := nI (i + 1)) (lv' := [(5, .int (nI (i + 1))), (0, .ref h0), (1, .int n), (3, .int (onI (kyI R nz.toNat (i + 1)))), (4, .int (bsk (kyT R nz.toNat (i + 1))))]) xx xb dX2_key_81 hl (k := 4) rfl (nI_add _ 1) (by decide) rfl (fun ls hl => ?_)
            refine lv_goto (tgt := 27) xx xb dX2_key_84 (by decide) ?_
            exact ih_27 (i + 1) u1 H _ ls (by omega) (by omega) hw (lv_sub hl [1, 2, 3, 4, 0] rfl)
    exact L_27 (_ + 1) 0 Rm H _ ls (Nat.lt_succ_self _) (by omega) hw (lv_sub hl [4, 5, 2, 1, 0] rfl)
  · skip
    have c_8 := g0_n c_8
    refine lv_aload_n xx xb dX2_key_11 rfl (lv_at hl 1 rfl) ?_
    refine lv_iload_n xx xb dX2_key_12 rfl (lv_at hl 0 rfl) ?_
    have hM := kX2_no l G h0 a1 a2 a3 a4 a5 a6 a7 a8 im lm rm pl sd rf (wbN nz 99) (by omega)
    refine cv_i C hw hM yvX2_no ml_X2_36 0 rfl rfl rfl [0, 3] rfl rfl (fun _ => (rfl : ([h0, a7] : List Nat) = [h0, a7])) (by decide) ⟨Nat.zero_le _, Nat.zero_le _⟩ hl.1 rfl (Nat.le_of_ble_eq_true rfl) dX2_key_13 (fun r _ H locs hr hw => ?_)
    have hw : Wd G (fA [(h0, .inr (2, [.ref a1, .ref a2, .ref a3, .ref a4, .int (nI im), .ref a5, .ref a6, .ref a7, .int (nI lm), .int (nI rm), .int (nI pl), .ref a8, .int sd])), (a1, aI G 54 (fl R)), (a2, aI G 54 (fl Rm)), (a7, aI G 7 (cN rf))]) s [(h0, .inr (2, [.ref a1, .ref a2, .ref a3, .ref a4, .int (nI im), .ref a5, .ref a6, .ref a7, .int (nI lm), .int (nI rm), .int (nI pl), .ref a8, .int sd])), (a1, aI G 54 (fl R)), (a2, aI G 54 (fl Rm)), (a7, aI G 7 (cN (upN rf (wbN nz 99) (rf (wbN nz 99) + 1))))] H locs := hw
    subst hr
    have hc : wbN nz 99 = (wbN nz 99) := by first | assumption | rfl
    have hj : (wbN nz 99) ≠ 0 := by omega
    exact rt_i C hw Rm (by exact (anI_r hc hj _).symm) (by rw [rfU_r hc hj]) dX2_key_16
set_option maxRecDepth 100000 in
set_option maxHeartbeats 4000000 in
theorem kX2_two (l : Launch) (G : GT) (h0 : Nat) (a1 : Nat) (a2 : Nat) (a3 : Nat) (a4 : Nat) (a5 : Nat) (a6 : Nat) (a7 : Nat) (a8 : Nat) (im : Nat) (lm : Nat) (rm : Nat) (pl : Nat) (sd : Int32) (R : RT) (Rm : RT) (rf : Nat → Nat) (x : Int32) (xz : Int) (y : Int32) (yz : Int) (n : Int32) (nz : Int) (h_x : x.toInt = xz) (h_y : y.toInt = yz) (h_n : n.toInt = nz) (hR : OK R) (hK : AK R) : Ct l yX2_two cX2_two 9 (some .int) 6 137 [.ref h0, .int x, .int y, .int n] G [(h0, .inr (2, [.ref a1, .ref a2, .ref a3, .ref a4, .int (nI im), .ref a5, .ref a6, .ref a7, .int (nI lm), .int (nI rm), .int (nI pl), .ref a8, .int sd])), (a1, aI G 54 (fl R)), (a2, aI G 54 (fl Rm)), (a7, aI G 7 (cN rf))] (QI G [(h0, .inr (2, [.ref a1, .ref a2, .ref a3, .ref a4, .int (nI im), .ref a5, .ref a6, .ref a7, .int (nI lm), .int (nI rm), .int (nI pl), .ref a8, .int sd])), (a1, aI G 54 (fl R)), (a2, aI G 54 (fl Rm)), (a7, aI G 7 (cN rf))] (fun (r : Int32) (u : RT) => r = anI (cTwo R xz yz nz) (vTwo R xz.toNat yz.toNat nz.toNat)) (fun u => [(h0, .inr (2, [.ref a1, .ref a2, .ref a3, .ref a4, .int (nI im), .ref a5, .ref a6, .ref a7, .int (nI lm), .int (nI rm), .int (nI pl), .ref a8, .int sd])), (a1, aI G 54 (fl R)), (a2, aI G 54 (fl u)), (a7, aI G 7 (cN (rfU rf (cTwo R xz yz nz))))])) := by
  refine en (by decide +kernel) (Nat.le_of_ble_eq_true rfl) ?_
  intro p e s m below meth c ls H locs C hl hw
  have xx := C.1
  have xb := C.2.1
  have hw : Wd G (fA [(h0, .inr (2, [.ref a1, .ref a2, .ref a3, .ref a4, .int (nI im), .ref a5, .ref a6, .ref a7, .int (nI lm), .int (nI rm), .int (nI pl), .ref a8, .int sd])), (a1, aI G 54 (fl R)), (a2, aI G 54 (fl Rm)), (a7, aI G 7 (cN rf))]) s [(h0, .inr (2, [.ref a1, .ref a2, .ref a3, .ref a4, .int (nI im), .ref a5, .ref a6, .ref a7, .int (nI lm), .int (nI rm), .int (nI pl), .ref a8, .int sd])), (a1, aI G 54 (fl R)), (a2, aI G 54 (fl Rm)), (a7, aI G 7 (cN rf))] H locs := hw
  have hl : lv_has ls 9 [(0, .ref h0), (1, .int x), (2, .int y), (3, .int n)] := hl
  obtain ⟨hn, hf0, hpr, hA⟩ := id hR
  have hb9 := wbN_le nz 99
  refine lv_aload_n xx xb dX2_two_0 rfl (lv_at hl 0 rfl) ?_
  refine lv_iload_n xx xb dX2_two_1 rfl (lv_at hl 1 rfl) ?_
  have hM := kX2_isThing l G h0 a1 a2 a3 a4 a5 a6 a7 a8 im lm rm pl sd R x xz h_x (by first | assumption | omega)
  refine cv_i C hw hM yvX2_isThing ml_X2_105 0 rfl rfl rfl [0, 1] rfl rfl (fun _ => (rfl : ([h0, a1] : List Nat) = [h0, a1])) (by decide) ⟨Nat.zero_le _, Nat.zero_le _⟩ hl.1 rfl (Nat.le_of_ble_eq_true rfl) dX2_two_2 (fun r _ H locs hr hw => ?_)
  have hw : Wd G (fA [(h0, .inr (2, [.ref a1, .ref a2, .ref a3, .ref a4, .int (nI im), .ref a5, .ref a6, .ref a7, .int (nI lm), .int (nI rm), .int (nI pl), .ref a8, .int sd])), (a1, aI G 54 (fl R)), (a2, aI G 54 (fl Rm)), (a7, aI G 7 (cN rf))]) s [(h0, .inr (2, [.ref a1, .ref a2, .ref a3, .ref a4, .int (nI im), .ref a5, .ref a6, .ref a7, .int (nI lm), .int (nI rm), .int (nI pl), .ref a8, .int sd])), (a1, aI G 54 (fl R)), (a2, aI G 54 (fl Rm)), (a7, aI G 7 (cN rf))] H locs := hw
  subst hr
  refine lv_if_eq (tgt := 21) xx xb dX2_two_5 (by decide) (fun c_5 => ?_) (fun c_5 => ?_)
  · skip
    have c_5 := b0_c c_5
    refine lv_iconst (v := (-1)) xx xb dX2_two_21 (by decide) ?_
    refine lv_goto (tgt := 31) xx xb dX2_two_22 (by decide) ?_
    refine lv_istore (lv' := [(4, .int (-1)), (0, .ref h0), (1, .int x), (2, .int y), (3, .int n)]) xx xb dX2_two_31 hl (by decide) rfl (fun ls hl => ?_)
    refine lv_iload xx xb dX2_two_33 (lv_at hl 0 rfl) ?_
    refine lv_if_eq (tgt := 45) xx xb dX2_two_35 (by decide) (fun c_35 => ?_) (fun c_35 => ?_)
    · skip
      exact absurd c_35 (by decide)
    · skip
      refine lv_aload_n xx xb dX2_two_38 rfl (lv_at hl 1 rfl) ?_
      refine lv_iload xx xb dX2_two_39 (lv_at hl 0 rfl) ?_
      have hM := kX2_no l G h0 a1 a2 a3 a4 a5 a6 a7 a8 im lm rm pl sd rf 1 (by omega)
      refine cv_i C hw hM yvX2_no ml_X2_36 0 rfl rfl rfl [0, 3] rfl rfl (fun _ => (rfl : ([h0, a7] : List Nat) = [h0, a7])) (by decide) ⟨Nat.zero_le _, Nat.zero_le _⟩ hl.1 rfl (Nat.le_of_ble_eq_true rfl) dX2_two_41 (fun r _ H locs hr hw => ?_)
      have hw : Wd G (fA [(h0, .inr (2, [.ref a1, .ref a2, .ref a3, .ref a4, .int (nI im), .ref a5, .ref a6, .ref a7, .int (nI lm), .int (nI rm), .int (nI pl), .ref a8, .int sd])), (a1, aI G 54 (fl R)), (a2, aI G 54 (fl Rm)), (a7, aI G 7 (cN rf))]) s [(h0, .inr (2, [.ref a1, .ref a2, .ref a3, .ref a4, .int (nI im), .ref a5, .ref a6, .ref a7, .int (nI lm), .int (nI rm), .int (nI pl), .ref a8, .int sd])), (a1, aI G 54 (fl R)), (a2, aI G 54 (fl Rm)), (a7, aI G 7 (cN (upN rf 1 (rf 1 + 1))))] H locs := hw
      subst hr
      have hc : cTwo R xz yz nz = 1 := by unfold cTwo; (repeat' split) <;> omega
      have hj : 1 ≠ 0 := by omega
      exact rt_i C hw Rm (by exact (anI_r hc hj _).symm) (by rw [rfU_r hc hj]) dX2_two_44
  · skip
    have c_5 := b1_c c_5
    refine lv_aload_n xx xb dX2_two_8 rfl (lv_at hl 0 rfl) ?_
    refine lv_iload_n xx xb dX2_two_9 rfl (lv_at hl 2 rfl) ?_
    have hM := kX2_isThing l G h0 a1 a2 a3 a4 a5 a6 a7 a8 im lm rm pl sd R y yz h_y (by first | assumption | omega)
    refine cv_i C hw hM yvX2_isThing ml_X2_105 0 rfl rfl rfl [0, 1] rfl rfl (fun _ => (rfl : ([h0, a1] : List Nat) = [h0, a1])) (by decide) ⟨Nat.zero_le _, Nat.zero_le _⟩ hl.1 rfl (Nat.le_of_ble_eq_true rfl) dX2_two_10 (fun r _ H locs hr hw => ?_)
    have hw : Wd G (fA [(h0, .inr (2, [.ref a1, .ref a2, .ref a3, .ref a4, .int (nI im), .ref a5, .ref a6, .ref a7, .int (nI lm), .int (nI rm), .int (nI pl), .ref a8, .int sd])), (a1, aI G 54 (fl R)), (a2, aI G 54 (fl Rm)), (a7, aI G 7 (cN rf))]) s [(h0, .inr (2, [.ref a1, .ref a2, .ref a3, .ref a4, .int (nI im), .ref a5, .ref a6, .ref a7, .int (nI lm), .int (nI rm), .int (nI pl), .ref a8, .int sd])), (a1, aI G 54 (fl R)), (a2, aI G 54 (fl Rm)), (a7, aI G 7 (cN rf))] H locs := hw
    subst hr
    refine lv_if_eq (tgt := 21) xx xb dX2_two_13 (by decide) (fun c_13 => ?_) (fun c_13 => ?_)
    · skip
      have c_13 := b0_c c_13
      refine lv_iconst (v := (-1)) xx xb dX2_two_21 (by decide) ?_
      refine lv_goto (tgt := 31) xx xb dX2_two_22 (by decide) ?_
      refine lv_istore (lv' := [(4, .int (-1)), (0, .ref h0), (1, .int x), (2, .int y), (3, .int n)]) xx xb dX2_two_31 hl (by decide) rfl (fun ls hl => ?_)
      refine lv_iload xx xb dX2_two_33 (lv_at hl 0 rfl) ?_
      refine lv_if_eq (tgt := 45) xx xb dX2_two_35 (by decide) (fun c_35 => ?_) (fun c_35 => ?_)
      · skip
        exact absurd c_35 (by decide)
      · skip
        refine lv_aload_n xx xb dX2_two_38 rfl (lv_at hl 1 rfl) ?_
        refine lv_iload xx xb dX2_two_39 (lv_at hl 0 rfl) ?_
        have hM := kX2_no l G h0 a1 a2 a3 a4 a5 a6 a7 a8 im lm rm pl sd rf 1 (by omega)
        refine cv_i C hw hM yvX2_no ml_X2_36 0 rfl rfl rfl [0, 3] rfl rfl (fun _ => (rfl : ([h0, a7] : List Nat) = [h0, a7])) (by decide) ⟨Nat.zero_le _, Nat.zero_le _⟩ hl.1 rfl (Nat.le_of_ble_eq_true rfl) dX2_two_41 (fun r _ H locs hr hw => ?_)
        have hw : Wd G (fA [(h0, .inr (2, [.ref a1, .ref a2, .ref a3, .ref a4, .int (nI im), .ref a5, .ref a6, .ref a7, .int (nI lm), .int (nI rm), .int (nI pl), .ref a8, .int sd])), (a1, aI G 54 (fl R)), (a2, aI G 54 (fl Rm)), (a7, aI G 7 (cN rf))]) s [(h0, .inr (2, [.ref a1, .ref a2, .ref a3, .ref a4, .int (nI im), .ref a5, .ref a6, .ref a7, .int (nI lm), .int (nI rm), .int (nI pl), .ref a8, .int sd])), (a1, aI G 54 (fl R)), (a2, aI G 54 (fl Rm)), (a7, aI G 7 (cN (upN rf 1 (rf 1 + 1))))] H locs := hw
        subst hr
        have hc : cTwo R xz yz nz = 1 := by unfold cTwo; (repeat' split) <;> omega
        have hj : 1 ≠ 0 := by omega
        exact rt_i C hw Rm (by exact (anI_r hc hj _).symm) (by rw [rfU_r hc hj]) dX2_two_44
    · skip
      have c_13 := b1_c c_13
      refine lv_iload_n xx xb dX2_two_16 rfl (lv_at hl 1 rfl) ?_
      refine lv_iload_n xx xb dX2_two_17 rfl (lv_at hl 2 rfl) ?_
      refine lv_icmp_ne (tgt := 25) xx xb dX2_two_18 (by decide) (fun c_18 => ?_) (fun c_18 => ?_)
      · skip
        have c_18 := ne_c h_x h_y c_18
        refine lv_iload_n xx xb dX2_two_25 rfl (lv_at hl 3 rfl) ?_
        refine lv_bipush (v := nI 99) xx xb dX2_two_26 (by decide) ?_
        have hM := kX2_wrongBy l G n nz (nI 99) 99 h_n (tN (by omega))
        refine cs_i C hw hM ysX2_wrongBy ml_X2_128 rfl [] rfl rfl (fun _ => (rfl : ([] : List Nat) = [])) (by decide) ⟨Nat.zero_le _, Nat.zero_le _⟩ hl.1 rfl (Nat.le_of_ble_eq_true rfl) dX2_two_28 (fun r _ H locs hr hw => ?_)
        have hw : Wd G (fA [(h0, .inr (2, [.ref a1, .ref a2, .ref a3, .ref a4, .int (nI im), .ref a5, .ref a6, .ref a7, .int (nI lm), .int (nI rm), .int (nI pl), .ref a8, .int sd])), (a1, aI G 54 (fl R)), (a2, aI G 54 (fl Rm)), (a7, aI G 7 (cN rf))]) s [(h0, .inr (2, [.ref a1, .ref a2, .ref a3, .ref a4, .int (nI im), .ref a5, .ref a6, .ref a7, .int (nI lm), .int (nI rm), .int (nI pl), .ref a8, .int sd])), (a1, aI G 54 (fl R)), (a2, aI G 54 (fl Rm)), (a7, aI G 7 (cN rf))] H locs := hw
        subst hr
        refine lv_istore (lv' := [(4, .int (nG (wbN nz 99))), (0, .ref h0), (1, .int x), (2, .int y), (3, .int n)]) xx xb dX2_two_31 hl (by decide) rfl (fun ls hl => ?_)
        refine lv_iload xx xb dX2_two_33 (lv_at hl 0 rfl) ?_
        refine lv_if_eq (tgt := 45) xx xb dX2_two_35 (by decide) (fun c_35 => ?_) (fun c_35 => ?_)
        · skip
          have c_35 := g0_c (by omega) c_35
          obtain ⟨g1, g2⟩ := wbN_0 (z := nz) (a := 99) (by omega)
          have hs9 : ∀ x y, twS R xz.toNat yz.toNat nz.toNat x y ≤ 10 := fun x y => stN_le _ (by rw [itF_00]; unfold spF; rw [spP_00, spP_00]; exact hn)
          have z00 := hs9 0 0
          have z01 := hs9 0 1
          have z10 := hs9 1 0
          have z11 := hs9 1 1
          refine lv_iconst (v := nI 0) xx xb dX2_two_45 (by decide) ?_
          refine lv_istore (lv' := [(5, .int (nI 0)), (4, .int (nG (wbN nz 99))), (0, .ref h0), (1, .int x), (2, .int y), (3, .int n)]) xx xb dX2_two_46 hl (by decide) rfl (fun ls hl => ?_)
          refine lv_iload xx xb dX2_two_48 (lv_at hl 0 rfl) ?_
          refine lv_iconst (v := nI 4) xx xb dX2_two_50 (by decide) ?_
          refine lv_icmp_ge (tgt := 130) xx xb dX2_two_51 (by decide) (fun c_51 => ?_) (fun c_51 => ?_)
          · skip
            exact absurd c_51 (by decide)
          · skip
            refine lv_iload xx xb dX2_two_54 (lv_at hl 0 rfl) ?_
            refine lv_iconst (v := nI 2) xx xb dX2_two_56 (by decide) ?_
            refine lv_idiv xx xb dX2_two_57 (by decide +kernel) ?_
            refine re_i (nI 0) (by decide +kernel) ?_
            refine lv_istore (lv' := [(6, .int (nI 0)), (5, .int (nI 0)), (4, .int (nG (wbN nz 99))), (0, .ref h0), (1, .int x), (2, .int y), (3, .int n)]) xx xb dX2_two_58 hl (by decide) rfl (fun ls hl => ?_)
            refine lv_iload xx xb dX2_two_60 (lv_at hl 1 rfl) ?_
            refine lv_iconst (v := nI 2) xx xb dX2_two_62 (by decide) ?_
            refine lv_irem xx xb dX2_two_63 (by decide +kernel) ?_
            refine re_i (nI 0) (by decide +kernel) ?_
            refine lv_istore (lv' := [(7, .int (nI 0)), (6, .int (nI 0)), (5, .int (nI 0)), (4, .int (nG (wbN nz 99))), (0, .ref h0), (1, .int x), (2, .int y), (3, .int n)]) xx xb dX2_two_64 hl (by decide) rfl (fun ls hl => ?_)
            refine lv_aload_n xx xb dX2_two_66 rfl (lv_at hl 4 rfl) ?_
            refine lv_iload_n xx xb dX2_two_67 rfl (lv_at hl 5 rfl) ?_
            refine re_i (nI xz.toNat) (ofT h_x (by omega) (by omega)) ?_
            refine lv_iload xx xb dX2_two_68 (lv_at hl 1 rfl) ?_
            refine lv_iload_n xx xb dX2_two_70 rfl (lv_at hl 6 rfl) ?_
            refine re_i (nI yz.toNat) (ofT h_y (by omega) (by omega)) ?_
            refine lv_iload xx xb dX2_two_71 (lv_at hl 0 rfl) ?_
            refine lv_iload_n xx xb dX2_two_73 rfl (lv_at hl 7 rfl) ?_
            refine re_i (nI nz.toNat) (ofT h_n (by omega) (by omega)) ?_
            have hM := kX2_standingPulled l G h0 a1 a2 a3 a4 a5 a6 a7 a8 im lm rm pl sd R Rm xz.toNat 0 yz.toNat 0 nz.toNat (by first | assumption | omega) (by first | assumption | omega) (by first | assumption | omega) (by first | assumption | omega) (by first | assumption | omega) (by first | assumption | omega) (by first | assumption | omega)
            refine cv_i C hw hM yvX2_standingPulled ml_X2_177 0 rfl rfl rfl [0, 1, 2] rfl rfl (fun _ => (rfl : ([h0, a1, a2] : List Nat) = [h0, a1, a2])) (by decide) ⟨Nat.zero_le _, Nat.zero_le _⟩ hl.1 rfl (Nat.le_of_ble_eq_true rfl) dX2_two_74 (fun r _ H locs hr hw => ?_)
            have hw : Wd G (fA [(h0, .inr (2, [.ref a1, .ref a2, .ref a3, .ref a4, .int (nI im), .ref a5, .ref a6, .ref a7, .int (nI lm), .int (nI rm), .int (nI pl), .ref a8, .int sd])), (a1, aI G 54 (fl R)), (a2, aI G 54 (fl Rm)), (a7, aI G 7 (cN rf))]) s [(h0, .inr (2, [.ref a1, .ref a2, .ref a3, .ref a4, .int (nI im), .ref a5, .ref a6, .ref a7, .int (nI lm), .int (nI rm), .int (nI pl), .ref a8, .int sd])), (a1, aI G 54 (fl R)), (a2, aI G 54 (fl (itF (spF R xz.toNat 0 yz.toNat 0) nz.toNat))), (a7, aI G 7 (cN rf))] H locs := hw
            subst hr
            refine re_i (nI (twS R xz.toNat yz.toNat nz.toNat 0 0)) rfl ?_
            refine lv_istore (lv' := [(8, .int (nI (twS R xz.toNat yz.toNat nz.toNat 0 0))), (7, .int (nI 0)), (6, .int (nI 0)), (5, .int (nI 0)), (4, .int (nG (wbN nz 99))), (0, .ref h0), (1, .int x), (2, .int y), (3, .int n)]) xx xb dX2_two_77 hl (by decide) rfl (fun ls hl => ?_)
            refine lv_aload_n xx xb dX2_two_79 rfl (lv_at hl 5 rfl) ?_
            refine lv_iload_n xx xb dX2_two_80 rfl (lv_at hl 6 rfl) ?_
            refine re_i (nI xz.toNat) (ofT h_x (by omega) (by omega)) ?_
            refine lv_iconst (v := nI 1) xx xb dX2_two_81 (by decide) ?_
            refine lv_iload xx xb dX2_two_82 (lv_at hl 2 rfl) ?_
            refine lv_isub xx xb dX2_two_84 ?_
            refine re_i (nI 1) (by decide +kernel) ?_
            refine lv_iload_n xx xb dX2_two_85 rfl (lv_at hl 7 rfl) ?_
            refine re_i (nI yz.toNat) (ofT h_y (by omega) (by omega)) ?_
            refine lv_iload xx xb dX2_two_86 (lv_at hl 1 rfl) ?_
            refine lv_iload_n xx xb dX2_two_88 rfl (lv_at hl 8 rfl) ?_
            refine re_i (nI nz.toNat) (ofT h_n (by omega) (by omega)) ?_
            have hM := kX2_standingPulled l G h0 a1 a2 a3 a4 a5 a6 a7 a8 im lm rm pl sd R (itF (spF R xz.toNat 0 yz.toNat 0) nz.toNat) xz.toNat 1 yz.toNat 0 nz.toNat (by first | assumption | omega) (by first | assumption | omega) (by first | assumption | omega) (by first | assumption | omega) (by first | assumption | omega) (by first | assumption | omega) (by first | assumption | omega)
            refine cv_i C hw hM yvX2_standingPulled ml_X2_177 0 rfl rfl rfl [0, 1, 2] rfl rfl (fun _ => (rfl : ([h0, a1, a2] : List Nat) = [h0, a1, a2])) (by decide) ⟨Nat.zero_le _, Nat.zero_le _⟩ hl.1 rfl (Nat.le_of_ble_eq_true rfl) dX2_two_89 (fun r _ H locs hr hw => ?_)
            have hw : Wd G (fA [(h0, .inr (2, [.ref a1, .ref a2, .ref a3, .ref a4, .int (nI im), .ref a5, .ref a6, .ref a7, .int (nI lm), .int (nI rm), .int (nI pl), .ref a8, .int sd])), (a1, aI G 54 (fl R)), (a2, aI G 54 (fl Rm)), (a7, aI G 7 (cN rf))]) s [(h0, .inr (2, [.ref a1, .ref a2, .ref a3, .ref a4, .int (nI im), .ref a5, .ref a6, .ref a7, .int (nI lm), .int (nI rm), .int (nI pl), .ref a8, .int sd])), (a1, aI G 54 (fl R)), (a2, aI G 54 (fl (itF (spF R xz.toNat 1 yz.toNat 0) nz.toNat))), (a7, aI G 7 (cN rf))] H locs := hw
            subst hr
            refine re_i (nI (twS R xz.toNat yz.toNat nz.toNat 1 0)) rfl ?_
            refine lv_iload xx xb dX2_two_92 (lv_at hl 0 rfl) ?_
            refine lv_icmp_gt (tgt := 124) xx xb dX2_two_94 (by decide) (fun c_94 => ?_) (fun c_94 => ?_)
            · skip
              have c_94 := lt_c (tN (by omega)) (tN (by omega)) c_94
              refine lv_iinc (v := nI 1) (lv' := [(5, .int (nI 1)), (8, .int (nI (twS R xz.toNat yz.toNat nz.toNat 0 0))), (7, .int (nI 0)), (6, .int (nI 0)), (4, .int (nG (wbN nz 99))), (0, .ref h0), (1, .int x), (2, .int y), (3, .int n)]) xx xb dX2_two_124 hl (k := 3) rfl rfl (by decide) rfl (fun ls hl => ?_)
              refine lv_goto (tgt := 48) xx xb dX2_two_127 (by decide) ?_
              refine lv_iload xx xb dX2_two_48 (lv_at hl 0 rfl) ?_
              refine lv_iconst (v := nI 4) xx xb dX2_two_50 (by decide) ?_
              refine lv_icmp_ge (tgt := 130) xx xb dX2_two_51 (by decide) (fun c_51 => ?_) (fun c_51 => ?_)
              · skip
                exact absurd c_51 (by decide)
              · skip
                refine lv_iload xx xb dX2_two_54 (lv_at hl 0 rfl) ?_
                refine lv_iconst (v := nI 2) xx xb dX2_two_56 (by decide) ?_
                refine lv_idiv xx xb dX2_two_57 (by decide +kernel) ?_
                refine re_i (nI 0) (by decide +kernel) ?_
                refine lv_istore (lv' := [(6, .int (nI 0)), (5, .int (nI 1)), (8, .int (nI (twS R xz.toNat yz.toNat nz.toNat 0 0))), (7, .int (nI 0)), (4, .int (nG (wbN nz 99))), (0, .ref h0), (1, .int x), (2, .int y), (3, .int n)]) xx xb dX2_two_58 hl (by decide) rfl (fun ls hl => ?_)
                refine lv_iload xx xb dX2_two_60 (lv_at hl 1 rfl) ?_
                refine lv_iconst (v := nI 2) xx xb dX2_two_62 (by decide) ?_
                refine lv_irem xx xb dX2_two_63 (by decide +kernel) ?_
                refine re_i (nI 1) (by decide +kernel) ?_
                refine lv_istore (lv' := [(7, .int (nI 1)), (6, .int (nI 0)), (5, .int (nI 1)), (8, .int (nI (twS R xz.toNat yz.toNat nz.toNat 0 0))), (4, .int (nG (wbN nz 99))), (0, .ref h0), (1, .int x), (2, .int y), (3, .int n)]) xx xb dX2_two_64 hl (by decide) rfl (fun ls hl => ?_)
                refine lv_aload_n xx xb dX2_two_66 rfl (lv_at hl 5 rfl) ?_
                refine lv_iload_n xx xb dX2_two_67 rfl (lv_at hl 6 rfl) ?_
                refine re_i (nI xz.toNat) (ofT h_x (by omega) (by omega)) ?_
                refine lv_iload xx xb dX2_two_68 (lv_at hl 1 rfl) ?_
                refine lv_iload_n xx xb dX2_two_70 rfl (lv_at hl 7 rfl) ?_
                refine re_i (nI yz.toNat) (ofT h_y (by omega) (by omega)) ?_
                refine lv_iload xx xb dX2_two_71 (lv_at hl 0 rfl) ?_
                refine lv_iload_n xx xb dX2_two_73 rfl (lv_at hl 8 rfl) ?_
                refine re_i (nI nz.toNat) (ofT h_n (by omega) (by omega)) ?_
                have hM := kX2_standingPulled l G h0 a1 a2 a3 a4 a5 a6 a7 a8 im lm rm pl sd R (itF (spF R xz.toNat 1 yz.toNat 0) nz.toNat) xz.toNat 0 yz.toNat 1 nz.toNat (by first | assumption | omega) (by first | assumption | omega) (by first | assumption | omega) (by first | assumption | omega) (by first | assumption | omega) (by first | assumption | omega) (by first | assumption | omega)
                refine cv_i C hw hM yvX2_standingPulled ml_X2_177 0 rfl rfl rfl [0, 1, 2] rfl rfl (fun _ => (rfl : ([h0, a1, a2] : List Nat) = [h0, a1, a2])) (by decide) ⟨Nat.zero_le _, Nat.zero_le _⟩ hl.1 rfl (Nat.le_of_ble_eq_true rfl) dX2_two_74 (fun r _ H locs hr hw => ?_)
                have hw : Wd G (fA [(h0, .inr (2, [.ref a1, .ref a2, .ref a3, .ref a4, .int (nI im), .ref a5, .ref a6, .ref a7, .int (nI lm), .int (nI rm), .int (nI pl), .ref a8, .int sd])), (a1, aI G 54 (fl R)), (a2, aI G 54 (fl Rm)), (a7, aI G 7 (cN rf))]) s [(h0, .inr (2, [.ref a1, .ref a2, .ref a3, .ref a4, .int (nI im), .ref a5, .ref a6, .ref a7, .int (nI lm), .int (nI rm), .int (nI pl), .ref a8, .int sd])), (a1, aI G 54 (fl R)), (a2, aI G 54 (fl (itF (spF R xz.toNat 0 yz.toNat 1) nz.toNat))), (a7, aI G 7 (cN rf))] H locs := hw
                subst hr
                refine re_i (nI (twS R xz.toNat yz.toNat nz.toNat 0 1)) rfl ?_
                refine lv_istore (lv' := [(8, .int (nI (twS R xz.toNat yz.toNat nz.toNat 0 1))), (7, .int (nI 1)), (6, .int (nI 0)), (5, .int (nI 1)), (4, .int (nG (wbN nz 99))), (0, .ref h0), (1, .int x), (2, .int y), (3, .int n)]) xx xb dX2_two_77 hl (by decide) rfl (fun ls hl => ?_)
                refine lv_aload_n xx xb dX2_two_79 rfl (lv_at hl 5 rfl) ?_
                refine lv_iload_n xx xb dX2_two_80 rfl (lv_at hl 6 rfl) ?_
                refine re_i (nI xz.toNat) (ofT h_x (by omega) (by omega)) ?_
                refine lv_iconst (v := nI 1) xx xb dX2_two_81 (by decide) ?_
                refine lv_iload xx xb dX2_two_82 (lv_at hl 2 rfl) ?_
                refine lv_isub xx xb dX2_two_84 ?_
                refine re_i (nI 1) (by decide +kernel) ?_
                refine lv_iload_n xx xb dX2_two_85 rfl (lv_at hl 7 rfl) ?_
                refine re_i (nI yz.toNat) (ofT h_y (by omega) (by omega)) ?_
                refine lv_iload xx xb dX2_two_86 (lv_at hl 1 rfl) ?_
                refine lv_iload_n xx xb dX2_two_88 rfl (lv_at hl 8 rfl) ?_
                refine re_i (nI nz.toNat) (ofT h_n (by omega) (by omega)) ?_
                have hM := kX2_standingPulled l G h0 a1 a2 a3 a4 a5 a6 a7 a8 im lm rm pl sd R (itF (spF R xz.toNat 0 yz.toNat 1) nz.toNat) xz.toNat 1 yz.toNat 1 nz.toNat (by first | assumption | omega) (by first | assumption | omega) (by first | assumption | omega) (by first | assumption | omega) (by first | assumption | omega) (by first | assumption | omega) (by first | assumption | omega)
                refine cv_i C hw hM yvX2_standingPulled ml_X2_177 0 rfl rfl rfl [0, 1, 2] rfl rfl (fun _ => (rfl : ([h0, a1, a2] : List Nat) = [h0, a1, a2])) (by decide) ⟨Nat.zero_le _, Nat.zero_le _⟩ hl.1 rfl (Nat.le_of_ble_eq_true rfl) dX2_two_89 (fun r _ H locs hr hw => ?_)
                have hw : Wd G (fA [(h0, .inr (2, [.ref a1, .ref a2, .ref a3, .ref a4, .int (nI im), .ref a5, .ref a6, .ref a7, .int (nI lm), .int (nI rm), .int (nI pl), .ref a8, .int sd])), (a1, aI G 54 (fl R)), (a2, aI G 54 (fl Rm)), (a7, aI G 7 (cN rf))]) s [(h0, .inr (2, [.ref a1, .ref a2, .ref a3, .ref a4, .int (nI im), .ref a5, .ref a6, .ref a7, .int (nI lm), .int (nI rm), .int (nI pl), .ref a8, .int sd])), (a1, aI G 54 (fl R)), (a2, aI G 54 (fl (itF (spF R xz.toNat 1 yz.toNat 1) nz.toNat))), (a7, aI G 7 (cN rf))] H locs := hw
                subst hr
                refine re_i (nI (twS R xz.toNat yz.toNat nz.toNat 1 1)) rfl ?_
                refine lv_iload xx xb dX2_two_92 (lv_at hl 0 rfl) ?_
                refine lv_icmp_gt (tgt := 124) xx xb dX2_two_94 (by decide) (fun c_94 => ?_) (fun c_94 => ?_)
                · skip
                  have c_94 := lt_c (tN (by omega)) (tN (by omega)) c_94
                  refine lv_iinc (v := nI 2) (lv' := [(5, .int (nI 2)), (8, .int (nI (twS R xz.toNat yz.toNat nz.toNat 0 1))), (7, .int (nI 1)), (6, .int (nI 0)), (4, .int (nG (wbN nz 99))), (0, .ref h0), (1, .int x), (2, .int y), (3, .int n)]) xx xb dX2_two_124 hl (k := 3) rfl rfl (by decide) rfl (fun ls hl => ?_)
                  refine lv_goto (tgt := 48) xx xb dX2_two_127 (by decide) ?_
                  refine lv_iload xx xb dX2_two_48 (lv_at hl 0 rfl) ?_
                  refine lv_iconst (v := nI 4) xx xb dX2_two_50 (by decide) ?_
                  refine lv_icmp_ge (tgt := 130) xx xb dX2_two_51 (by decide) (fun c_51 => ?_) (fun c_51 => ?_)
                  · skip
                    exact absurd c_51 (by decide)
                  · skip
                    refine lv_iload xx xb dX2_two_54 (lv_at hl 0 rfl) ?_
                    refine lv_iconst (v := nI 2) xx xb dX2_two_56 (by decide) ?_
                    refine lv_idiv xx xb dX2_two_57 (by decide +kernel) ?_
                    refine re_i (nI 1) (by decide +kernel) ?_
                    refine lv_istore (lv' := [(6, .int (nI 1)), (5, .int (nI 2)), (8, .int (nI (twS R xz.toNat yz.toNat nz.toNat 0 1))), (7, .int (nI 1)), (4, .int (nG (wbN nz 99))), (0, .ref h0), (1, .int x), (2, .int y), (3, .int n)]) xx xb dX2_two_58 hl (by decide) rfl (fun ls hl => ?_)
                    refine lv_iload xx xb dX2_two_60 (lv_at hl 1 rfl) ?_
                    refine lv_iconst (v := nI 2) xx xb dX2_two_62 (by decide) ?_
                    refine lv_irem xx xb dX2_two_63 (by decide +kernel) ?_
                    refine re_i (nI 0) (by decide +kernel) ?_
                    refine lv_istore (lv' := [(7, .int (nI 0)), (6, .int (nI 1)), (5, .int (nI 2)), (8, .int (nI (twS R xz.toNat yz.toNat nz.toNat 0 1))), (4, .int (nG (wbN nz 99))), (0, .ref h0), (1, .int x), (2, .int y), (3, .int n)]) xx xb dX2_two_64 hl (by decide) rfl (fun ls hl => ?_)
                    refine lv_aload_n xx xb dX2_two_66 rfl (lv_at hl 5 rfl) ?_
                    refine lv_iload_n xx xb dX2_two_67 rfl (lv_at hl 6 rfl) ?_
                    refine re_i (nI xz.toNat) (ofT h_x (by omega) (by omega)) ?_
                    refine lv_iload xx xb dX2_two_68 (lv_at hl 1 rfl) ?_
                    refine lv_iload_n xx xb dX2_two_70 rfl (lv_at hl 7 rfl) ?_
                    refine re_i (nI yz.toNat) (ofT h_y (by omega) (by omega)) ?_
                    refine lv_iload xx xb dX2_two_71 (lv_at hl 0 rfl) ?_
                    refine lv_iload_n xx xb dX2_two_73 rfl (lv_at hl 8 rfl) ?_
                    refine re_i (nI nz.toNat) (ofT h_n (by omega) (by omega)) ?_
                    have hM := kX2_standingPulled l G h0 a1 a2 a3 a4 a5 a6 a7 a8 im lm rm pl sd R (itF (spF R xz.toNat 1 yz.toNat 1) nz.toNat) xz.toNat 1 yz.toNat 0 nz.toNat (by first | assumption | omega) (by first | assumption | omega) (by first | assumption | omega) (by first | assumption | omega) (by first | assumption | omega) (by first | assumption | omega) (by first | assumption | omega)
                    refine cv_i C hw hM yvX2_standingPulled ml_X2_177 0 rfl rfl rfl [0, 1, 2] rfl rfl (fun _ => (rfl : ([h0, a1, a2] : List Nat) = [h0, a1, a2])) (by decide) ⟨Nat.zero_le _, Nat.zero_le _⟩ hl.1 rfl (Nat.le_of_ble_eq_true rfl) dX2_two_74 (fun r _ H locs hr hw => ?_)
                    have hw : Wd G (fA [(h0, .inr (2, [.ref a1, .ref a2, .ref a3, .ref a4, .int (nI im), .ref a5, .ref a6, .ref a7, .int (nI lm), .int (nI rm), .int (nI pl), .ref a8, .int sd])), (a1, aI G 54 (fl R)), (a2, aI G 54 (fl Rm)), (a7, aI G 7 (cN rf))]) s [(h0, .inr (2, [.ref a1, .ref a2, .ref a3, .ref a4, .int (nI im), .ref a5, .ref a6, .ref a7, .int (nI lm), .int (nI rm), .int (nI pl), .ref a8, .int sd])), (a1, aI G 54 (fl R)), (a2, aI G 54 (fl (itF (spF R xz.toNat 1 yz.toNat 0) nz.toNat))), (a7, aI G 7 (cN rf))] H locs := hw
                    subst hr
                    refine re_i (nI (twS R xz.toNat yz.toNat nz.toNat 1 0)) rfl ?_
                    refine lv_istore (lv' := [(8, .int (nI (twS R xz.toNat yz.toNat nz.toNat 1 0))), (7, .int (nI 0)), (6, .int (nI 1)), (5, .int (nI 2)), (4, .int (nG (wbN nz 99))), (0, .ref h0), (1, .int x), (2, .int y), (3, .int n)]) xx xb dX2_two_77 hl (by decide) rfl (fun ls hl => ?_)
                    refine lv_aload_n xx xb dX2_two_79 rfl (lv_at hl 5 rfl) ?_
                    refine lv_iload_n xx xb dX2_two_80 rfl (lv_at hl 6 rfl) ?_
                    refine re_i (nI xz.toNat) (ofT h_x (by omega) (by omega)) ?_
                    refine lv_iconst (v := nI 1) xx xb dX2_two_81 (by decide) ?_
                    refine lv_iload xx xb dX2_two_82 (lv_at hl 2 rfl) ?_
                    refine lv_isub xx xb dX2_two_84 ?_
                    refine re_i (nI 0) (by decide +kernel) ?_
                    refine lv_iload_n xx xb dX2_two_85 rfl (lv_at hl 7 rfl) ?_
                    refine re_i (nI yz.toNat) (ofT h_y (by omega) (by omega)) ?_
                    refine lv_iload xx xb dX2_two_86 (lv_at hl 1 rfl) ?_
                    refine lv_iload_n xx xb dX2_two_88 rfl (lv_at hl 8 rfl) ?_
                    refine re_i (nI nz.toNat) (ofT h_n (by omega) (by omega)) ?_
                    have hM := kX2_standingPulled l G h0 a1 a2 a3 a4 a5 a6 a7 a8 im lm rm pl sd R (itF (spF R xz.toNat 1 yz.toNat 0) nz.toNat) xz.toNat 0 yz.toNat 0 nz.toNat (by first | assumption | omega) (by first | assumption | omega) (by first | assumption | omega) (by first | assumption | omega) (by first | assumption | omega) (by first | assumption | omega) (by first | assumption | omega)
                    refine cv_i C hw hM yvX2_standingPulled ml_X2_177 0 rfl rfl rfl [0, 1, 2] rfl rfl (fun _ => (rfl : ([h0, a1, a2] : List Nat) = [h0, a1, a2])) (by decide) ⟨Nat.zero_le _, Nat.zero_le _⟩ hl.1 rfl (Nat.le_of_ble_eq_true rfl) dX2_two_89 (fun r _ H locs hr hw => ?_)
                    have hw : Wd G (fA [(h0, .inr (2, [.ref a1, .ref a2, .ref a3, .ref a4, .int (nI im), .ref a5, .ref a6, .ref a7, .int (nI lm), .int (nI rm), .int (nI pl), .ref a8, .int sd])), (a1, aI G 54 (fl R)), (a2, aI G 54 (fl Rm)), (a7, aI G 7 (cN rf))]) s [(h0, .inr (2, [.ref a1, .ref a2, .ref a3, .ref a4, .int (nI im), .ref a5, .ref a6, .ref a7, .int (nI lm), .int (nI rm), .int (nI pl), .ref a8, .int sd])), (a1, aI G 54 (fl R)), (a2, aI G 54 (fl (itF (spF R xz.toNat 0 yz.toNat 0) nz.toNat))), (a7, aI G 7 (cN rf))] H locs := hw
                    subst hr
                    refine re_i (nI (twS R xz.toNat yz.toNat nz.toNat 0 0)) rfl ?_
                    refine lv_iload xx xb dX2_two_92 (lv_at hl 0 rfl) ?_
                    refine lv_icmp_gt (tgt := 124) xx xb dX2_two_94 (by decide) (fun c_94 => ?_) (fun c_94 => ?_)
                    · skip
                      have c_94 := lt_c (tN (by omega)) (tN (by omega)) c_94
                      refine lv_iinc (v := nI 3) (lv' := [(5, .int (nI 3)), (8, .int (nI (twS R xz.toNat yz.toNat nz.toNat 1 0))), (7, .int (nI 0)), (6, .int (nI 1)), (4, .int (nG (wbN nz 99))), (0, .ref h0), (1, .int x), (2, .int y), (3, .int n)]) xx xb dX2_two_124 hl (k := 3) rfl rfl (by decide) rfl (fun ls hl => ?_)
                      refine lv_goto (tgt := 48) xx xb dX2_two_127 (by decide) ?_
                      refine lv_iload xx xb dX2_two_48 (lv_at hl 0 rfl) ?_
                      refine lv_iconst (v := nI 4) xx xb dX2_two_50 (by decide) ?_
                      refine lv_icmp_ge (tgt := 130) xx xb dX2_two_51 (by decide) (fun c_51 => ?_) (fun c_51 => ?_)
                      · skip
                        exact absurd c_51 (by decide)
                      · skip
                        refine lv_iload xx xb dX2_two_54 (lv_at hl 0 rfl) ?_
                        refine lv_iconst (v := nI 2) xx xb dX2_two_56 (by decide) ?_
                        refine lv_idiv xx xb dX2_two_57 (by decide +kernel) ?_
                        refine re_i (nI 1) (by decide +kernel) ?_
                        refine lv_istore (lv' := [(6, .int (nI 1)), (5, .int (nI 3)), (8, .int (nI (twS R xz.toNat yz.toNat nz.toNat 1 0))), (7, .int (nI 0)), (4, .int (nG (wbN nz 99))), (0, .ref h0), (1, .int x), (2, .int y), (3, .int n)]) xx xb dX2_two_58 hl (by decide) rfl (fun ls hl => ?_)
                        refine lv_iload xx xb dX2_two_60 (lv_at hl 1 rfl) ?_
                        refine lv_iconst (v := nI 2) xx xb dX2_two_62 (by decide) ?_
                        refine lv_irem xx xb dX2_two_63 (by decide +kernel) ?_
                        refine re_i (nI 1) (by decide +kernel) ?_
                        refine lv_istore (lv' := [(7, .int (nI 1)), (6, .int (nI 1)), (5, .int (nI 3)), (8, .int (nI (twS R xz.toNat yz.toNat nz.toNat 1 0))), (4, .int (nG (wbN nz 99))), (0, .ref h0), (1, .int x), (2, .int y), (3, .int n)]) xx xb dX2_two_64 hl (by decide) rfl (fun ls hl => ?_)
                        refine lv_aload_n xx xb dX2_two_66 rfl (lv_at hl 5 rfl) ?_
                        refine lv_iload_n xx xb dX2_two_67 rfl (lv_at hl 6 rfl) ?_
                        refine re_i (nI xz.toNat) (ofT h_x (by omega) (by omega)) ?_
                        refine lv_iload xx xb dX2_two_68 (lv_at hl 1 rfl) ?_
                        refine lv_iload_n xx xb dX2_two_70 rfl (lv_at hl 7 rfl) ?_
                        refine re_i (nI yz.toNat) (ofT h_y (by omega) (by omega)) ?_
                        refine lv_iload xx xb dX2_two_71 (lv_at hl 0 rfl) ?_
                        refine lv_iload_n xx xb dX2_two_73 rfl (lv_at hl 8 rfl) ?_
                        refine re_i (nI nz.toNat) (ofT h_n (by omega) (by omega)) ?_
                        have hM := kX2_standingPulled l G h0 a1 a2 a3 a4 a5 a6 a7 a8 im lm rm pl sd R (itF (spF R xz.toNat 0 yz.toNat 0) nz.toNat) xz.toNat 1 yz.toNat 1 nz.toNat (by first | assumption | omega) (by first | assumption | omega) (by first | assumption | omega) (by first | assumption | omega) (by first | assumption | omega) (by first | assumption | omega) (by first | assumption | omega)
                        refine cv_i C hw hM yvX2_standingPulled ml_X2_177 0 rfl rfl rfl [0, 1, 2] rfl rfl (fun _ => (rfl : ([h0, a1, a2] : List Nat) = [h0, a1, a2])) (by decide) ⟨Nat.zero_le _, Nat.zero_le _⟩ hl.1 rfl (Nat.le_of_ble_eq_true rfl) dX2_two_74 (fun r _ H locs hr hw => ?_)
                        have hw : Wd G (fA [(h0, .inr (2, [.ref a1, .ref a2, .ref a3, .ref a4, .int (nI im), .ref a5, .ref a6, .ref a7, .int (nI lm), .int (nI rm), .int (nI pl), .ref a8, .int sd])), (a1, aI G 54 (fl R)), (a2, aI G 54 (fl Rm)), (a7, aI G 7 (cN rf))]) s [(h0, .inr (2, [.ref a1, .ref a2, .ref a3, .ref a4, .int (nI im), .ref a5, .ref a6, .ref a7, .int (nI lm), .int (nI rm), .int (nI pl), .ref a8, .int sd])), (a1, aI G 54 (fl R)), (a2, aI G 54 (fl (itF (spF R xz.toNat 1 yz.toNat 1) nz.toNat))), (a7, aI G 7 (cN rf))] H locs := hw
                        subst hr
                        refine re_i (nI (twS R xz.toNat yz.toNat nz.toNat 1 1)) rfl ?_
                        refine lv_istore (lv' := [(8, .int (nI (twS R xz.toNat yz.toNat nz.toNat 1 1))), (7, .int (nI 1)), (6, .int (nI 1)), (5, .int (nI 3)), (4, .int (nG (wbN nz 99))), (0, .ref h0), (1, .int x), (2, .int y), (3, .int n)]) xx xb dX2_two_77 hl (by decide) rfl (fun ls hl => ?_)
                        refine lv_aload_n xx xb dX2_two_79 rfl (lv_at hl 5 rfl) ?_
                        refine lv_iload_n xx xb dX2_two_80 rfl (lv_at hl 6 rfl) ?_
                        refine re_i (nI xz.toNat) (ofT h_x (by omega) (by omega)) ?_
                        refine lv_iconst (v := nI 1) xx xb dX2_two_81 (by decide) ?_
                        refine lv_iload xx xb dX2_two_82 (lv_at hl 2 rfl) ?_
                        refine lv_isub xx xb dX2_two_84 ?_
                        refine re_i (nI 0) (by decide +kernel) ?_
                        refine lv_iload_n xx xb dX2_two_85 rfl (lv_at hl 7 rfl) ?_
                        refine re_i (nI yz.toNat) (ofT h_y (by omega) (by omega)) ?_
                        refine lv_iload xx xb dX2_two_86 (lv_at hl 1 rfl) ?_
                        refine lv_iload_n xx xb dX2_two_88 rfl (lv_at hl 8 rfl) ?_
                        refine re_i (nI nz.toNat) (ofT h_n (by omega) (by omega)) ?_
                        have hM := kX2_standingPulled l G h0 a1 a2 a3 a4 a5 a6 a7 a8 im lm rm pl sd R (itF (spF R xz.toNat 1 yz.toNat 1) nz.toNat) xz.toNat 0 yz.toNat 1 nz.toNat (by first | assumption | omega) (by first | assumption | omega) (by first | assumption | omega) (by first | assumption | omega) (by first | assumption | omega) (by first | assumption | omega) (by first | assumption | omega)
                        refine cv_i C hw hM yvX2_standingPulled ml_X2_177 0 rfl rfl rfl [0, 1, 2] rfl rfl (fun _ => (rfl : ([h0, a1, a2] : List Nat) = [h0, a1, a2])) (by decide) ⟨Nat.zero_le _, Nat.zero_le _⟩ hl.1 rfl (Nat.le_of_ble_eq_true rfl) dX2_two_89 (fun r _ H locs hr hw => ?_)
                        have hw : Wd G (fA [(h0, .inr (2, [.ref a1, .ref a2, .ref a3, .ref a4, .int (nI im), .ref a5, .ref a6, .ref a7, .int (nI lm), .int (nI rm), .int (nI pl), .ref a8, .int sd])), (a1, aI G 54 (fl R)), (a2, aI G 54 (fl Rm)), (a7, aI G 7 (cN rf))]) s [(h0, .inr (2, [.ref a1, .ref a2, .ref a3, .ref a4, .int (nI im), .ref a5, .ref a6, .ref a7, .int (nI lm), .int (nI rm), .int (nI pl), .ref a8, .int sd])), (a1, aI G 54 (fl R)), (a2, aI G 54 (fl (itF (spF R xz.toNat 0 yz.toNat 1) nz.toNat))), (a7, aI G 7 (cN rf))] H locs := hw
                        subst hr
                        refine re_i (nI (twS R xz.toNat yz.toNat nz.toNat 0 1)) rfl ?_
                        refine lv_iload xx xb dX2_two_92 (lv_at hl 0 rfl) ?_
                        refine lv_icmp_gt (tgt := 124) xx xb dX2_two_94 (by decide) (fun c_94 => ?_) (fun c_94 => ?_)
                        · skip
                          have c_94 := lt_c (tN (by omega)) (tN (by omega)) c_94
                          refine lv_iinc (v := nI 4) (lv' := [(5, .int (nI 4)), (8, .int (nI (twS R xz.toNat yz.toNat nz.toNat 1 1))), (7, .int (nI 1)), (6, .int (nI 1)), (4, .int (nG (wbN nz 99))), (0, .ref h0), (1, .int x), (2, .int y), (3, .int n)]) xx xb dX2_two_124 hl (k := 3) rfl rfl (by decide) rfl (fun ls hl => ?_)
                          refine lv_goto (tgt := 48) xx xb dX2_two_127 (by decide) ?_
                          refine lv_iload xx xb dX2_two_48 (lv_at hl 0 rfl) ?_
                          refine lv_iconst (v := nI 4) xx xb dX2_two_50 (by decide) ?_
                          refine lv_icmp_ge (tgt := 130) xx xb dX2_two_51 (by decide) (fun c_51 => ?_) (fun c_51 => ?_)
                          · skip
                            refine lv_bipush (v := (-9)) xx xb dX2_two_130 (by decide) ?_
                            refine re_i (vTwo R xz.toNat yz.toNat nz.toNat) (by unfold vTwo; first | (rw [if_pos (by omega)]; done) | (rw [if_neg (by omega), if_pos (by omega)]; done) | (rw [if_neg (by omega), if_neg (by omega), if_pos (by omega)]; done) | (rw [if_neg (by omega), if_neg (by omega), if_neg (by omega), if_pos (by omega)]; done) | (rw [if_neg (by omega), if_neg (by omega), if_neg (by omega), if_neg (by omega)]; done)) ?_
                            have hc : cTwo R xz yz nz = 0 := by unfold cTwo; (repeat' split) <;> omega
                            exact rt_i C hw (itF (spF R xz.toNat 0 yz.toNat 1) nz.toNat) (by exact (anI_0 hc _).symm) (by rw [rfU_0 hc]) dX2_two_132
                          · skip
                            exact absurd (by decide) c_51
                        · skip
                          have c_94 := nlt_c (tN (by omega)) (tN (by omega)) c_94
                          refine lv_aload_n xx xb dX2_two_97 rfl (lv_at hl 5 rfl) ?_
                          refine lv_iload_n xx xb dX2_two_98 rfl (lv_at hl 6 rfl) ?_
                          refine re_i (nI xz.toNat) (ofT h_x (by omega) (by omega)) ?_
                          refine lv_iload xx xb dX2_two_99 (lv_at hl 2 rfl) ?_
                          refine lv_iload_n xx xb dX2_two_101 rfl (lv_at hl 7 rfl) ?_
                          refine re_i (nI yz.toNat) (ofT h_y (by omega) (by omega)) ?_
                          refine lv_iconst (v := nI 1) xx xb dX2_two_102 (by decide) ?_
                          refine lv_iload xx xb dX2_two_103 (lv_at hl 1 rfl) ?_
                          refine lv_isub xx xb dX2_two_105 ?_
                          refine re_i (nI 0) (by decide +kernel) ?_
                          refine lv_iload_n xx xb dX2_two_106 rfl (lv_at hl 8 rfl) ?_
                          refine re_i (nI nz.toNat) (ofT h_n (by omega) (by omega)) ?_
                          have hM := kX2_standingPulled l G h0 a1 a2 a3 a4 a5 a6 a7 a8 im lm rm pl sd R (itF (spF R xz.toNat 0 yz.toNat 1) nz.toNat) xz.toNat 1 yz.toNat 0 nz.toNat (by first | assumption | omega) (by first | assumption | omega) (by first | assumption | omega) (by first | assumption | omega) (by first | assumption | omega) (by first | assumption | omega) (by first | assumption | omega)
                          refine cv_i C hw hM yvX2_standingPulled ml_X2_177 0 rfl rfl rfl [0, 1, 2] rfl rfl (fun _ => (rfl : ([h0, a1, a2] : List Nat) = [h0, a1, a2])) (by decide) ⟨Nat.zero_le _, Nat.zero_le _⟩ hl.1 rfl (Nat.le_of_ble_eq_true rfl) dX2_two_107 (fun r _ H locs hr hw => ?_)
                          have hw : Wd G (fA [(h0, .inr (2, [.ref a1, .ref a2, .ref a3, .ref a4, .int (nI im), .ref a5, .ref a6, .ref a7, .int (nI lm), .int (nI rm), .int (nI pl), .ref a8, .int sd])), (a1, aI G 54 (fl R)), (a2, aI G 54 (fl Rm)), (a7, aI G 7 (cN rf))]) s [(h0, .inr (2, [.ref a1, .ref a2, .ref a3, .ref a4, .int (nI im), .ref a5, .ref a6, .ref a7, .int (nI lm), .int (nI rm), .int (nI pl), .ref a8, .int sd])), (a1, aI G 54 (fl R)), (a2, aI G 54 (fl (itF (spF R xz.toNat 1 yz.toNat 0) nz.toNat))), (a7, aI G 7 (cN rf))] H locs := hw
                          subst hr
                          refine re_i (nI (twS R xz.toNat yz.toNat nz.toNat 1 0)) rfl ?_
                          refine lv_iload xx xb dX2_two_110 (lv_at hl 0 rfl) ?_
                          refine lv_icmp_lt (tgt := 124) xx xb dX2_two_112 (by decide) (fun c_112 => ?_) (fun c_112 => ?_)
                          · skip
                            have c_112 := lt_c (tN (by omega)) (tN (by omega)) c_112
                            refine lv_iinc (v := nI 4) (lv' := [(5, .int (nI 4)), (8, .int (nI (twS R xz.toNat yz.toNat nz.toNat 1 1))), (7, .int (nI 1)), (6, .int (nI 1)), (4, .int (nG (wbN nz 99))), (0, .ref h0), (1, .int x), (2, .int y), (3, .int n)]) xx xb dX2_two_124 hl (k := 3) rfl rfl (by decide) rfl (fun ls hl => ?_)
                            refine lv_goto (tgt := 48) xx xb dX2_two_127 (by decide) ?_
                            refine lv_iload xx xb dX2_two_48 (lv_at hl 0 rfl) ?_
                            refine lv_iconst (v := nI 4) xx xb dX2_two_50 (by decide) ?_
                            refine lv_icmp_ge (tgt := 130) xx xb dX2_two_51 (by decide) (fun c_51 => ?_) (fun c_51 => ?_)
                            · skip
                              refine lv_bipush (v := (-9)) xx xb dX2_two_130 (by decide) ?_
                              refine re_i (vTwo R xz.toNat yz.toNat nz.toNat) (by unfold vTwo; first | (rw [if_pos (by omega)]; done) | (rw [if_neg (by omega), if_pos (by omega)]; done) | (rw [if_neg (by omega), if_neg (by omega), if_pos (by omega)]; done) | (rw [if_neg (by omega), if_neg (by omega), if_neg (by omega), if_pos (by omega)]; done) | (rw [if_neg (by omega), if_neg (by omega), if_neg (by omega), if_neg (by omega)]; done)) ?_
                              have hc : cTwo R xz yz nz = 0 := by unfold cTwo; (repeat' split) <;> omega
                              exact rt_i C hw (itF (spF R xz.toNat 1 yz.toNat 0) nz.toNat) (by exact (anI_0 hc _).symm) (by rw [rfU_0 hc]) dX2_two_132
                            · skip
                              exact absurd (by decide) c_51
                          · skip
                            have c_112 := nlt_c (tN (by omega)) (tN (by omega)) c_112
                            refine lv_bipush (v := nI 10) xx xb dX2_two_115 (by decide) ?_
                            refine lv_iload xx xb dX2_two_117 (lv_at hl 2 rfl) ?_
                            refine lv_imul xx xb dX2_two_119 ?_
                            refine re_i (nI 10) (by decide +kernel) ?_
                            refine lv_iload xx xb dX2_two_120 (lv_at hl 1 rfl) ?_
                            refine lv_iadd xx xb dX2_two_122 ?_
                            refine re_i (nI 11) (by decide +kernel) ?_
                            refine re_i (vTwo R xz.toNat yz.toNat nz.toNat) (by unfold vTwo; first | (rw [if_pos (by omega)]; done) | (rw [if_neg (by omega), if_pos (by omega)]; done) | (rw [if_neg (by omega), if_neg (by omega), if_pos (by omega)]; done) | (rw [if_neg (by omega), if_neg (by omega), if_neg (by omega), if_pos (by omega)]; done) | (rw [if_neg (by omega), if_neg (by omega), if_neg (by omega), if_neg (by omega)]; done)) ?_
                            have hc : cTwo R xz yz nz = 0 := by unfold cTwo; (repeat' split) <;> omega
                            exact rt_i C hw (itF (spF R xz.toNat 1 yz.toNat 0) nz.toNat) (by exact (anI_0 hc _).symm) (by rw [rfU_0 hc]) dX2_two_123
                    · skip
                      have c_94 := nlt_c (tN (by omega)) (tN (by omega)) c_94
                      refine lv_aload_n xx xb dX2_two_97 rfl (lv_at hl 5 rfl) ?_
                      refine lv_iload_n xx xb dX2_two_98 rfl (lv_at hl 6 rfl) ?_
                      refine re_i (nI xz.toNat) (ofT h_x (by omega) (by omega)) ?_
                      refine lv_iload xx xb dX2_two_99 (lv_at hl 2 rfl) ?_
                      refine lv_iload_n xx xb dX2_two_101 rfl (lv_at hl 7 rfl) ?_
                      refine re_i (nI yz.toNat) (ofT h_y (by omega) (by omega)) ?_
                      refine lv_iconst (v := nI 1) xx xb dX2_two_102 (by decide) ?_
                      refine lv_iload xx xb dX2_two_103 (lv_at hl 1 rfl) ?_
                      refine lv_isub xx xb dX2_two_105 ?_
                      refine re_i (nI 1) (by decide +kernel) ?_
                      refine lv_iload_n xx xb dX2_two_106 rfl (lv_at hl 8 rfl) ?_
                      refine re_i (nI nz.toNat) (ofT h_n (by omega) (by omega)) ?_
                      have hM := kX2_standingPulled l G h0 a1 a2 a3 a4 a5 a6 a7 a8 im lm rm pl sd R (itF (spF R xz.toNat 0 yz.toNat 0) nz.toNat) xz.toNat 1 yz.toNat 1 nz.toNat (by first | assumption | omega) (by first | assumption | omega) (by first | assumption | omega) (by first | assumption | omega) (by first | assumption | omega) (by first | assumption | omega) (by first | assumption | omega)
                      refine cv_i C hw hM yvX2_standingPulled ml_X2_177 0 rfl rfl rfl [0, 1, 2] rfl rfl (fun _ => (rfl : ([h0, a1, a2] : List Nat) = [h0, a1, a2])) (by decide) ⟨Nat.zero_le _, Nat.zero_le _⟩ hl.1 rfl (Nat.le_of_ble_eq_true rfl) dX2_two_107 (fun r _ H locs hr hw => ?_)
                      have hw : Wd G (fA [(h0, .inr (2, [.ref a1, .ref a2, .ref a3, .ref a4, .int (nI im), .ref a5, .ref a6, .ref a7, .int (nI lm), .int (nI rm), .int (nI pl), .ref a8, .int sd])), (a1, aI G 54 (fl R)), (a2, aI G 54 (fl Rm)), (a7, aI G 7 (cN rf))]) s [(h0, .inr (2, [.ref a1, .ref a2, .ref a3, .ref a4, .int (nI im), .ref a5, .ref a6, .ref a7, .int (nI lm), .int (nI rm), .int (nI pl), .ref a8, .int sd])), (a1, aI G 54 (fl R)), (a2, aI G 54 (fl (itF (spF R xz.toNat 1 yz.toNat 1) nz.toNat))), (a7, aI G 7 (cN rf))] H locs := hw
                      subst hr
                      refine re_i (nI (twS R xz.toNat yz.toNat nz.toNat 1 1)) rfl ?_
                      refine lv_iload xx xb dX2_two_110 (lv_at hl 0 rfl) ?_
                      refine lv_icmp_lt (tgt := 124) xx xb dX2_two_112 (by decide) (fun c_112 => ?_) (fun c_112 => ?_)
                      · skip
                        have c_112 := lt_c (tN (by omega)) (tN (by omega)) c_112
                        refine lv_iinc (v := nI 3) (lv' := [(5, .int (nI 3)), (8, .int (nI (twS R xz.toNat yz.toNat nz.toNat 1 0))), (7, .int (nI 0)), (6, .int (nI 1)), (4, .int (nG (wbN nz 99))), (0, .ref h0), (1, .int x), (2, .int y), (3, .int n)]) xx xb dX2_two_124 hl (k := 3) rfl rfl (by decide) rfl (fun ls hl => ?_)
                        refine lv_goto (tgt := 48) xx xb dX2_two_127 (by decide) ?_
                        refine lv_iload xx xb dX2_two_48 (lv_at hl 0 rfl) ?_
                        refine lv_iconst (v := nI 4) xx xb dX2_two_50 (by decide) ?_
                        refine lv_icmp_ge (tgt := 130) xx xb dX2_two_51 (by decide) (fun c_51 => ?_) (fun c_51 => ?_)
                        · skip
                          exact absurd c_51 (by decide)
                        · skip
                          refine lv_iload xx xb dX2_two_54 (lv_at hl 0 rfl) ?_
                          refine lv_iconst (v := nI 2) xx xb dX2_two_56 (by decide) ?_
                          refine lv_idiv xx xb dX2_two_57 (by decide +kernel) ?_
                          refine re_i (nI 1) (by decide +kernel) ?_
                          refine lv_istore (lv' := [(6, .int (nI 1)), (5, .int (nI 3)), (8, .int (nI (twS R xz.toNat yz.toNat nz.toNat 1 0))), (7, .int (nI 0)), (4, .int (nG (wbN nz 99))), (0, .ref h0), (1, .int x), (2, .int y), (3, .int n)]) xx xb dX2_two_58 hl (by decide) rfl (fun ls hl => ?_)
                          refine lv_iload xx xb dX2_two_60 (lv_at hl 1 rfl) ?_
                          refine lv_iconst (v := nI 2) xx xb dX2_two_62 (by decide) ?_
                          refine lv_irem xx xb dX2_two_63 (by decide +kernel) ?_
                          refine re_i (nI 1) (by decide +kernel) ?_
                          refine lv_istore (lv' := [(7, .int (nI 1)), (6, .int (nI 1)), (5, .int (nI 3)), (8, .int (nI (twS R xz.toNat yz.toNat nz.toNat 1 0))), (4, .int (nG (wbN nz 99))), (0, .ref h0), (1, .int x), (2, .int y), (3, .int n)]) xx xb dX2_two_64 hl (by decide) rfl (fun ls hl => ?_)
                          refine lv_aload_n xx xb dX2_two_66 rfl (lv_at hl 5 rfl) ?_
                          refine lv_iload_n xx xb dX2_two_67 rfl (lv_at hl 6 rfl) ?_
                          refine re_i (nI xz.toNat) (ofT h_x (by omega) (by omega)) ?_
                          refine lv_iload xx xb dX2_two_68 (lv_at hl 1 rfl) ?_
                          refine lv_iload_n xx xb dX2_two_70 rfl (lv_at hl 7 rfl) ?_
                          refine re_i (nI yz.toNat) (ofT h_y (by omega) (by omega)) ?_
                          refine lv_iload xx xb dX2_two_71 (lv_at hl 0 rfl) ?_
                          refine lv_iload_n xx xb dX2_two_73 rfl (lv_at hl 8 rfl) ?_
                          refine re_i (nI nz.toNat) (ofT h_n (by omega) (by omega)) ?_
                          have hM := kX2_standingPulled l G h0 a1 a2 a3 a4 a5 a6 a7 a8 im lm rm pl sd R (itF (spF R xz.toNat 1 yz.toNat 1) nz.toNat) xz.toNat 1 yz.toNat 1 nz.toNat (by first | assumption | omega) (by first | assumption | omega) (by first | assumption | omega) (by first | assumption | omega) (by first | assumption | omega) (by first | assumption | omega) (by first | assumption | omega)
                          refine cv_i C hw hM yvX2_standingPulled ml_X2_177 0 rfl rfl rfl [0, 1, 2] rfl rfl (fun _ => (rfl : ([h0, a1, a2] : List Nat) = [h0, a1, a2])) (by decide) ⟨Nat.zero_le _, Nat.zero_le _⟩ hl.1 rfl (Nat.le_of_ble_eq_true rfl) dX2_two_74 (fun r _ H locs hr hw => ?_)
                          have hw : Wd G (fA [(h0, .inr (2, [.ref a1, .ref a2, .ref a3, .ref a4, .int (nI im), .ref a5, .ref a6, .ref a7, .int (nI lm), .int (nI rm), .int (nI pl), .ref a8, .int sd])), (a1, aI G 54 (fl R)), (a2, aI G 54 (fl Rm)), (a7, aI G 7 (cN rf))]) s [(h0, .inr (2, [.ref a1, .ref a2, .ref a3, .ref a4, .int (nI im), .ref a5, .ref a6, .ref a7, .int (nI lm), .int (nI rm), .int (nI pl), .ref a8, .int sd])), (a1, aI G 54 (fl R)), (a2, aI G 54 (fl (itF (spF R xz.toNat 1 yz.toNat 1) nz.toNat))), (a7, aI G 7 (cN rf))] H locs := hw
                          subst hr
                          refine re_i (nI (twS R xz.toNat yz.toNat nz.toNat 1 1)) rfl ?_
                          refine lv_istore (lv' := [(8, .int (nI (twS R xz.toNat yz.toNat nz.toNat 1 1))), (7, .int (nI 1)), (6, .int (nI 1)), (5, .int (nI 3)), (4, .int (nG (wbN nz 99))), (0, .ref h0), (1, .int x), (2, .int y), (3, .int n)]) xx xb dX2_two_77 hl (by decide) rfl (fun ls hl => ?_)
                          refine lv_aload_n xx xb dX2_two_79 rfl (lv_at hl 5 rfl) ?_
                          refine lv_iload_n xx xb dX2_two_80 rfl (lv_at hl 6 rfl) ?_
                          refine re_i (nI xz.toNat) (ofT h_x (by omega) (by omega)) ?_
                          refine lv_iconst (v := nI 1) xx xb dX2_two_81 (by decide) ?_
                          refine lv_iload xx xb dX2_two_82 (lv_at hl 2 rfl) ?_
                          refine lv_isub xx xb dX2_two_84 ?_
                          refine re_i (nI 0) (by decide +kernel) ?_
                          refine lv_iload_n xx xb dX2_two_85 rfl (lv_at hl 7 rfl) ?_
                          refine re_i (nI yz.toNat) (ofT h_y (by omega) (by omega)) ?_
                          refine lv_iload xx xb dX2_two_86 (lv_at hl 1 rfl) ?_
                          refine lv_iload_n xx xb dX2_two_88 rfl (lv_at hl 8 rfl) ?_
                          refine re_i (nI nz.toNat) (ofT h_n (by omega) (by omega)) ?_
                          have hM := kX2_standingPulled l G h0 a1 a2 a3 a4 a5 a6 a7 a8 im lm rm pl sd R (itF (spF R xz.toNat 1 yz.toNat 1) nz.toNat) xz.toNat 0 yz.toNat 1 nz.toNat (by first | assumption | omega) (by first | assumption | omega) (by first | assumption | omega) (by first | assumption | omega) (by first | assumption | omega) (by first | assumption | omega) (by first | assumption | omega)
                          refine cv_i C hw hM yvX2_standingPulled ml_X2_177 0 rfl rfl rfl [0, 1, 2] rfl rfl (fun _ => (rfl : ([h0, a1, a2] : List Nat) = [h0, a1, a2])) (by decide) ⟨Nat.zero_le _, Nat.zero_le _⟩ hl.1 rfl (Nat.le_of_ble_eq_true rfl) dX2_two_89 (fun r _ H locs hr hw => ?_)
                          have hw : Wd G (fA [(h0, .inr (2, [.ref a1, .ref a2, .ref a3, .ref a4, .int (nI im), .ref a5, .ref a6, .ref a7, .int (nI lm), .int (nI rm), .int (nI pl), .ref a8, .int sd])), (a1, aI G 54 (fl R)), (a2, aI G 54 (fl Rm)), (a7, aI G 7 (cN rf))]) s [(h0, .inr (2, [.ref a1, .ref a2, .ref a3, .ref a4, .int (nI im), .ref a5, .ref a6, .ref a7, .int (nI lm), .int (nI rm), .int (nI pl), .ref a8, .int sd])), (a1, aI G 54 (fl R)), (a2, aI G 54 (fl (itF (spF R xz.toNat 0 yz.toNat 1) nz.toNat))), (a7, aI G 7 (cN rf))] H locs := hw
                          subst hr
                          refine re_i (nI (twS R xz.toNat yz.toNat nz.toNat 0 1)) rfl ?_
                          refine lv_iload xx xb dX2_two_92 (lv_at hl 0 rfl) ?_
                          refine lv_icmp_gt (tgt := 124) xx xb dX2_two_94 (by decide) (fun c_94 => ?_) (fun c_94 => ?_)
                          · skip
                            have c_94 := lt_c (tN (by omega)) (tN (by omega)) c_94
                            refine lv_iinc (v := nI 4) (lv' := [(5, .int (nI 4)), (8, .int (nI (twS R xz.toNat yz.toNat nz.toNat 1 1))), (7, .int (nI 1)), (6, .int (nI 1)), (4, .int (nG (wbN nz 99))), (0, .ref h0), (1, .int x), (2, .int y), (3, .int n)]) xx xb dX2_two_124 hl (k := 3) rfl rfl (by decide) rfl (fun ls hl => ?_)
                            refine lv_goto (tgt := 48) xx xb dX2_two_127 (by decide) ?_
                            refine lv_iload xx xb dX2_two_48 (lv_at hl 0 rfl) ?_
                            refine lv_iconst (v := nI 4) xx xb dX2_two_50 (by decide) ?_
                            refine lv_icmp_ge (tgt := 130) xx xb dX2_two_51 (by decide) (fun c_51 => ?_) (fun c_51 => ?_)
                            · skip
                              refine lv_bipush (v := (-9)) xx xb dX2_two_130 (by decide) ?_
                              refine re_i (vTwo R xz.toNat yz.toNat nz.toNat) (by unfold vTwo; first | (rw [if_pos (by omega)]; done) | (rw [if_neg (by omega), if_pos (by omega)]; done) | (rw [if_neg (by omega), if_neg (by omega), if_pos (by omega)]; done) | (rw [if_neg (by omega), if_neg (by omega), if_neg (by omega), if_pos (by omega)]; done) | (rw [if_neg (by omega), if_neg (by omega), if_neg (by omega), if_neg (by omega)]; done)) ?_
                              have hc : cTwo R xz yz nz = 0 := by unfold cTwo; (repeat' split) <;> omega
                              exact rt_i C hw (itF (spF R xz.toNat 0 yz.toNat 1) nz.toNat) (by exact (anI_0 hc _).symm) (by rw [rfU_0 hc]) dX2_two_132
                            · skip
                              exact absurd (by decide) c_51
                          · skip
                            have c_94 := nlt_c (tN (by omega)) (tN (by omega)) c_94
                            refine lv_aload_n xx xb dX2_two_97 rfl (lv_at hl 5 rfl) ?_
                            refine lv_iload_n xx xb dX2_two_98 rfl (lv_at hl 6 rfl) ?_
                            refine re_i (nI xz.toNat) (ofT h_x (by omega) (by omega)) ?_
                            refine lv_iload xx xb dX2_two_99 (lv_at hl 2 rfl) ?_
                            refine lv_iload_n xx xb dX2_two_101 rfl (lv_at hl 7 rfl) ?_
                            refine re_i (nI yz.toNat) (ofT h_y (by omega) (by omega)) ?_
                            refine lv_iconst (v := nI 1) xx xb dX2_two_102 (by decide) ?_
                            refine lv_iload xx xb dX2_two_103 (lv_at hl 1 rfl) ?_
                            refine lv_isub xx xb dX2_two_105 ?_
                            refine re_i (nI 0) (by decide +kernel) ?_
                            refine lv_iload_n xx xb dX2_two_106 rfl (lv_at hl 8 rfl) ?_
                            refine re_i (nI nz.toNat) (ofT h_n (by omega) (by omega)) ?_
                            have hM := kX2_standingPulled l G h0 a1 a2 a3 a4 a5 a6 a7 a8 im lm rm pl sd R (itF (spF R xz.toNat 0 yz.toNat 1) nz.toNat) xz.toNat 1 yz.toNat 0 nz.toNat (by first | assumption | omega) (by first | assumption | omega) (by first | assumption | omega) (by first | assumption | omega) (by first | assumption | omega) (by first | assumption | omega) (by first | assumption | omega)
                            refine cv_i C hw hM yvX2_standingPulled ml_X2_177 0 rfl rfl rfl [0, 1, 2] rfl rfl (fun _ => (rfl : ([h0, a1, a2] : List Nat) = [h0, a1, a2])) (by decide) ⟨Nat.zero_le _, Nat.zero_le _⟩ hl.1 rfl (Nat.le_of_ble_eq_true rfl) dX2_two_107 (fun r _ H locs hr hw => ?_)
                            have hw : Wd G (fA [(h0, .inr (2, [.ref a1, .ref a2, .ref a3, .ref a4, .int (nI im), .ref a5, .ref a6, .ref a7, .int (nI lm), .int (nI rm), .int (nI pl), .ref a8, .int sd])), (a1, aI G 54 (fl R)), (a2, aI G 54 (fl Rm)), (a7, aI G 7 (cN rf))]) s [(h0, .inr (2, [.ref a1, .ref a2, .ref a3, .ref a4, .int (nI im), .ref a5, .ref a6, .ref a7, .int (nI lm), .int (nI rm), .int (nI pl), .ref a8, .int sd])), (a1, aI G 54 (fl R)), (a2, aI G 54 (fl (itF (spF R xz.toNat 1 yz.toNat 0) nz.toNat))), (a7, aI G 7 (cN rf))] H locs := hw
                            subst hr
                            refine re_i (nI (twS R xz.toNat yz.toNat nz.toNat 1 0)) rfl ?_
                            refine lv_iload xx xb dX2_two_110 (lv_at hl 0 rfl) ?_
                            refine lv_icmp_lt (tgt := 124) xx xb dX2_two_112 (by decide) (fun c_112 => ?_) (fun c_112 => ?_)
                            · skip
                              have c_112 := lt_c (tN (by omega)) (tN (by omega)) c_112
                              refine lv_iinc (v := nI 4) (lv' := [(5, .int (nI 4)), (8, .int (nI (twS R xz.toNat yz.toNat nz.toNat 1 1))), (7, .int (nI 1)), (6, .int (nI 1)), (4, .int (nG (wbN nz 99))), (0, .ref h0), (1, .int x), (2, .int y), (3, .int n)]) xx xb dX2_two_124 hl (k := 3) rfl rfl (by decide) rfl (fun ls hl => ?_)
                              refine lv_goto (tgt := 48) xx xb dX2_two_127 (by decide) ?_
                              refine lv_iload xx xb dX2_two_48 (lv_at hl 0 rfl) ?_
                              refine lv_iconst (v := nI 4) xx xb dX2_two_50 (by decide) ?_
                              refine lv_icmp_ge (tgt := 130) xx xb dX2_two_51 (by decide) (fun c_51 => ?_) (fun c_51 => ?_)
                              · skip
                                refine lv_bipush (v := (-9)) xx xb dX2_two_130 (by decide) ?_
                                refine re_i (vTwo R xz.toNat yz.toNat nz.toNat) (by unfold vTwo; first | (rw [if_pos (by omega)]; done) | (rw [if_neg (by omega), if_pos (by omega)]; done) | (rw [if_neg (by omega), if_neg (by omega), if_pos (by omega)]; done) | (rw [if_neg (by omega), if_neg (by omega), if_neg (by omega), if_pos (by omega)]; done) | (rw [if_neg (by omega), if_neg (by omega), if_neg (by omega), if_neg (by omega)]; done)) ?_
                                have hc : cTwo R xz yz nz = 0 := by unfold cTwo; (repeat' split) <;> omega
                                exact rt_i C hw (itF (spF R xz.toNat 1 yz.toNat 0) nz.toNat) (by exact (anI_0 hc _).symm) (by rw [rfU_0 hc]) dX2_two_132
                              · skip
                                exact absurd (by decide) c_51
                            · skip
                              have c_112 := nlt_c (tN (by omega)) (tN (by omega)) c_112
                              refine lv_bipush (v := nI 10) xx xb dX2_two_115 (by decide) ?_
                              refine lv_iload xx xb dX2_two_117 (lv_at hl 2 rfl) ?_
                              refine lv_imul xx xb dX2_two_119 ?_
                              refine re_i (nI 10) (by decide +kernel) ?_
                              refine lv_iload xx xb dX2_two_120 (lv_at hl 1 rfl) ?_
                              refine lv_iadd xx xb dX2_two_122 ?_
                              refine re_i (nI 11) (by decide +kernel) ?_
                              refine re_i (vTwo R xz.toNat yz.toNat nz.toNat) (by unfold vTwo; first | (rw [if_pos (by omega)]; done) | (rw [if_neg (by omega), if_pos (by omega)]; done) | (rw [if_neg (by omega), if_neg (by omega), if_pos (by omega)]; done) | (rw [if_neg (by omega), if_neg (by omega), if_neg (by omega), if_pos (by omega)]; done) | (rw [if_neg (by omega), if_neg (by omega), if_neg (by omega), if_neg (by omega)]; done)) ?_
                              have hc : cTwo R xz yz nz = 0 := by unfold cTwo; (repeat' split) <;> omega
                              exact rt_i C hw (itF (spF R xz.toNat 1 yz.toNat 0) nz.toNat) (by exact (anI_0 hc _).symm) (by rw [rfU_0 hc]) dX2_two_123
                      · skip
                        have c_112 := nlt_c (tN (by omega)) (tN (by omega)) c_112
                        refine lv_bipush (v := nI 10) xx xb dX2_two_115 (by decide) ?_
                        refine lv_iload xx xb dX2_two_117 (lv_at hl 2 rfl) ?_
                        refine lv_imul xx xb dX2_two_119 ?_
                        refine re_i (nI 10) (by decide +kernel) ?_
                        refine lv_iload xx xb dX2_two_120 (lv_at hl 1 rfl) ?_
                        refine lv_iadd xx xb dX2_two_122 ?_
                        refine re_i (nI 10) (by decide +kernel) ?_
                        refine re_i (vTwo R xz.toNat yz.toNat nz.toNat) (by unfold vTwo; first | (rw [if_pos (by omega)]; done) | (rw [if_neg (by omega), if_pos (by omega)]; done) | (rw [if_neg (by omega), if_neg (by omega), if_pos (by omega)]; done) | (rw [if_neg (by omega), if_neg (by omega), if_neg (by omega), if_pos (by omega)]; done) | (rw [if_neg (by omega), if_neg (by omega), if_neg (by omega), if_neg (by omega)]; done)) ?_
                        have hc : cTwo R xz yz nz = 0 := by unfold cTwo; (repeat' split) <;> omega
                        exact rt_i C hw (itF (spF R xz.toNat 1 yz.toNat 1) nz.toNat) (by exact (anI_0 hc _).symm) (by rw [rfU_0 hc]) dX2_two_123
                · skip
                  have c_94 := nlt_c (tN (by omega)) (tN (by omega)) c_94
                  refine lv_aload_n xx xb dX2_two_97 rfl (lv_at hl 5 rfl) ?_
                  refine lv_iload_n xx xb dX2_two_98 rfl (lv_at hl 6 rfl) ?_
                  refine re_i (nI xz.toNat) (ofT h_x (by omega) (by omega)) ?_
                  refine lv_iload xx xb dX2_two_99 (lv_at hl 2 rfl) ?_
                  refine lv_iload_n xx xb dX2_two_101 rfl (lv_at hl 7 rfl) ?_
                  refine re_i (nI yz.toNat) (ofT h_y (by omega) (by omega)) ?_
                  refine lv_iconst (v := nI 1) xx xb dX2_two_102 (by decide) ?_
                  refine lv_iload xx xb dX2_two_103 (lv_at hl 1 rfl) ?_
                  refine lv_isub xx xb dX2_two_105 ?_
                  refine re_i (nI 0) (by decide +kernel) ?_
                  refine lv_iload_n xx xb dX2_two_106 rfl (lv_at hl 8 rfl) ?_
                  refine re_i (nI nz.toNat) (ofT h_n (by omega) (by omega)) ?_
                  have hM := kX2_standingPulled l G h0 a1 a2 a3 a4 a5 a6 a7 a8 im lm rm pl sd R (itF (spF R xz.toNat 1 yz.toNat 1) nz.toNat) xz.toNat 0 yz.toNat 0 nz.toNat (by first | assumption | omega) (by first | assumption | omega) (by first | assumption | omega) (by first | assumption | omega) (by first | assumption | omega) (by first | assumption | omega) (by first | assumption | omega)
                  refine cv_i C hw hM yvX2_standingPulled ml_X2_177 0 rfl rfl rfl [0, 1, 2] rfl rfl (fun _ => (rfl : ([h0, a1, a2] : List Nat) = [h0, a1, a2])) (by decide) ⟨Nat.zero_le _, Nat.zero_le _⟩ hl.1 rfl (Nat.le_of_ble_eq_true rfl) dX2_two_107 (fun r _ H locs hr hw => ?_)
                  have hw : Wd G (fA [(h0, .inr (2, [.ref a1, .ref a2, .ref a3, .ref a4, .int (nI im), .ref a5, .ref a6, .ref a7, .int (nI lm), .int (nI rm), .int (nI pl), .ref a8, .int sd])), (a1, aI G 54 (fl R)), (a2, aI G 54 (fl Rm)), (a7, aI G 7 (cN rf))]) s [(h0, .inr (2, [.ref a1, .ref a2, .ref a3, .ref a4, .int (nI im), .ref a5, .ref a6, .ref a7, .int (nI lm), .int (nI rm), .int (nI pl), .ref a8, .int sd])), (a1, aI G 54 (fl R)), (a2, aI G 54 (fl (itF (spF R xz.toNat 0 yz.toNat 0) nz.toNat))), (a7, aI G 7 (cN rf))] H locs := hw
                  subst hr
                  refine re_i (nI (twS R xz.toNat yz.toNat nz.toNat 0 0)) rfl ?_
                  refine lv_iload xx xb dX2_two_110 (lv_at hl 0 rfl) ?_
                  refine lv_icmp_lt (tgt := 124) xx xb dX2_two_112 (by decide) (fun c_112 => ?_) (fun c_112 => ?_)
                  · skip
                    have c_112 := lt_c (tN (by omega)) (tN (by omega)) c_112
                    refine lv_iinc (v := nI 2) (lv' := [(5, .int (nI 2)), (8, .int (nI (twS R xz.toNat yz.toNat nz.toNat 0 1))), (7, .int (nI 1)), (6, .int (nI 0)), (4, .int (nG (wbN nz 99))), (0, .ref h0), (1, .int x), (2, .int y), (3, .int n)]) xx xb dX2_two_124 hl (k := 3) rfl rfl (by decide) rfl (fun ls hl => ?_)
                    refine lv_goto (tgt := 48) xx xb dX2_two_127 (by decide) ?_
                    refine lv_iload xx xb dX2_two_48 (lv_at hl 0 rfl) ?_
                    refine lv_iconst (v := nI 4) xx xb dX2_two_50 (by decide) ?_
                    refine lv_icmp_ge (tgt := 130) xx xb dX2_two_51 (by decide) (fun c_51 => ?_) (fun c_51 => ?_)
                    · skip
                      exact absurd c_51 (by decide)
                    · skip
                      refine lv_iload xx xb dX2_two_54 (lv_at hl 0 rfl) ?_
                      refine lv_iconst (v := nI 2) xx xb dX2_two_56 (by decide) ?_
                      refine lv_idiv xx xb dX2_two_57 (by decide +kernel) ?_
                      refine re_i (nI 1) (by decide +kernel) ?_
                      refine lv_istore (lv' := [(6, .int (nI 1)), (5, .int (nI 2)), (8, .int (nI (twS R xz.toNat yz.toNat nz.toNat 0 1))), (7, .int (nI 1)), (4, .int (nG (wbN nz 99))), (0, .ref h0), (1, .int x), (2, .int y), (3, .int n)]) xx xb dX2_two_58 hl (by decide) rfl (fun ls hl => ?_)
                      refine lv_iload xx xb dX2_two_60 (lv_at hl 1 rfl) ?_
                      refine lv_iconst (v := nI 2) xx xb dX2_two_62 (by decide) ?_
                      refine lv_irem xx xb dX2_two_63 (by decide +kernel) ?_
                      refine re_i (nI 0) (by decide +kernel) ?_
                      refine lv_istore (lv' := [(7, .int (nI 0)), (6, .int (nI 1)), (5, .int (nI 2)), (8, .int (nI (twS R xz.toNat yz.toNat nz.toNat 0 1))), (4, .int (nG (wbN nz 99))), (0, .ref h0), (1, .int x), (2, .int y), (3, .int n)]) xx xb dX2_two_64 hl (by decide) rfl (fun ls hl => ?_)
                      refine lv_aload_n xx xb dX2_two_66 rfl (lv_at hl 5 rfl) ?_
                      refine lv_iload_n xx xb dX2_two_67 rfl (lv_at hl 6 rfl) ?_
                      refine re_i (nI xz.toNat) (ofT h_x (by omega) (by omega)) ?_
                      refine lv_iload xx xb dX2_two_68 (lv_at hl 1 rfl) ?_
                      refine lv_iload_n xx xb dX2_two_70 rfl (lv_at hl 7 rfl) ?_
                      refine re_i (nI yz.toNat) (ofT h_y (by omega) (by omega)) ?_
                      refine lv_iload xx xb dX2_two_71 (lv_at hl 0 rfl) ?_
                      refine lv_iload_n xx xb dX2_two_73 rfl (lv_at hl 8 rfl) ?_
                      refine re_i (nI nz.toNat) (ofT h_n (by omega) (by omega)) ?_
                      have hM := kX2_standingPulled l G h0 a1 a2 a3 a4 a5 a6 a7 a8 im lm rm pl sd R (itF (spF R xz.toNat 0 yz.toNat 0) nz.toNat) xz.toNat 1 yz.toNat 0 nz.toNat (by first | assumption | omega) (by first | assumption | omega) (by first | assumption | omega) (by first | assumption | omega) (by first | assumption | omega) (by first | assumption | omega) (by first | assumption | omega)
                      refine cv_i C hw hM yvX2_standingPulled ml_X2_177 0 rfl rfl rfl [0, 1, 2] rfl rfl (fun _ => (rfl : ([h0, a1, a2] : List Nat) = [h0, a1, a2])) (by decide) ⟨Nat.zero_le _, Nat.zero_le _⟩ hl.1 rfl (Nat.le_of_ble_eq_true rfl) dX2_two_74 (fun r _ H locs hr hw => ?_)
                      have hw : Wd G (fA [(h0, .inr (2, [.ref a1, .ref a2, .ref a3, .ref a4, .int (nI im), .ref a5, .ref a6, .ref a7, .int (nI lm), .int (nI rm), .int (nI pl), .ref a8, .int sd])), (a1, aI G 54 (fl R)), (a2, aI G 54 (fl Rm)), (a7, aI G 7 (cN rf))]) s [(h0, .inr (2, [.ref a1, .ref a2, .ref a3, .ref a4, .int (nI im), .ref a5, .ref a6, .ref a7, .int (nI lm), .int (nI rm), .int (nI pl), .ref a8, .int sd])), (a1, aI G 54 (fl R)), (a2, aI G 54 (fl (itF (spF R xz.toNat 1 yz.toNat 0) nz.toNat))), (a7, aI G 7 (cN rf))] H locs := hw
                      subst hr
                      refine re_i (nI (twS R xz.toNat yz.toNat nz.toNat 1 0)) rfl ?_
                      refine lv_istore (lv' := [(8, .int (nI (twS R xz.toNat yz.toNat nz.toNat 1 0))), (7, .int (nI 0)), (6, .int (nI 1)), (5, .int (nI 2)), (4, .int (nG (wbN nz 99))), (0, .ref h0), (1, .int x), (2, .int y), (3, .int n)]) xx xb dX2_two_77 hl (by decide) rfl (fun ls hl => ?_)
                      refine lv_aload_n xx xb dX2_two_79 rfl (lv_at hl 5 rfl) ?_
                      refine lv_iload_n xx xb dX2_two_80 rfl (lv_at hl 6 rfl) ?_
                      refine re_i (nI xz.toNat) (ofT h_x (by omega) (by omega)) ?_
                      refine lv_iconst (v := nI 1) xx xb dX2_two_81 (by decide) ?_
                      refine lv_iload xx xb dX2_two_82 (lv_at hl 2 rfl) ?_
                      refine lv_isub xx xb dX2_two_84 ?_
                      refine re_i (nI 0) (by decide +kernel) ?_
                      refine lv_iload_n xx xb dX2_two_85 rfl (lv_at hl 7 rfl) ?_
                      refine re_i (nI yz.toNat) (ofT h_y (by omega) (by omega)) ?_
                      refine lv_iload xx xb dX2_two_86 (lv_at hl 1 rfl) ?_
                      refine lv_iload_n xx xb dX2_two_88 rfl (lv_at hl 8 rfl) ?_
                      refine re_i (nI nz.toNat) (ofT h_n (by omega) (by omega)) ?_
                      have hM := kX2_standingPulled l G h0 a1 a2 a3 a4 a5 a6 a7 a8 im lm rm pl sd R (itF (spF R xz.toNat 1 yz.toNat 0) nz.toNat) xz.toNat 0 yz.toNat 0 nz.toNat (by first | assumption | omega) (by first | assumption | omega) (by first | assumption | omega) (by first | assumption | omega) (by first | assumption | omega) (by first | assumption | omega) (by first | assumption | omega)
                      refine cv_i C hw hM yvX2_standingPulled ml_X2_177 0 rfl rfl rfl [0, 1, 2] rfl rfl (fun _ => (rfl : ([h0, a1, a2] : List Nat) = [h0, a1, a2])) (by decide) ⟨Nat.zero_le _, Nat.zero_le _⟩ hl.1 rfl (Nat.le_of_ble_eq_true rfl) dX2_two_89 (fun r _ H locs hr hw => ?_)
                      have hw : Wd G (fA [(h0, .inr (2, [.ref a1, .ref a2, .ref a3, .ref a4, .int (nI im), .ref a5, .ref a6, .ref a7, .int (nI lm), .int (nI rm), .int (nI pl), .ref a8, .int sd])), (a1, aI G 54 (fl R)), (a2, aI G 54 (fl Rm)), (a7, aI G 7 (cN rf))]) s [(h0, .inr (2, [.ref a1, .ref a2, .ref a3, .ref a4, .int (nI im), .ref a5, .ref a6, .ref a7, .int (nI lm), .int (nI rm), .int (nI pl), .ref a8, .int sd])), (a1, aI G 54 (fl R)), (a2, aI G 54 (fl (itF (spF R xz.toNat 0 yz.toNat 0) nz.toNat))), (a7, aI G 7 (cN rf))] H locs := hw
                      subst hr
                      refine re_i (nI (twS R xz.toNat yz.toNat nz.toNat 0 0)) rfl ?_
                      refine lv_iload xx xb dX2_two_92 (lv_at hl 0 rfl) ?_
                      refine lv_icmp_gt (tgt := 124) xx xb dX2_two_94 (by decide) (fun c_94 => ?_) (fun c_94 => ?_)
                      · skip
                        have c_94 := lt_c (tN (by omega)) (tN (by omega)) c_94
                        refine lv_iinc (v := nI 3) (lv' := [(5, .int (nI 3)), (8, .int (nI (twS R xz.toNat yz.toNat nz.toNat 1 0))), (7, .int (nI 0)), (6, .int (nI 1)), (4, .int (nG (wbN nz 99))), (0, .ref h0), (1, .int x), (2, .int y), (3, .int n)]) xx xb dX2_two_124 hl (k := 3) rfl rfl (by decide) rfl (fun ls hl => ?_)
                        refine lv_goto (tgt := 48) xx xb dX2_two_127 (by decide) ?_
                        refine lv_iload xx xb dX2_two_48 (lv_at hl 0 rfl) ?_
                        refine lv_iconst (v := nI 4) xx xb dX2_two_50 (by decide) ?_
                        refine lv_icmp_ge (tgt := 130) xx xb dX2_two_51 (by decide) (fun c_51 => ?_) (fun c_51 => ?_)
                        · skip
                          exact absurd c_51 (by decide)
                        · skip
                          refine lv_iload xx xb dX2_two_54 (lv_at hl 0 rfl) ?_
                          refine lv_iconst (v := nI 2) xx xb dX2_two_56 (by decide) ?_
                          refine lv_idiv xx xb dX2_two_57 (by decide +kernel) ?_
                          refine re_i (nI 1) (by decide +kernel) ?_
                          refine lv_istore (lv' := [(6, .int (nI 1)), (5, .int (nI 3)), (8, .int (nI (twS R xz.toNat yz.toNat nz.toNat 1 0))), (7, .int (nI 0)), (4, .int (nG (wbN nz 99))), (0, .ref h0), (1, .int x), (2, .int y), (3, .int n)]) xx xb dX2_two_58 hl (by decide) rfl (fun ls hl => ?_)
                          refine lv_iload xx xb dX2_two_60 (lv_at hl 1 rfl) ?_
                          refine lv_iconst (v := nI 2) xx xb dX2_two_62 (by decide) ?_
                          refine lv_irem xx xb dX2_two_63 (by decide +kernel) ?_
                          refine re_i (nI 1) (by decide +kernel) ?_
                          refine lv_istore (lv' := [(7, .int (nI 1)), (6, .int (nI 1)), (5, .int (nI 3)), (8, .int (nI (twS R xz.toNat yz.toNat nz.toNat 1 0))), (4, .int (nG (wbN nz 99))), (0, .ref h0), (1, .int x), (2, .int y), (3, .int n)]) xx xb dX2_two_64 hl (by decide) rfl (fun ls hl => ?_)
                          refine lv_aload_n xx xb dX2_two_66 rfl (lv_at hl 5 rfl) ?_
                          refine lv_iload_n xx xb dX2_two_67 rfl (lv_at hl 6 rfl) ?_
                          refine re_i (nI xz.toNat) (ofT h_x (by omega) (by omega)) ?_
                          refine lv_iload xx xb dX2_two_68 (lv_at hl 1 rfl) ?_
                          refine lv_iload_n xx xb dX2_two_70 rfl (lv_at hl 7 rfl) ?_
                          refine re_i (nI yz.toNat) (ofT h_y (by omega) (by omega)) ?_
                          refine lv_iload xx xb dX2_two_71 (lv_at hl 0 rfl) ?_
                          refine lv_iload_n xx xb dX2_two_73 rfl (lv_at hl 8 rfl) ?_
                          refine re_i (nI nz.toNat) (ofT h_n (by omega) (by omega)) ?_
                          have hM := kX2_standingPulled l G h0 a1 a2 a3 a4 a5 a6 a7 a8 im lm rm pl sd R (itF (spF R xz.toNat 0 yz.toNat 0) nz.toNat) xz.toNat 1 yz.toNat 1 nz.toNat (by first | assumption | omega) (by first | assumption | omega) (by first | assumption | omega) (by first | assumption | omega) (by first | assumption | omega) (by first | assumption | omega) (by first | assumption | omega)
                          refine cv_i C hw hM yvX2_standingPulled ml_X2_177 0 rfl rfl rfl [0, 1, 2] rfl rfl (fun _ => (rfl : ([h0, a1, a2] : List Nat) = [h0, a1, a2])) (by decide) ⟨Nat.zero_le _, Nat.zero_le _⟩ hl.1 rfl (Nat.le_of_ble_eq_true rfl) dX2_two_74 (fun r _ H locs hr hw => ?_)
                          have hw : Wd G (fA [(h0, .inr (2, [.ref a1, .ref a2, .ref a3, .ref a4, .int (nI im), .ref a5, .ref a6, .ref a7, .int (nI lm), .int (nI rm), .int (nI pl), .ref a8, .int sd])), (a1, aI G 54 (fl R)), (a2, aI G 54 (fl Rm)), (a7, aI G 7 (cN rf))]) s [(h0, .inr (2, [.ref a1, .ref a2, .ref a3, .ref a4, .int (nI im), .ref a5, .ref a6, .ref a7, .int (nI lm), .int (nI rm), .int (nI pl), .ref a8, .int sd])), (a1, aI G 54 (fl R)), (a2, aI G 54 (fl (itF (spF R xz.toNat 1 yz.toNat 1) nz.toNat))), (a7, aI G 7 (cN rf))] H locs := hw
                          subst hr
                          refine re_i (nI (twS R xz.toNat yz.toNat nz.toNat 1 1)) rfl ?_
                          refine lv_istore (lv' := [(8, .int (nI (twS R xz.toNat yz.toNat nz.toNat 1 1))), (7, .int (nI 1)), (6, .int (nI 1)), (5, .int (nI 3)), (4, .int (nG (wbN nz 99))), (0, .ref h0), (1, .int x), (2, .int y), (3, .int n)]) xx xb dX2_two_77 hl (by decide) rfl (fun ls hl => ?_)
                          refine lv_aload_n xx xb dX2_two_79 rfl (lv_at hl 5 rfl) ?_
                          refine lv_iload_n xx xb dX2_two_80 rfl (lv_at hl 6 rfl) ?_
                          refine re_i (nI xz.toNat) (ofT h_x (by omega) (by omega)) ?_
                          refine lv_iconst (v := nI 1) xx xb dX2_two_81 (by decide) ?_
                          refine lv_iload xx xb dX2_two_82 (lv_at hl 2 rfl) ?_
                          refine lv_isub xx xb dX2_two_84 ?_
                          refine re_i (nI 0) (by decide +kernel) ?_
                          refine lv_iload_n xx xb dX2_two_85 rfl (lv_at hl 7 rfl) ?_
                          refine re_i (nI yz.toNat) (ofT h_y (by omega) (by omega)) ?_
                          refine lv_iload xx xb dX2_two_86 (lv_at hl 1 rfl) ?_
                          refine lv_iload_n xx xb dX2_two_88 rfl (lv_at hl 8 rfl) ?_
                          refine re_i (nI nz.toNat) (ofT h_n (by omega) (by omega)) ?_
                          have hM := kX2_standingPulled l G h0 a1 a2 a3 a4 a5 a6 a7 a8 im lm rm pl sd R (itF (spF R xz.toNat 1 yz.toNat 1) nz.toNat) xz.toNat 0 yz.toNat 1 nz.toNat (by first | assumption | omega) (by first | assumption | omega) (by first | assumption | omega) (by first | assumption | omega) (by first | assumption | omega) (by first | assumption | omega) (by first | assumption | omega)
                          refine cv_i C hw hM yvX2_standingPulled ml_X2_177 0 rfl rfl rfl [0, 1, 2] rfl rfl (fun _ => (rfl : ([h0, a1, a2] : List Nat) = [h0, a1, a2])) (by decide) ⟨Nat.zero_le _, Nat.zero_le _⟩ hl.1 rfl (Nat.le_of_ble_eq_true rfl) dX2_two_89 (fun r _ H locs hr hw => ?_)
                          have hw : Wd G (fA [(h0, .inr (2, [.ref a1, .ref a2, .ref a3, .ref a4, .int (nI im), .ref a5, .ref a6, .ref a7, .int (nI lm), .int (nI rm), .int (nI pl), .ref a8, .int sd])), (a1, aI G 54 (fl R)), (a2, aI G 54 (fl Rm)), (a7, aI G 7 (cN rf))]) s [(h0, .inr (2, [.ref a1, .ref a2, .ref a3, .ref a4, .int (nI im), .ref a5, .ref a6, .ref a7, .int (nI lm), .int (nI rm), .int (nI pl), .ref a8, .int sd])), (a1, aI G 54 (fl R)), (a2, aI G 54 (fl (itF (spF R xz.toNat 0 yz.toNat 1) nz.toNat))), (a7, aI G 7 (cN rf))] H locs := hw
                          subst hr
                          refine re_i (nI (twS R xz.toNat yz.toNat nz.toNat 0 1)) rfl ?_
                          refine lv_iload xx xb dX2_two_92 (lv_at hl 0 rfl) ?_
                          refine lv_icmp_gt (tgt := 124) xx xb dX2_two_94 (by decide) (fun c_94 => ?_) (fun c_94 => ?_)
                          · skip
                            have c_94 := lt_c (tN (by omega)) (tN (by omega)) c_94
                            refine lv_iinc (v := nI 4) (lv' := [(5, .int (nI 4)), (8, .int (nI (twS R xz.toNat yz.toNat nz.toNat 1 1))), (7, .int (nI 1)), (6, .int (nI 1)), (4, .int (nG (wbN nz 99))), (0, .ref h0), (1, .int x), (2, .int y), (3, .int n)]) xx xb dX2_two_124 hl (k := 3) rfl rfl (by decide) rfl (fun ls hl => ?_)
                            refine lv_goto (tgt := 48) xx xb dX2_two_127 (by decide) ?_
                            refine lv_iload xx xb dX2_two_48 (lv_at hl 0 rfl) ?_
                            refine lv_iconst (v := nI 4) xx xb dX2_two_50 (by decide) ?_
                            refine lv_icmp_ge (tgt := 130) xx xb dX2_two_51 (by decide) (fun c_51 => ?_) (fun c_51 => ?_)
                            · skip
                              refine lv_bipush (v := (-9)) xx xb dX2_two_130 (by decide) ?_
                              refine re_i (vTwo R xz.toNat yz.toNat nz.toNat) (by unfold vTwo; first | (rw [if_pos (by omega)]; done) | (rw [if_neg (by omega), if_pos (by omega)]; done) | (rw [if_neg (by omega), if_neg (by omega), if_pos (by omega)]; done) | (rw [if_neg (by omega), if_neg (by omega), if_neg (by omega), if_pos (by omega)]; done) | (rw [if_neg (by omega), if_neg (by omega), if_neg (by omega), if_neg (by omega)]; done)) ?_
                              have hc : cTwo R xz yz nz = 0 := by unfold cTwo; (repeat' split) <;> omega
                              exact rt_i C hw (itF (spF R xz.toNat 0 yz.toNat 1) nz.toNat) (by exact (anI_0 hc _).symm) (by rw [rfU_0 hc]) dX2_two_132
                            · skip
                              exact absurd (by decide) c_51
                          · skip
                            have c_94 := nlt_c (tN (by omega)) (tN (by omega)) c_94
                            refine lv_aload_n xx xb dX2_two_97 rfl (lv_at hl 5 rfl) ?_
                            refine lv_iload_n xx xb dX2_two_98 rfl (lv_at hl 6 rfl) ?_
                            refine re_i (nI xz.toNat) (ofT h_x (by omega) (by omega)) ?_
                            refine lv_iload xx xb dX2_two_99 (lv_at hl 2 rfl) ?_
                            refine lv_iload_n xx xb dX2_two_101 rfl (lv_at hl 7 rfl) ?_
                            refine re_i (nI yz.toNat) (ofT h_y (by omega) (by omega)) ?_
                            refine lv_iconst (v := nI 1) xx xb dX2_two_102 (by decide) ?_
                            refine lv_iload xx xb dX2_two_103 (lv_at hl 1 rfl) ?_
                            refine lv_isub xx xb dX2_two_105 ?_
                            refine re_i (nI 0) (by decide +kernel) ?_
                            refine lv_iload_n xx xb dX2_two_106 rfl (lv_at hl 8 rfl) ?_
                            refine re_i (nI nz.toNat) (ofT h_n (by omega) (by omega)) ?_
                            have hM := kX2_standingPulled l G h0 a1 a2 a3 a4 a5 a6 a7 a8 im lm rm pl sd R (itF (spF R xz.toNat 0 yz.toNat 1) nz.toNat) xz.toNat 1 yz.toNat 0 nz.toNat (by first | assumption | omega) (by first | assumption | omega) (by first | assumption | omega) (by first | assumption | omega) (by first | assumption | omega) (by first | assumption | omega) (by first | assumption | omega)
                            refine cv_i C hw hM yvX2_standingPulled ml_X2_177 0 rfl rfl rfl [0, 1, 2] rfl rfl (fun _ => (rfl : ([h0, a1, a2] : List Nat) = [h0, a1, a2])) (by decide) ⟨Nat.zero_le _, Nat.zero_le _⟩ hl.1 rfl (Nat.le_of_ble_eq_true rfl) dX2_two_107 (fun r _ H locs hr hw => ?_)
                            have hw : Wd G (fA [(h0, .inr (2, [.ref a1, .ref a2, .ref a3, .ref a4, .int (nI im), .ref a5, .ref a6, .ref a7, .int (nI lm), .int (nI rm), .int (nI pl), .ref a8, .int sd])), (a1, aI G 54 (fl R)), (a2, aI G 54 (fl Rm)), (a7, aI G 7 (cN rf))]) s [(h0, .inr (2, [.ref a1, .ref a2, .ref a3, .ref a4, .int (nI im), .ref a5, .ref a6, .ref a7, .int (nI lm), .int (nI rm), .int (nI pl), .ref a8, .int sd])), (a1, aI G 54 (fl R)), (a2, aI G 54 (fl (itF (spF R xz.toNat 1 yz.toNat 0) nz.toNat))), (a7, aI G 7 (cN rf))] H locs := hw
                            subst hr
                            refine re_i (nI (twS R xz.toNat yz.toNat nz.toNat 1 0)) rfl ?_
                            refine lv_iload xx xb dX2_two_110 (lv_at hl 0 rfl) ?_
                            refine lv_icmp_lt (tgt := 124) xx xb dX2_two_112 (by decide) (fun c_112 => ?_) (fun c_112 => ?_)
                            · skip
                              have c_112 := lt_c (tN (by omega)) (tN (by omega)) c_112
                              refine lv_iinc (v := nI 4) (lv' := [(5, .int (nI 4)), (8, .int (nI (twS R xz.toNat yz.toNat nz.toNat 1 1))), (7, .int (nI 1)), (6, .int (nI 1)), (4, .int (nG (wbN nz 99))), (0, .ref h0), (1, .int x), (2, .int y), (3, .int n)]) xx xb dX2_two_124 hl (k := 3) rfl rfl (by decide) rfl (fun ls hl => ?_)
                              refine lv_goto (tgt := 48) xx xb dX2_two_127 (by decide) ?_
                              refine lv_iload xx xb dX2_two_48 (lv_at hl 0 rfl) ?_
                              refine lv_iconst (v := nI 4) xx xb dX2_two_50 (by decide) ?_
                              refine lv_icmp_ge (tgt := 130) xx xb dX2_two_51 (by decide) (fun c_51 => ?_) (fun c_51 => ?_)
                              · skip
                                refine lv_bipush (v := (-9)) xx xb dX2_two_130 (by decide) ?_
                                refine re_i (vTwo R xz.toNat yz.toNat nz.toNat) (by unfold vTwo; first | (rw [if_pos (by omega)]; done) | (rw [if_neg (by omega), if_pos (by omega)]; done) | (rw [if_neg (by omega), if_neg (by omega), if_pos (by omega)]; done) | (rw [if_neg (by omega), if_neg (by omega), if_neg (by omega), if_pos (by omega)]; done) | (rw [if_neg (by omega), if_neg (by omega), if_neg (by omega), if_neg (by omega)]; done)) ?_
                                have hc : cTwo R xz yz nz = 0 := by unfold cTwo; (repeat' split) <;> omega
                                exact rt_i C hw (itF (spF R xz.toNat 1 yz.toNat 0) nz.toNat) (by exact (anI_0 hc _).symm) (by rw [rfU_0 hc]) dX2_two_132
                              · skip
                                exact absurd (by decide) c_51
                            · skip
                              have c_112 := nlt_c (tN (by omega)) (tN (by omega)) c_112
                              refine lv_bipush (v := nI 10) xx xb dX2_two_115 (by decide) ?_
                              refine lv_iload xx xb dX2_two_117 (lv_at hl 2 rfl) ?_
                              refine lv_imul xx xb dX2_two_119 ?_
                              refine re_i (nI 10) (by decide +kernel) ?_
                              refine lv_iload xx xb dX2_two_120 (lv_at hl 1 rfl) ?_
                              refine lv_iadd xx xb dX2_two_122 ?_
                              refine re_i (nI 11) (by decide +kernel) ?_
                              refine re_i (vTwo R xz.toNat yz.toNat nz.toNat) (by unfold vTwo; first | (rw [if_pos (by omega)]; done) | (rw [if_neg (by omega), if_pos (by omega)]; done) | (rw [if_neg (by omega), if_neg (by omega), if_pos (by omega)]; done) | (rw [if_neg (by omega), if_neg (by omega), if_neg (by omega), if_pos (by omega)]; done) | (rw [if_neg (by omega), if_neg (by omega), if_neg (by omega), if_neg (by omega)]; done)) ?_
                              have hc : cTwo R xz yz nz = 0 := by unfold cTwo; (repeat' split) <;> omega
                              exact rt_i C hw (itF (spF R xz.toNat 1 yz.toNat 0) nz.toNat) (by exact (anI_0 hc _).symm) (by rw [rfU_0 hc]) dX2_two_123
                      · skip
                        have c_94 := nlt_c (tN (by omega)) (tN (by omega)) c_94
                        refine lv_aload_n xx xb dX2_two_97 rfl (lv_at hl 5 rfl) ?_
                        refine lv_iload_n xx xb dX2_two_98 rfl (lv_at hl 6 rfl) ?_
                        refine re_i (nI xz.toNat) (ofT h_x (by omega) (by omega)) ?_
                        refine lv_iload xx xb dX2_two_99 (lv_at hl 2 rfl) ?_
                        refine lv_iload_n xx xb dX2_two_101 rfl (lv_at hl 7 rfl) ?_
                        refine re_i (nI yz.toNat) (ofT h_y (by omega) (by omega)) ?_
                        refine lv_iconst (v := nI 1) xx xb dX2_two_102 (by decide) ?_
                        refine lv_iload xx xb dX2_two_103 (lv_at hl 1 rfl) ?_
                        refine lv_isub xx xb dX2_two_105 ?_
                        refine re_i (nI 1) (by decide +kernel) ?_
                        refine lv_iload_n xx xb dX2_two_106 rfl (lv_at hl 8 rfl) ?_
                        refine re_i (nI nz.toNat) (ofT h_n (by omega) (by omega)) ?_
                        have hM := kX2_standingPulled l G h0 a1 a2 a3 a4 a5 a6 a7 a8 im lm rm pl sd R (itF (spF R xz.toNat 0 yz.toNat 0) nz.toNat) xz.toNat 1 yz.toNat 1 nz.toNat (by first | assumption | omega) (by first | assumption | omega) (by first | assumption | omega) (by first | assumption | omega) (by first | assumption | omega) (by first | assumption | omega) (by first | assumption | omega)
                        refine cv_i C hw hM yvX2_standingPulled ml_X2_177 0 rfl rfl rfl [0, 1, 2] rfl rfl (fun _ => (rfl : ([h0, a1, a2] : List Nat) = [h0, a1, a2])) (by decide) ⟨Nat.zero_le _, Nat.zero_le _⟩ hl.1 rfl (Nat.le_of_ble_eq_true rfl) dX2_two_107 (fun r _ H locs hr hw => ?_)
                        have hw : Wd G (fA [(h0, .inr (2, [.ref a1, .ref a2, .ref a3, .ref a4, .int (nI im), .ref a5, .ref a6, .ref a7, .int (nI lm), .int (nI rm), .int (nI pl), .ref a8, .int sd])), (a1, aI G 54 (fl R)), (a2, aI G 54 (fl Rm)), (a7, aI G 7 (cN rf))]) s [(h0, .inr (2, [.ref a1, .ref a2, .ref a3, .ref a4, .int (nI im), .ref a5, .ref a6, .ref a7, .int (nI lm), .int (nI rm), .int (nI pl), .ref a8, .int sd])), (a1, aI G 54 (fl R)), (a2, aI G 54 (fl (itF (spF R xz.toNat 1 yz.toNat 1) nz.toNat))), (a7, aI G 7 (cN rf))] H locs := hw
                        subst hr
                        refine re_i (nI (twS R xz.toNat yz.toNat nz.toNat 1 1)) rfl ?_
                        refine lv_iload xx xb dX2_two_110 (lv_at hl 0 rfl) ?_
                        refine lv_icmp_lt (tgt := 124) xx xb dX2_two_112 (by decide) (fun c_112 => ?_) (fun c_112 => ?_)
                        · skip
                          have c_112 := lt_c (tN (by omega)) (tN (by omega)) c_112
                          refine lv_iinc (v := nI 3) (lv' := [(5, .int (nI 3)), (8, .int (nI (twS R xz.toNat yz.toNat nz.toNat 1 0))), (7, .int (nI 0)), (6, .int (nI 1)), (4, .int (nG (wbN nz 99))), (0, .ref h0), (1, .int x), (2, .int y), (3, .int n)]) xx xb dX2_two_124 hl (k := 3) rfl rfl (by decide) rfl (fun ls hl => ?_)
                          refine lv_goto (tgt := 48) xx xb dX2_two_127 (by decide) ?_
                          refine lv_iload xx xb dX2_two_48 (lv_at hl 0 rfl) ?_
                          refine lv_iconst (v := nI 4) xx xb dX2_two_50 (by decide) ?_
                          refine lv_icmp_ge (tgt := 130) xx xb dX2_two_51 (by decide) (fun c_51 => ?_) (fun c_51 => ?_)
                          · skip
                            exact absurd c_51 (by decide)
                          · skip
                            refine lv_iload xx xb dX2_two_54 (lv_at hl 0 rfl) ?_
                            refine lv_iconst (v := nI 2) xx xb dX2_two_56 (by decide) ?_
                            refine lv_idiv xx xb dX2_two_57 (by decide +kernel) ?_
                            refine re_i (nI 1) (by decide +kernel) ?_
                            refine lv_istore (lv' := [(6, .int (nI 1)), (5, .int (nI 3)), (8, .int (nI (twS R xz.toNat yz.toNat nz.toNat 1 0))), (7, .int (nI 0)), (4, .int (nG (wbN nz 99))), (0, .ref h0), (1, .int x), (2, .int y), (3, .int n)]) xx xb dX2_two_58 hl (by decide) rfl (fun ls hl => ?_)
                            refine lv_iload xx xb dX2_two_60 (lv_at hl 1 rfl) ?_
                            refine lv_iconst (v := nI 2) xx xb dX2_two_62 (by decide) ?_
                            refine lv_irem xx xb dX2_two_63 (by decide +kernel) ?_
                            refine re_i (nI 1) (by decide +kernel) ?_
                            refine lv_istore (lv' := [(7, .int (nI 1)), (6, .int (nI 1)), (5, .int (nI 3)), (8, .int (nI (twS R xz.toNat yz.toNat nz.toNat 1 0))), (4, .int (nG (wbN nz 99))), (0, .ref h0), (1, .int x), (2, .int y), (3, .int n)]) xx xb dX2_two_64 hl (by decide) rfl (fun ls hl => ?_)
                            refine lv_aload_n xx xb dX2_two_66 rfl (lv_at hl 5 rfl) ?_
                            refine lv_iload_n xx xb dX2_two_67 rfl (lv_at hl 6 rfl) ?_
                            refine re_i (nI xz.toNat) (ofT h_x (by omega) (by omega)) ?_
                            refine lv_iload xx xb dX2_two_68 (lv_at hl 1 rfl) ?_
                            refine lv_iload_n xx xb dX2_two_70 rfl (lv_at hl 7 rfl) ?_
                            refine re_i (nI yz.toNat) (ofT h_y (by omega) (by omega)) ?_
                            refine lv_iload xx xb dX2_two_71 (lv_at hl 0 rfl) ?_
                            refine lv_iload_n xx xb dX2_two_73 rfl (lv_at hl 8 rfl) ?_
                            refine re_i (nI nz.toNat) (ofT h_n (by omega) (by omega)) ?_
                            have hM := kX2_standingPulled l G h0 a1 a2 a3 a4 a5 a6 a7 a8 im lm rm pl sd R (itF (spF R xz.toNat 1 yz.toNat 1) nz.toNat) xz.toNat 1 yz.toNat 1 nz.toNat (by first | assumption | omega) (by first | assumption | omega) (by first | assumption | omega) (by first | assumption | omega) (by first | assumption | omega) (by first | assumption | omega) (by first | assumption | omega)
                            refine cv_i C hw hM yvX2_standingPulled ml_X2_177 0 rfl rfl rfl [0, 1, 2] rfl rfl (fun _ => (rfl : ([h0, a1, a2] : List Nat) = [h0, a1, a2])) (by decide) ⟨Nat.zero_le _, Nat.zero_le _⟩ hl.1 rfl (Nat.le_of_ble_eq_true rfl) dX2_two_74 (fun r _ H locs hr hw => ?_)
                            have hw : Wd G (fA [(h0, .inr (2, [.ref a1, .ref a2, .ref a3, .ref a4, .int (nI im), .ref a5, .ref a6, .ref a7, .int (nI lm), .int (nI rm), .int (nI pl), .ref a8, .int sd])), (a1, aI G 54 (fl R)), (a2, aI G 54 (fl Rm)), (a7, aI G 7 (cN rf))]) s [(h0, .inr (2, [.ref a1, .ref a2, .ref a3, .ref a4, .int (nI im), .ref a5, .ref a6, .ref a7, .int (nI lm), .int (nI rm), .int (nI pl), .ref a8, .int sd])), (a1, aI G 54 (fl R)), (a2, aI G 54 (fl (itF (spF R xz.toNat 1 yz.toNat 1) nz.toNat))), (a7, aI G 7 (cN rf))] H locs := hw
                            subst hr
                            refine re_i (nI (twS R xz.toNat yz.toNat nz.toNat 1 1)) rfl ?_
                            refine lv_istore (lv' := [(8, .int (nI (twS R xz.toNat yz.toNat nz.toNat 1 1))), (7, .int (nI 1)), (6, .int (nI 1)), (5, .int (nI 3)), (4, .int (nG (wbN nz 99))), (0, .ref h0), (1, .int x), (2, .int y), (3, .int n)]) xx xb dX2_two_77 hl (by decide) rfl (fun ls hl => ?_)
                            refine lv_aload_n xx xb dX2_two_79 rfl (lv_at hl 5 rfl) ?_
                            refine lv_iload_n xx xb dX2_two_80 rfl (lv_at hl 6 rfl) ?_
                            refine re_i (nI xz.toNat) (ofT h_x (by omega) (by omega)) ?_
                            refine lv_iconst (v := nI 1) xx xb dX2_two_81 (by decide) ?_
                            refine lv_iload xx xb dX2_two_82 (lv_at hl 2 rfl) ?_
                            refine lv_isub xx xb dX2_two_84 ?_
                            refine re_i (nI 0) (by decide +kernel) ?_
                            refine lv_iload_n xx xb dX2_two_85 rfl (lv_at hl 7 rfl) ?_
                            refine re_i (nI yz.toNat) (ofT h_y (by omega) (by omega)) ?_
                            refine lv_iload xx xb dX2_two_86 (lv_at hl 1 rfl) ?_
                            refine lv_iload_n xx xb dX2_two_88 rfl (lv_at hl 8 rfl) ?_
                            refine re_i (nI nz.toNat) (ofT h_n (by omega) (by omega)) ?_
                            have hM := kX2_standingPulled l G h0 a1 a2 a3 a4 a5 a6 a7 a8 im lm rm pl sd R (itF (spF R xz.toNat 1 yz.toNat 1) nz.toNat) xz.toNat 0 yz.toNat 1 nz.toNat (by first | assumption | omega) (by first | assumption | omega) (by first | assumption | omega) (by first | assumption | omega) (by first | assumption | omega) (by first | assumption | omega) (by first | assumption | omega)
                            refine cv_i C hw hM yvX2_standingPulled ml_X2_177 0 rfl rfl rfl [0, 1, 2] rfl rfl (fun _ => (rfl : ([h0, a1, a2] : List Nat) = [h0, a1, a2])) (by decide) ⟨Nat.zero_le _, Nat.zero_le _⟩ hl.1 rfl (Nat.le_of_ble_eq_true rfl) dX2_two_89 (fun r _ H locs hr hw => ?_)
                            have hw : Wd G (fA [(h0, .inr (2, [.ref a1, .ref a2, .ref a3, .ref a4, .int (nI im), .ref a5, .ref a6, .ref a7, .int (nI lm), .int (nI rm), .int (nI pl), .ref a8, .int sd])), (a1, aI G 54 (fl R)), (a2, aI G 54 (fl Rm)), (a7, aI G 7 (cN rf))]) s [(h0, .inr (2, [.ref a1, .ref a2, .ref a3, .ref a4, .int (nI im), .ref a5, .ref a6, .ref a7, .int (nI lm), .int (nI rm), .int (nI pl), .ref a8, .int sd])), (a1, aI G 54 (fl R)), (a2, aI G 54 (fl (itF (spF R xz.toNat 0 yz.toNat 1) nz.toNat))), (a7, aI G 7 (cN rf))] H locs := hw
                            subst hr
                            refine re_i (nI (twS R xz.toNat yz.toNat nz.toNat 0 1)) rfl ?_
                            refine lv_iload xx xb dX2_two_92 (lv_at hl 0 rfl) ?_
                            refine lv_icmp_gt (tgt := 124) xx xb dX2_two_94 (by decide) (fun c_94 => ?_) (fun c_94 => ?_)
                            · skip
                              have c_94 := lt_c (tN (by omega)) (tN (by omega)) c_94
                              refine lv_iinc (v := nI 4) (lv' := [(5, .int (nI 4)), (8, .int (nI (twS R xz.toNat yz.toNat nz.toNat 1 1))), (7, .int (nI 1)), (6, .int (nI 1)), (4, .int (nG (wbN nz 99))), (0, .ref h0), (1, .int x), (2, .int y), (3, .int n)]) xx xb dX2_two_124 hl (k := 3) rfl rfl (by decide) rfl (fun ls hl => ?_)
                              refine lv_goto (tgt := 48) xx xb dX2_two_127 (by decide) ?_
                              refine lv_iload xx xb dX2_two_48 (lv_at hl 0 rfl) ?_
                              refine lv_iconst (v := nI 4) xx xb dX2_two_50 (by decide) ?_
                              refine lv_icmp_ge (tgt := 130) xx xb dX2_two_51 (by decide) (fun c_51 => ?_) (fun c_51 => ?_)
                              · skip
                                refine lv_bipush (v := (-9)) xx xb dX2_two_130 (by decide) ?_
                                refine re_i (vTwo R xz.toNat yz.toNat nz.toNat) (by unfold vTwo; first | (rw [if_pos (by omega)]; done) | (rw [if_neg (by omega), if_pos (by omega)]; done) | (rw [if_neg (by omega), if_neg (by omega), if_pos (by omega)]; done) | (rw [if_neg (by omega), if_neg (by omega), if_neg (by omega), if_pos (by omega)]; done) | (rw [if_neg (by omega), if_neg (by omega), if_neg (by omega), if_neg (by omega)]; done)) ?_
                                have hc : cTwo R xz yz nz = 0 := by unfold cTwo; (repeat' split) <;> omega
                                exact rt_i C hw (itF (spF R xz.toNat 0 yz.toNat 1) nz.toNat) (by exact (anI_0 hc _).symm) (by rw [rfU_0 hc]) dX2_two_132
                              · skip
                                exact absurd (by decide) c_51
                            · skip
                              have c_94 := nlt_c (tN (by omega)) (tN (by omega)) c_94
                              refine lv_aload_n xx xb dX2_two_97 rfl (lv_at hl 5 rfl) ?_
                              refine lv_iload_n xx xb dX2_two_98 rfl (lv_at hl 6 rfl) ?_
                              refine re_i (nI xz.toNat) (ofT h_x (by omega) (by omega)) ?_
                              refine lv_iload xx xb dX2_two_99 (lv_at hl 2 rfl) ?_
                              refine lv_iload_n xx xb dX2_two_101 rfl (lv_at hl 7 rfl) ?_
                              refine re_i (nI yz.toNat) (ofT h_y (by omega) (by omega)) ?_
                              refine lv_iconst (v := nI 1) xx xb dX2_two_102 (by decide) ?_
                              refine lv_iload xx xb dX2_two_103 (lv_at hl 1 rfl) ?_
                              refine lv_isub xx xb dX2_two_105 ?_
                              refine re_i (nI 0) (by decide +kernel) ?_
                              refine lv_iload_n xx xb dX2_two_106 rfl (lv_at hl 8 rfl) ?_
                              refine re_i (nI nz.toNat) (ofT h_n (by omega) (by omega)) ?_
                              have hM := kX2_standingPulled l G h0 a1 a2 a3 a4 a5 a6 a7 a8 im lm rm pl sd R (itF (spF R xz.toNat 0 yz.toNat 1) nz.toNat) xz.toNat 1 yz.toNat 0 nz.toNat (by first | assumption | omega) (by first | assumption | omega) (by first | assumption | omega) (by first | assumption | omega) (by first | assumption | omega) (by first | assumption | omega) (by first | assumption | omega)
                              refine cv_i C hw hM yvX2_standingPulled ml_X2_177 0 rfl rfl rfl [0, 1, 2] rfl rfl (fun _ => (rfl : ([h0, a1, a2] : List Nat) = [h0, a1, a2])) (by decide) ⟨Nat.zero_le _, Nat.zero_le _⟩ hl.1 rfl (Nat.le_of_ble_eq_true rfl) dX2_two_107 (fun r _ H locs hr hw => ?_)
                              have hw : Wd G (fA [(h0, .inr (2, [.ref a1, .ref a2, .ref a3, .ref a4, .int (nI im), .ref a5, .ref a6, .ref a7, .int (nI lm), .int (nI rm), .int (nI pl), .ref a8, .int sd])), (a1, aI G 54 (fl R)), (a2, aI G 54 (fl Rm)), (a7, aI G 7 (cN rf))]) s [(h0, .inr (2, [.ref a1, .ref a2, .ref a3, .ref a4, .int (nI im), .ref a5, .ref a6, .ref a7, .int (nI lm), .int (nI rm), .int (nI pl), .ref a8, .int sd])), (a1, aI G 54 (fl R)), (a2, aI G 54 (fl (itF (spF R xz.toNat 1 yz.toNat 0) nz.toNat))), (a7, aI G 7 (cN rf))] H locs := hw
                              subst hr
                              refine re_i (nI (twS R xz.toNat yz.toNat nz.toNat 1 0)) rfl ?_
                              refine lv_iload xx xb dX2_two_110 (lv_at hl 0 rfl) ?_
                              refine lv_icmp_lt (tgt := 124) xx xb dX2_two_112 (by decide) (fun c_112 => ?_) (fun c_112 => ?_)
                              · skip
                                have c_112 := lt_c (tN (by omega)) (tN (by omega)) c_112
                                refine lv_iinc (v := nI 4) (lv' := [(5, .int (nI 4)), (8, .int (nI (twS R xz.toNat yz.toNat nz.toNat 1 1))), (7, .int (nI 1)), (6, .int (nI 1)), (4, .int (nG (wbN nz 99))), (0, .ref h0), (1, .int x), (2, .int y), (3, .int n)]) xx xb dX2_two_124 hl (k := 3) rfl rfl (by decide) rfl (fun ls hl => ?_)
                                refine lv_goto (tgt := 48) xx xb dX2_two_127 (by decide) ?_
                                refine lv_iload xx xb dX2_two_48 (lv_at hl 0 rfl) ?_
                                refine lv_iconst (v := nI 4) xx xb dX2_two_50 (by decide) ?_
                                refine lv_icmp_ge (tgt := 130) xx xb dX2_two_51 (by decide) (fun c_51 => ?_) (fun c_51 => ?_)
                                · skip
                                  refine lv_bipush (v := (-9)) xx xb dX2_two_130 (by decide) ?_
                                  refine re_i (vTwo R xz.toNat yz.toNat nz.toNat) (by unfold vTwo; first | (rw [if_pos (by omega)]; done) | (rw [if_neg (by omega), if_pos (by omega)]; done) | (rw [if_neg (by omega), if_neg (by omega), if_pos (by omega)]; done) | (rw [if_neg (by omega), if_neg (by omega), if_neg (by omega), if_pos (by omega)]; done) | (rw [if_neg (by omega), if_neg (by omega), if_neg (by omega), if_neg (by omega)]; done)) ?_
                                  have hc : cTwo R xz yz nz = 0 := by unfold cTwo; (repeat' split) <;> omega
                                  exact rt_i C hw (itF (spF R xz.toNat 1 yz.toNat 0) nz.toNat) (by exact (anI_0 hc _).symm) (by rw [rfU_0 hc]) dX2_two_132
                                · skip
                                  exact absurd (by decide) c_51
                              · skip
                                have c_112 := nlt_c (tN (by omega)) (tN (by omega)) c_112
                                refine lv_bipush (v := nI 10) xx xb dX2_two_115 (by decide) ?_
                                refine lv_iload xx xb dX2_two_117 (lv_at hl 2 rfl) ?_
                                refine lv_imul xx xb dX2_two_119 ?_
                                refine re_i (nI 10) (by decide +kernel) ?_
                                refine lv_iload xx xb dX2_two_120 (lv_at hl 1 rfl) ?_
                                refine lv_iadd xx xb dX2_two_122 ?_
                                refine re_i (nI 11) (by decide +kernel) ?_
                                refine re_i (vTwo R xz.toNat yz.toNat nz.toNat) (by unfold vTwo; first | (rw [if_pos (by omega)]; done) | (rw [if_neg (by omega), if_pos (by omega)]; done) | (rw [if_neg (by omega), if_neg (by omega), if_pos (by omega)]; done) | (rw [if_neg (by omega), if_neg (by omega), if_neg (by omega), if_pos (by omega)]; done) | (rw [if_neg (by omega), if_neg (by omega), if_neg (by omega), if_neg (by omega)]; done)) ?_
                                have hc : cTwo R xz yz nz = 0 := by unfold cTwo; (repeat' split) <;> omega
                                exact rt_i C hw (itF (spF R xz.toNat 1 yz.toNat 0) nz.toNat) (by exact (anI_0 hc _).symm) (by rw [rfU_0 hc]) dX2_two_123
                        · skip
                          have c_112 := nlt_c (tN (by omega)) (tN (by omega)) c_112
                          refine lv_bipush (v := nI 10) xx xb dX2_two_115 (by decide) ?_
                          refine lv_iload xx xb dX2_two_117 (lv_at hl 2 rfl) ?_
                          refine lv_imul xx xb dX2_two_119 ?_
                          refine re_i (nI 10) (by decide +kernel) ?_
                          refine lv_iload xx xb dX2_two_120 (lv_at hl 1 rfl) ?_
                          refine lv_iadd xx xb dX2_two_122 ?_
                          refine re_i (nI 10) (by decide +kernel) ?_
                          refine re_i (vTwo R xz.toNat yz.toNat nz.toNat) (by unfold vTwo; first | (rw [if_pos (by omega)]; done) | (rw [if_neg (by omega), if_pos (by omega)]; done) | (rw [if_neg (by omega), if_neg (by omega), if_pos (by omega)]; done) | (rw [if_neg (by omega), if_neg (by omega), if_neg (by omega), if_pos (by omega)]; done) | (rw [if_neg (by omega), if_neg (by omega), if_neg (by omega), if_neg (by omega)]; done)) ?_
                          have hc : cTwo R xz yz nz = 0 := by unfold cTwo; (repeat' split) <;> omega
                          exact rt_i C hw (itF (spF R xz.toNat 1 yz.toNat 1) nz.toNat) (by exact (anI_0 hc _).symm) (by rw [rfU_0 hc]) dX2_two_123
                  · skip
                    have c_112 := nlt_c (tN (by omega)) (tN (by omega)) c_112
                    refine lv_bipush (v := nI 10) xx xb dX2_two_115 (by decide) ?_
                    refine lv_iload xx xb dX2_two_117 (lv_at hl 2 rfl) ?_
                    refine lv_imul xx xb dX2_two_119 ?_
                    refine re_i (nI 0) (by decide +kernel) ?_
                    refine lv_iload xx xb dX2_two_120 (lv_at hl 1 rfl) ?_
                    refine lv_iadd xx xb dX2_two_122 ?_
                    refine re_i (nI 1) (by decide +kernel) ?_
                    refine re_i (vTwo R xz.toNat yz.toNat nz.toNat) (by unfold vTwo; first | (rw [if_pos (by omega)]; done) | (rw [if_neg (by omega), if_pos (by omega)]; done) | (rw [if_neg (by omega), if_neg (by omega), if_pos (by omega)]; done) | (rw [if_neg (by omega), if_neg (by omega), if_neg (by omega), if_pos (by omega)]; done) | (rw [if_neg (by omega), if_neg (by omega), if_neg (by omega), if_neg (by omega)]; done)) ?_
                    have hc : cTwo R xz yz nz = 0 := by unfold cTwo; (repeat' split) <;> omega
                    exact rt_i C hw (itF (spF R xz.toNat 0 yz.toNat 0) nz.toNat) (by exact (anI_0 hc _).symm) (by rw [rfU_0 hc]) dX2_two_123
            · skip
              have c_94 := nlt_c (tN (by omega)) (tN (by omega)) c_94
              refine lv_aload_n xx xb dX2_two_97 rfl (lv_at hl 5 rfl) ?_
              refine lv_iload_n xx xb dX2_two_98 rfl (lv_at hl 6 rfl) ?_
              refine re_i (nI xz.toNat) (ofT h_x (by omega) (by omega)) ?_
              refine lv_iload xx xb dX2_two_99 (lv_at hl 2 rfl) ?_
              refine lv_iload_n xx xb dX2_two_101 rfl (lv_at hl 7 rfl) ?_
              refine re_i (nI yz.toNat) (ofT h_y (by omega) (by omega)) ?_
              refine lv_iconst (v := nI 1) xx xb dX2_two_102 (by decide) ?_
              refine lv_iload xx xb dX2_two_103 (lv_at hl 1 rfl) ?_
              refine lv_isub xx xb dX2_two_105 ?_
              refine re_i (nI 1) (by decide +kernel) ?_
              refine lv_iload_n xx xb dX2_two_106 rfl (lv_at hl 8 rfl) ?_
              refine re_i (nI nz.toNat) (ofT h_n (by omega) (by omega)) ?_
              have hM := kX2_standingPulled l G h0 a1 a2 a3 a4 a5 a6 a7 a8 im lm rm pl sd R (itF (spF R xz.toNat 1 yz.toNat 0) nz.toNat) xz.toNat 0 yz.toNat 1 nz.toNat (by first | assumption | omega) (by first | assumption | omega) (by first | assumption | omega) (by first | assumption | omega) (by first | assumption | omega) (by first | assumption | omega) (by first | assumption | omega)
              refine cv_i C hw hM yvX2_standingPulled ml_X2_177 0 rfl rfl rfl [0, 1, 2] rfl rfl (fun _ => (rfl : ([h0, a1, a2] : List Nat) = [h0, a1, a2])) (by decide) ⟨Nat.zero_le _, Nat.zero_le _⟩ hl.1 rfl (Nat.le_of_ble_eq_true rfl) dX2_two_107 (fun r _ H locs hr hw => ?_)
              have hw : Wd G (fA [(h0, .inr (2, [.ref a1, .ref a2, .ref a3, .ref a4, .int (nI im), .ref a5, .ref a6, .ref a7, .int (nI lm), .int (nI rm), .int (nI pl), .ref a8, .int sd])), (a1, aI G 54 (fl R)), (a2, aI G 54 (fl Rm)), (a7, aI G 7 (cN rf))]) s [(h0, .inr (2, [.ref a1, .ref a2, .ref a3, .ref a4, .int (nI im), .ref a5, .ref a6, .ref a7, .int (nI lm), .int (nI rm), .int (nI pl), .ref a8, .int sd])), (a1, aI G 54 (fl R)), (a2, aI G 54 (fl (itF (spF R xz.toNat 0 yz.toNat 1) nz.toNat))), (a7, aI G 7 (cN rf))] H locs := hw
              subst hr
              refine re_i (nI (twS R xz.toNat yz.toNat nz.toNat 0 1)) rfl ?_
              refine lv_iload xx xb dX2_two_110 (lv_at hl 0 rfl) ?_
              refine lv_icmp_lt (tgt := 124) xx xb dX2_two_112 (by decide) (fun c_112 => ?_) (fun c_112 => ?_)
              · skip
                have c_112 := lt_c (tN (by omega)) (tN (by omega)) c_112
                refine lv_iinc (v := nI 1) (lv' := [(5, .int (nI 1)), (8, .int (nI (twS R xz.toNat yz.toNat nz.toNat 0 0))), (7, .int (nI 0)), (6, .int (nI 0)), (4, .int (nG (wbN nz 99))), (0, .ref h0), (1, .int x), (2, .int y), (3, .int n)]) xx xb dX2_two_124 hl (k := 3) rfl rfl (by decide) rfl (fun ls hl => ?_)
                refine lv_goto (tgt := 48) xx xb dX2_two_127 (by decide) ?_
                refine lv_iload xx xb dX2_two_48 (lv_at hl 0 rfl) ?_
                refine lv_iconst (v := nI 4) xx xb dX2_two_50 (by decide) ?_
                refine lv_icmp_ge (tgt := 130) xx xb dX2_two_51 (by decide) (fun c_51 => ?_) (fun c_51 => ?_)
                · skip
                  exact absurd c_51 (by decide)
                · skip
                  refine lv_iload xx xb dX2_two_54 (lv_at hl 0 rfl) ?_
                  refine lv_iconst (v := nI 2) xx xb dX2_two_56 (by decide) ?_
                  refine lv_idiv xx xb dX2_two_57 (by decide +kernel) ?_
                  refine re_i (nI 0) (by decide +kernel) ?_
                  refine lv_istore (lv' := [(6, .int (nI 0)), (5, .int (nI 1)), (8, .int (nI (twS R xz.toNat yz.toNat nz.toNat 0 0))), (7, .int (nI 0)), (4, .int (nG (wbN nz 99))), (0, .ref h0), (1, .int x), (2, .int y), (3, .int n)]) xx xb dX2_two_58 hl (by decide) rfl (fun ls hl => ?_)
                  refine lv_iload xx xb dX2_two_60 (lv_at hl 1 rfl) ?_
                  refine lv_iconst (v := nI 2) xx xb dX2_two_62 (by decide) ?_
                  refine lv_irem xx xb dX2_two_63 (by decide +kernel) ?_
                  refine re_i (nI 1) (by decide +kernel) ?_
                  refine lv_istore (lv' := [(7, .int (nI 1)), (6, .int (nI 0)), (5, .int (nI 1)), (8, .int (nI (twS R xz.toNat yz.toNat nz.toNat 0 0))), (4, .int (nG (wbN nz 99))), (0, .ref h0), (1, .int x), (2, .int y), (3, .int n)]) xx xb dX2_two_64 hl (by decide) rfl (fun ls hl => ?_)
                  refine lv_aload_n xx xb dX2_two_66 rfl (lv_at hl 5 rfl) ?_
                  refine lv_iload_n xx xb dX2_two_67 rfl (lv_at hl 6 rfl) ?_
                  refine re_i (nI xz.toNat) (ofT h_x (by omega) (by omega)) ?_
                  refine lv_iload xx xb dX2_two_68 (lv_at hl 1 rfl) ?_
                  refine lv_iload_n xx xb dX2_two_70 rfl (lv_at hl 7 rfl) ?_
                  refine re_i (nI yz.toNat) (ofT h_y (by omega) (by omega)) ?_
                  refine lv_iload xx xb dX2_two_71 (lv_at hl 0 rfl) ?_
                  refine lv_iload_n xx xb dX2_two_73 rfl (lv_at hl 8 rfl) ?_
                  refine re_i (nI nz.toNat) (ofT h_n (by omega) (by omega)) ?_
                  have hM := kX2_standingPulled l G h0 a1 a2 a3 a4 a5 a6 a7 a8 im lm rm pl sd R (itF (spF R xz.toNat 0 yz.toNat 1) nz.toNat) xz.toNat 0 yz.toNat 1 nz.toNat (by first | assumption | omega) (by first | assumption | omega) (by first | assumption | omega) (by first | assumption | omega) (by first | assumption | omega) (by first | assumption | omega) (by first | assumption | omega)
                  refine cv_i C hw hM yvX2_standingPulled ml_X2_177 0 rfl rfl rfl [0, 1, 2] rfl rfl (fun _ => (rfl : ([h0, a1, a2] : List Nat) = [h0, a1, a2])) (by decide) ⟨Nat.zero_le _, Nat.zero_le _⟩ hl.1 rfl (Nat.le_of_ble_eq_true rfl) dX2_two_74 (fun r _ H locs hr hw => ?_)
                  have hw : Wd G (fA [(h0, .inr (2, [.ref a1, .ref a2, .ref a3, .ref a4, .int (nI im), .ref a5, .ref a6, .ref a7, .int (nI lm), .int (nI rm), .int (nI pl), .ref a8, .int sd])), (a1, aI G 54 (fl R)), (a2, aI G 54 (fl Rm)), (a7, aI G 7 (cN rf))]) s [(h0, .inr (2, [.ref a1, .ref a2, .ref a3, .ref a4, .int (nI im), .ref a5, .ref a6, .ref a7, .int (nI lm), .int (nI rm), .int (nI pl), .ref a8, .int sd])), (a1, aI G 54 (fl R)), (a2, aI G 54 (fl (itF (spF R xz.toNat 0 yz.toNat 1) nz.toNat))), (a7, aI G 7 (cN rf))] H locs := hw
                  subst hr
                  refine re_i (nI (twS R xz.toNat yz.toNat nz.toNat 0 1)) rfl ?_
                  refine lv_istore (lv' := [(8, .int (nI (twS R xz.toNat yz.toNat nz.toNat 0 1))), (7, .int (nI 1)), (6, .int (nI 0)), (5, .int (nI 1)), (4, .int (nG (wbN nz 99))), (0, .ref h0), (1, .int x), (2, .int y), (3, .int n)]) xx xb dX2_two_77 hl (by decide) rfl (fun ls hl => ?_)
                  refine lv_aload_n xx xb dX2_two_79 rfl (lv_at hl 5 rfl) ?_
                  refine lv_iload_n xx xb dX2_two_80 rfl (lv_at hl 6 rfl) ?_
                  refine re_i (nI xz.toNat) (ofT h_x (by omega) (by omega)) ?_
                  refine lv_iconst (v := nI 1) xx xb dX2_two_81 (by decide) ?_
                  refine lv_iload xx xb dX2_two_82 (lv_at hl 2 rfl) ?_
                  refine lv_isub xx xb dX2_two_84 ?_
                  refine re_i (nI 1) (by decide +kernel) ?_
                  refine lv_iload_n xx xb dX2_two_85 rfl (lv_at hl 7 rfl) ?_
                  refine re_i (nI yz.toNat) (ofT h_y (by omega) (by omega)) ?_
                  refine lv_iload xx xb dX2_two_86 (lv_at hl 1 rfl) ?_
                  refine lv_iload_n xx xb dX2_two_88 rfl (lv_at hl 8 rfl) ?_
                  refine re_i (nI nz.toNat) (ofT h_n (by omega) (by omega)) ?_
                  have hM := kX2_standingPulled l G h0 a1 a2 a3 a4 a5 a6 a7 a8 im lm rm pl sd R (itF (spF R xz.toNat 0 yz.toNat 1) nz.toNat) xz.toNat 1 yz.toNat 1 nz.toNat (by first | assumption | omega) (by first | assumption | omega) (by first | assumption | omega) (by first | assumption | omega) (by first | assumption | omega) (by first | assumption | omega) (by first | assumption | omega)
                  refine cv_i C hw hM yvX2_standingPulled ml_X2_177 0 rfl rfl rfl [0, 1, 2] rfl rfl (fun _ => (rfl : ([h0, a1, a2] : List Nat) = [h0, a1, a2])) (by decide) ⟨Nat.zero_le _, Nat.zero_le _⟩ hl.1 rfl (Nat.le_of_ble_eq_true rfl) dX2_two_89 (fun r _ H locs hr hw => ?_)
                  have hw : Wd G (fA [(h0, .inr (2, [.ref a1, .ref a2, .ref a3, .ref a4, .int (nI im), .ref a5, .ref a6, .ref a7, .int (nI lm), .int (nI rm), .int (nI pl), .ref a8, .int sd])), (a1, aI G 54 (fl R)), (a2, aI G 54 (fl Rm)), (a7, aI G 7 (cN rf))]) s [(h0, .inr (2, [.ref a1, .ref a2, .ref a3, .ref a4, .int (nI im), .ref a5, .ref a6, .ref a7, .int (nI lm), .int (nI rm), .int (nI pl), .ref a8, .int sd])), (a1, aI G 54 (fl R)), (a2, aI G 54 (fl (itF (spF R xz.toNat 1 yz.toNat 1) nz.toNat))), (a7, aI G 7 (cN rf))] H locs := hw
                  subst hr
                  refine re_i (nI (twS R xz.toNat yz.toNat nz.toNat 1 1)) rfl ?_
                  refine lv_iload xx xb dX2_two_92 (lv_at hl 0 rfl) ?_
                  refine lv_icmp_gt (tgt := 124) xx xb dX2_two_94 (by decide) (fun c_94 => ?_) (fun c_94 => ?_)
                  · skip
                    have c_94 := lt_c (tN (by omega)) (tN (by omega)) c_94
                    refine lv_iinc (v := nI 2) (lv' := [(5, .int (nI 2)), (8, .int (nI (twS R xz.toNat yz.toNat nz.toNat 0 1))), (7, .int (nI 1)), (6, .int (nI 0)), (4, .int (nG (wbN nz 99))), (0, .ref h0), (1, .int x), (2, .int y), (3, .int n)]) xx xb dX2_two_124 hl (k := 3) rfl rfl (by decide) rfl (fun ls hl => ?_)
                    refine lv_goto (tgt := 48) xx xb dX2_two_127 (by decide) ?_
                    refine lv_iload xx xb dX2_two_48 (lv_at hl 0 rfl) ?_
                    refine lv_iconst (v := nI 4) xx xb dX2_two_50 (by decide) ?_
                    refine lv_icmp_ge (tgt := 130) xx xb dX2_two_51 (by decide) (fun c_51 => ?_) (fun c_51 => ?_)
                    · skip
                      exact absurd c_51 (by decide)
                    · skip
                      refine lv_iload xx xb dX2_two_54 (lv_at hl 0 rfl) ?_
                      refine lv_iconst (v := nI 2) xx xb dX2_two_56 (by decide) ?_
                      refine lv_idiv xx xb dX2_two_57 (by decide +kernel) ?_
                      refine re_i (nI 1) (by decide +kernel) ?_
                      refine lv_istore (lv' := [(6, .int (nI 1)), (5, .int (nI 2)), (8, .int (nI (twS R xz.toNat yz.toNat nz.toNat 0 1))), (7, .int (nI 1)), (4, .int (nG (wbN nz 99))), (0, .ref h0), (1, .int x), (2, .int y), (3, .int n)]) xx xb dX2_two_58 hl (by decide) rfl (fun ls hl => ?_)
                      refine lv_iload xx xb dX2_two_60 (lv_at hl 1 rfl) ?_
                      refine lv_iconst (v := nI 2) xx xb dX2_two_62 (by decide) ?_
                      refine lv_irem xx xb dX2_two_63 (by decide +kernel) ?_
                      refine re_i (nI 0) (by decide +kernel) ?_
                      refine lv_istore (lv' := [(7, .int (nI 0)), (6, .int (nI 1)), (5, .int (nI 2)), (8, .int (nI (twS R xz.toNat yz.toNat nz.toNat 0 1))), (4, .int (nG (wbN nz 99))), (0, .ref h0), (1, .int x), (2, .int y), (3, .int n)]) xx xb dX2_two_64 hl (by decide) rfl (fun ls hl => ?_)
                      refine lv_aload_n xx xb dX2_two_66 rfl (lv_at hl 5 rfl) ?_
                      refine lv_iload_n xx xb dX2_two_67 rfl (lv_at hl 6 rfl) ?_
                      refine re_i (nI xz.toNat) (ofT h_x (by omega) (by omega)) ?_
                      refine lv_iload xx xb dX2_two_68 (lv_at hl 1 rfl) ?_
                      refine lv_iload_n xx xb dX2_two_70 rfl (lv_at hl 7 rfl) ?_
                      refine re_i (nI yz.toNat) (ofT h_y (by omega) (by omega)) ?_
                      refine lv_iload xx xb dX2_two_71 (lv_at hl 0 rfl) ?_
                      refine lv_iload_n xx xb dX2_two_73 rfl (lv_at hl 8 rfl) ?_
                      refine re_i (nI nz.toNat) (ofT h_n (by omega) (by omega)) ?_
                      have hM := kX2_standingPulled l G h0 a1 a2 a3 a4 a5 a6 a7 a8 im lm rm pl sd R (itF (spF R xz.toNat 1 yz.toNat 1) nz.toNat) xz.toNat 1 yz.toNat 0 nz.toNat (by first | assumption | omega) (by first | assumption | omega) (by first | assumption | omega) (by first | assumption | omega) (by first | assumption | omega) (by first | assumption | omega) (by first | assumption | omega)
                      refine cv_i C hw hM yvX2_standingPulled ml_X2_177 0 rfl rfl rfl [0, 1, 2] rfl rfl (fun _ => (rfl : ([h0, a1, a2] : List Nat) = [h0, a1, a2])) (by decide) ⟨Nat.zero_le _, Nat.zero_le _⟩ hl.1 rfl (Nat.le_of_ble_eq_true rfl) dX2_two_74 (fun r _ H locs hr hw => ?_)
                      have hw : Wd G (fA [(h0, .inr (2, [.ref a1, .ref a2, .ref a3, .ref a4, .int (nI im), .ref a5, .ref a6, .ref a7, .int (nI lm), .int (nI rm), .int (nI pl), .ref a8, .int sd])), (a1, aI G 54 (fl R)), (a2, aI G 54 (fl Rm)), (a7, aI G 7 (cN rf))]) s [(h0, .inr (2, [.ref a1, .ref a2, .ref a3, .ref a4, .int (nI im), .ref a5, .ref a6, .ref a7, .int (nI lm), .int (nI rm), .int (nI pl), .ref a8, .int sd])), (a1, aI G 54 (fl R)), (a2, aI G 54 (fl (itF (spF R xz.toNat 1 yz.toNat 0) nz.toNat))), (a7, aI G 7 (cN rf))] H locs := hw
                      subst hr
                      refine re_i (nI (twS R xz.toNat yz.toNat nz.toNat 1 0)) rfl ?_
                      refine lv_istore (lv' := [(8, .int (nI (twS R xz.toNat yz.toNat nz.toNat 1 0))), (7, .int (nI 0)), (6, .int (nI 1)), (5, .int (nI 2)), (4, .int (nG (wbN nz 99))), (0, .ref h0), (1, .int x), (2, .int y), (3, .int n)]) xx xb dX2_two_77 hl (by decide) rfl (fun ls hl => ?_)
                      refine lv_aload_n xx xb dX2_two_79 rfl (lv_at hl 5 rfl) ?_
                      refine lv_iload_n xx xb dX2_two_80 rfl (lv_at hl 6 rfl) ?_
                      refine re_i (nI xz.toNat) (ofT h_x (by omega) (by omega)) ?_
                      refine lv_iconst (v := nI 1) xx xb dX2_two_81 (by decide) ?_
                      refine lv_iload xx xb dX2_two_82 (lv_at hl 2 rfl) ?_
                      refine lv_isub xx xb dX2_two_84 ?_
                      refine re_i (nI 0) (by decide +kernel) ?_
                      refine lv_iload_n xx xb dX2_two_85 rfl (lv_at hl 7 rfl) ?_
                      refine re_i (nI yz.toNat) (ofT h_y (by omega) (by omega)) ?_
                      refine lv_iload xx xb dX2_two_86 (lv_at hl 1 rfl) ?_
                      refine lv_iload_n xx xb dX2_two_88 rfl (lv_at hl 8 rfl) ?_
                      refine re_i (nI nz.toNat) (ofT h_n (by omega) (by omega)) ?_
                      have hM := kX2_standingPulled l G h0 a1 a2 a3 a4 a5 a6 a7 a8 im lm rm pl sd R (itF (spF R xz.toNat 1 yz.toNat 0) nz.toNat) xz.toNat 0 yz.toNat 0 nz.toNat (by first | assumption | omega) (by first | assumption | omega) (by first | assumption | omega) (by first | assumption | omega) (by first | assumption | omega) (by first | assumption | omega) (by first | assumption | omega)
                      refine cv_i C hw hM yvX2_standingPulled ml_X2_177 0 rfl rfl rfl [0, 1, 2] rfl rfl (fun _ => (rfl : ([h0, a1, a2] : List Nat) = [h0, a1, a2])) (by decide) ⟨Nat.zero_le _, Nat.zero_le _⟩ hl.1 rfl (Nat.le_of_ble_eq_true rfl) dX2_two_89 (fun r _ H locs hr hw => ?_)
                      have hw : Wd G (fA [(h0, .inr (2, [.ref a1, .ref a2, .ref a3, .ref a4, .int (nI im), .ref a5, .ref a6, .ref a7, .int (nI lm), .int (nI rm), .int (nI pl), .ref a8, .int sd])), (a1, aI G 54 (fl R)), (a2, aI G 54 (fl Rm)), (a7, aI G 7 (cN rf))]) s [(h0, .inr (2, [.ref a1, .ref a2, .ref a3, .ref a4, .int (nI im), .ref a5, .ref a6, .ref a7, .int (nI lm), .int (nI rm), .int (nI pl), .ref a8, .int sd])), (a1, aI G 54 (fl R)), (a2, aI G 54 (fl (itF (spF R xz.toNat 0 yz.toNat 0) nz.toNat))), (a7, aI G 7 (cN rf))] H locs := hw
                      subst hr
                      refine re_i (nI (twS R xz.toNat yz.toNat nz.toNat 0 0)) rfl ?_
                      refine lv_iload xx xb dX2_two_92 (lv_at hl 0 rfl) ?_
                      refine lv_icmp_gt (tgt := 124) xx xb dX2_two_94 (by decide) (fun c_94 => ?_) (fun c_94 => ?_)
                      · skip
                        have c_94 := lt_c (tN (by omega)) (tN (by omega)) c_94
                        refine lv_iinc (v := nI 3) (lv' := [(5, .int (nI 3)), (8, .int (nI (twS R xz.toNat yz.toNat nz.toNat 1 0))), (7, .int (nI 0)), (6, .int (nI 1)), (4, .int (nG (wbN nz 99))), (0, .ref h0), (1, .int x), (2, .int y), (3, .int n)]) xx xb dX2_two_124 hl (k := 3) rfl rfl (by decide) rfl (fun ls hl => ?_)
                        refine lv_goto (tgt := 48) xx xb dX2_two_127 (by decide) ?_
                        refine lv_iload xx xb dX2_two_48 (lv_at hl 0 rfl) ?_
                        refine lv_iconst (v := nI 4) xx xb dX2_two_50 (by decide) ?_
                        refine lv_icmp_ge (tgt := 130) xx xb dX2_two_51 (by decide) (fun c_51 => ?_) (fun c_51 => ?_)
                        · skip
                          exact absurd c_51 (by decide)
                        · skip
                          refine lv_iload xx xb dX2_two_54 (lv_at hl 0 rfl) ?_
                          refine lv_iconst (v := nI 2) xx xb dX2_two_56 (by decide) ?_
                          refine lv_idiv xx xb dX2_two_57 (by decide +kernel) ?_
                          refine re_i (nI 1) (by decide +kernel) ?_
                          refine lv_istore (lv' := [(6, .int (nI 1)), (5, .int (nI 3)), (8, .int (nI (twS R xz.toNat yz.toNat nz.toNat 1 0))), (7, .int (nI 0)), (4, .int (nG (wbN nz 99))), (0, .ref h0), (1, .int x), (2, .int y), (3, .int n)]) xx xb dX2_two_58 hl (by decide) rfl (fun ls hl => ?_)
                          refine lv_iload xx xb dX2_two_60 (lv_at hl 1 rfl) ?_
                          refine lv_iconst (v := nI 2) xx xb dX2_two_62 (by decide) ?_
                          refine lv_irem xx xb dX2_two_63 (by decide +kernel) ?_
                          refine re_i (nI 1) (by decide +kernel) ?_
                          refine lv_istore (lv' := [(7, .int (nI 1)), (6, .int (nI 1)), (5, .int (nI 3)), (8, .int (nI (twS R xz.toNat yz.toNat nz.toNat 1 0))), (4, .int (nG (wbN nz 99))), (0, .ref h0), (1, .int x), (2, .int y), (3, .int n)]) xx xb dX2_two_64 hl (by decide) rfl (fun ls hl => ?_)
                          refine lv_aload_n xx xb dX2_two_66 rfl (lv_at hl 5 rfl) ?_
                          refine lv_iload_n xx xb dX2_two_67 rfl (lv_at hl 6 rfl) ?_
                          refine re_i (nI xz.toNat) (ofT h_x (by omega) (by omega)) ?_
                          refine lv_iload xx xb dX2_two_68 (lv_at hl 1 rfl) ?_
                          refine lv_iload_n xx xb dX2_two_70 rfl (lv_at hl 7 rfl) ?_
                          refine re_i (nI yz.toNat) (ofT h_y (by omega) (by omega)) ?_
                          refine lv_iload xx xb dX2_two_71 (lv_at hl 0 rfl) ?_
                          refine lv_iload_n xx xb dX2_two_73 rfl (lv_at hl 8 rfl) ?_
                          refine re_i (nI nz.toNat) (ofT h_n (by omega) (by omega)) ?_
                          have hM := kX2_standingPulled l G h0 a1 a2 a3 a4 a5 a6 a7 a8 im lm rm pl sd R (itF (spF R xz.toNat 0 yz.toNat 0) nz.toNat) xz.toNat 1 yz.toNat 1 nz.toNat (by first | assumption | omega) (by first | assumption | omega) (by first | assumption | omega) (by first | assumption | omega) (by first | assumption | omega) (by first | assumption | omega) (by first | assumption | omega)
                          refine cv_i C hw hM yvX2_standingPulled ml_X2_177 0 rfl rfl rfl [0, 1, 2] rfl rfl (fun _ => (rfl : ([h0, a1, a2] : List Nat) = [h0, a1, a2])) (by decide) ⟨Nat.zero_le _, Nat.zero_le _⟩ hl.1 rfl (Nat.le_of_ble_eq_true rfl) dX2_two_74 (fun r _ H locs hr hw => ?_)
                          have hw : Wd G (fA [(h0, .inr (2, [.ref a1, .ref a2, .ref a3, .ref a4, .int (nI im), .ref a5, .ref a6, .ref a7, .int (nI lm), .int (nI rm), .int (nI pl), .ref a8, .int sd])), (a1, aI G 54 (fl R)), (a2, aI G 54 (fl Rm)), (a7, aI G 7 (cN rf))]) s [(h0, .inr (2, [.ref a1, .ref a2, .ref a3, .ref a4, .int (nI im), .ref a5, .ref a6, .ref a7, .int (nI lm), .int (nI rm), .int (nI pl), .ref a8, .int sd])), (a1, aI G 54 (fl R)), (a2, aI G 54 (fl (itF (spF R xz.toNat 1 yz.toNat 1) nz.toNat))), (a7, aI G 7 (cN rf))] H locs := hw
                          subst hr
                          refine re_i (nI (twS R xz.toNat yz.toNat nz.toNat 1 1)) rfl ?_
                          refine lv_istore (lv' := [(8, .int (nI (twS R xz.toNat yz.toNat nz.toNat 1 1))), (7, .int (nI 1)), (6, .int (nI 1)), (5, .int (nI 3)), (4, .int (nG (wbN nz 99))), (0, .ref h0), (1, .int x), (2, .int y), (3, .int n)]) xx xb dX2_two_77 hl (by decide) rfl (fun ls hl => ?_)
                          refine lv_aload_n xx xb dX2_two_79 rfl (lv_at hl 5 rfl) ?_
                          refine lv_iload_n xx xb dX2_two_80 rfl (lv_at hl 6 rfl) ?_
                          refine re_i (nI xz.toNat) (ofT h_x (by omega) (by omega)) ?_
                          refine lv_iconst (v := nI 1) xx xb dX2_two_81 (by decide) ?_
                          refine lv_iload xx xb dX2_two_82 (lv_at hl 2 rfl) ?_
                          refine lv_isub xx xb dX2_two_84 ?_
                          refine re_i (nI 0) (by decide +kernel) ?_
                          refine lv_iload_n xx xb dX2_two_85 rfl (lv_at hl 7 rfl) ?_
                          refine re_i (nI yz.toNat) (ofT h_y (by omega) (by omega)) ?_
                          refine lv_iload xx xb dX2_two_86 (lv_at hl 1 rfl) ?_
                          refine lv_iload_n xx xb dX2_two_88 rfl (lv_at hl 8 rfl) ?_
                          refine re_i (nI nz.toNat) (ofT h_n (by omega) (by omega)) ?_
                          have hM := kX2_standingPulled l G h0 a1 a2 a3 a4 a5 a6 a7 a8 im lm rm pl sd R (itF (spF R xz.toNat 1 yz.toNat 1) nz.toNat) xz.toNat 0 yz.toNat 1 nz.toNat (by first | assumption | omega) (by first | assumption | omega) (by first | assumption | omega) (by first | assumption | omega) (by first | assumption | omega) (by first | assumption | omega) (by first | assumption | omega)
                          refine cv_i C hw hM yvX2_standingPulled ml_X2_177 0 rfl rfl rfl [0, 1, 2] rfl rfl (fun _ => (rfl : ([h0, a1, a2] : List Nat) = [h0, a1, a2])) (by decide) ⟨Nat.zero_le _, Nat.zero_le _⟩ hl.1 rfl (Nat.le_of_ble_eq_true rfl) dX2_two_89 (fun r _ H locs hr hw => ?_)
                          have hw : Wd G (fA [(h0, .inr (2, [.ref a1, .ref a2, .ref a3, .ref a4, .int (nI im), .ref a5, .ref a6, .ref a7, .int (nI lm), .int (nI rm), .int (nI pl), .ref a8, .int sd])), (a1, aI G 54 (fl R)), (a2, aI G 54 (fl Rm)), (a7, aI G 7 (cN rf))]) s [(h0, .inr (2, [.ref a1, .ref a2, .ref a3, .ref a4, .int (nI im), .ref a5, .ref a6, .ref a7, .int (nI lm), .int (nI rm), .int (nI pl), .ref a8, .int sd])), (a1, aI G 54 (fl R)), (a2, aI G 54 (fl (itF (spF R xz.toNat 0 yz.toNat 1) nz.toNat))), (a7, aI G 7 (cN rf))] H locs := hw
                          subst hr
                          refine re_i (nI (twS R xz.toNat yz.toNat nz.toNat 0 1)) rfl ?_
                          refine lv_iload xx xb dX2_two_92 (lv_at hl 0 rfl) ?_
                          refine lv_icmp_gt (tgt := 124) xx xb dX2_two_94 (by decide) (fun c_94 => ?_) (fun c_94 => ?_)
                          · skip
                            have c_94 := lt_c (tN (by omega)) (tN (by omega)) c_94
                            refine lv_iinc (v := nI 4) (lv' := [(5, .int (nI 4)), (8, .int (nI (twS R xz.toNat yz.toNat nz.toNat 1 1))), (7, .int (nI 1)), (6, .int (nI 1)), (4, .int (nG (wbN nz 99))), (0, .ref h0), (1, .int x), (2, .int y), (3, .int n)]) xx xb dX2_two_124 hl (k := 3) rfl rfl (by decide) rfl (fun ls hl => ?_)
                            refine lv_goto (tgt := 48) xx xb dX2_two_127 (by decide) ?_
                            refine lv_iload xx xb dX2_two_48 (lv_at hl 0 rfl) ?_
                            refine lv_iconst (v := nI 4) xx xb dX2_two_50 (by decide) ?_
                            refine lv_icmp_ge (tgt := 130) xx xb dX2_two_51 (by decide) (fun c_51 => ?_) (fun c_51 => ?_)
                            · skip
                              refine lv_bipush (v := (-9)) xx xb dX2_two_130 (by decide) ?_
                              refine re_i (vTwo R xz.toNat yz.toNat nz.toNat) (by unfold vTwo; first | (rw [if_pos (by omega)]; done) | (rw [if_neg (by omega), if_pos (by omega)]; done) | (rw [if_neg (by omega), if_neg (by omega), if_pos (by omega)]; done) | (rw [if_neg (by omega), if_neg (by omega), if_neg (by omega), if_pos (by omega)]; done) | (rw [if_neg (by omega), if_neg (by omega), if_neg (by omega), if_neg (by omega)]; done)) ?_
                              have hc : cTwo R xz yz nz = 0 := by unfold cTwo; (repeat' split) <;> omega
                              exact rt_i C hw (itF (spF R xz.toNat 0 yz.toNat 1) nz.toNat) (by exact (anI_0 hc _).symm) (by rw [rfU_0 hc]) dX2_two_132
                            · skip
                              exact absurd (by decide) c_51
                          · skip
                            have c_94 := nlt_c (tN (by omega)) (tN (by omega)) c_94
                            refine lv_aload_n xx xb dX2_two_97 rfl (lv_at hl 5 rfl) ?_
                            refine lv_iload_n xx xb dX2_two_98 rfl (lv_at hl 6 rfl) ?_
                            refine re_i (nI xz.toNat) (ofT h_x (by omega) (by omega)) ?_
                            refine lv_iload xx xb dX2_two_99 (lv_at hl 2 rfl) ?_
                            refine lv_iload_n xx xb dX2_two_101 rfl (lv_at hl 7 rfl) ?_
                            refine re_i (nI yz.toNat) (ofT h_y (by omega) (by omega)) ?_
                            refine lv_iconst (v := nI 1) xx xb dX2_two_102 (by decide) ?_
                            refine lv_iload xx xb dX2_two_103 (lv_at hl 1 rfl) ?_
                            refine lv_isub xx xb dX2_two_105 ?_
                            refine re_i (nI 0) (by decide +kernel) ?_
                            refine lv_iload_n xx xb dX2_two_106 rfl (lv_at hl 8 rfl) ?_
                            refine re_i (nI nz.toNat) (ofT h_n (by omega) (by omega)) ?_
                            have hM := kX2_standingPulled l G h0 a1 a2 a3 a4 a5 a6 a7 a8 im lm rm pl sd R (itF (spF R xz.toNat 0 yz.toNat 1) nz.toNat) xz.toNat 1 yz.toNat 0 nz.toNat (by first | assumption | omega) (by first | assumption | omega) (by first | assumption | omega) (by first | assumption | omega) (by first | assumption | omega) (by first | assumption | omega) (by first | assumption | omega)
                            refine cv_i C hw hM yvX2_standingPulled ml_X2_177 0 rfl rfl rfl [0, 1, 2] rfl rfl (fun _ => (rfl : ([h0, a1, a2] : List Nat) = [h0, a1, a2])) (by decide) ⟨Nat.zero_le _, Nat.zero_le _⟩ hl.1 rfl (Nat.le_of_ble_eq_true rfl) dX2_two_107 (fun r _ H locs hr hw => ?_)
                            have hw : Wd G (fA [(h0, .inr (2, [.ref a1, .ref a2, .ref a3, .ref a4, .int (nI im), .ref a5, .ref a6, .ref a7, .int (nI lm), .int (nI rm), .int (nI pl), .ref a8, .int sd])), (a1, aI G 54 (fl R)), (a2, aI G 54 (fl Rm)), (a7, aI G 7 (cN rf))]) s [(h0, .inr (2, [.ref a1, .ref a2, .ref a3, .ref a4, .int (nI im), .ref a5, .ref a6, .ref a7, .int (nI lm), .int (nI rm), .int (nI pl), .ref a8, .int sd])), (a1, aI G 54 (fl R)), (a2, aI G 54 (fl (itF (spF R xz.toNat 1 yz.toNat 0) nz.toNat))), (a7, aI G 7 (cN rf))] H locs := hw
                            subst hr
                            refine re_i (nI (twS R xz.toNat yz.toNat nz.toNat 1 0)) rfl ?_
                            refine lv_iload xx xb dX2_two_110 (lv_at hl 0 rfl) ?_
                            refine lv_icmp_lt (tgt := 124) xx xb dX2_two_112 (by decide) (fun c_112 => ?_) (fun c_112 => ?_)
                            · skip
                              have c_112 := lt_c (tN (by omega)) (tN (by omega)) c_112
                              refine lv_iinc (v := nI 4) (lv' := [(5, .int (nI 4)), (8, .int (nI (twS R xz.toNat yz.toNat nz.toNat 1 1))), (7, .int (nI 1)), (6, .int (nI 1)), (4, .int (nG (wbN nz 99))), (0, .ref h0), (1, .int x), (2, .int y), (3, .int n)]) xx xb dX2_two_124 hl (k := 3) rfl rfl (by decide) rfl (fun ls hl => ?_)
                              refine lv_goto (tgt := 48) xx xb dX2_two_127 (by decide) ?_
                              refine lv_iload xx xb dX2_two_48 (lv_at hl 0 rfl) ?_
                              refine lv_iconst (v := nI 4) xx xb dX2_two_50 (by decide) ?_
                              refine lv_icmp_ge (tgt := 130) xx xb dX2_two_51 (by decide) (fun c_51 => ?_) (fun c_51 => ?_)
                              · skip
                                refine lv_bipush (v := (-9)) xx xb dX2_two_130 (by decide) ?_
                                refine re_i (vTwo R xz.toNat yz.toNat nz.toNat) (by unfold vTwo; first | (rw [if_pos (by omega)]; done) | (rw [if_neg (by omega), if_pos (by omega)]; done) | (rw [if_neg (by omega), if_neg (by omega), if_pos (by omega)]; done) | (rw [if_neg (by omega), if_neg (by omega), if_neg (by omega), if_pos (by omega)]; done) | (rw [if_neg (by omega), if_neg (by omega), if_neg (by omega), if_neg (by omega)]; done)) ?_
                                have hc : cTwo R xz yz nz = 0 := by unfold cTwo; (repeat' split) <;> omega
                                exact rt_i C hw (itF (spF R xz.toNat 1 yz.toNat 0) nz.toNat) (by exact (anI_0 hc _).symm) (by rw [rfU_0 hc]) dX2_two_132
                              · skip
                                exact absurd (by decide) c_51
                            · skip
                              have c_112 := nlt_c (tN (by omega)) (tN (by omega)) c_112
                              refine lv_bipush (v := nI 10) xx xb dX2_two_115 (by decide) ?_
                              refine lv_iload xx xb dX2_two_117 (lv_at hl 2 rfl) ?_
                              refine lv_imul xx xb dX2_two_119 ?_
                              refine re_i (nI 10) (by decide +kernel) ?_
                              refine lv_iload xx xb dX2_two_120 (lv_at hl 1 rfl) ?_
                              refine lv_iadd xx xb dX2_two_122 ?_
                              refine re_i (nI 11) (by decide +kernel) ?_
                              refine re_i (vTwo R xz.toNat yz.toNat nz.toNat) (by unfold vTwo; first | (rw [if_pos (by omega)]; done) | (rw [if_neg (by omega), if_pos (by omega)]; done) | (rw [if_neg (by omega), if_neg (by omega), if_pos (by omega)]; done) | (rw [if_neg (by omega), if_neg (by omega), if_neg (by omega), if_pos (by omega)]; done) | (rw [if_neg (by omega), if_neg (by omega), if_neg (by omega), if_neg (by omega)]; done)) ?_
                              have hc : cTwo R xz yz nz = 0 := by unfold cTwo; (repeat' split) <;> omega
                              exact rt_i C hw (itF (spF R xz.toNat 1 yz.toNat 0) nz.toNat) (by exact (anI_0 hc _).symm) (by rw [rfU_0 hc]) dX2_two_123
                      · skip
                        have c_94 := nlt_c (tN (by omega)) (tN (by omega)) c_94
                        refine lv_aload_n xx xb dX2_two_97 rfl (lv_at hl 5 rfl) ?_
                        refine lv_iload_n xx xb dX2_two_98 rfl (lv_at hl 6 rfl) ?_
                        refine re_i (nI xz.toNat) (ofT h_x (by omega) (by omega)) ?_
                        refine lv_iload xx xb dX2_two_99 (lv_at hl 2 rfl) ?_
                        refine lv_iload_n xx xb dX2_two_101 rfl (lv_at hl 7 rfl) ?_
                        refine re_i (nI yz.toNat) (ofT h_y (by omega) (by omega)) ?_
                        refine lv_iconst (v := nI 1) xx xb dX2_two_102 (by decide) ?_
                        refine lv_iload xx xb dX2_two_103 (lv_at hl 1 rfl) ?_
                        refine lv_isub xx xb dX2_two_105 ?_
                        refine re_i (nI 1) (by decide +kernel) ?_
                        refine lv_iload_n xx xb dX2_two_106 rfl (lv_at hl 8 rfl) ?_
                        refine re_i (nI nz.toNat) (ofT h_n (by omega) (by omega)) ?_
                        have hM := kX2_standingPulled l G h0 a1 a2 a3 a4 a5 a6 a7 a8 im lm rm pl sd R (itF (spF R xz.toNat 0 yz.toNat 0) nz.toNat) xz.toNat 1 yz.toNat 1 nz.toNat (by first | assumption | omega) (by first | assumption | omega) (by first | assumption | omega) (by first | assumption | omega) (by first | assumption | omega) (by first | assumption | omega) (by first | assumption | omega)
                        refine cv_i C hw hM yvX2_standingPulled ml_X2_177 0 rfl rfl rfl [0, 1, 2] rfl rfl (fun _ => (rfl : ([h0, a1, a2] : List Nat) = [h0, a1, a2])) (by decide) ⟨Nat.zero_le _, Nat.zero_le _⟩ hl.1 rfl (Nat.le_of_ble_eq_true rfl) dX2_two_107 (fun r _ H locs hr hw => ?_)
                        have hw : Wd G (fA [(h0, .inr (2, [.ref a1, .ref a2, .ref a3, .ref a4, .int (nI im), .ref a5, .ref a6, .ref a7, .int (nI lm), .int (nI rm), .int (nI pl), .ref a8, .int sd])), (a1, aI G 54 (fl R)), (a2, aI G 54 (fl Rm)), (a7, aI G 7 (cN rf))]) s [(h0, .inr (2, [.ref a1, .ref a2, .ref a3, .ref a4, .int (nI im), .ref a5, .ref a6, .ref a7, .int (nI lm), .int (nI rm), .int (nI pl), .ref a8, .int sd])), (a1, aI G 54 (fl R)), (a2, aI G 54 (fl (itF (spF R xz.toNat 1 yz.toNat 1) nz.toNat))), (a7, aI G 7 (cN rf))] H locs := hw
                        subst hr
                        refine re_i (nI (twS R xz.toNat yz.toNat nz.toNat 1 1)) rfl ?_
                        refine lv_iload xx xb dX2_two_110 (lv_at hl 0 rfl) ?_
                        refine lv_icmp_lt (tgt := 124) xx xb dX2_two_112 (by decide) (fun c_112 => ?_) (fun c_112 => ?_)
                        · skip
                          have c_112 := lt_c (tN (by omega)) (tN (by omega)) c_112
                          refine lv_iinc (v := nI 3) (lv' := [(5, .int (nI 3)), (8, .int (nI (twS R xz.toNat yz.toNat nz.toNat 1 0))), (7, .int (nI 0)), (6, .int (nI 1)), (4, .int (nG (wbN nz 99))), (0, .ref h0), (1, .int x), (2, .int y), (3, .int n)]) xx xb dX2_two_124 hl (k := 3) rfl rfl (by decide) rfl (fun ls hl => ?_)
                          refine lv_goto (tgt := 48) xx xb dX2_two_127 (by decide) ?_
                          refine lv_iload xx xb dX2_two_48 (lv_at hl 0 rfl) ?_
                          refine lv_iconst (v := nI 4) xx xb dX2_two_50 (by decide) ?_
                          refine lv_icmp_ge (tgt := 130) xx xb dX2_two_51 (by decide) (fun c_51 => ?_) (fun c_51 => ?_)
                          · skip
                            exact absurd c_51 (by decide)
                          · skip
                            refine lv_iload xx xb dX2_two_54 (lv_at hl 0 rfl) ?_
                            refine lv_iconst (v := nI 2) xx xb dX2_two_56 (by decide) ?_
                            refine lv_idiv xx xb dX2_two_57 (by decide +kernel) ?_
                            refine re_i (nI 1) (by decide +kernel) ?_
                            refine lv_istore (lv' := [(6, .int (nI 1)), (5, .int (nI 3)), (8, .int (nI (twS R xz.toNat yz.toNat nz.toNat 1 0))), (7, .int (nI 0)), (4, .int (nG (wbN nz 99))), (0, .ref h0), (1, .int x), (2, .int y), (3, .int n)]) xx xb dX2_two_58 hl (by decide) rfl (fun ls hl => ?_)
                            refine lv_iload xx xb dX2_two_60 (lv_at hl 1 rfl) ?_
                            refine lv_iconst (v := nI 2) xx xb dX2_two_62 (by decide) ?_
                            refine lv_irem xx xb dX2_two_63 (by decide +kernel) ?_
                            refine re_i (nI 1) (by decide +kernel) ?_
                            refine lv_istore (lv' := [(7, .int (nI 1)), (6, .int (nI 1)), (5, .int (nI 3)), (8, .int (nI (twS R xz.toNat yz.toNat nz.toNat 1 0))), (4, .int (nG (wbN nz 99))), (0, .ref h0), (1, .int x), (2, .int y), (3, .int n)]) xx xb dX2_two_64 hl (by decide) rfl (fun ls hl => ?_)
                            refine lv_aload_n xx xb dX2_two_66 rfl (lv_at hl 5 rfl) ?_
                            refine lv_iload_n xx xb dX2_two_67 rfl (lv_at hl 6 rfl) ?_
                            refine re_i (nI xz.toNat) (ofT h_x (by omega) (by omega)) ?_
                            refine lv_iload xx xb dX2_two_68 (lv_at hl 1 rfl) ?_
                            refine lv_iload_n xx xb dX2_two_70 rfl (lv_at hl 7 rfl) ?_
                            refine re_i (nI yz.toNat) (ofT h_y (by omega) (by omega)) ?_
                            refine lv_iload xx xb dX2_two_71 (lv_at hl 0 rfl) ?_
                            refine lv_iload_n xx xb dX2_two_73 rfl (lv_at hl 8 rfl) ?_
                            refine re_i (nI nz.toNat) (ofT h_n (by omega) (by omega)) ?_
                            have hM := kX2_standingPulled l G h0 a1 a2 a3 a4 a5 a6 a7 a8 im lm rm pl sd R (itF (spF R xz.toNat 1 yz.toNat 1) nz.toNat) xz.toNat 1 yz.toNat 1 nz.toNat (by first | assumption | omega) (by first | assumption | omega) (by first | assumption | omega) (by first | assumption | omega) (by first | assumption | omega) (by first | assumption | omega) (by first | assumption | omega)
                            refine cv_i C hw hM yvX2_standingPulled ml_X2_177 0 rfl rfl rfl [0, 1, 2] rfl rfl (fun _ => (rfl : ([h0, a1, a2] : List Nat) = [h0, a1, a2])) (by decide) ⟨Nat.zero_le _, Nat.zero_le _⟩ hl.1 rfl (Nat.le_of_ble_eq_true rfl) dX2_two_74 (fun r _ H locs hr hw => ?_)
                            have hw : Wd G (fA [(h0, .inr (2, [.ref a1, .ref a2, .ref a3, .ref a4, .int (nI im), .ref a5, .ref a6, .ref a7, .int (nI lm), .int (nI rm), .int (nI pl), .ref a8, .int sd])), (a1, aI G 54 (fl R)), (a2, aI G 54 (fl Rm)), (a7, aI G 7 (cN rf))]) s [(h0, .inr (2, [.ref a1, .ref a2, .ref a3, .ref a4, .int (nI im), .ref a5, .ref a6, .ref a7, .int (nI lm), .int (nI rm), .int (nI pl), .ref a8, .int sd])), (a1, aI G 54 (fl R)), (a2, aI G 54 (fl (itF (spF R xz.toNat 1 yz.toNat 1) nz.toNat))), (a7, aI G 7 (cN rf))] H locs := hw
                            subst hr
                            refine re_i (nI (twS R xz.toNat yz.toNat nz.toNat 1 1)) rfl ?_
                            refine lv_istore (lv' := [(8, .int (nI (twS R xz.toNat yz.toNat nz.toNat 1 1))), (7, .int (nI 1)), (6, .int (nI 1)), (5, .int (nI 3)), (4, .int (nG (wbN nz 99))), (0, .ref h0), (1, .int x), (2, .int y), (3, .int n)]) xx xb dX2_two_77 hl (by decide) rfl (fun ls hl => ?_)
                            refine lv_aload_n xx xb dX2_two_79 rfl (lv_at hl 5 rfl) ?_
                            refine lv_iload_n xx xb dX2_two_80 rfl (lv_at hl 6 rfl) ?_
                            refine re_i (nI xz.toNat) (ofT h_x (by omega) (by omega)) ?_
                            refine lv_iconst (v := nI 1) xx xb dX2_two_81 (by decide) ?_
                            refine lv_iload xx xb dX2_two_82 (lv_at hl 2 rfl) ?_
                            refine lv_isub xx xb dX2_two_84 ?_
                            refine re_i (nI 0) (by decide +kernel) ?_
                            refine lv_iload_n xx xb dX2_two_85 rfl (lv_at hl 7 rfl) ?_
                            refine re_i (nI yz.toNat) (ofT h_y (by omega) (by omega)) ?_
                            refine lv_iload xx xb dX2_two_86 (lv_at hl 1 rfl) ?_
                            refine lv_iload_n xx xb dX2_two_88 rfl (lv_at hl 8 rfl) ?_
                            refine re_i (nI nz.toNat) (ofT h_n (by omega) (by omega)) ?_
                            have hM := kX2_standingPulled l G h0 a1 a2 a3 a4 a5 a6 a7 a8 im lm rm pl sd R (itF (spF R xz.toNat 1 yz.toNat 1) nz.toNat) xz.toNat 0 yz.toNat 1 nz.toNat (by first | assumption | omega) (by first | assumption | omega) (by first | assumption | omega) (by first | assumption | omega) (by first | assumption | omega) (by first | assumption | omega) (by first | assumption | omega)
                            refine cv_i C hw hM yvX2_standingPulled ml_X2_177 0 rfl rfl rfl [0, 1, 2] rfl rfl (fun _ => (rfl : ([h0, a1, a2] : List Nat) = [h0, a1, a2])) (by decide) ⟨Nat.zero_le _, Nat.zero_le _⟩ hl.1 rfl (Nat.le_of_ble_eq_true rfl) dX2_two_89 (fun r _ H locs hr hw => ?_)
                            have hw : Wd G (fA [(h0, .inr (2, [.ref a1, .ref a2, .ref a3, .ref a4, .int (nI im), .ref a5, .ref a6, .ref a7, .int (nI lm), .int (nI rm), .int (nI pl), .ref a8, .int sd])), (a1, aI G 54 (fl R)), (a2, aI G 54 (fl Rm)), (a7, aI G 7 (cN rf))]) s [(h0, .inr (2, [.ref a1, .ref a2, .ref a3, .ref a4, .int (nI im), .ref a5, .ref a6, .ref a7, .int (nI lm), .int (nI rm), .int (nI pl), .ref a8, .int sd])), (a1, aI G 54 (fl R)), (a2, aI G 54 (fl (itF (spF R xz.toNat 0 yz.toNat 1) nz.toNat))), (a7, aI G 7 (cN rf))] H locs := hw
                            subst hr
                            refine re_i (nI (twS R xz.toNat yz.toNat nz.toNat 0 1)) rfl ?_
                            refine lv_iload xx xb dX2_two_92 (lv_at hl 0 rfl) ?_
                            refine lv_icmp_gt (tgt := 124) xx xb dX2_two_94 (by decide) (fun c_94 => ?_) (fun c_94 => ?_)
                            · skip
                              have c_94 := lt_c (tN (by omega)) (tN (by omega)) c_94
                              refine lv_iinc (v := nI 4) (lv' := [(5, .int (nI 4)), (8, .int (nI (twS R xz.toNat yz.toNat nz.toNat 1 1))), (7, .int (nI 1)), (6, .int (nI 1)), (4, .int (nG (wbN nz 99))), (0, .ref h0), (1, .int x), (2, .int y), (3, .int n)]) xx xb dX2_two_124 hl (k := 3) rfl rfl (by decide) rfl (fun ls hl => ?_)
                              refine lv_goto (tgt := 48) xx xb dX2_two_127 (by decide) ?_
                              refine lv_iload xx xb dX2_two_48 (lv_at hl 0 rfl) ?_
                              refine lv_iconst (v := nI 4) xx xb dX2_two_50 (by decide) ?_
                              refine lv_icmp_ge (tgt := 130) xx xb dX2_two_51 (by decide) (fun c_51 => ?_) (fun c_51 => ?_)
                              · skip
                                refine lv_bipush (v := (-9)) xx xb dX2_two_130 (by decide) ?_
                                refine re_i (vTwo R xz.toNat yz.toNat nz.toNat) (by unfold vTwo; first | (rw [if_pos (by omega)]; done) | (rw [if_neg (by omega), if_pos (by omega)]; done) | (rw [if_neg (by omega), if_neg (by omega), if_pos (by omega)]; done) | (rw [if_neg (by omega), if_neg (by omega), if_neg (by omega), if_pos (by omega)]; done) | (rw [if_neg (by omega), if_neg (by omega), if_neg (by omega), if_neg (by omega)]; done)) ?_
                                have hc : cTwo R xz yz nz = 0 := by unfold cTwo; (repeat' split) <;> omega
                                exact rt_i C hw (itF (spF R xz.toNat 0 yz.toNat 1) nz.toNat) (by exact (anI_0 hc _).symm) (by rw [rfU_0 hc]) dX2_two_132
                              · skip
                                exact absurd (by decide) c_51
                            · skip
                              have c_94 := nlt_c (tN (by omega)) (tN (by omega)) c_94
                              refine lv_aload_n xx xb dX2_two_97 rfl (lv_at hl 5 rfl) ?_
                              refine lv_iload_n xx xb dX2_two_98 rfl (lv_at hl 6 rfl) ?_
                              refine re_i (nI xz.toNat) (ofT h_x (by omega) (by omega)) ?_
                              refine lv_iload xx xb dX2_two_99 (lv_at hl 2 rfl) ?_
                              refine lv_iload_n xx xb dX2_two_101 rfl (lv_at hl 7 rfl) ?_
                              refine re_i (nI yz.toNat) (ofT h_y (by omega) (by omega)) ?_
                              refine lv_iconst (v := nI 1) xx xb dX2_two_102 (by decide) ?_
                              refine lv_iload xx xb dX2_two_103 (lv_at hl 1 rfl) ?_
                              refine lv_isub xx xb dX2_two_105 ?_
                              refine re_i (nI 0) (by decide +kernel) ?_
                              refine lv_iload_n xx xb dX2_two_106 rfl (lv_at hl 8 rfl) ?_
                              refine re_i (nI nz.toNat) (ofT h_n (by omega) (by omega)) ?_
                              have hM := kX2_standingPulled l G h0 a1 a2 a3 a4 a5 a6 a7 a8 im lm rm pl sd R (itF (spF R xz.toNat 0 yz.toNat 1) nz.toNat) xz.toNat 1 yz.toNat 0 nz.toNat (by first | assumption | omega) (by first | assumption | omega) (by first | assumption | omega) (by first | assumption | omega) (by first | assumption | omega) (by first | assumption | omega) (by first | assumption | omega)
                              refine cv_i C hw hM yvX2_standingPulled ml_X2_177 0 rfl rfl rfl [0, 1, 2] rfl rfl (fun _ => (rfl : ([h0, a1, a2] : List Nat) = [h0, a1, a2])) (by decide) ⟨Nat.zero_le _, Nat.zero_le _⟩ hl.1 rfl (Nat.le_of_ble_eq_true rfl) dX2_two_107 (fun r _ H locs hr hw => ?_)
                              have hw : Wd G (fA [(h0, .inr (2, [.ref a1, .ref a2, .ref a3, .ref a4, .int (nI im), .ref a5, .ref a6, .ref a7, .int (nI lm), .int (nI rm), .int (nI pl), .ref a8, .int sd])), (a1, aI G 54 (fl R)), (a2, aI G 54 (fl Rm)), (a7, aI G 7 (cN rf))]) s [(h0, .inr (2, [.ref a1, .ref a2, .ref a3, .ref a4, .int (nI im), .ref a5, .ref a6, .ref a7, .int (nI lm), .int (nI rm), .int (nI pl), .ref a8, .int sd])), (a1, aI G 54 (fl R)), (a2, aI G 54 (fl (itF (spF R xz.toNat 1 yz.toNat 0) nz.toNat))), (a7, aI G 7 (cN rf))] H locs := hw
                              subst hr
                              refine re_i (nI (twS R xz.toNat yz.toNat nz.toNat 1 0)) rfl ?_
                              refine lv_iload xx xb dX2_two_110 (lv_at hl 0 rfl) ?_
                              refine lv_icmp_lt (tgt := 124) xx xb dX2_two_112 (by decide) (fun c_112 => ?_) (fun c_112 => ?_)
                              · skip
                                have c_112 := lt_c (tN (by omega)) (tN (by omega)) c_112
                                refine lv_iinc (v := nI 4) (lv' := [(5, .int (nI 4)), (8, .int (nI (twS R xz.toNat yz.toNat nz.toNat 1 1))), (7, .int (nI 1)), (6, .int (nI 1)), (4, .int (nG (wbN nz 99))), (0, .ref h0), (1, .int x), (2, .int y), (3, .int n)]) xx xb dX2_two_124 hl (k := 3) rfl rfl (by decide) rfl (fun ls hl => ?_)
                                refine lv_goto (tgt := 48) xx xb dX2_two_127 (by decide) ?_
                                refine lv_iload xx xb dX2_two_48 (lv_at hl 0 rfl) ?_
                                refine lv_iconst (v := nI 4) xx xb dX2_two_50 (by decide) ?_
                                refine lv_icmp_ge (tgt := 130) xx xb dX2_two_51 (by decide) (fun c_51 => ?_) (fun c_51 => ?_)
                                · skip
                                  refine lv_bipush (v := (-9)) xx xb dX2_two_130 (by decide) ?_
                                  refine re_i (vTwo R xz.toNat yz.toNat nz.toNat) (by unfold vTwo; first | (rw [if_pos (by omega)]; done) | (rw [if_neg (by omega), if_pos (by omega)]; done) | (rw [if_neg (by omega), if_neg (by omega), if_pos (by omega)]; done) | (rw [if_neg (by omega), if_neg (by omega), if_neg (by omega), if_pos (by omega)]; done) | (rw [if_neg (by omega), if_neg (by omega), if_neg (by omega), if_neg (by omega)]; done)) ?_
                                  have hc : cTwo R xz yz nz = 0 := by unfold cTwo; (repeat' split) <;> omega
                                  exact rt_i C hw (itF (spF R xz.toNat 1 yz.toNat 0) nz.toNat) (by exact (anI_0 hc _).symm) (by rw [rfU_0 hc]) dX2_two_132
                                · skip
                                  exact absurd (by decide) c_51
                              · skip
                                have c_112 := nlt_c (tN (by omega)) (tN (by omega)) c_112
                                refine lv_bipush (v := nI 10) xx xb dX2_two_115 (by decide) ?_
                                refine lv_iload xx xb dX2_two_117 (lv_at hl 2 rfl) ?_
                                refine lv_imul xx xb dX2_two_119 ?_
                                refine re_i (nI 10) (by decide +kernel) ?_
                                refine lv_iload xx xb dX2_two_120 (lv_at hl 1 rfl) ?_
                                refine lv_iadd xx xb dX2_two_122 ?_
                                refine re_i (nI 11) (by decide +kernel) ?_
                                refine re_i (vTwo R xz.toNat yz.toNat nz.toNat) (by unfold vTwo; first | (rw [if_pos (by omega)]; done) | (rw [if_neg (by omega), if_pos (by omega)]; done) | (rw [if_neg (by omega), if_neg (by omega), if_pos (by omega)]; done) | (rw [if_neg (by omega), if_neg (by omega), if_neg (by omega), if_pos (by omega)]; done) | (rw [if_neg (by omega), if_neg (by omega), if_neg (by omega), if_neg (by omega)]; done)) ?_
                                have hc : cTwo R xz yz nz = 0 := by unfold cTwo; (repeat' split) <;> omega
                                exact rt_i C hw (itF (spF R xz.toNat 1 yz.toNat 0) nz.toNat) (by exact (anI_0 hc _).symm) (by rw [rfU_0 hc]) dX2_two_123
                        · skip
                          have c_112 := nlt_c (tN (by omega)) (tN (by omega)) c_112
                          refine lv_bipush (v := nI 10) xx xb dX2_two_115 (by decide) ?_
                          refine lv_iload xx xb dX2_two_117 (lv_at hl 2 rfl) ?_
                          refine lv_imul xx xb dX2_two_119 ?_
                          refine re_i (nI 10) (by decide +kernel) ?_
                          refine lv_iload xx xb dX2_two_120 (lv_at hl 1 rfl) ?_
                          refine lv_iadd xx xb dX2_two_122 ?_
                          refine re_i (nI 10) (by decide +kernel) ?_
                          refine re_i (vTwo R xz.toNat yz.toNat nz.toNat) (by unfold vTwo; first | (rw [if_pos (by omega)]; done) | (rw [if_neg (by omega), if_pos (by omega)]; done) | (rw [if_neg (by omega), if_neg (by omega), if_pos (by omega)]; done) | (rw [if_neg (by omega), if_neg (by omega), if_neg (by omega), if_pos (by omega)]; done) | (rw [if_neg (by omega), if_neg (by omega), if_neg (by omega), if_neg (by omega)]; done)) ?_
                          have hc : cTwo R xz yz nz = 0 := by unfold cTwo; (repeat' split) <;> omega
                          exact rt_i C hw (itF (spF R xz.toNat 1 yz.toNat 1) nz.toNat) (by exact (anI_0 hc _).symm) (by rw [rfU_0 hc]) dX2_two_123
                  · skip
                    have c_94 := nlt_c (tN (by omega)) (tN (by omega)) c_94
                    refine lv_aload_n xx xb dX2_two_97 rfl (lv_at hl 5 rfl) ?_
                    refine lv_iload_n xx xb dX2_two_98 rfl (lv_at hl 6 rfl) ?_
                    refine re_i (nI xz.toNat) (ofT h_x (by omega) (by omega)) ?_
                    refine lv_iload xx xb dX2_two_99 (lv_at hl 2 rfl) ?_
                    refine lv_iload_n xx xb dX2_two_101 rfl (lv_at hl 7 rfl) ?_
                    refine re_i (nI yz.toNat) (ofT h_y (by omega) (by omega)) ?_
                    refine lv_iconst (v := nI 1) xx xb dX2_two_102 (by decide) ?_
                    refine lv_iload xx xb dX2_two_103 (lv_at hl 1 rfl) ?_
                    refine lv_isub xx xb dX2_two_105 ?_
                    refine re_i (nI 0) (by decide +kernel) ?_
                    refine lv_iload_n xx xb dX2_two_106 rfl (lv_at hl 8 rfl) ?_
                    refine re_i (nI nz.toNat) (ofT h_n (by omega) (by omega)) ?_
                    have hM := kX2_standingPulled l G h0 a1 a2 a3 a4 a5 a6 a7 a8 im lm rm pl sd R (itF (spF R xz.toNat 1 yz.toNat 1) nz.toNat) xz.toNat 0 yz.toNat 0 nz.toNat (by first | assumption | omega) (by first | assumption | omega) (by first | assumption | omega) (by first | assumption | omega) (by first | assumption | omega) (by first | assumption | omega) (by first | assumption | omega)
                    refine cv_i C hw hM yvX2_standingPulled ml_X2_177 0 rfl rfl rfl [0, 1, 2] rfl rfl (fun _ => (rfl : ([h0, a1, a2] : List Nat) = [h0, a1, a2])) (by decide) ⟨Nat.zero_le _, Nat.zero_le _⟩ hl.1 rfl (Nat.le_of_ble_eq_true rfl) dX2_two_107 (fun r _ H locs hr hw => ?_)
                    have hw : Wd G (fA [(h0, .inr (2, [.ref a1, .ref a2, .ref a3, .ref a4, .int (nI im), .ref a5, .ref a6, .ref a7, .int (nI lm), .int (nI rm), .int (nI pl), .ref a8, .int sd])), (a1, aI G 54 (fl R)), (a2, aI G 54 (fl Rm)), (a7, aI G 7 (cN rf))]) s [(h0, .inr (2, [.ref a1, .ref a2, .ref a3, .ref a4, .int (nI im), .ref a5, .ref a6, .ref a7, .int (nI lm), .int (nI rm), .int (nI pl), .ref a8, .int sd])), (a1, aI G 54 (fl R)), (a2, aI G 54 (fl (itF (spF R xz.toNat 0 yz.toNat 0) nz.toNat))), (a7, aI G 7 (cN rf))] H locs := hw
                    subst hr
                    refine re_i (nI (twS R xz.toNat yz.toNat nz.toNat 0 0)) rfl ?_
                    refine lv_iload xx xb dX2_two_110 (lv_at hl 0 rfl) ?_
                    refine lv_icmp_lt (tgt := 124) xx xb dX2_two_112 (by decide) (fun c_112 => ?_) (fun c_112 => ?_)
                    · skip
                      have c_112 := lt_c (tN (by omega)) (tN (by omega)) c_112
                      refine lv_iinc (v := nI 2) (lv' := [(5, .int (nI 2)), (8, .int (nI (twS R xz.toNat yz.toNat nz.toNat 0 1))), (7, .int (nI 1)), (6, .int (nI 0)), (4, .int (nG (wbN nz 99))), (0, .ref h0), (1, .int x), (2, .int y), (3, .int n)]) xx xb dX2_two_124 hl (k := 3) rfl rfl (by decide) rfl (fun ls hl => ?_)
                      refine lv_goto (tgt := 48) xx xb dX2_two_127 (by decide) ?_
                      refine lv_iload xx xb dX2_two_48 (lv_at hl 0 rfl) ?_
                      refine lv_iconst (v := nI 4) xx xb dX2_two_50 (by decide) ?_
                      refine lv_icmp_ge (tgt := 130) xx xb dX2_two_51 (by decide) (fun c_51 => ?_) (fun c_51 => ?_)
                      · skip
                        exact absurd c_51 (by decide)
                      · skip
                        refine lv_iload xx xb dX2_two_54 (lv_at hl 0 rfl) ?_
                        refine lv_iconst (v := nI 2) xx xb dX2_two_56 (by decide) ?_
                        refine lv_idiv xx xb dX2_two_57 (by decide +kernel) ?_
                        refine re_i (nI 1) (by decide +kernel) ?_
                        refine lv_istore (lv' := [(6, .int (nI 1)), (5, .int (nI 2)), (8, .int (nI (twS R xz.toNat yz.toNat nz.toNat 0 1))), (7, .int (nI 1)), (4, .int (nG (wbN nz 99))), (0, .ref h0), (1, .int x), (2, .int y), (3, .int n)]) xx xb dX2_two_58 hl (by decide) rfl (fun ls hl => ?_)
                        refine lv_iload xx xb dX2_two_60 (lv_at hl 1 rfl) ?_
                        refine lv_iconst (v := nI 2) xx xb dX2_two_62 (by decide) ?_
                        refine lv_irem xx xb dX2_two_63 (by decide +kernel) ?_
                        refine re_i (nI 0) (by decide +kernel) ?_
                        refine lv_istore (lv' := [(7, .int (nI 0)), (6, .int (nI 1)), (5, .int (nI 2)), (8, .int (nI (twS R xz.toNat yz.toNat nz.toNat 0 1))), (4, .int (nG (wbN nz 99))), (0, .ref h0), (1, .int x), (2, .int y), (3, .int n)]) xx xb dX2_two_64 hl (by decide) rfl (fun ls hl => ?_)
                        refine lv_aload_n xx xb dX2_two_66 rfl (lv_at hl 5 rfl) ?_
                        refine lv_iload_n xx xb dX2_two_67 rfl (lv_at hl 6 rfl) ?_
                        refine re_i (nI xz.toNat) (ofT h_x (by omega) (by omega)) ?_
                        refine lv_iload xx xb dX2_two_68 (lv_at hl 1 rfl) ?_
                        refine lv_iload_n xx xb dX2_two_70 rfl (lv_at hl 7 rfl) ?_
                        refine re_i (nI yz.toNat) (ofT h_y (by omega) (by omega)) ?_
                        refine lv_iload xx xb dX2_two_71 (lv_at hl 0 rfl) ?_
                        refine lv_iload_n xx xb dX2_two_73 rfl (lv_at hl 8 rfl) ?_
                        refine re_i (nI nz.toNat) (ofT h_n (by omega) (by omega)) ?_
                        have hM := kX2_standingPulled l G h0 a1 a2 a3 a4 a5 a6 a7 a8 im lm rm pl sd R (itF (spF R xz.toNat 0 yz.toNat 0) nz.toNat) xz.toNat 1 yz.toNat 0 nz.toNat (by first | assumption | omega) (by first | assumption | omega) (by first | assumption | omega) (by first | assumption | omega) (by first | assumption | omega) (by first | assumption | omega) (by first | assumption | omega)
                        refine cv_i C hw hM yvX2_standingPulled ml_X2_177 0 rfl rfl rfl [0, 1, 2] rfl rfl (fun _ => (rfl : ([h0, a1, a2] : List Nat) = [h0, a1, a2])) (by decide) ⟨Nat.zero_le _, Nat.zero_le _⟩ hl.1 rfl (Nat.le_of_ble_eq_true rfl) dX2_two_74 (fun r _ H locs hr hw => ?_)
                        have hw : Wd G (fA [(h0, .inr (2, [.ref a1, .ref a2, .ref a3, .ref a4, .int (nI im), .ref a5, .ref a6, .ref a7, .int (nI lm), .int (nI rm), .int (nI pl), .ref a8, .int sd])), (a1, aI G 54 (fl R)), (a2, aI G 54 (fl Rm)), (a7, aI G 7 (cN rf))]) s [(h0, .inr (2, [.ref a1, .ref a2, .ref a3, .ref a4, .int (nI im), .ref a5, .ref a6, .ref a7, .int (nI lm), .int (nI rm), .int (nI pl), .ref a8, .int sd])), (a1, aI G 54 (fl R)), (a2, aI G 54 (fl (itF (spF R xz.toNat 1 yz.toNat 0) nz.toNat))), (a7, aI G 7 (cN rf))] H locs := hw
                        subst hr
                        refine re_i (nI (twS R xz.toNat yz.toNat nz.toNat 1 0)) rfl ?_
                        refine lv_istore (lv' := [(8, .int (nI (twS R xz.toNat yz.toNat nz.toNat 1 0))), (7, .int (nI 0)), (6, .int (nI 1)), (5, .int (nI 2)), (4, .int (nG (wbN nz 99))), (0, .ref h0), (1, .int x), (2, .int y), (3, .int n)]) xx xb dX2_two_77 hl (by decide) rfl (fun ls hl => ?_)
                        refine lv_aload_n xx xb dX2_two_79 rfl (lv_at hl 5 rfl) ?_
                        refine lv_iload_n xx xb dX2_two_80 rfl (lv_at hl 6 rfl) ?_
                        refine re_i (nI xz.toNat) (ofT h_x (by omega) (by omega)) ?_
                        refine lv_iconst (v := nI 1) xx xb dX2_two_81 (by decide) ?_
                        refine lv_iload xx xb dX2_two_82 (lv_at hl 2 rfl) ?_
                        refine lv_isub xx xb dX2_two_84 ?_
                        refine re_i (nI 0) (by decide +kernel) ?_
                        refine lv_iload_n xx xb dX2_two_85 rfl (lv_at hl 7 rfl) ?_
                        refine re_i (nI yz.toNat) (ofT h_y (by omega) (by omega)) ?_
                        refine lv_iload xx xb dX2_two_86 (lv_at hl 1 rfl) ?_
                        refine lv_iload_n xx xb dX2_two_88 rfl (lv_at hl 8 rfl) ?_
                        refine re_i (nI nz.toNat) (ofT h_n (by omega) (by omega)) ?_
                        have hM := kX2_standingPulled l G h0 a1 a2 a3 a4 a5 a6 a7 a8 im lm rm pl sd R (itF (spF R xz.toNat 1 yz.toNat 0) nz.toNat) xz.toNat 0 yz.toNat 0 nz.toNat (by first | assumption | omega) (by first | assumption | omega) (by first | assumption | omega) (by first | assumption | omega) (by first | assumption | omega) (by first | assumption | omega) (by first | assumption | omega)
                        refine cv_i C hw hM yvX2_standingPulled ml_X2_177 0 rfl rfl rfl [0, 1, 2] rfl rfl (fun _ => (rfl : ([h0, a1, a2] : List Nat) = [h0, a1, a2])) (by decide) ⟨Nat.zero_le _, Nat.zero_le _⟩ hl.1 rfl (Nat.le_of_ble_eq_true rfl) dX2_two_89 (fun r _ H locs hr hw => ?_)
                        have hw : Wd G (fA [(h0, .inr (2, [.ref a1, .ref a2, .ref a3, .ref a4, .int (nI im), .ref a5, .ref a6, .ref a7, .int (nI lm), .int (nI rm), .int (nI pl), .ref a8, .int sd])), (a1, aI G 54 (fl R)), (a2, aI G 54 (fl Rm)), (a7, aI G 7 (cN rf))]) s [(h0, .inr (2, [.ref a1, .ref a2, .ref a3, .ref a4, .int (nI im), .ref a5, .ref a6, .ref a7, .int (nI lm), .int (nI rm), .int (nI pl), .ref a8, .int sd])), (a1, aI G 54 (fl R)), (a2, aI G 54 (fl (itF (spF R xz.toNat 0 yz.toNat 0) nz.toNat))), (a7, aI G 7 (cN rf))] H locs := hw
                        subst hr
                        refine re_i (nI (twS R xz.toNat yz.toNat nz.toNat 0 0)) rfl ?_
                        refine lv_iload xx xb dX2_two_92 (lv_at hl 0 rfl) ?_
                        refine lv_icmp_gt (tgt := 124) xx xb dX2_two_94 (by decide) (fun c_94 => ?_) (fun c_94 => ?_)
                        · skip
                          have c_94 := lt_c (tN (by omega)) (tN (by omega)) c_94
                          refine lv_iinc (v := nI 3) (lv' := [(5, .int (nI 3)), (8, .int (nI (twS R xz.toNat yz.toNat nz.toNat 1 0))), (7, .int (nI 0)), (6, .int (nI 1)), (4, .int (nG (wbN nz 99))), (0, .ref h0), (1, .int x), (2, .int y), (3, .int n)]) xx xb dX2_two_124 hl (k := 3) rfl rfl (by decide) rfl (fun ls hl => ?_)
                          refine lv_goto (tgt := 48) xx xb dX2_two_127 (by decide) ?_
                          refine lv_iload xx xb dX2_two_48 (lv_at hl 0 rfl) ?_
                          refine lv_iconst (v := nI 4) xx xb dX2_two_50 (by decide) ?_
                          refine lv_icmp_ge (tgt := 130) xx xb dX2_two_51 (by decide) (fun c_51 => ?_) (fun c_51 => ?_)
                          · skip
                            exact absurd c_51 (by decide)
                          · skip
                            refine lv_iload xx xb dX2_two_54 (lv_at hl 0 rfl) ?_
                            refine lv_iconst (v := nI 2) xx xb dX2_two_56 (by decide) ?_
                            refine lv_idiv xx xb dX2_two_57 (by decide +kernel) ?_
                            refine re_i (nI 1) (by decide +kernel) ?_
                            refine lv_istore (lv' := [(6, .int (nI 1)), (5, .int (nI 3)), (8, .int (nI (twS R xz.toNat yz.toNat nz.toNat 1 0))), (7, .int (nI 0)), (4, .int (nG (wbN nz 99))), (0, .ref h0), (1, .int x), (2, .int y), (3, .int n)]) xx xb dX2_two_58 hl (by decide) rfl (fun ls hl => ?_)
                            refine lv_iload xx xb dX2_two_60 (lv_at hl 1 rfl) ?_
                            refine lv_iconst (v := nI 2) xx xb dX2_two_62 (by decide) ?_
                            refine lv_irem xx xb dX2_two_63 (by decide +kernel) ?_
                            refine re_i (nI 1) (by decide +kernel) ?_
                            refine lv_istore (lv' := [(7, .int (nI 1)), (6, .int (nI 1)), (5, .int (nI 3)), (8, .int (nI (twS R xz.toNat yz.toNat nz.toNat 1 0))), (4, .int (nG (wbN nz 99))), (0, .ref h0), (1, .int x), (2, .int y), (3, .int n)]) xx xb dX2_two_64 hl (by decide) rfl (fun ls hl => ?_)
                            refine lv_aload_n xx xb dX2_two_66 rfl (lv_at hl 5 rfl) ?_
                            refine lv_iload_n xx xb dX2_two_67 rfl (lv_at hl 6 rfl) ?_
                            refine re_i (nI xz.toNat) (ofT h_x (by omega) (by omega)) ?_
                            refine lv_iload xx xb dX2_two_68 (lv_at hl 1 rfl) ?_
                            refine lv_iload_n xx xb dX2_two_70 rfl (lv_at hl 7 rfl) ?_
                            refine re_i (nI yz.toNat) (ofT h_y (by omega) (by omega)) ?_
                            refine lv_iload xx xb dX2_two_71 (lv_at hl 0 rfl) ?_
                            refine lv_iload_n xx xb dX2_two_73 rfl (lv_at hl 8 rfl) ?_
                            refine re_i (nI nz.toNat) (ofT h_n (by omega) (by omega)) ?_
                            have hM := kX2_standingPulled l G h0 a1 a2 a3 a4 a5 a6 a7 a8 im lm rm pl sd R (itF (spF R xz.toNat 0 yz.toNat 0) nz.toNat) xz.toNat 1 yz.toNat 1 nz.toNat (by first | assumption | omega) (by first | assumption | omega) (by first | assumption | omega) (by first | assumption | omega) (by first | assumption | omega) (by first | assumption | omega) (by first | assumption | omega)
                            refine cv_i C hw hM yvX2_standingPulled ml_X2_177 0 rfl rfl rfl [0, 1, 2] rfl rfl (fun _ => (rfl : ([h0, a1, a2] : List Nat) = [h0, a1, a2])) (by decide) ⟨Nat.zero_le _, Nat.zero_le _⟩ hl.1 rfl (Nat.le_of_ble_eq_true rfl) dX2_two_74 (fun r _ H locs hr hw => ?_)
                            have hw : Wd G (fA [(h0, .inr (2, [.ref a1, .ref a2, .ref a3, .ref a4, .int (nI im), .ref a5, .ref a6, .ref a7, .int (nI lm), .int (nI rm), .int (nI pl), .ref a8, .int sd])), (a1, aI G 54 (fl R)), (a2, aI G 54 (fl Rm)), (a7, aI G 7 (cN rf))]) s [(h0, .inr (2, [.ref a1, .ref a2, .ref a3, .ref a4, .int (nI im), .ref a5, .ref a6, .ref a7, .int (nI lm), .int (nI rm), .int (nI pl), .ref a8, .int sd])), (a1, aI G 54 (fl R)), (a2, aI G 54 (fl (itF (spF R xz.toNat 1 yz.toNat 1) nz.toNat))), (a7, aI G 7 (cN rf))] H locs := hw
                            subst hr
                            refine re_i (nI (twS R xz.toNat yz.toNat nz.toNat 1 1)) rfl ?_
                            refine lv_istore (lv' := [(8, .int (nI (twS R xz.toNat yz.toNat nz.toNat 1 1))), (7, .int (nI 1)), (6, .int (nI 1)), (5, .int (nI 3)), (4, .int (nG (wbN nz 99))), (0, .ref h0), (1, .int x), (2, .int y), (3, .int n)]) xx xb dX2_two_77 hl (by decide) rfl (fun ls hl => ?_)
                            refine lv_aload_n xx xb dX2_two_79 rfl (lv_at hl 5 rfl) ?_
                            refine lv_iload_n xx xb dX2_two_80 rfl (lv_at hl 6 rfl) ?_
                            refine re_i (nI xz.toNat) (ofT h_x (by omega) (by omega)) ?_
                            refine lv_iconst (v := nI 1) xx xb dX2_two_81 (by decide) ?_
                            refine lv_iload xx xb dX2_two_82 (lv_at hl 2 rfl) ?_
                            refine lv_isub xx xb dX2_two_84 ?_
                            refine re_i (nI 0) (by decide +kernel) ?_
                            refine lv_iload_n xx xb dX2_two_85 rfl (lv_at hl 7 rfl) ?_
                            refine re_i (nI yz.toNat) (ofT h_y (by omega) (by omega)) ?_
                            refine lv_iload xx xb dX2_two_86 (lv_at hl 1 rfl) ?_
                            refine lv_iload_n xx xb dX2_two_88 rfl (lv_at hl 8 rfl) ?_
                            refine re_i (nI nz.toNat) (ofT h_n (by omega) (by omega)) ?_
                            have hM := kX2_standingPulled l G h0 a1 a2 a3 a4 a5 a6 a7 a8 im lm rm pl sd R (itF (spF R xz.toNat 1 yz.toNat 1) nz.toNat) xz.toNat 0 yz.toNat 1 nz.toNat (by first | assumption | omega) (by first | assumption | omega) (by first | assumption | omega) (by first | assumption | omega) (by first | assumption | omega) (by first | assumption | omega) (by first | assumption | omega)
                            refine cv_i C hw hM yvX2_standingPulled ml_X2_177 0 rfl rfl rfl [0, 1, 2] rfl rfl (fun _ => (rfl : ([h0, a1, a2] : List Nat) = [h0, a1, a2])) (by decide) ⟨Nat.zero_le _, Nat.zero_le _⟩ hl.1 rfl (Nat.le_of_ble_eq_true rfl) dX2_two_89 (fun r _ H locs hr hw => ?_)
                            have hw : Wd G (fA [(h0, .inr (2, [.ref a1, .ref a2, .ref a3, .ref a4, .int (nI im), .ref a5, .ref a6, .ref a7, .int (nI lm), .int (nI rm), .int (nI pl), .ref a8, .int sd])), (a1, aI G 54 (fl R)), (a2, aI G 54 (fl Rm)), (a7, aI G 7 (cN rf))]) s [(h0, .inr (2, [.ref a1, .ref a2, .ref a3, .ref a4, .int (nI im), .ref a5, .ref a6, .ref a7, .int (nI lm), .int (nI rm), .int (nI pl), .ref a8, .int sd])), (a1, aI G 54 (fl R)), (a2, aI G 54 (fl (itF (spF R xz.toNat 0 yz.toNat 1) nz.toNat))), (a7, aI G 7 (cN rf))] H locs := hw
                            subst hr
                            refine re_i (nI (twS R xz.toNat yz.toNat nz.toNat 0 1)) rfl ?_
                            refine lv_iload xx xb dX2_two_92 (lv_at hl 0 rfl) ?_
                            refine lv_icmp_gt (tgt := 124) xx xb dX2_two_94 (by decide) (fun c_94 => ?_) (fun c_94 => ?_)
                            · skip
                              have c_94 := lt_c (tN (by omega)) (tN (by omega)) c_94
                              refine lv_iinc (v := nI 4) (lv' := [(5, .int (nI 4)), (8, .int (nI (twS R xz.toNat yz.toNat nz.toNat 1 1))), (7, .int (nI 1)), (6, .int (nI 1)), (4, .int (nG (wbN nz 99))), (0, .ref h0), (1, .int x), (2, .int y), (3, .int n)]) xx xb dX2_two_124 hl (k := 3) rfl rfl (by decide) rfl (fun ls hl => ?_)
                              refine lv_goto (tgt := 48) xx xb dX2_two_127 (by decide) ?_
                              refine lv_iload xx xb dX2_two_48 (lv_at hl 0 rfl) ?_
                              refine lv_iconst (v := nI 4) xx xb dX2_two_50 (by decide) ?_
                              refine lv_icmp_ge (tgt := 130) xx xb dX2_two_51 (by decide) (fun c_51 => ?_) (fun c_51 => ?_)
                              · skip
                                refine lv_bipush (v := (-9)) xx xb dX2_two_130 (by decide) ?_
                                refine re_i (vTwo R xz.toNat yz.toNat nz.toNat) (by unfold vTwo; first | (rw [if_pos (by omega)]; done) | (rw [if_neg (by omega), if_pos (by omega)]; done) | (rw [if_neg (by omega), if_neg (by omega), if_pos (by omega)]; done) | (rw [if_neg (by omega), if_neg (by omega), if_neg (by omega), if_pos (by omega)]; done) | (rw [if_neg (by omega), if_neg (by omega), if_neg (by omega), if_neg (by omega)]; done)) ?_
                                have hc : cTwo R xz yz nz = 0 := by unfold cTwo; (repeat' split) <;> omega
                                exact rt_i C hw (itF (spF R xz.toNat 0 yz.toNat 1) nz.toNat) (by exact (anI_0 hc _).symm) (by rw [rfU_0 hc]) dX2_two_132
                              · skip
                                exact absurd (by decide) c_51
                            · skip
                              have c_94 := nlt_c (tN (by omega)) (tN (by omega)) c_94
                              refine lv_aload_n xx xb dX2_two_97 rfl (lv_at hl 5 rfl) ?_
                              refine lv_iload_n xx xb dX2_two_98 rfl (lv_at hl 6 rfl) ?_
                              refine re_i (nI xz.toNat) (ofT h_x (by omega) (by omega)) ?_
                              refine lv_iload xx xb dX2_two_99 (lv_at hl 2 rfl) ?_
                              refine lv_iload_n xx xb dX2_two_101 rfl (lv_at hl 7 rfl) ?_
                              refine re_i (nI yz.toNat) (ofT h_y (by omega) (by omega)) ?_
                              refine lv_iconst (v := nI 1) xx xb dX2_two_102 (by decide) ?_
                              refine lv_iload xx xb dX2_two_103 (lv_at hl 1 rfl) ?_
                              refine lv_isub xx xb dX2_two_105 ?_
                              refine re_i (nI 0) (by decide +kernel) ?_
                              refine lv_iload_n xx xb dX2_two_106 rfl (lv_at hl 8 rfl) ?_
                              refine re_i (nI nz.toNat) (ofT h_n (by omega) (by omega)) ?_
                              have hM := kX2_standingPulled l G h0 a1 a2 a3 a4 a5 a6 a7 a8 im lm rm pl sd R (itF (spF R xz.toNat 0 yz.toNat 1) nz.toNat) xz.toNat 1 yz.toNat 0 nz.toNat (by first | assumption | omega) (by first | assumption | omega) (by first | assumption | omega) (by first | assumption | omega) (by first | assumption | omega) (by first | assumption | omega) (by first | assumption | omega)
                              refine cv_i C hw hM yvX2_standingPulled ml_X2_177 0 rfl rfl rfl [0, 1, 2] rfl rfl (fun _ => (rfl : ([h0, a1, a2] : List Nat) = [h0, a1, a2])) (by decide) ⟨Nat.zero_le _, Nat.zero_le _⟩ hl.1 rfl (Nat.le_of_ble_eq_true rfl) dX2_two_107 (fun r _ H locs hr hw => ?_)
                              have hw : Wd G (fA [(h0, .inr (2, [.ref a1, .ref a2, .ref a3, .ref a4, .int (nI im), .ref a5, .ref a6, .ref a7, .int (nI lm), .int (nI rm), .int (nI pl), .ref a8, .int sd])), (a1, aI G 54 (fl R)), (a2, aI G 54 (fl Rm)), (a7, aI G 7 (cN rf))]) s [(h0, .inr (2, [.ref a1, .ref a2, .ref a3, .ref a4, .int (nI im), .ref a5, .ref a6, .ref a7, .int (nI lm), .int (nI rm), .int (nI pl), .ref a8, .int sd])), (a1, aI G 54 (fl R)), (a2, aI G 54 (fl (itF (spF R xz.toNat 1 yz.toNat 0) nz.toNat))), (a7, aI G 7 (cN rf))] H locs := hw
                              subst hr
                              refine re_i (nI (twS R xz.toNat yz.toNat nz.toNat 1 0)) rfl ?_
                              refine lv_iload xx xb dX2_two_110 (lv_at hl 0 rfl) ?_
                              refine lv_icmp_lt (tgt := 124) xx xb dX2_two_112 (by decide) (fun c_112 => ?_) (fun c_112 => ?_)
                              · skip
                                have c_112 := lt_c (tN (by omega)) (tN (by omega)) c_112
                                refine lv_iinc (v := nI 4) (lv' := [(5, .int (nI 4)), (8, .int (nI (twS R xz.toNat yz.toNat nz.toNat 1 1))), (7, .int (nI 1)), (6, .int (nI 1)), (4, .int (nG (wbN nz 99))), (0, .ref h0), (1, .int x), (2, .int y), (3, .int n)]) xx xb dX2_two_124 hl (k := 3) rfl rfl (by decide) rfl (fun ls hl => ?_)
                                refine lv_goto (tgt := 48) xx xb dX2_two_127 (by decide) ?_
                                refine lv_iload xx xb dX2_two_48 (lv_at hl 0 rfl) ?_
                                refine lv_iconst (v := nI 4) xx xb dX2_two_50 (by decide) ?_
                                refine lv_icmp_ge (tgt := 130) xx xb dX2_two_51 (by decide) (fun c_51 => ?_) (fun c_51 => ?_)
                                · skip
                                  refine lv_bipush (v := (-9)) xx xb dX2_two_130 (by decide) ?_
                                  refine re_i (vTwo R xz.toNat yz.toNat nz.toNat) (by unfold vTwo; first | (rw [if_pos (by omega)]; done) | (rw [if_neg (by omega), if_pos (by omega)]; done) | (rw [if_neg (by omega), if_neg (by omega), if_pos (by omega)]; done) | (rw [if_neg (by omega), if_neg (by omega), if_neg (by omega), if_pos (by omega)]; done) | (rw [if_neg (by omega), if_neg (by omega), if_neg (by omega), if_neg (by omega)]; done)) ?_
                                  have hc : cTwo R xz yz nz = 0 := by unfold cTwo; (repeat' split) <;> omega
                                  exact rt_i C hw (itF (spF R xz.toNat 1 yz.toNat 0) nz.toNat) (by exact (anI_0 hc _).symm) (by rw [rfU_0 hc]) dX2_two_132
                                · skip
                                  exact absurd (by decide) c_51
                              · skip
                                have c_112 := nlt_c (tN (by omega)) (tN (by omega)) c_112
                                refine lv_bipush (v := nI 10) xx xb dX2_two_115 (by decide) ?_
                                refine lv_iload xx xb dX2_two_117 (lv_at hl 2 rfl) ?_
                                refine lv_imul xx xb dX2_two_119 ?_
                                refine re_i (nI 10) (by decide +kernel) ?_
                                refine lv_iload xx xb dX2_two_120 (lv_at hl 1 rfl) ?_
                                refine lv_iadd xx xb dX2_two_122 ?_
                                refine re_i (nI 11) (by decide +kernel) ?_
                                refine re_i (vTwo R xz.toNat yz.toNat nz.toNat) (by unfold vTwo; first | (rw [if_pos (by omega)]; done) | (rw [if_neg (by omega), if_pos (by omega)]; done) | (rw [if_neg (by omega), if_neg (by omega), if_pos (by omega)]; done) | (rw [if_neg (by omega), if_neg (by omega), if_neg (by omega), if_pos (by omega)]; done) | (rw [if_neg (by omega), if_neg (by omega), if_neg (by omega), if_neg (by omega)]; done)) ?_
                                have hc : cTwo R xz yz nz = 0 := by unfold cTwo; (repeat' split) <;> omega
                                exact rt_i C hw (itF (spF R xz.toNat 1 yz.toNat 0) nz.toNat) (by exact (anI_0 hc _).symm) (by rw [rfU_0 hc]) dX2_two_123
                        · skip
                          have c_94 := nlt_c (tN (by omega)) (tN (by omega)) c_94
                          refine lv_aload_n xx xb dX2_two_97 rfl (lv_at hl 5 rfl) ?_
                          refine lv_iload_n xx xb dX2_two_98 rfl (lv_at hl 6 rfl) ?_
                          refine re_i (nI xz.toNat) (ofT h_x (by omega) (by omega)) ?_
                          refine lv_iload xx xb dX2_two_99 (lv_at hl 2 rfl) ?_
                          refine lv_iload_n xx xb dX2_two_101 rfl (lv_at hl 7 rfl) ?_
                          refine re_i (nI yz.toNat) (ofT h_y (by omega) (by omega)) ?_
                          refine lv_iconst (v := nI 1) xx xb dX2_two_102 (by decide) ?_
                          refine lv_iload xx xb dX2_two_103 (lv_at hl 1 rfl) ?_
                          refine lv_isub xx xb dX2_two_105 ?_
                          refine re_i (nI 1) (by decide +kernel) ?_
                          refine lv_iload_n xx xb dX2_two_106 rfl (lv_at hl 8 rfl) ?_
                          refine re_i (nI nz.toNat) (ofT h_n (by omega) (by omega)) ?_
                          have hM := kX2_standingPulled l G h0 a1 a2 a3 a4 a5 a6 a7 a8 im lm rm pl sd R (itF (spF R xz.toNat 0 yz.toNat 0) nz.toNat) xz.toNat 1 yz.toNat 1 nz.toNat (by first | assumption | omega) (by first | assumption | omega) (by first | assumption | omega) (by first | assumption | omega) (by first | assumption | omega) (by first | assumption | omega) (by first | assumption | omega)
                          refine cv_i C hw hM yvX2_standingPulled ml_X2_177 0 rfl rfl rfl [0, 1, 2] rfl rfl (fun _ => (rfl : ([h0, a1, a2] : List Nat) = [h0, a1, a2])) (by decide) ⟨Nat.zero_le _, Nat.zero_le _⟩ hl.1 rfl (Nat.le_of_ble_eq_true rfl) dX2_two_107 (fun r _ H locs hr hw => ?_)
                          have hw : Wd G (fA [(h0, .inr (2, [.ref a1, .ref a2, .ref a3, .ref a4, .int (nI im), .ref a5, .ref a6, .ref a7, .int (nI lm), .int (nI rm), .int (nI pl), .ref a8, .int sd])), (a1, aI G 54 (fl R)), (a2, aI G 54 (fl Rm)), (a7, aI G 7 (cN rf))]) s [(h0, .inr (2, [.ref a1, .ref a2, .ref a3, .ref a4, .int (nI im), .ref a5, .ref a6, .ref a7, .int (nI lm), .int (nI rm), .int (nI pl), .ref a8, .int sd])), (a1, aI G 54 (fl R)), (a2, aI G 54 (fl (itF (spF R xz.toNat 1 yz.toNat 1) nz.toNat))), (a7, aI G 7 (cN rf))] H locs := hw
                          subst hr
                          refine re_i (nI (twS R xz.toNat yz.toNat nz.toNat 1 1)) rfl ?_
                          refine lv_iload xx xb dX2_two_110 (lv_at hl 0 rfl) ?_
                          refine lv_icmp_lt (tgt := 124) xx xb dX2_two_112 (by decide) (fun c_112 => ?_) (fun c_112 => ?_)
                          · skip
                            have c_112 := lt_c (tN (by omega)) (tN (by omega)) c_112
                            refine lv_iinc (v := nI 3) (lv' := [(5, .int (nI 3)), (8, .int (nI (twS R xz.toNat yz.toNat nz.toNat 1 0))), (7, .int (nI 0)), (6, .int (nI 1)), (4, .int (nG (wbN nz 99))), (0, .ref h0), (1, .int x), (2, .int y), (3, .int n)]) xx xb dX2_two_124 hl (k := 3) rfl rfl (by decide) rfl (fun ls hl => ?_)
                            refine lv_goto (tgt := 48) xx xb dX2_two_127 (by decide) ?_
                            refine lv_iload xx xb dX2_two_48 (lv_at hl 0 rfl) ?_
                            refine lv_iconst (v := nI 4) xx xb dX2_two_50 (by decide) ?_
                            refine lv_icmp_ge (tgt := 130) xx xb dX2_two_51 (by decide) (fun c_51 => ?_) (fun c_51 => ?_)
                            · skip
                              exact absurd c_51 (by decide)
                            · skip
                              refine lv_iload xx xb dX2_two_54 (lv_at hl 0 rfl) ?_
                              refine lv_iconst (v := nI 2) xx xb dX2_two_56 (by decide) ?_
                              refine lv_idiv xx xb dX2_two_57 (by decide +kernel) ?_
                              refine re_i (nI 1) (by decide +kernel) ?_
                              refine lv_istore (lv' := [(6, .int (nI 1)), (5, .int (nI 3)), (8, .int (nI (twS R xz.toNat yz.toNat nz.toNat 1 0))), (7, .int (nI 0)), (4, .int (nG (wbN nz 99))), (0, .ref h0), (1, .int x), (2, .int y), (3, .int n)]) xx xb dX2_two_58 hl (by decide) rfl (fun ls hl => ?_)
                              refine lv_iload xx xb dX2_two_60 (lv_at hl 1 rfl) ?_
                              refine lv_iconst (v := nI 2) xx xb dX2_two_62 (by decide) ?_
                              refine lv_irem xx xb dX2_two_63 (by decide +kernel) ?_
                              refine re_i (nI 1) (by decide +kernel) ?_
                              refine lv_istore (lv' := [(7, .int (nI 1)), (6, .int (nI 1)), (5, .int (nI 3)), (8, .int (nI (twS R xz.toNat yz.toNat nz.toNat 1 0))), (4, .int (nG (wbN nz 99))), (0, .ref h0), (1, .int x), (2, .int y), (3, .int n)]) xx xb dX2_two_64 hl (by decide) rfl (fun ls hl => ?_)
                              refine lv_aload_n xx xb dX2_two_66 rfl (lv_at hl 5 rfl) ?_
                              refine lv_iload_n xx xb dX2_two_67 rfl (lv_at hl 6 rfl) ?_
                              refine re_i (nI xz.toNat) (ofT h_x (by omega) (by omega)) ?_
                              refine lv_iload xx xb dX2_two_68 (lv_at hl 1 rfl) ?_
                              refine lv_iload_n xx xb dX2_two_70 rfl (lv_at hl 7 rfl) ?_
                              refine re_i (nI yz.toNat) (ofT h_y (by omega) (by omega)) ?_
                              refine lv_iload xx xb dX2_two_71 (lv_at hl 0 rfl) ?_
                              refine lv_iload_n xx xb dX2_two_73 rfl (lv_at hl 8 rfl) ?_
                              refine re_i (nI nz.toNat) (ofT h_n (by omega) (by omega)) ?_
                              have hM := kX2_standingPulled l G h0 a1 a2 a3 a4 a5 a6 a7 a8 im lm rm pl sd R (itF (spF R xz.toNat 1 yz.toNat 1) nz.toNat) xz.toNat 1 yz.toNat 1 nz.toNat (by first | assumption | omega) (by first | assumption | omega) (by first | assumption | omega) (by first | assumption | omega) (by first | assumption | omega) (by first | assumption | omega) (by first | assumption | omega)
                              refine cv_i C hw hM yvX2_standingPulled ml_X2_177 0 rfl rfl rfl [0, 1, 2] rfl rfl (fun _ => (rfl : ([h0, a1, a2] : List Nat) = [h0, a1, a2])) (by decide) ⟨Nat.zero_le _, Nat.zero_le _⟩ hl.1 rfl (Nat.le_of_ble_eq_true rfl) dX2_two_74 (fun r _ H locs hr hw => ?_)
                              have hw : Wd G (fA [(h0, .inr (2, [.ref a1, .ref a2, .ref a3, .ref a4, .int (nI im), .ref a5, .ref a6, .ref a7, .int (nI lm), .int (nI rm), .int (nI pl), .ref a8, .int sd])), (a1, aI G 54 (fl R)), (a2, aI G 54 (fl Rm)), (a7, aI G 7 (cN rf))]) s [(h0, .inr (2, [.ref a1, .ref a2, .ref a3, .ref a4, .int (nI im), .ref a5, .ref a6, .ref a7, .int (nI lm), .int (nI rm), .int (nI pl), .ref a8, .int sd])), (a1, aI G 54 (fl R)), (a2, aI G 54 (fl (itF (spF R xz.toNat 1 yz.toNat 1) nz.toNat))), (a7, aI G 7 (cN rf))] H locs := hw
                              subst hr
                              refine re_i (nI (twS R xz.toNat yz.toNat nz.toNat 1 1)) rfl ?_
                              refine lv_istore (lv' := [(8, .int (nI (twS R xz.toNat yz.toNat nz.toNat 1 1))), (7, .int (nI 1)), (6, .int (nI 1)), (5, .int (nI 3)), (4, .int (nG (wbN nz 99))), (0, .ref h0), (1, .int x), (2, .int y), (3, .int n)]) xx xb dX2_two_77 hl (by decide) rfl (fun ls hl => ?_)
                              refine lv_aload_n xx xb dX2_two_79 rfl (lv_at hl 5 rfl) ?_
                              refine lv_iload_n xx xb dX2_two_80 rfl (lv_at hl 6 rfl) ?_
                              refine re_i (nI xz.toNat) (ofT h_x (by omega) (by omega)) ?_
                              refine lv_iconst (v := nI 1) xx xb dX2_two_81 (by decide) ?_
                              refine lv_iload xx xb dX2_two_82 (lv_at hl 2 rfl) ?_
                              refine lv_isub xx xb dX2_two_84 ?_
                              refine re_i (nI 0) (by decide +kernel) ?_
                              refine lv_iload_n xx xb dX2_two_85 rfl (lv_at hl 7 rfl) ?_
                              refine re_i (nI yz.toNat) (ofT h_y (by omega) (by omega)) ?_
                              refine lv_iload xx xb dX2_two_86 (lv_at hl 1 rfl) ?_
                              refine lv_iload_n xx xb dX2_two_88 rfl (lv_at hl 8 rfl) ?_
                              refine re_i (nI nz.toNat) (ofT h_n (by omega) (by omega)) ?_
                              have hM := kX2_standingPulled l G h0 a1 a2 a3 a4 a5 a6 a7 a8 im lm rm pl sd R (itF (spF R xz.toNat 1 yz.toNat 1) nz.toNat) xz.toNat 0 yz.toNat 1 nz.toNat (by first | assumption | omega) (by first | assumption | omega) (by first | assumption | omega) (by first | assumption | omega) (by first | assumption | omega) (by first | assumption | omega) (by first | assumption | omega)
                              refine cv_i C hw hM yvX2_standingPulled ml_X2_177 0 rfl rfl rfl [0, 1, 2] rfl rfl (fun _ => (rfl : ([h0, a1, a2] : List Nat) = [h0, a1, a2])) (by decide) ⟨Nat.zero_le _, Nat.zero_le _⟩ hl.1 rfl (Nat.le_of_ble_eq_true rfl) dX2_two_89 (fun r _ H locs hr hw => ?_)
                              have hw : Wd G (fA [(h0, .inr (2, [.ref a1, .ref a2, .ref a3, .ref a4, .int (nI im), .ref a5, .ref a6, .ref a7, .int (nI lm), .int (nI rm), .int (nI pl), .ref a8, .int sd])), (a1, aI G 54 (fl R)), (a2, aI G 54 (fl Rm)), (a7, aI G 7 (cN rf))]) s [(h0, .inr (2, [.ref a1, .ref a2, .ref a3, .ref a4, .int (nI im), .ref a5, .ref a6, .ref a7, .int (nI lm), .int (nI rm), .int (nI pl), .ref a8, .int sd])), (a1, aI G 54 (fl R)), (a2, aI G 54 (fl (itF (spF R xz.toNat 0 yz.toNat 1) nz.toNat))), (a7, aI G 7 (cN rf))] H locs := hw
                              subst hr
                              refine re_i (nI (twS R xz.toNat yz.toNat nz.toNat 0 1)) rfl ?_
                              refine lv_iload xx xb dX2_two_92 (lv_at hl 0 rfl) ?_
                              refine lv_icmp_gt (tgt := 124) xx xb dX2_two_94 (by decide) (fun c_94 => ?_) (fun c_94 => ?_)
                              · skip
                                have c_94 := lt_c (tN (by omega)) (tN (by omega)) c_94
                                refine lv_iinc (v := nI 4) (lv' := [(5, .int (nI 4)), (8, .int (nI (twS R xz.toNat yz.toNat nz.toNat 1 1))), (7, .int (nI 1)), (6, .int (nI 1)), (4, .int (nG (wbN nz 99))), (0, .ref h0), (1, .int x), (2, .int y), (3, .int n)]) xx xb dX2_two_124 hl (k := 3) rfl rfl (by decide) rfl (fun ls hl => ?_)
                                refine lv_goto (tgt := 48) xx xb dX2_two_127 (by decide) ?_
                                refine lv_iload xx xb dX2_two_48 (lv_at hl 0 rfl) ?_
                                refine lv_iconst (v := nI 4) xx xb dX2_two_50 (by decide) ?_
                                refine lv_icmp_ge (tgt := 130) xx xb dX2_two_51 (by decide) (fun c_51 => ?_) (fun c_51 => ?_)
                                · skip
                                  refine lv_bipush (v := (-9)) xx xb dX2_two_130 (by decide) ?_
                                  refine re_i (vTwo R xz.toNat yz.toNat nz.toNat) (by unfold vTwo; first | (rw [if_pos (by omega)]; done) | (rw [if_neg (by omega), if_pos (by omega)]; done) | (rw [if_neg (by omega), if_neg (by omega), if_pos (by omega)]; done) | (rw [if_neg (by omega), if_neg (by omega), if_neg (by omega), if_pos (by omega)]; done) | (rw [if_neg (by omega), if_neg (by omega), if_neg (by omega), if_neg (by omega)]; done)) ?_
                                  have hc : cTwo R xz yz nz = 0 := by unfold cTwo; (repeat' split) <;> omega
                                  exact rt_i C hw (itF (spF R xz.toNat 0 yz.toNat 1) nz.toNat) (by exact (anI_0 hc _).symm) (by rw [rfU_0 hc]) dX2_two_132
                                · skip
                                  exact absurd (by decide) c_51
                              · skip
                                have c_94 := nlt_c (tN (by omega)) (tN (by omega)) c_94
                                refine lv_aload_n xx xb dX2_two_97 rfl (lv_at hl 5 rfl) ?_
                                refine lv_iload_n xx xb dX2_two_98 rfl (lv_at hl 6 rfl) ?_
                                refine re_i (nI xz.toNat) (ofT h_x (by omega) (by omega)) ?_
                                refine lv_iload xx xb dX2_two_99 (lv_at hl 2 rfl) ?_
                                refine lv_iload_n xx xb dX2_two_101 rfl (lv_at hl 7 rfl) ?_
                                refine re_i (nI yz.toNat) (ofT h_y (by omega) (by omega)) ?_
                                refine lv_iconst (v := nI 1) xx xb dX2_two_102 (by decide) ?_
                                refine lv_iload xx xb dX2_two_103 (lv_at hl 1 rfl) ?_
                                refine lv_isub xx xb dX2_two_105 ?_
                                refine re_i (nI 0) (by decide +kernel) ?_
                                refine lv_iload_n xx xb dX2_two_106 rfl (lv_at hl 8 rfl) ?_
                                refine re_i (nI nz.toNat) (ofT h_n (by omega) (by omega)) ?_
                                have hM := kX2_standingPulled l G h0 a1 a2 a3 a4 a5 a6 a7 a8 im lm rm pl sd R (itF (spF R xz.toNat 0 yz.toNat 1) nz.toNat) xz.toNat 1 yz.toNat 0 nz.toNat (by first | assumption | omega) (by first | assumption | omega) (by first | assumption | omega) (by first | assumption | omega) (by first | assumption | omega) (by first | assumption | omega) (by first | assumption | omega)
                                refine cv_i C hw hM yvX2_standingPulled ml_X2_177 0 rfl rfl rfl [0, 1, 2] rfl rfl (fun _ => (rfl : ([h0, a1, a2] : List Nat) = [h0, a1, a2])) (by decide) ⟨Nat.zero_le _, Nat.zero_le _⟩ hl.1 rfl (Nat.le_of_ble_eq_true rfl) dX2_two_107 (fun r _ H locs hr hw => ?_)
                                have hw : Wd G (fA [(h0, .inr (2, [.ref a1, .ref a2, .ref a3, .ref a4, .int (nI im), .ref a5, .ref a6, .ref a7, .int (nI lm), .int (nI rm), .int (nI pl), .ref a8, .int sd])), (a1, aI G 54 (fl R)), (a2, aI G 54 (fl Rm)), (a7, aI G 7 (cN rf))]) s [(h0, .inr (2, [.ref a1, .ref a2, .ref a3, .ref a4, .int (nI im), .ref a5, .ref a6, .ref a7, .int (nI lm), .int (nI rm), .int (nI pl), .ref a8, .int sd])), (a1, aI G 54 (fl R)), (a2, aI G 54 (fl (itF (spF R xz.toNat 1 yz.toNat 0) nz.toNat))), (a7, aI G 7 (cN rf))] H locs := hw
                                subst hr
                                refine re_i (nI (twS R xz.toNat yz.toNat nz.toNat 1 0)) rfl ?_
                                refine lv_iload xx xb dX2_two_110 (lv_at hl 0 rfl) ?_
                                refine lv_icmp_lt (tgt := 124) xx xb dX2_two_112 (by decide) (fun c_112 => ?_) (fun c_112 => ?_)
                                · skip
                                  have c_112 := lt_c (tN (by omega)) (tN (by omega)) c_112
                                  refine lv_iinc (v := nI 4) (lv' := [(5, .int (nI 4)), (8, .int (nI (twS R xz.toNat yz.toNat nz.toNat 1 1))), (7, .int (nI 1)), (6, .int (nI 1)), (4, .int (nG (wbN nz 99))), (0, .ref h0), (1, .int x), (2, .int y), (3, .int n)]) xx xb dX2_two_124 hl (k := 3) rfl rfl (by decide) rfl (fun ls hl => ?_)
                                  refine lv_goto (tgt := 48) xx xb dX2_two_127 (by decide) ?_
                                  refine lv_iload xx xb dX2_two_48 (lv_at hl 0 rfl) ?_
                                  refine lv_iconst (v := nI 4) xx xb dX2_two_50 (by decide) ?_
                                  refine lv_icmp_ge (tgt := 130) xx xb dX2_two_51 (by decide) (fun c_51 => ?_) (fun c_51 => ?_)
                                  · skip
                                    refine lv_bipush (v := (-9)) xx xb dX2_two_130 (by decide) ?_
                                    refine re_i (vTwo R xz.toNat yz.toNat nz.toNat) (by unfold vTwo; first | (rw [if_pos (by omega)]; done) | (rw [if_neg (by omega), if_pos (by omega)]; done) | (rw [if_neg (by omega), if_neg (by omega), if_pos (by omega)]; done) | (rw [if_neg (by omega), if_neg (by omega), if_neg (by omega), if_pos (by omega)]; done) | (rw [if_neg (by omega), if_neg (by omega), if_neg (by omega), if_neg (by omega)]; done)) ?_
                                    have hc : cTwo R xz yz nz = 0 := by unfold cTwo; (repeat' split) <;> omega
                                    exact rt_i C hw (itF (spF R xz.toNat 1 yz.toNat 0) nz.toNat) (by exact (anI_0 hc _).symm) (by rw [rfU_0 hc]) dX2_two_132
                                  · skip
                                    exact absurd (by decide) c_51
                                · skip
                                  have c_112 := nlt_c (tN (by omega)) (tN (by omega)) c_112
                                  refine lv_bipush (v := nI 10) xx xb dX2_two_115 (by decide) ?_
                                  refine lv_iload xx xb dX2_two_117 (lv_at hl 2 rfl) ?_
                                  refine lv_imul xx xb dX2_two_119 ?_
                                  refine re_i (nI 10) (by decide +kernel) ?_
                                  refine lv_iload xx xb dX2_two_120 (lv_at hl 1 rfl) ?_
                                  refine lv_iadd xx xb dX2_two_122 ?_
                                  refine re_i (nI 11) (by decide +kernel) ?_
                                  refine re_i (vTwo R xz.toNat yz.toNat nz.toNat) (by unfold vTwo; first | (rw [if_pos (by omega)]; done) | (rw [if_neg (by omega), if_pos (by omega)]; done) | (rw [if_neg (by omega), if_neg (by omega), if_pos (by omega)]; done) | (rw [if_neg (by omega), if_neg (by omega), if_neg (by omega), if_pos (by omega)]; done) | (rw [if_neg (by omega), if_neg (by omega), if_neg (by omega), if_neg (by omega)]; done)) ?_
                                  have hc : cTwo R xz yz nz = 0 := by unfold cTwo; (repeat' split) <;> omega
                                  exact rt_i C hw (itF (spF R xz.toNat 1 yz.toNat 0) nz.toNat) (by exact (anI_0 hc _).symm) (by rw [rfU_0 hc]) dX2_two_123
                          · skip
                            have c_112 := nlt_c (tN (by omega)) (tN (by omega)) c_112
                            refine lv_bipush (v := nI 10) xx xb dX2_two_115 (by decide) ?_
                            refine lv_iload xx xb dX2_two_117 (lv_at hl 2 rfl) ?_
                            refine lv_imul xx xb dX2_two_119 ?_
                            refine re_i (nI 10) (by decide +kernel) ?_
                            refine lv_iload xx xb dX2_two_120 (lv_at hl 1 rfl) ?_
                            refine lv_iadd xx xb dX2_two_122 ?_
                            refine re_i (nI 10) (by decide +kernel) ?_
                            refine re_i (vTwo R xz.toNat yz.toNat nz.toNat) (by unfold vTwo; first | (rw [if_pos (by omega)]; done) | (rw [if_neg (by omega), if_pos (by omega)]; done) | (rw [if_neg (by omega), if_neg (by omega), if_pos (by omega)]; done) | (rw [if_neg (by omega), if_neg (by omega), if_neg (by omega), if_pos (by omega)]; done) | (rw [if_neg (by omega), if_neg (by omega), if_neg (by omega), if_neg (by omega)]; done)) ?_
                            have hc : cTwo R xz yz nz = 0 := by unfold cTwo; (repeat' split) <;> omega
                            exact rt_i C hw (itF (spF R xz.toNat 1 yz.toNat 1) nz.toNat) (by exact (anI_0 hc _).symm) (by rw [rfU_0 hc]) dX2_two_123
                    · skip
                      have c_112 := nlt_c (tN (by omega)) (tN (by omega)) c_112
                      refine lv_bipush (v := nI 10) xx xb dX2_two_115 (by decide) ?_
                      refine lv_iload xx xb dX2_two_117 (lv_at hl 2 rfl) ?_
                      refine lv_imul xx xb dX2_two_119 ?_
                      refine re_i (nI 0) (by decide +kernel) ?_
                      refine lv_iload xx xb dX2_two_120 (lv_at hl 1 rfl) ?_
                      refine lv_iadd xx xb dX2_two_122 ?_
                      refine re_i (nI 1) (by decide +kernel) ?_
                      refine re_i (vTwo R xz.toNat yz.toNat nz.toNat) (by unfold vTwo; first | (rw [if_pos (by omega)]; done) | (rw [if_neg (by omega), if_pos (by omega)]; done) | (rw [if_neg (by omega), if_neg (by omega), if_pos (by omega)]; done) | (rw [if_neg (by omega), if_neg (by omega), if_neg (by omega), if_pos (by omega)]; done) | (rw [if_neg (by omega), if_neg (by omega), if_neg (by omega), if_neg (by omega)]; done)) ?_
                      have hc : cTwo R xz yz nz = 0 := by unfold cTwo; (repeat' split) <;> omega
                      exact rt_i C hw (itF (spF R xz.toNat 0 yz.toNat 0) nz.toNat) (by exact (anI_0 hc _).symm) (by rw [rfU_0 hc]) dX2_two_123
              · skip
                have c_112 := nlt_c (tN (by omega)) (tN (by omega)) c_112
                refine lv_bipush (v := nI 10) xx xb dX2_two_115 (by decide) ?_
                refine lv_iload xx xb dX2_two_117 (lv_at hl 2 rfl) ?_
                refine lv_imul xx xb dX2_two_119 ?_
                refine re_i (nI 0) (by decide +kernel) ?_
                refine lv_iload xx xb dX2_two_120 (lv_at hl 1 rfl) ?_
                refine lv_iadd xx xb dX2_two_122 ?_
                refine re_i (nI 0) (by decide +kernel) ?_
                refine re_i (vTwo R xz.toNat yz.toNat nz.toNat) (by unfold vTwo; first | (rw [if_pos (by omega)]; done) | (rw [if_neg (by omega), if_pos (by omega)]; done) | (rw [if_neg (by omega), if_neg (by omega), if_pos (by omega)]; done) | (rw [if_neg (by omega), if_neg (by omega), if_neg (by omega), if_pos (by omega)]; done) | (rw [if_neg (by omega), if_neg (by omega), if_neg (by omega), if_neg (by omega)]; done)) ?_
                have hc : cTwo R xz yz nz = 0 := by unfold cTwo; (repeat' split) <;> omega
                exact rt_i C hw (itF (spF R xz.toNat 0 yz.toNat 1) nz.toNat) (by exact (anI_0 hc _).symm) (by rw [rfU_0 hc]) dX2_two_123
        · skip
          have c_35 := g0_n c_35
          refine lv_aload_n xx xb dX2_two_38 rfl (lv_at hl 1 rfl) ?_
          refine lv_iload xx xb dX2_two_39 (lv_at hl 0 rfl) ?_
          have hM := kX2_no l G h0 a1 a2 a3 a4 a5 a6 a7 a8 im lm rm pl sd rf (wbN nz 99) (by omega)
          refine cv_i C hw hM yvX2_no ml_X2_36 0 rfl rfl rfl [0, 3] rfl rfl (fun _ => (rfl : ([h0, a7] : List Nat) = [h0, a7])) (by decide) ⟨Nat.zero_le _, Nat.zero_le _⟩ hl.1 rfl (Nat.le_of_ble_eq_true rfl) dX2_two_41 (fun r _ H locs hr hw => ?_)
          have hw : Wd G (fA [(h0, .inr (2, [.ref a1, .ref a2, .ref a3, .ref a4, .int (nI im), .ref a5, .ref a6, .ref a7, .int (nI lm), .int (nI rm), .int (nI pl), .ref a8, .int sd])), (a1, aI G 54 (fl R)), (a2, aI G 54 (fl Rm)), (a7, aI G 7 (cN rf))]) s [(h0, .inr (2, [.ref a1, .ref a2, .ref a3, .ref a4, .int (nI im), .ref a5, .ref a6, .ref a7, .int (nI lm), .int (nI rm), .int (nI pl), .ref a8, .int sd])), (a1, aI G 54 (fl R)), (a2, aI G 54 (fl Rm)), (a7, aI G 7 (cN (upN rf (wbN nz 99) (rf (wbN nz 99) + 1))))] H locs := hw
          subst hr
          have hc : cTwo R xz yz nz = (wbN nz 99) := by unfold cTwo; (repeat' split) <;> omega
          have hj : (wbN nz 99) ≠ 0 := by omega
          exact rt_i C hw Rm (by exact (anI_r hc hj _).symm) (by rw [rfU_r hc hj]) dX2_two_44
      · skip
        have c_18 := eq_c h_x h_y c_18
        refine lv_iconst (v := (-1)) xx xb dX2_two_21 (by decide) ?_
        refine lv_goto (tgt := 31) xx xb dX2_two_22 (by decide) ?_
        refine lv_istore (lv' := [(4, .int (-1)), (0, .ref h0), (1, .int x), (2, .int y), (3, .int n)]) xx xb dX2_two_31 hl (by decide) rfl (fun ls hl => ?_)
        refine lv_iload xx xb dX2_two_33 (lv_at hl 0 rfl) ?_
        refine lv_if_eq (tgt := 45) xx xb dX2_two_35 (by decide) (fun c_35 => ?_) (fun c_35 => ?_)
        · skip
          exact absurd c_35 (by decide)
        · skip
          refine lv_aload_n xx xb dX2_two_38 rfl (lv_at hl 1 rfl) ?_
          refine lv_iload xx xb dX2_two_39 (lv_at hl 0 rfl) ?_
          have hM := kX2_no l G h0 a1 a2 a3 a4 a5 a6 a7 a8 im lm rm pl sd rf 1 (by omega)
          refine cv_i C hw hM yvX2_no ml_X2_36 0 rfl rfl rfl [0, 3] rfl rfl (fun _ => (rfl : ([h0, a7] : List Nat) = [h0, a7])) (by decide) ⟨Nat.zero_le _, Nat.zero_le _⟩ hl.1 rfl (Nat.le_of_ble_eq_true rfl) dX2_two_41 (fun r _ H locs hr hw => ?_)
          have hw : Wd G (fA [(h0, .inr (2, [.ref a1, .ref a2, .ref a3, .ref a4, .int (nI im), .ref a5, .ref a6, .ref a7, .int (nI lm), .int (nI rm), .int (nI pl), .ref a8, .int sd])), (a1, aI G 54 (fl R)), (a2, aI G 54 (fl Rm)), (a7, aI G 7 (cN rf))]) s [(h0, .inr (2, [.ref a1, .ref a2, .ref a3, .ref a4, .int (nI im), .ref a5, .ref a6, .ref a7, .int (nI lm), .int (nI rm), .int (nI pl), .ref a8, .int sd])), (a1, aI G 54 (fl R)), (a2, aI G 54 (fl Rm)), (a7, aI G 7 (cN (upN rf 1 (rf 1 + 1))))] H locs := hw
          subst hr
          have hc : cTwo R xz yz nz = 1 := by unfold cTwo; (repeat' split) <;> omega
          have hj : 1 ≠ 0 := by omega
          exact rt_i C hw Rm (by exact (anI_r hc hj _).symm) (by rw [rfU_r hc hj]) dX2_two_44
