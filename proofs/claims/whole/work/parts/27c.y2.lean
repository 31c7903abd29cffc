section LW
variable {p : Program} {l : Launch} {e : Env} {s : State} {m : MethodId} {below : List Frame} {meth : Method} {c : Code} {Q : State → Prop} {rt0 : Option FieldType} {G : GT} {X : Xt} {b L i : Nat} {xs : Nat → Int32} {x1 so ak af ab aa to tk tf tb ta uo uk uf ub ua x5 x6 x7 x8 x2 a1 a2 a3 a4 a5 a6 a7 a8 : Nat}
set_option maxRecDepth 100000 in
set_option maxHeartbeats 4000000 in
theorem lc_tower (C : Cx p s m #[Value.ref b] meth c code 4 RL rt0 G) (hX : va_X b L xs s s.heap) (hbl : b < s.heap.size) (hE : XE X (LA s) s s.heap) (hL : L ≤ 3072) (hiL : i + 6 ≤ L) (K : LK p l e s m below meth c Q G b i x1 so ak af ab aa to tk tf tb ta uo uk uf ub ua x5 x6 x7 x8 x2 a1 a2 a3 a4 a5 a6 a7 a8) (R S Rk Rm Rg Rw : RT) (m0 lm rm im pl : Nat) (lf rf rv : Nat → Nat) (ft nu : Nat → Int32) (sd1 sd2 : Int32) (H : Heap) (locs : List Loc) (ls : Array Slot) (hFI : FI R Rk Rg lf lm rv rm im) (hw : Wd G (LA s) s (LWd G x1 so ak af ab aa to tk tf tb ta uo uk uf ub ua x5 x6 x7 x8 x2 a1 a2 a3 a4 a5 a6 a7 a8 R S Rk Rm Rg Rw m0 lm rm im pl lf rf rv ft nu sd1 sd2) H locs) (hl : lv_has ls 4 [(0, .ref b), (1, .ref x1), (2, .ref x2), (3, .int (nI i))]) : W p l e room_1 s m #[Value.ref b] below meth c H locs 29 638 Q (F0 m 513 ls []) := by
  have xx := C.1
  have xb := C.2.1
  have hbA : ¬ LA s b := Nat.not_le.mpr hbl
  obtain ⟨hFR, hFk, ⟨hLF, hlm⟩, ⟨hrm, hrv⟩, him, himR⟩ := id hFI
  obtain ⟨hR, hK, hp, hm⟩ := id hFR
  obtain ⟨hn, hf0, hpr, hA⟩ := id hR
  have hk02 := hFk.1.2.1
  have hw : Wd G (LA s) s [(x1, .inr (1, [.ref so, .ref to, .ref uo, .int (nI im), .ref x5, .int (nI lm), .ref x6, .int (nI rm), .ref x7, .ref x8, .int sd1])), (so, .inr (0, [.int (nI (sN R)), .int (nI (R 0 1)), .int (nI (sF R)), .int (nI (sS R)), .int (nI (sL R)), .ref ak, .ref af, .ref ab, .ref aa])), (ak, aI G 10 (sK R)), (af, aI G 10 (sG R)), (ab, aI G 10 (sO R)), (aa, aI G 10 (sA R)), (to, .inr (0, [.int (nI (sN S)), .int (nI m0), .int (nI (sF S)), .int (nI (sS S)), .int (nI (sL S)), .ref tk, .ref tf, .ref tb, .ref ta])), (tk, aI G 10 (sK S)), (tf, aI G 10 (sG S)), (tb, aI G 10 (sO S)), (ta, aI G 10 (sA S)), (uo, .inr (0, [.int (nI (sN Rk)), .int (nI (Rk 0 1)), .int (nI (sF Rk)), .int (nI (sS Rk)), .int (nI (sL Rk)), .ref uk, .ref uf, .ref ub, .ref ua])), (uk, aI G 10 (sK Rk)), (uf, aI G 10 (sG Rk)), (ub, aI G 10 (sO Rk)), (ua, aI G 10 (sA Rk)), (x5, aI G 96 (cN lf)), (x6, aI G 16 (cN rv)), (x7, aI G 7 (cN rf)), (x8, aI G 10 ft), (x2, .inr (2, [.ref a1, .ref a2, .ref a3, .ref a4, .int (nI im), .ref a5, .ref a6, .ref a7, .int (nI lm), .int (nI rm), .int (nI pl), .ref a8, .int sd2])), (a1, aI G 54 (fl R)), (a2, aI G 54 (fl Rm)), (a3, aI G 54 (fl Rg)), (a4, aI G 54 (fl Rw)), (a5, aI G 96 (cN lf)), (a6, aI G 16 (cN rv)), (a7, aI G 7 (cN rf)), (a8, aI G 3 nu)] H locs := hw
  refine lv_aload_n xx xb dL_law_513 rfl (lv_at hl 1 rfl) ?_
  refine lv_aload_n xx xb dL_law_514 rfl (lv_at hl 0 rfl) ?_
  refine lv_iload_n xx xb dL_law_515 rfl (lv_at hl 3 rfl) ?_
  refine lv_iconst (v := nI 1) xx xb dL_law_516 (by decide) ?_
  refine lv_iadd xx xb dL_law_517 ?_
  refine re_i (nI (i + 1)) (nI_add _ _) ?_
  refine va_sld xx xb hX hbl hbA hw.2.2 (vp_in_nI (by omega) (by omega)) dL_law_518 ?_
  refine re_i (xs (i + 1)) (congrArg xs (nI_clamp (by omega))) ?_
  refine lv_aload_n xx xb dL_law_519 rfl (lv_at hl 0 rfl) ?_
  refine lv_iload_n xx xb dL_law_520 rfl (lv_at hl 3 rfl) ?_
  refine lv_iconst (v := nI 2) xx xb dL_law_521 (by decide) ?_
  refine lv_iadd xx xb dL_law_522 ?_
  refine re_i (nI (i + 2)) (nI_add _ _) ?_
  refine va_sld xx xb hX hbl hbA hw.2.2 (vp_in_nI (by omega) (by omega)) dL_law_523 ?_
  refine re_i (xs (i + 2)) (congrArg xs (nI_clamp (by omega))) ?_
  have hM := kX1_tower l G x1 so to uo x5 x6 x7 x8 im lm rm sd1 rf ak af ab aa R (xs (i + 1)) ((xs (i + 1)).toInt) (xs (i + 2)) ((xs (i + 2)).toInt) rfl rfl (by first | assumption | omega)
  refine cv_i C hw hM yvX1_tower ml_L_69 0 rfl rfl rfl [0, 1, 2, 3, 4, 5, 18] rfl rfl (fun _ => (rfl : ([x1, so, ak, af, ab, aa, x7] : List Nat) = [x1, so, ak, af, ab, aa, x7])) (by decide) ⟨Nat.le_of_ble_eq_true rfl, Nat.le_of_ble_eq_true rfl⟩ hl.1 rfl (Nat.le_of_ble_eq_true rfl) dL_law_524 (fun r _ H locs hr hw => ?_)
  have hw : Wd G (LA s) s [(x1, .inr (1, [.ref so, .ref to, .ref uo, .int (nI im), .ref x5, .int (nI lm), .ref x6, .int (nI rm), .ref x7, .ref x8, .int sd1])), (so, .inr (0, [.int (nI (sN R)), .int (nI (R 0 1)), .int (nI (sF R)), .int (nI (sS R)), .int (nI (sL R)), .ref ak, .ref af, .ref ab, .ref aa])), (ak, aI G 10 (sK R)), (af, aI G 10 (sG R)), (ab, aI G 10 (sO R)), (aa, aI G 10 (sA R)), (to, .inr (0, [.int (nI (sN S)), .int (nI m0), .int (nI (sF S)), .int (nI (sS S)), .int (nI (sL S)), .ref tk, .ref tf, .ref tb, .ref ta])), (tk, aI G 10 (sK S)), (tf, aI G 10 (sG S)), (tb, aI G 10 (sO S)), (ta, aI G 10 (sA S)), (uo, .inr (0, [.int (nI (sN Rk)), .int (nI (Rk 0 1)), .int (nI (sF Rk)), .int (nI (sS Rk)), .int (nI (sL Rk)), .ref uk, .ref uf, .ref ub, .ref ua])), (uk, aI G 10 (sK Rk)), (uf, aI G 10 (sG Rk)), (ub, aI G 10 (sO Rk)), (ua, aI G 10 (sA Rk)), (x5, aI G 96 (cN lf)), (x6, aI G 16 (cN rv)), (x7, aI G 7 (cN (rfU rf (cTow R ((xs (i + 1)).toInt) ((xs (i + 2)).toInt))))), (x8, aI G 10 ft), (x2, .inr (2, [.ref a1, .ref a2, .ref a3, .ref a4, .int (nI im), .ref a5, .ref a6, .ref a7, .int (nI lm), .int (nI rm), .int (nI pl), .ref a8, .int sd2])), (a1, aI G 54 (fl R)), (a2, aI G 54 (fl Rm)), (a3, aI G 54 (fl Rg)), (a4, aI G 54 (fl Rw)), (a5, aI G 96 (cN lf)), (a6, aI G 16 (cN rv)), (a7, aI G 7 (cN rf)), (a8, aI G 3 nu)] H locs := hw
  subst hr
  refine lv_aload_n xx xb dL_law_527 rfl (lv_at hl 2 rfl) ?_
  refine lv_aload_n xx xb dL_law_528 rfl (lv_at hl 0 rfl) ?_
  refine lv_iload_n xx xb dL_law_529 rfl (lv_at hl 3 rfl) ?_
  refine lv_iconst (v := nI 1) xx xb dL_law_530 (by decide) ?_
  refine lv_iadd xx xb dL_law_531 ?_
  refine re_i (nI (i + 1)) (nI_add _ _) ?_
  refine va_sld xx xb hX hbl hbA hw.2.2 (vp_in_nI (by omega) (by omega)) dL_law_532 ?_
  refine re_i (xs (i + 1)) (congrArg xs (nI_clamp (by omega))) ?_
  refine lv_aload_n xx xb dL_law_533 rfl (lv_at hl 0 rfl) ?_
  refine lv_iload_n xx xb dL_law_534 rfl (lv_at hl 3 rfl) ?_
  refine lv_iconst (v := nI 2) xx xb dL_law_535 (by decide) ?_
  refine lv_iadd xx xb dL_law_536 ?_
  refine re_i (nI (i + 2)) (nI_add _ _) ?_
  refine va_sld xx xb hX hbl hbA hw.2.2 (vp_in_nI (by omega) (by omega)) dL_law_537 ?_
  refine re_i (xs (i + 2)) (congrArg xs (nI_clamp (by omega))) ?_
  have hM := kX2_tower l G x2 a1 a2 a3 a4 a5 a6 a7 a8 im lm rm pl sd2 R rf (xs (i + 1)) ((xs (i + 1)).toInt) (xs (i + 2)) ((xs (i + 2)).toInt) rfl rfl (by first | assumption | omega)
  refine cv_i C hw hM yvX2_tower ml_L_72 20 rfl rfl rfl [20, 21, 27] rfl rfl (fun _ => (rfl : ([x2, a1, a7] : List Nat) = [x2, a1, a7])) (by decide) ⟨Nat.le_of_ble_eq_true rfl, Nat.le_of_ble_eq_true rfl⟩ hl.1 rfl (Nat.le_of_ble_eq_true rfl) dL_law_538 (fun r _ H locs hr hw => ?_)
  have hw : Wd G (LA s) s [(x1, .inr (1, [.ref so, .ref to, .ref uo, .int (nI im), .ref x5, .int (nI lm), .ref x6, .int (nI rm), .ref x7, .ref x8, .int sd1])), (so, .inr (0, [.int (nI (sN R)), .int (nI (R 0 1)), .int (nI (sF R)), .int (nI (sS R)), .int (nI (sL R)), .ref ak, .ref af, .ref ab, .ref aa])), (ak, aI G 10 (sK R)), (af, aI G 10 (sG R)), (ab, aI G 10 (sO R)), (aa, aI G 10 (sA R)), (to, .inr (0, [.int (nI (sN S)), .int (nI m0), .int (nI (sF S)), .int (nI (sS S)), .int (nI (sL S)), .ref tk, .ref tf, .ref tb, .ref ta])), (tk, aI G 10 (sK S)), (tf, aI G 10 (sG S)), (tb, aI G 10 (sO S)), (ta, aI G 10 (sA S)), (uo, .inr (0, [.int (nI (sN Rk)), .int (nI (Rk 0 1)), .int (nI (sF Rk)), .int (nI (sS Rk)), .int (nI (sL Rk)), .ref uk, .ref uf, .ref ub, .ref ua])), (uk, aI G 10 (sK Rk)), (uf, aI G 10 (sG Rk)), (ub, aI G 10 (sO Rk)), (ua, aI G 10 (sA Rk)), (x5, aI G 96 (cN lf)), (x6, aI G 16 (cN rv)), (x7, aI G 7 (cN (rfU rf (cTow R ((xs (i + 1)).toInt) ((xs (i + 2)).toInt))))), (x8, aI G 10 ft), (x2, .inr (2, [.ref a1, .ref a2, .ref a3, .ref a4, .int (nI im), .ref a5, .ref a6, .ref a7, .int (nI lm), .int (nI rm), .int (nI pl), .ref a8, .int sd2])), (a1, aI G 54 (fl R)), (a2, aI G 54 (fl Rm)), (a3, aI G 54 (fl Rg)), (a4, aI G 54 (fl Rw)), (a5, aI G 96 (cN lf)), (a6, aI G 16 (cN rv)), (a7, aI G 7 (cN (rfU rf (cTow R ((xs (i + 1)).toInt) ((xs (i + 2)).toInt))))), (a8, aI G 3 nu)] H locs := hw
  subst hr
  refine lv_icmp_eq (tgt := 1137) xx xb dL_law_541 (by decide) (fun _ => ?_) (fun c => absurd rfl c)
  exact K R S Rk Rm Rg Rw m0 lm rm im pl lf (rfU rf (cTow R ((xs (i + 1)).toInt) ((xs (i + 2)).toInt))) rv ft nu sd1 sd2 H _ ls (hFI) hw (lv_sub hl [0, 1, 2, 3] rfl)
set_option maxRecDepth 100000 in
set_option maxHeartbeats 4000000 in
theorem lc_leastSpeed (C : Cx p s m #[Value.ref b] meth c code 4 RL rt0 G) (hX : va_X b L xs s s.heap) (hbl : b < s.heap.size) (hE : XE X (LA s) s s.heap) (hL : L ≤ 3072) (hiL : i + 6 ≤ L) (K : LK p l e s m below meth c Q G b i x1 so ak af ab aa to tk tf tb ta uo uk uf ub ua x5 x6 x7 x8 x2 a1 a2 a3 a4 a5 a6 a7 a8) (R S Rk Rm Rg Rw : RT) (m0 lm rm im pl : Nat) (lf rf rv : Nat → Nat) (ft nu : Nat → Int32) (sd1 sd2 : Int32) (H : Heap) (locs : List Loc) (ls : Array Slot) (hFI : FI R Rk Rg lf lm rv rm im) (hw : Wd G (LA s) s (LWd G x1 so ak af ab aa to tk tf tb ta uo uk uf ub ua x5 x6 x7 x8 x2 a1 a2 a3 a4 a5 a6 a7 a8 R S Rk Rm Rg Rw m0 lm rm im pl lf rf rv ft nu sd1 sd2) H locs) (hl : lv_has ls 4 [(0, .ref b), (1, .ref x1), (2, .ref x2), (3, .int (nI i))]) : W p l e room_1 s m #[Value.ref b] below meth c H locs 29 638 Q (F0 m 546 ls []) := by
  have xx := C.1
  have xb := C.2.1
  have hbA : ¬ LA s b := Nat.not_le.mpr hbl
  obtain ⟨hFR, hFk, ⟨hLF, hlm⟩, ⟨hrm, hrv⟩, him, himR⟩ := id hFI
  obtain ⟨hR, hK, hp, hm⟩ := id hFR
  obtain ⟨hn, hf0, hpr, hA⟩ := id hR
  have hk02 := hFk.1.2.1
  have hw : Wd G (LA s) s [(x1, .inr (1, [.ref so, .ref to, .ref uo, .int (nI im), .ref x5, .int (nI lm), .ref x6, .int (nI rm), .ref x7, .ref x8, .int sd1])), (so, .inr (0, [.int (nI (sN R)), .int (nI (R 0 1)), .int (nI (sF R)), .int (nI (sS R)), .int (nI (sL R)), .ref ak, .ref af, .ref ab, .ref aa])), (ak, aI G 10 (sK R)), (af, aI G 10 (sG R)), (ab, aI G 10 (sO R)), (aa, aI G 10 (sA R)), (to, .inr (0, [.int (nI (sN S)), .int (nI m0), .int (nI (sF S)), .int (nI (sS S)), .int (nI (sL S)), .ref tk, .ref tf, .ref tb, .ref ta])), (tk, aI G 10 (sK S)), (tf, aI G 10 (sG S)), (tb, aI G 10 (sO S)), (ta, aI G 10 (sA S)), (uo, .inr (0, [.int (nI (sN Rk)), .int (nI (Rk 0 1)), .int (nI (sF Rk)), .int (nI (sS Rk)), .int (nI (sL Rk)), .ref uk, .ref uf, .ref ub, .ref ua])), (uk, aI G 10 (sK Rk)), (uf, aI G 10 (sG Rk)), (ub, aI G 10 (sO Rk)), (ua, aI G 10 (sA Rk)), (x5, aI G 96 (cN lf)), (x6, aI G 16 (cN rv)), (x7, aI G 7 (cN rf)), (x8, aI G 10 ft), (x2, .inr (2, [.ref a1, .ref a2, .ref a3, .ref a4, .int (nI im), .ref a5, .ref a6, .ref a7, .int (nI lm), .int (nI rm), .int (nI pl), .ref a8, .int sd2])), (a1, aI G 54 (fl R)), (a2, aI G 54 (fl Rm)), (a3, aI G 54 (fl Rg)), (a4, aI G 54 (fl Rw)), (a5, aI G 96 (cN lf)), (a6, aI G 16 (cN rv)), (a7, aI G 7 (cN rf)), (a8, aI G 3 nu)] H locs := hw
  refine lv_aload_n xx xb dL_law_546 rfl (lv_at hl 1 rfl) ?_
  refine lv_aload_n xx xb dL_law_547 rfl (lv_at hl 0 rfl) ?_
  refine lv_iload_n xx xb dL_law_548 rfl (lv_at hl 3 rfl) ?_
  refine lv_iconst (v := nI 1) xx xb dL_law_549 (by decide) ?_
  refine lv_iadd xx xb dL_law_550 ?_
  refine re_i (nI (i + 1)) (nI_add _ _) ?_
  refine va_sld xx xb hX hbl hbA hw.2.2 (vp_in_nI (by omega) (by omega)) dL_law_551 ?_
  refine re_i (xs (i + 1)) (congrArg xs (nI_clamp (by omega))) ?_
  have hM := kX1_leastSpeed l G x1 so to uo x5 x6 x7 x8 im lm rm sd1 rf ak af ab aa R (xs (i + 1)) ((xs (i + 1)).toInt) rfl (by first | assumption | omega)
  refine cv_i C hw hM yvX1_leastSpeed ml_L_73 0 rfl rfl rfl [0, 1, 2, 3, 4, 5, 18] rfl rfl (fun _ => (rfl : ([x1, so, ak, af, ab, aa, x7] : List Nat) = [x1, so, ak, af, ab, aa, x7])) (by decide) ⟨Nat.le_of_ble_eq_true rfl, Nat.le_of_ble_eq_true rfl⟩ hl.1 rfl (Nat.le_of_ble_eq_true rfl) dL_law_552 (fun r _ H locs hr hw => ?_)
  have hw : Wd G (LA s) s [(x1, .inr (1, [.ref so, .ref to, .ref uo, .int (nI im), .ref x5, .int (nI lm), .ref x6, .int (nI rm), .ref x7, .ref x8, .int sd1])), (so, .inr (0, [.int (nI (sN R)), .int (nI (R 0 1)), .int (nI (sF R)), .int (nI (sS R)), .int (nI (sL R)), .ref ak, .ref af, .ref ab, .ref aa])), (ak, aI G 10 (sK R)), (af, aI G 10 (sG R)), (ab, aI G 10 (sO R)), (aa, aI G 10 (sA R)), (to, .inr (0, [.int (nI (sN S)), .int (nI m0), .int (nI (sF S)), .int (nI (sS S)), .int (nI (sL S)), .ref tk, .ref tf, .ref tb, .ref ta])), (tk, aI G 10 (sK S)), (tf, aI G 10 (sG S)), (tb, aI G 10 (sO S)), (ta, aI G 10 (sA S)), (uo, .inr (0, [.int (nI (sN Rk)), .int (nI (Rk 0 1)), .int (nI (sF Rk)), .int (nI (sS Rk)), .int (nI (sL Rk)), .ref uk, .ref uf, .ref ub, .ref ua])), (uk, aI G 10 (sK Rk)), (uf, aI G 10 (sG Rk)), (ub, aI G 10 (sO Rk)), (ua, aI G 10 (sA Rk)), (x5, aI G 96 (cN lf)), (x6, aI G 16 (cN rv)), (x7, aI G 7 (cN (rfU rf (wpN R ((xs (i + 1)).toInt) 0)))), (x8, aI G 10 ft), (x2, .inr (2, [.ref a1, .ref a2, .ref a3, .ref a4, .int (nI im), .ref a5, .ref a6, .ref a7, .int (nI lm), .int (nI rm), .int (nI pl), .ref a8, .int sd2])), (a1, aI G 54 (fl R)), (a2, aI G 54 (fl Rm)), (a3, aI G 54 (fl Rg)), (a4, aI G 54 (fl Rw)), (a5, aI G 96 (cN lf)), (a6, aI G 16 (cN rv)), (a7, aI G 7 (cN rf)), (a8, aI G 3 nu)] H locs := hw
  subst hr
  refine lv_aload_n xx xb dL_law_555 rfl (lv_at hl 2 rfl) ?_
  refine lv_aload_n xx xb dL_law_556 rfl (lv_at hl 0 rfl) ?_
  refine lv_iload_n xx xb dL_law_557 rfl (lv_at hl 3 rfl) ?_
  refine lv_iconst (v := nI 1) xx xb dL_law_558 (by decide) ?_
  refine lv_iadd xx xb dL_law_559 ?_
  refine re_i (nI (i + 1)) (nI_add _ _) ?_
  refine va_sld xx xb hX hbl hbA hw.2.2 (vp_in_nI (by omega) (by omega)) dL_law_560 ?_
  refine re_i (xs (i + 1)) (congrArg xs (nI_clamp (by omega))) ?_
  have hM := kX2_leastSpeed l G x2 a1 a2 a3 a4 a5 a6 a7 a8 im lm rm pl sd2 R rf (xs (i + 1)) ((xs (i + 1)).toInt) rfl (by first | assumption | omega)
  refine cv_i C hw hM yvX2_leastSpeed ml_L_76 20 rfl rfl rfl [20, 21, 27] rfl rfl (fun _ => (rfl : ([x2, a1, a7] : List Nat) = [x2, a1, a7])) (by decide) ⟨Nat.le_of_ble_eq_true rfl, Nat.le_of_ble_eq_true rfl⟩ hl.1 rfl (Nat.le_of_ble_eq_true rfl) dL_law_561 (fun r _ H locs hr hw => ?_)
  have hw : Wd G (LA s) s [(x1, .inr (1, [.ref so, .ref to, .ref uo, .int (nI im), .ref x5, .int (nI lm), .ref x6, .int (nI rm), .ref x7, .ref x8, .int sd1])), (so, .inr (0, [.int (nI (sN R)), .int (nI (R 0 1)), .int (nI (sF R)), .int (nI (sS R)), .int (nI (sL R)), .ref ak, .ref af, .ref ab, .ref aa])), (ak, aI G 10 (sK R)), (af, aI G 10 (sG R)), (ab, aI G 10 (sO R)), (aa, aI G 10 (sA R)), (to, .inr (0, [.int (nI (sN S)), .int (nI m0), .int (nI (sF S)), .int (nI (sS S)), .int (nI (sL S)), .ref tk, .ref tf, .ref tb, .ref ta])), (tk, aI G 10 (sK S)), (tf, aI G 10 (sG S)), (tb, aI G 10 (sO S)), (ta, aI G 10 (sA S)), (uo, .inr (0, [.int (nI (sN Rk)), .int (nI (Rk 0 1)), .int (nI (sF Rk)), .int (nI (sS Rk)), .int (nI (sL Rk)), .ref uk, .ref uf, .ref ub, .ref ua])), (uk, aI G 10 (sK Rk)), (uf, aI G 10 (sG Rk)), (ub, aI G 10 (sO Rk)), (ua, aI G 10 (sA Rk)), (x5, aI G 96 (cN lf)), (x6, aI G 16 (cN rv)), (x7, aI G 7 (cN (rfU rf (wpN R ((xs (i + 1)).toInt) 0)))), (x8, aI G 10 ft), (x2, .inr (2, [.ref a1, .ref a2, .ref a3, .ref a4, .int (nI im), .ref a5, .ref a6, .ref a7, .int (nI lm), .int (nI rm), .int (nI pl), .ref a8, .int sd2])), (a1, aI G 54 (fl R)), (a2, aI G 54 (fl Rm)), (a3, aI G 54 (fl Rg)), (a4, aI G 54 (fl Rw)), (a5, aI G 96 (cN lf)), (a6, aI G 16 (cN rv)), (a7, aI G 7 (cN (rfU rf (wpN R ((xs (i + 1)).toInt) 0)))), (a8, aI G 3 nu)] H locs := hw
  subst hr
  refine lv_icmp_eq (tgt := 1137) xx xb dL_law_564 (by decide) (fun _ => ?_) (fun c => absurd rfl c)
  exact K R S Rk Rm Rg Rw m0 lm rm im pl lf (rfU rf (wpN R ((xs (i + 1)).toInt) 0)) rv ft nu sd1 sd2 H _ ls (hFI) hw (lv_sub hl [0, 1, 2, 3] rfl)
set_option maxRecDepth 100000 in
set_option maxHeartbeats 4000000 in
theorem lc_atOnce (C : Cx p s m #[Value.ref b] meth c code 4 RL rt0 G) (hX : va_X b L xs s s.heap) (hbl : b < s.heap.size) (hE : XE X (LA s) s s.heap) (hL : L ≤ 3072) (hiL : i + 6 ≤ L) (K : LK p l e s m below meth c Q G b i x1 so ak af ab aa to tk tf tb ta uo uk uf ub ua x5 x6 x7 x8 x2 a1 a2 a3 a4 a5 a6 a7 a8) (R S Rk Rm Rg Rw : RT) (m0 lm rm im pl : Nat) (lf rf rv : Nat → Nat) (ft nu : Nat → Int32) (sd1 sd2 : Int32) (H : Heap) (locs : List Loc) (ls : Array Slot) (hFI : FI R Rk Rg lf lm rv rm im) (hw : Wd G (LA s) s (LWd G x1 so ak af ab aa to tk tf tb ta uo uk uf ub ua x5 x6 x7 x8 x2 a1 a2 a3 a4 a5 a6 a7 a8 R S Rk Rm Rg Rw m0 lm rm im pl lf rf rv ft nu sd1 sd2) H locs) (hl : lv_has ls 4 [(0, .ref b), (1, .ref x1), (2, .ref x2), (3, .int (nI i))]) : W p l e room_1 s m #[Value.ref b] below meth c H locs 29 638 Q (F0 m 569 ls []) := by
  have xx := C.1
  have xb := C.2.1
  have hbA : ¬ LA s b := Nat.not_le.mpr hbl
  obtain ⟨hFR, hFk, ⟨hLF, hlm⟩, ⟨hrm, hrv⟩, him, himR⟩ := id hFI
  obtain ⟨hR, hK, hp, hm⟩ := id hFR
  obtain ⟨hn, hf0, hpr, hA⟩ := id hR
  have hk02 := hFk.1.2.1
  have hw : Wd G (LA s) s [(x1, .inr (1, [.ref so, .ref to, .ref uo, .int (nI im), .ref x5, .int (nI lm), .ref x6, .int (nI rm), .ref x7, .ref x8, .int sd1])), (so, .inr (0, [.int (nI (sN R)), .int (nI (R 0 1)), .int (nI (sF R)), .int (nI (sS R)), .int (nI (sL R)), .ref ak, .ref af, .ref ab, .ref aa])), (ak, aI G 10 (sK R)), (af, aI G 10 (sG R)), (ab, aI G 10 (sO R)), (aa, aI G 10 (sA R)), (to, .inr (0, [.int (nI (sN S)), .int (nI m0), .int (nI (sF S)), .int (nI (sS S)), .int (nI (sL S)), .ref tk, .ref tf, .ref tb, .ref ta])), (tk, aI G 10 (sK S)), (tf, aI G 10 (sG S)), (tb, aI G 10 (sO S)), (ta, aI G 10 (sA S)), (uo, .inr (0, [.int (nI (sN Rk)), .int (nI (Rk 0 1)), .int (nI (sF Rk)), .int (nI (sS Rk)), .int (nI (sL Rk)), .ref uk, .ref uf, .ref ub, .ref ua])), (uk, aI G 10 (sK Rk)), (uf, aI G 10 (sG Rk)), (ub, aI G 10 (sO Rk)), (ua, aI G 10 (sA Rk)), (x5, aI G 96 (cN lf)), (x6, aI G 16 (cN rv)), (x7, aI G 7 (cN rf)), (x8, aI G 10 ft), (x2, .inr (2, [.ref a1, .ref a2, .ref a3, .ref a4, .int (nI im), .ref a5, .ref a6, .ref a7, .int (nI lm), .int (nI rm), .int (nI pl), .ref a8, .int sd2])), (a1, aI G 54 (fl R)), (a2, aI G 54 (fl Rm)), (a3, aI G 54 (fl Rg)), (a4, aI G 54 (fl Rw)), (a5, aI G 96 (cN lf)), (a6, aI G 16 (cN rv)), (a7, aI G 7 (cN rf)), (a8, aI G 3 nu)] H locs := hw
  refine lv_aload_n xx xb dL_law_569 rfl (lv_at hl 1 rfl) ?_
  refine lv_aload_n xx xb dL_law_570 rfl (lv_at hl 0 rfl) ?_
  refine lv_iload_n xx xb dL_law_571 rfl (lv_at hl 3 rfl) ?_
  refine lv_iconst (v := nI 1) xx xb dL_law_572 (by decide) ?_
  refine lv_iadd xx xb dL_law_573 ?_
  refine re_i (nI (i + 1)) (nI_add _ _) ?_
  refine va_sld xx xb hX hbl hbA hw.2.2 (vp_in_nI (by omega) (by omega)) dL_law_574 ?_
  refine re_i (xs (i + 1)) (congrArg xs (nI_clamp (by omega))) ?_
  refine lv_aload_n xx xb dL_law_575 rfl (lv_at hl 0 rfl) ?_
  refine lv_iload_n xx xb dL_law_576 rfl (lv_at hl 3 rfl) ?_
  refine lv_iconst (v := nI 2) xx xb dL_law_577 (by decide) ?_
  refine lv_iadd xx xb dL_law_578 ?_
  refine re_i (nI (i + 2)) (nI_add _ _) ?_
  refine va_sld xx xb hX hbl hbA hw.2.2 (vp_in_nI (by omega) (by omega)) dL_law_579 ?_
  refine re_i (xs (i + 2)) (congrArg xs (nI_clamp (by omega))) ?_
  have hM := kX1_atOnce l G x1 so to uo x5 x6 x7 x8 im lm rm sd1 rf ak af ab aa R (xs (i + 1)) ((xs (i + 1)).toInt) (xs (i + 2)) ((xs (i + 2)).toInt) rfl rfl (by first | assumption | omega)
  refine cv_i C hw hM yvX1_atOnce ml_L_77 0 rfl rfl rfl [0, 1, 2, 3, 4, 5, 18] rfl rfl (fun _ => (rfl : ([x1, so, ak, af, ab, aa, x7] : List Nat) = [x1, so, ak, af, ab, aa, x7])) (by decide) ⟨Nat.le_of_ble_eq_true rfl, Nat.le_of_ble_eq_true rfl⟩ hl.1 rfl (Nat.le_of_ble_eq_true rfl) dL_law_580 (fun r _ H locs hr hw => ?_)
  have hw : Wd G (LA s) s [(x1, .inr (1, [.ref so, .ref to, .ref uo, .int (nI im), .ref x5, .int (nI lm), .ref x6, .int (nI rm), .ref x7, .ref x8, .int sd1])), (so, .inr (0, [.int (nI (sN R)), .int (nI (R 0 1)), .int (nI (sF R)), .int (nI (sS R)), .int (nI (sL R)), .ref ak, .ref af, .ref ab, .ref aa])), (ak, aI G 10 (sK R)), (af, aI G 10 (sG R)), (ab, aI G 10 (sO R)), (aa, aI G 10 (sA R)), (to, .inr (0, [.int (nI (sN S)), .int (nI m0), .int (nI (sF S)), .int (nI (sS S)), .int (nI (sL S)), .ref tk, .ref tf, .ref tb, .ref ta])), (tk, aI G 10 (sK S)), (tf, aI G 10 (sG S)), (tb, aI G 10 (sO S)), (ta, aI G 10 (sA S)), (uo, .inr (0, [.int (nI (sN Rk)), .int (nI (Rk 0 1)), .int (nI (sF Rk)), .int (nI (sS Rk)), .int (nI (sL Rk)), .ref uk, .ref uf, .ref ub, .ref ua])), (uk, aI G 10 (sK Rk)), (uf, aI G 10 (sG Rk)), (ub, aI G 10 (sO Rk)), (ua, aI G 10 (sA Rk)), (x5, aI G 96 (cN lf)), (x6, aI G 16 (cN rv)), (x7, aI G 7 (cN (rfU rf (wpN R ((xs (i + 1)).toInt) ((xs (i + 2)).toInt))))), (x8, aI G 10 ft), (x2, .inr (2, [.ref a1, .ref a2, .ref a3, .ref a4, .int (nI im), .ref a5, .ref a6, .ref a7, .int (nI lm), .int (nI rm), .int (nI pl), .ref a8, .int sd2])), (a1, aI G 54 (fl R)), (a2, aI G 54 (fl Rm)), (a3, aI G 54 (fl Rg)), (a4, aI G 54 (fl Rw)), (a5, aI G 96 (cN lf)), (a6, aI G 16 (cN rv)), (a7, aI G 7 (cN rf)), (a8, aI G 3 nu)] H locs := hw
  subst hr
  refine lv_aload_n xx xb dL_law_583 rfl (lv_at hl 2 rfl) ?_
  refine lv_aload_n xx xb dL_law_584 rfl (lv_at hl 0 rfl) ?_
  refine lv_iload_n xx xb dL_law_585 rfl (lv_at hl 3 rfl) ?_
  refine lv_iconst (v := nI 1) xx xb dL_law_586 (by decide) ?_
  refine lv_iadd xx xb dL_law_587 ?_
  refine re_i (nI (i + 1)) (nI_add _ _) ?_
  refine va_sld xx xb hX hbl hbA hw.2.2 (vp_in_nI (by omega) (by omega)) dL_law_588 ?_
  refine re_i (xs (i + 1)) (congrArg xs (nI_clamp (by omega))) ?_
  refine lv_aload_n xx xb dL_law_589 rfl (lv_at hl 0 rfl) ?_
  refine lv_iload_n xx xb dL_law_590 rfl (lv_at hl 3 rfl) ?_
  refine lv_iconst (v := nI 2) xx xb dL_law_591 (by decide) ?_
  refine lv_iadd xx xb dL_law_592 ?_
  refine re_i (nI (i + 2)) (nI_add _ _) ?_
  refine va_sld xx xb hX hbl hbA hw.2.2 (vp_in_nI (by omega) (by omega)) dL_law_593 ?_
  refine re_i (xs (i + 2)) (congrArg xs (nI_clamp (by omega))) ?_
  have hM := kX2_atOnce l G x2 a1 a2 a3 a4 a5 a6 a7 a8 im lm rm pl sd2 R rf (xs (i + 1)) ((xs (i + 1)).toInt) (xs (i + 2)) ((xs (i + 2)).toInt) rfl rfl (by first | assumption | omega)
  refine cv_i C hw hM yvX2_atOnce ml_L_80 20 rfl rfl rfl [20, 21, 27] rfl rfl (fun _ => (rfl : ([x2, a1, a7] : List Nat) = [x2, a1, a7])) (by decide) ⟨Nat.le_of_ble_eq_true rfl, Nat.le_of_ble_eq_true rfl⟩ hl.1 rfl (Nat.le_of_ble_eq_true rfl) dL_law_594 (fun r _ H locs hr hw => ?_)
  have hw : Wd G (LA s) s [(x1, .inr (1, [.ref so, .ref to, .ref uo, .int (nI im), .ref x5, .int (nI lm), .ref x6, .int (nI rm), .ref x7, .ref x8, .int sd1])), (so, .inr (0, [.int (nI (sN R)), .int (nI (R 0 1)), .int (nI (sF R)), .int (nI (sS R)), .int (nI (sL R)), .ref ak, .ref af, .ref ab, .ref aa])), (ak, aI G 10 (sK R)), (af, aI G 10 (sG R)), (ab, aI G 10 (sO R)), (aa, aI G 10 (sA R)), (to, .inr (0, [.int (nI (sN S)), .int (nI m0), .int (nI (sF S)), .int (nI (sS S)), .int (nI (sL S)), .ref tk, .ref tf, .ref tb, .ref ta])), (tk, aI G 10 (sK S)), (tf, aI G 10 (sG S)), (tb, aI G 10 (sO S)), (ta, aI G 10 (sA S)), (uo, .inr (0, [.int (nI (sN Rk)), .int (nI (Rk 0 1)), .int (nI (sF Rk)), .int (nI (sS Rk)), .int (nI (sL Rk)), .ref uk, .ref uf, .ref ub, .ref ua])), (uk, aI G 10 (sK Rk)), (uf, aI G 10 (sG Rk)), (ub, aI G 10 (sO Rk)), (ua, aI G 10 (sA Rk)), (x5, aI G 96 (cN lf)), (x6, aI G 16 (cN rv)), (x7, aI G 7 (cN (rfU rf (wpN R ((xs (i + 1)).toInt) ((xs (i + 2)).toInt))))), (x8, aI G 10 ft), (x2, .inr (2, [.ref a1, .ref a2, .ref a3, .ref a4, .int (nI im), .ref a5, .ref a6, .ref a7, .int (nI lm), .int (nI rm), .int (nI pl), .ref a8, .int sd2])), (a1, aI G 54 (fl R)), (a2, aI G 54 (fl Rm)), (a3, aI G 54 (fl Rg)), (a4, aI G 54 (fl Rw)), (a5, aI G 96 (cN lf)), (a6, aI G 16 (cN rv)), (a7, aI G 7 (cN (rfU rf (wpN R ((xs (i + 1)).toInt) ((xs (i + 2)).toInt))))), (a8, aI G 3 nu)] H locs := hw
  subst hr
  refine lv_icmp_eq (tgt := 1137) xx xb dL_law_597 (by decide) (fun _ => ?_) (fun c => absurd rfl c)
  exact K R S Rk Rm Rg Rw m0 lm rm im pl lf (rfU rf (wpN R ((xs (i + 1)).toInt) ((xs (i + 2)).toInt))) rv ft nu sd1 sd2 H _ ls (hFI) hw (lv_sub hl [0, 1, 2, 3] rfl)
set_option maxRecDepth 100000 in
set_option maxHeartbeats 4000000 in
theorem lc_later (C : Cx p s m #[Value.ref b] meth c code 4 RL rt0 G) (hX : va_X b L xs s s.heap) (hbl : b < s.heap.size) (hE : XE X (LA s) s s.heap) (hL : L ≤ 3072) (hiL : i + 6 ≤ L) (K : LK p l e s m below meth c Q G b i x1 so ak af ab aa to tk tf tb ta uo uk uf ub ua x5 x6 x7 x8 x2 a1 a2 a3 a4 a5 a6 a7 a8) (R S Rk Rm Rg Rw : RT) (m0 lm rm im pl : Nat) (lf rf rv : Nat → Nat) (ft nu : Nat → Int32) (sd1 sd2 : Int32) (H : Heap) (locs : List Loc) (ls : Array Slot) (hFI : FI R Rk Rg lf lm rv rm im) (hw : Wd G (LA s) s (LWd G x1 so ak af ab aa to tk tf tb ta uo uk uf ub ua x5 x6 x7 x8 x2 a1 a2 a3 a4 a5 a6 a7 a8 R S Rk Rm Rg Rw m0 lm rm im pl lf rf rv ft nu sd1 sd2) H locs) (hl : lv_has ls 4 [(0, .ref b), (1, .ref x1), (2, .ref x2), (3, .int (nI i))]) : W p l e room_1 s m #[Value.ref b] below meth c H locs 29 638 Q (F0 m 602 ls []) := by
  have xx := C.1
  have xb := C.2.1
  have hbA : ¬ LA s b := Nat.not_le.mpr hbl
  obtain ⟨hFR, hFk, ⟨hLF, hlm⟩, ⟨hrm, hrv⟩, him, himR⟩ := id hFI
  obtain ⟨hR, hK, hp, hm⟩ := id hFR
  obtain ⟨hn, hf0, hpr, hA⟩ := id hR
  have hk02 := hFk.1.2.1
  have hw : Wd G (LA s) s [(x1, .inr (1, [.ref so, .ref to, .ref uo, .int (nI im), .ref x5, .int (nI lm), .ref x6, .int (nI rm), .ref x7, .ref x8, .int sd1])), (so, .inr (0, [.int (nI (sN R)), .int (nI (R 0 1)), .int (nI (sF R)), .int (nI (sS R)), .int (nI (sL R)), .ref ak, .ref af, .ref ab, .ref aa])), (ak, aI G 10 (sK R)), (af, aI G 10 (sG R)), (ab, aI G 10 (sO R)), (aa, aI G 10 (sA R)), (to, .inr (0, [.int (nI (sN S)), .int (nI m0), .int (nI (sF S)), .int (nI (sS S)), .int (nI (sL S)), .ref tk, .ref tf, .ref tb, .ref ta])), (tk, aI G 10 (sK S)), (tf, aI G 10 (sG S)), (tb, aI G 10 (sO S)), (ta, aI G 10 (sA S)), (uo, .inr (0, [.int (nI (sN Rk)), .int (nI (Rk 0 1)), .int (nI (sF Rk)), .int (nI (sS Rk)), .int (nI (sL Rk)), .ref uk, .ref uf, .ref ub, .ref ua])), (uk, aI G 10 (sK Rk)), (uf, aI G 10 (sG Rk)), (ub, aI G 10 (sO Rk)), (ua, aI G 10 (sA Rk)), (x5, aI G 96 (cN lf)), (x6, aI G 16 (cN rv)), (x7, aI G 7 (cN rf)), (x8, aI G 10 ft), (x2, .inr (2, [.ref a1, .ref a2, .ref a3, .ref a4, .int (nI im), .ref a5, .ref a6, .ref a7, .int (nI lm), .int (nI rm), .int (nI pl), .ref a8, .int sd2])), (a1, aI G 54 (fl R)), (a2, aI G 54 (fl Rm)), (a3, aI G 54 (fl Rg)), (a4, aI G 54 (fl Rw)), (a5, aI G 96 (cN lf)), (a6, aI G 16 (cN rv)), (a7, aI G 7 (cN rf)), (a8, aI G 3 nu)] H locs := hw
  refine lv_aload_n xx xb dL_law_602 rfl (lv_at hl 1 rfl) ?_
  refine lv_aload_n xx xb dL_law_603 rfl (lv_at hl 0 rfl) ?_
  refine lv_iload_n xx xb dL_law_604 rfl (lv_at hl 3 rfl) ?_
  refine lv_iconst (v := nI 1) xx xb dL_law_605 (by decide) ?_
  refine lv_iadd xx xb dL_law_606 ?_
  refine re_i (nI (i + 1)) (nI_add _ _) ?_
  refine va_sld xx xb hX hbl hbA hw.2.2 (vp_in_nI (by omega) (by omega)) dL_law_607 ?_
  refine re_i (xs (i + 1)) (congrArg xs (nI_clamp (by omega))) ?_
  refine lv_aload_n xx xb dL_law_608 rfl (lv_at hl 0 rfl) ?_
  refine lv_iload_n xx xb dL_law_609 rfl (lv_at hl 3 rfl) ?_
  refine lv_iconst (v := nI 2) xx xb dL_law_610 (by decide) ?_
  refine lv_iadd xx xb dL_law_611 ?_
  refine re_i (nI (i + 2)) (nI_add _ _) ?_
  refine va_sld xx xb hX hbl hbA hw.2.2 (vp_in_nI (by omega) (by omega)) dL_law_612 ?_
  refine re_i (xs (i + 2)) (congrArg xs (nI_clamp (by omega))) ?_
  refine lv_aload_n xx xb dL_law_613 rfl (lv_at hl 0 rfl) ?_
  refine lv_iload_n xx xb dL_law_614 rfl (lv_at hl 3 rfl) ?_
  refine lv_iconst (v := nI 3) xx xb dL_law_615 (by decide) ?_
  refine lv_iadd xx xb dL_law_616 ?_
  refine re_i (nI (i + 3)) (nI_add _ _) ?_
  refine va_sld xx xb hX hbl hbA hw.2.2 (vp_in_nI (by omega) (by omega)) dL_law_617 ?_
  refine re_i (xs (i + 3)) (congrArg xs (nI_clamp (by omega))) ?_
  have hM := kX1_later l G x1 so to uo x5 x6 x7 x8 im lm rm sd1 rf ak af ab aa R tk tf tb ta m0 S (xs (i + 1)) ((xs (i + 1)).toInt) (xs (i + 2)) ((xs (i + 2)).toInt) (xs (i + 3)) ((xs (i + 3)).toInt) rfl rfl rfl (by first | assumption | omega) (by first | assumption | omega) (by first | assumption | omega)
  refine cv_i C hw hM yvX1_later ml_L_81 0 rfl rfl rfl [0, 1, 2, 3, 4, 5, 6, 7, 8, 9, 10, 18] rfl rfl (fun _ => (rfl : ([x1, so, ak, af, ab, aa, to, tk, tf, tb, ta, x7] : List Nat) = [x1, so, ak, af, ab, aa, to, tk, tf, tb, ta, x7])) (by decide) ⟨Nat.le_of_ble_eq_true rfl, Nat.le_of_ble_eq_true rfl⟩ hl.1 rfl (Nat.le_of_ble_eq_true rfl) dL_law_618 (fun r u H locs hr hw => ?_)
  obtain ⟨u1, hu1⟩ : ∃ z, z = u := ⟨_, rfl⟩
  subst hu1
  have hw : Wd G (LA s) s [(x1, .inr (1, [.ref so, .ref to, .ref uo, .int (nI im), .ref x5, .int (nI lm), .ref x6, .int (nI rm), .ref x7, .ref x8, .int sd1])), (so, .inr (0, [.int (nI (sN R)), .int (nI (R 0 1)), .int (nI (sF R)), .int (nI (sS R)), .int (nI (sL R)), .ref ak, .ref af, .ref ab, .ref aa])), (ak, aI G 10 (sK R)), (af, aI G 10 (sG R)), (ab, aI G 10 (sO R)), (aa, aI G 10 (sA R)), (to, .inr (0, [.int (nI (sN u1.2)), .int (nI u1.1), .int (nI (sF u1.2)), .int (nI (sS u1.2)), .int (nI (sL u1.2)), .ref tk, .ref tf, .ref tb, .ref ta])), (tk, aI G 10 (sK u1.2)), (tf, aI G 10 (sG u1.2)), (tb, aI G 10 (sO u1.2)), (ta, aI G 10 (sA u1.2)), (uo, .inr (0, [.int (nI (sN Rk)), .int (nI (Rk 0 1)), .int (nI (sF Rk)), .int (nI (sS Rk)), .int (nI (sL Rk)), .ref uk, .ref uf, .ref ub, .ref ua])), (uk, aI G 10 (sK Rk)), (uf, aI G 10 (sG Rk)), (ub, aI G 10 (sO Rk)), (ua, aI G 10 (sA Rk)), (x5, aI G 96 (cN lf)), (x6, aI G 16 (cN rv)), (x7, aI G 7 (cN (rfU rf (cLater R ((xs (i + 1)).toInt) ((xs (i + 2)).toInt) ((xs (i + 3)).toInt))))), (x8, aI G 10 ft), (x2, .inr (2, [.ref a1, .ref a2, .ref a3, .ref a4, .int (nI im), .ref a5, .ref a6, .ref a7, .int (nI lm), .int (nI rm), .int (nI pl), .ref a8, .int sd2])), (a1, aI G 54 (fl R)), (a2, aI G 54 (fl Rm)), (a3, aI G 54 (fl Rg)), (a4, aI G 54 (fl Rw)), (a5, aI G 96 (cN lf)), (a6, aI G 16 (cN rv)), (a7, aI G 7 (cN rf)), (a8, aI G 3 nu)] H locs := hw
  subst hr
  refine lv_aload_n xx xb dL_law_621 rfl (lv_at hl 2 rfl) ?_
  refine lv_aload_n xx xb dL_law_622 rfl (lv_at hl 0 rfl) ?_
  refine lv_iload_n xx xb dL_law_623 rfl (lv_at hl 3 rfl) ?_
  refine lv_iconst (v := nI 1) xx xb dL_law_624 (by decide) ?_
  refine lv_iadd xx xb dL_law_625 ?_
  refine re_i (nI (i + 1)) (nI_add _ _) ?_
  refine va_sld xx xb hX hbl hbA hw.2.2 (vp_in_nI (by omega) (by omega)) dL_law_626 ?_
  refine re_i (xs (i + 1)) (congrArg xs (nI_clamp (by omega))) ?_
  refine lv_aload_n xx xb dL_law_627 rfl (lv_at hl 0 rfl) ?_
  refine lv_iload_n xx xb dL_law_628 rfl (lv_at hl 3 rfl) ?_
  refine lv_iconst (v := nI 2) xx xb dL_law_629 (by decide) ?_
  refine lv_iadd xx xb dL_law_630 ?_
  refine re_i (nI (i + 2)) (nI_add _ _) ?_
  refine va_sld xx xb hX hbl hbA hw.2.2 (vp_in_nI (by omega) (by omega)) dL_law_631 ?_
  refine re_i (xs (i + 2)) (congrArg xs (nI_clamp (by omega))) ?_
  refine lv_aload_n xx xb dL_law_632 rfl (lv_at hl 0 rfl) ?_
  refine lv_iload_n xx xb dL_law_633 rfl (lv_at hl 3 rfl) ?_
  refine lv_iconst (v := nI 3) xx xb dL_law_634 (by decide) ?_
  refine lv_iadd xx xb dL_law_635 ?_
  refine re_i (nI (i + 3)) (nI_add _ _) ?_
  refine va_sld xx xb hX hbl hbA hw.2.2 (vp_in_nI (by omega) (by omega)) dL_law_636 ?_
  refine re_i (xs (i + 3)) (congrArg xs (nI_clamp (by omega))) ?_
  have hM := kX2_later l G x2 a1 a2 a3 a4 a5 a6 a7 a8 im lm rm pl sd2 R Rm rf (xs (i + 1)) ((xs (i + 1)).toInt) (xs (i + 2)) ((xs (i + 2)).toInt) (xs (i + 3)) ((xs (i + 3)).toInt) rfl rfl rfl (by first | assumption | omega) (by first | assumption | omega)
  refine cv_i C hw hM yvX2_later ml_L_84 20 rfl rfl rfl [20, 21, 22, 27] rfl rfl (fun _ => (rfl : ([x2, a1, a2, a7] : List Nat) = [x2, a1, a2, a7])) (by decide) ⟨Nat.le_of_ble_eq_true rfl, Nat.le_of_ble_eq_true rfl⟩ hl.1 rfl (Nat.le_of_ble_eq_true rfl) dL_law_637 (fun r _ H locs hr hw => ?_)
  have hw : Wd G (LA s) s [(x1, .inr (1, [.ref so, .ref to, .ref uo, .int (nI im), .ref x5, .int (nI lm), .ref x6, .int (nI rm), .ref x7, .ref x8, .int sd1])), (so, .inr (0, [.int (nI (sN R)), .int (nI (R 0 1)), .int (nI (sF R)), .int (nI (sS R)), .int (nI (sL R)), .ref ak, .ref af, .ref ab, .ref aa])), (ak, aI G 10 (sK R)), (af, aI G 10 (sG R)), (ab, aI G 10 (sO R)), (aa, aI G 10 (sA R)), (to, .inr (0, [.int (nI (sN u1.2)), .int (nI u1.1), .int (nI (sF u1.2)), .int (nI (sS u1.2)), .int (nI (sL u1.2)), .ref tk, .ref tf, .ref tb, .ref ta])), (tk, aI G 10 (sK u1.2)), (tf, aI G 10 (sG u1.2)), (tb, aI G 10 (sO u1.2)), (ta, aI G 10 (sA u1.2)), (uo, .inr (0, [.int (nI (sN Rk)), .int (nI (Rk 0 1)), .int (nI (sF Rk)), .int (nI (sS Rk)), .int (nI (sL Rk)), .ref uk, .ref uf, .ref ub, .ref ua])), (uk, aI G 10 (sK Rk)), (uf, aI G 10 (sG Rk)), (ub, aI G 10 (sO Rk)), (ua, aI G 10 (sA Rk)), (x5, aI G 96 (cN lf)), (x6, aI G 16 (cN rv)), (x7, aI G 7 (cN (rfU rf (cLater R ((xs (i + 1)).toInt) ((xs (i + 2)).toInt) ((xs (i + 3)).toInt))))), (x8, aI G 10 ft), (x2, .inr (2, [.ref a1, .ref a2, .ref a3, .ref a4, .int (nI im), .ref a5, .ref a6, .ref a7, .int (nI lm), .int (nI rm), .int (nI pl), .ref a8, .int sd2])), (a1, aI G 54 (fl R)), (a2, aI G 54 (fl (selR (cLater R ((xs (i + 1)).toInt) ((xs (i + 2)).toInt) ((xs (i + 3)).toInt)) (itF (pulF R ((xs (i + 1)).toInt).toNat ((xs (i + 2)).toInt).toNat) ((xs (i + 3)).toInt).toNat) Rm))), (a3, aI G 54 (fl Rg)), (a4, aI G 54 (fl Rw)), (a5, aI G 96 (cN lf)), (a6, aI G 16 (cN rv)), (a7, aI G 7 (cN (rfU rf (cLater R ((xs (i + 1)).toInt) ((xs (i + 2)).toInt) ((xs (i + 3)).toInt))))), (a8, aI G 3 nu)] H locs := hw
  subst hr
  refine lv_icmp_eq (tgt := 1137) xx xb dL_law_640 (by decide) (fun _ => ?_) (fun c => absurd rfl c)
  exact K R u1.2 Rk (selR (cLater R ((xs (i + 1)).toInt) ((xs (i + 2)).toInt) ((xs (i + 3)).toInt)) (itF (pulF R ((xs (i + 1)).toInt).toNat ((xs (i + 2)).toInt).toNat) ((xs (i + 3)).toInt).toNat) Rm) Rg Rw u1.1 lm rm im pl lf (rfU rf (cLater R ((xs (i + 1)).toInt) ((xs (i + 2)).toInt) ((xs (i + 3)).toInt))) rv ft nu sd1 sd2 H _ ls (hFI) hw (lv_sub hl [0, 1, 2, 3] rfl)
set_option maxRecDepth 100000 in
set_option maxHeartbeats 4000000 in
theorem lc_pullMost (C : Cx p s m #[Value.ref b] meth c code 4 RL rt0 G) (hX : va_X b L xs s s.heap) (hbl : b < s.heap.size) (hE : XE X (LA s) s s.heap) (hL : L ≤ 3072) (hiL : i + 6 ≤ L) (K : LK p l e s m below meth c Q G b i x1 so ak af ab aa to tk tf tb ta uo uk uf ub ua x5 x6 x7 x8 x2 a1 a2 a3 a4 a5 a6 a7 a8) (R S Rk Rm Rg Rw : RT) (m0 lm rm im pl : Nat) (lf rf rv : Nat → Nat) (ft nu : Nat → Int32) (sd1 sd2 : Int32) (H : Heap) (locs : List Loc) (ls : Array Slot) (hFI : FI R Rk Rg lf lm rv rm im) (hw : Wd G (LA s) s (LWd G x1 so ak af ab aa to tk tf tb ta uo uk uf ub ua x5 x6 x7 x8 x2 a1 a2 a3 a4 a5 a6 a7 a8 R S Rk Rm Rg Rw m0 lm rm im pl lf rf rv ft nu sd1 sd2) H locs) (hl : lv_has ls 4 [(0, .ref b), (1, .ref x1), (2, .ref x2), (3, .int (nI i))]) : W p l e room_1 s m #[Value.ref b] below meth c H locs 29 638 Q (F0 m 645 ls []) := by
  have xx := C.1
  have xb := C.2.1
  have hbA : ¬ LA s b := Nat.not_le.mpr hbl
  obtain ⟨hFR, hFk, ⟨hLF, hlm⟩, ⟨hrm, hrv⟩, him, himR⟩ := id hFI
  obtain ⟨hR, hK, hp, hm⟩ := id hFR
  obtain ⟨hn, hf0, hpr, hA⟩ := id hR
  have hk02 := hFk.1.2.1
  have hw : Wd G (LA s) s [(x1, .inr (1, [.ref so, .ref to, .ref uo, .int (nI im), .ref x5, .int (nI lm), .ref x6, .int (nI rm), .ref x7, .ref x8, .int sd1])), (so, .inr (0, [.int (nI (sN R)), .int (nI (R 0 1)), .int (nI (sF R)), .int (nI (sS R)), .int (nI (sL R)), .ref ak, .ref af, .ref ab, .ref aa])), (ak, aI G 10 (sK R)), (af, aI G 10 (sG R)), (ab, aI G 10 (sO R)), (aa, aI G 10 (sA R)), (to, .inr (0, [.int (nI (sN S)), .int (nI m0), .int (nI (sF S)), .int (nI (sS S)), .int (nI (sL S)), .ref tk, .ref tf, .ref tb, .ref ta])), (tk, aI G 10 (sK S)), (tf, aI G 10 (sG S)), (tb, aI G 10 (sO S)), (ta, aI G 10 (sA S)), (uo, .inr (0, [.int (nI (sN Rk)), .int (nI (Rk 0 1)), .int (nI (sF Rk)), .int (nI (sS Rk)), .int (nI (sL Rk)), .ref uk, .ref uf, .ref ub, .ref ua])), (uk, aI G 10 (sK Rk)), (uf, aI G 10 (sG Rk)), (ub, aI G 10 (sO Rk)), (ua, aI G 10 (sA Rk)), (x5, aI G 96 (cN lf)), (x6, aI G 16 (cN rv)), (x7, aI G 7 (cN rf)), (x8, aI G 10 ft), (x2, .inr (2, [.ref a1, .ref a2, .ref a3, .ref a4, .int (nI im), .ref a5, .ref a6, .ref a7, .int (nI lm), .int (nI rm), .int (nI pl), .ref a8, .int sd2])), (a1, aI G 54 (fl R)), (a2, aI G 54 (fl Rm)), (a3, aI G 54 (fl Rg)), (a4, aI G 54 (fl Rw)), (a5, aI G 96 (cN lf)), (a6, aI G 16 (cN rv)), (a7, aI G 7 (cN rf)), (a8, aI G 3 nu)] H locs := hw
  refine lv_aload_n xx xb dL_law_645 rfl (lv_at hl 1 rfl) ?_
  refine lv_aload_n xx xb dL_law_646 rfl (lv_at hl 0 rfl) ?_
  refine lv_iload_n xx xb dL_law_647 rfl (lv_at hl 3 rfl) ?_
  refine lv_iconst (v := nI 1) xx xb dL_law_648 (by decide) ?_
  refine lv_iadd xx xb dL_law_649 ?_
  refine re_i (nI (i + 1)) (nI_add _ _) ?_
  refine va_sld xx xb hX hbl hbA hw.2.2 (vp_in_nI (by omega) (by omega)) dL_law_650 ?_
  refine re_i (xs (i + 1)) (congrArg xs (nI_clamp (by omega))) ?_
  refine lv_aload_n xx xb dL_law_651 rfl (lv_at hl 0 rfl) ?_
  refine lv_iload_n xx xb dL_law_652 rfl (lv_at hl 3 rfl) ?_
  refine lv_iconst (v := nI 2) xx xb dL_law_653 (by decide) ?_
  refine lv_iadd xx xb dL_law_654 ?_
  refine re_i (nI (i + 2)) (nI_add _ _) ?_
  refine va_sld xx xb hX hbl hbA hw.2.2 (vp_in_nI (by omega) (by omega)) dL_law_655 ?_
  refine re_i (xs (i + 2)) (congrArg xs (nI_clamp (by omega))) ?_
  refine lv_aload_n xx xb dL_law_656 rfl (lv_at hl 0 rfl) ?_
  refine lv_iload_n xx xb dL_law_657 rfl (lv_at hl 3 rfl) ?_
  refine lv_iconst (v := nI 3) xx xb dL_law_658 (by decide) ?_
  refine lv_iadd xx xb dL_law_659 ?_
  refine re_i (nI (i + 3)) (nI_add _ _) ?_
  refine va_sld xx xb hX hbl hbA hw.2.2 (vp_in_nI (by omega) (by omega)) dL_law_660 ?_
  refine re_i (xs (i + 3)) (congrArg xs (nI_clamp (by omega))) ?_
  have hM := kX1_pullMost l G x1 so to uo x5 x6 x7 x8 im lm rm sd1 rf ak af ab aa R tk tf tb ta m0 S (xs (i + 1)) ((xs (i + 1)).toInt) (xs (i + 2)) ((xs (i + 2)).toInt) (xs (i + 3)) ((xs (i + 3)).toInt) rfl rfl rfl (by first | assumption | omega) (by first | assumption | omega) (by first | assumption | omega)
  refine cv_i C hw hM yvX1_pullMost ml_L_85 0 rfl rfl rfl [0, 1, 2, 3, 4, 5, 6, 7, 8, 9, 10, 18] rfl rfl (fun _ => (rfl : ([x1, so, ak, af, ab, aa, to, tk, tf, tb, ta, x7] : List Nat) = [x1, so, ak, af, ab, aa, to, tk, tf, tb, ta, x7])) (by decide) ⟨Nat.le_of_ble_eq_true rfl, Nat.le_of_ble_eq_true rfl⟩ hl.1 rfl (Nat.le_of_ble_eq_true rfl) dL_law_661 (fun r u H locs hr hw => ?_)
  obtain ⟨u1, hu1⟩ : ∃ z, z = u := ⟨_, rfl⟩
  subst hu1
  have hw : Wd G (LA s) s [(x1, .inr (1, [.ref so, .ref to, .ref uo, .int (nI im), .ref x5, .int (nI lm), .ref x6, .int (nI rm), .ref x7, .ref x8, .int sd1])), (so, .inr (0, [.int (nI (sN R)), .int (nI (R 0 1)), .int (nI (sF R)), .int (nI (sS R)), .int (nI (sL R)), .ref ak, .ref af, .ref ab, .ref aa])), (ak, aI G 10 (sK R)), (af, aI G 10 (sG R)), (ab, aI G 10 (sO R)), (aa, aI G 10 (sA R)), (to, .inr (0, [.int (nI (sN u1.2)), .int (nI u1.1), .int (nI (sF u1.2)), .int (nI (sS u1.2)), .int (nI (sL u1.2)), .ref tk, .ref tf, .ref tb, .ref ta])), (tk, aI G 10 (sK u1.2)), (tf, aI G 10 (sG u1.2)), (tb, aI G 10 (sO u1.2)), (ta, aI G 10 (sA u1.2)), (uo, .inr (0, [.int (nI (sN Rk)), .int (nI (Rk 0 1)), .int (nI (sF Rk)), .int (nI (sS Rk)), .int (nI (sL Rk)), .ref uk, .ref uf, .ref ub, .ref ua])), (uk, aI G 10 (sK Rk)), (uf, aI G 10 (sG Rk)), (ub, aI G 10 (sO Rk)), (ua, aI G 10 (sA Rk)), (x5, aI G 96 (cN lf)), (x6, aI G 16 (cN rv)), (x7, aI G 7 (cN (rfU rf (cPM R ((xs (i + 1)).toInt) ((xs (i + 2)).toInt) ((xs (i + 3)).toInt))))), (x8, aI G 10 ft), (x2, .inr (2, [.ref a1, .ref a2, .ref a3, .ref a4, .int (nI im), .ref a5, .ref a6, .ref a7, .int (nI lm), .int (nI rm), .int (nI pl), .ref a8, .int sd2])), (a1, aI G 54 (fl R)), (a2, aI G 54 (fl Rm)), (a3, aI G 54 (fl Rg)), (a4, aI G 54 (fl Rw)), (a5, aI G 96 (cN lf)), (a6, aI G 16 (cN rv)), (a7, aI G 7 (cN rf)), (a8, aI G 3 nu)] H locs := hw
  subst hr
  refine lv_aload_n xx xb dL_law_664 rfl (lv_at hl 2 rfl) ?_
  refine lv_aload_n xx xb dL_law_665 rfl (lv_at hl 0 rfl) ?_
  refine lv_iload_n xx xb dL_law_666 rfl (lv_at hl 3 rfl) ?_
  refine lv_iconst (v := nI 1) xx xb dL_law_667 (by decide) ?_
  refine lv_iadd xx xb dL_law_668 ?_
  refine re_i (nI (i + 1)) (nI_add _ _) ?_
  refine va_sld xx xb hX hbl hbA hw.2.2 (vp_in_nI (by omega) (by omega)) dL_law_669 ?_
  refine re_i (xs (i + 1)) (congrArg xs (nI_clamp (by omega))) ?_
  refine lv_aload_n xx xb dL_law_670 rfl (lv_at hl 0 rfl) ?_
  refine lv_iload_n xx xb dL_law_671 rfl (lv_at hl 3 rfl) ?_
  refine lv_iconst (v := nI 2) xx xb dL_law_672 (by decide) ?_
  refine lv_iadd xx xb dL_law_673 ?_
  refine re_i (nI (i + 2)) (nI_add _ _) ?_
  refine va_sld xx xb hX hbl hbA hw.2.2 (vp_in_nI (by omega) (by omega)) dL_law_674 ?_
  refine re_i (xs (i + 2)) (congrArg xs (nI_clamp (by omega))) ?_
  refine lv_aload_n xx xb dL_law_675 rfl (lv_at hl 0 rfl) ?_
  refine lv_iload_n xx xb dL_law_676 rfl (lv_at hl 3 rfl) ?_
  refine lv_iconst (v := nI 3) xx xb dL_law_677 (by decide) ?_
  refine lv_iadd xx xb dL_law_678 ?_
  refine re_i (nI (i + 3)) (nI_add _ _) ?_
  refine va_sld xx xb hX hbl hbA hw.2.2 (vp_in_nI (by omega) (by omega)) dL_law_679 ?_
  refine re_i (xs (i + 3)) (congrArg xs (nI_clamp (by omega))) ?_
  have hM := kX2_pullMost l G x2 a1 a2 a3 a4 a5 a6 a7 a8 im lm rm pl sd2 R Rm rf (xs (i + 1)) ((xs (i + 1)).toInt) (xs (i + 2)) ((xs (i + 2)).toInt) (xs (i + 3)) ((xs (i + 3)).toInt) rfl rfl rfl (by first | assumption | omega) (by first | assumption | omega)
  refine cv_i C hw hM yvX2_pullMost ml_L_88 20 rfl rfl rfl [20, 21, 22, 27] rfl rfl (fun _ => (rfl : ([x2, a1, a2, a7] : List Nat) = [x2, a1, a2, a7])) (by decide) ⟨Nat.le_of_ble_eq_true rfl, Nat.le_of_ble_eq_true rfl⟩ hl.1 rfl (Nat.le_of_ble_eq_true rfl) dL_law_680 (fun r u H locs hr hw => ?_)
  obtain ⟨u2, hu2⟩ : ∃ z, z = u := ⟨_, rfl⟩
  subst hu2
  have hw : Wd G (LA s) s [(x1, .inr (1, [.ref so, .ref to, .ref uo, .int (nI im), .ref x5, .int (nI lm), .ref x6, .int (nI rm), .ref x7, .ref x8, .int sd1])), (so, .inr (0, [.int (nI (sN R)), .int (nI (R 0 1)), .int (nI (sF R)), .int (nI (sS R)), .int (nI (sL R)), .ref ak, .ref af, .ref ab, .ref aa])), (ak, aI G 10 (sK R)), (af, aI G 10 (sG R)), (ab, aI G 10 (sO R)), (aa, aI G 10 (sA R)), (to, .inr (0, [.int (nI (sN u1.2)), .int (nI u1.1), .int (nI (sF u1.2)), .int (nI (sS u1.2)), .int (nI (sL u1.2)), .ref tk, .ref tf, .ref tb, .ref ta])), (tk, aI G 10 (sK u1.2)), (tf, aI G 10 (sG u1.2)), (tb, aI G 10 (sO u1.2)), (ta, aI G 10 (sA u1.2)), (uo, .inr (0, [.int (nI (sN Rk)), .int (nI (Rk 0 1)), .int (nI (sF Rk)), .int (nI (sS Rk)), .int (nI (sL Rk)), .ref uk, .ref uf, .ref ub, .ref ua])), (uk, aI G 10 (sK Rk)), (uf, aI G 10 (sG Rk)), (ub, aI G 10 (sO Rk)), (ua, aI G 10 (sA Rk)), (x5, aI G 96 (cN lf)), (x6, aI G 16 (cN rv)), (x7, aI G 7 (cN (rfU rf (cPM R ((xs (i + 1)).toInt) ((xs (i + 2)).toInt) ((xs (i + 3)).toInt))))), (x8, aI G 10 ft), (x2, .inr (2, [.ref a1, .ref a2, .ref a3, .ref a4, .int (nI im), .ref a5, .ref a6, .ref a7, .int (nI lm), .int (nI rm), .int (nI pl), .ref a8, .int sd2])), (a1, aI G 54 (fl R)), (a2, aI G 54 (fl u2)), (a3, aI G 54 (fl Rg)), (a4, aI G 54 (fl Rw)), (a5, aI G 96 (cN lf)), (a6, aI G 16 (cN rv)), (a7, aI G 7 (cN (rfU rf (cPM R ((xs (i + 1)).toInt) ((xs (i + 2)).toInt) ((xs (i + 3)).toInt))))), (a8, aI G 3 nu)] H locs := hw
  subst hr
  refine lv_icmp_eq (tgt := 1137) xx xb dL_law_683 (by decide) (fun _ => ?_) (fun c => absurd rfl c)
  exact K R u1.2 Rk u2 Rg Rw u1.1 lm rm im pl lf (rfU rf (cPM R ((xs (i + 1)).toInt) ((xs (i + 2)).toInt) ((xs (i + 3)).toInt))) rv ft nu sd1 sd2 H _ ls (hFI) hw (lv_sub hl [0, 1, 2, 3] rfl)
set_option maxRecDepth 100000 in
set_option maxHeartbeats 4000000 in
theorem lc_key (C : Cx p s m #[Value.ref b] meth c code 4 RL rt0 G) (hX : va_X b L xs s s.heap) (hbl : b < s.heap.size) (hE : XE X (LA s) s s.heap) (hL : L ≤ 3072) (hiL : i + 6 ≤ L) (K : LK p l e s m below meth c Q G b i x1 so ak af ab aa to tk tf tb ta uo uk uf ub ua x5 x6 x7 x8 x2 a1 a2 a3 a4 a5 a6 a7 a8) (R S Rk Rm Rg Rw : RT) (m0 lm rm im pl : Nat) (lf rf rv : Nat → Nat) (ft nu : Nat → Int32) (sd1 sd2 : Int32) (H : Heap) (locs : List Loc) (ls : Array Slot) (hFI : FI R Rk Rg lf lm rv rm im) (hw : Wd G (LA s) s (LWd G x1 so ak af ab aa to tk tf tb ta uo uk uf ub ua x5 x6 x7 x8 x2 a1 a2 a3 a4 a5 a6 a7 a8 R S Rk Rm Rg Rw m0 lm rm im pl lf rf rv ft nu sd1 sd2) H locs) (hl : lv_has ls 4 [(0, .ref b), (1, .ref x1), (2, .ref x2), (3, .int (nI i))]) : W p l e room_1 s m #[Value.ref b] below meth c H locs 29 638 Q (F0 m 688 ls []) := by
  have xx := C.1
  have xb := C.2.1
  have hbA : ¬ LA s b := Nat.not_le.mpr hbl
  obtain ⟨hFR, hFk, ⟨hLF, hlm⟩, ⟨hrm, hrv⟩, him, himR⟩ := id hFI
  obtain ⟨hR, hK, hp, hm⟩ := id hFR
  obtain ⟨hn, hf0, hpr, hA⟩ := id hR
  have hk02 := hFk.1.2.1
  have hw : Wd G (LA s) s [(x1, .inr (1, [.ref so, .ref to, .ref uo, .int (nI im), .ref x5, .int (nI lm), .ref x6, .int (nI rm), .ref x7, .ref x8, .int sd1])), (so, .inr (0, [.int (nI (sN R)), .int (nI (R 0 1)), .int (nI (sF R)), .int (nI (sS R)), .int (nI (sL R)), .ref ak, .ref af, .ref ab, .ref aa])), (ak, aI G 10 (sK R)), (af, aI G 10 (sG R)), (ab, aI G 10 (sO R)), (aa, aI G 10 (sA R)), (to, .inr (0, [.int (nI (sN S)), .int (nI m0), .int (nI (sF S)), .int (nI (sS S)), .int (nI (sL S)), .ref tk, .ref tf, .ref tb, .ref ta])), (tk, aI G 10 (sK S)), (tf, aI G 10 (sG S)), (tb, aI G 10 (sO S)), (ta, aI G 10 (sA S)), (uo, .inr (0, [.int (nI (sN Rk)), .int (nI (Rk 0 1)), .int (nI (sF Rk)), .int (nI (sS Rk)), .int (nI (sL Rk)), .ref uk, .ref uf, .ref ub, .ref ua])), (uk, aI G 10 (sK Rk)), (uf, aI G 10 (sG Rk)), (ub, aI G 10 (sO Rk)), (ua, aI G 10 (sA Rk)), (x5, aI G 96 (cN lf)), (x6, aI G 16 (cN rv)), (x7, aI G 7 (cN rf)), (x8, aI G 10 ft), (x2, .inr (2, [.ref a1, .ref a2, .ref a3, .ref a4, .int (nI im), .ref a5, .ref a6, .ref a7, .int (nI lm), .int (nI rm), .int (nI pl), .ref a8, .int sd2])), (a1, aI G 54 (fl R)), (a2, aI G 54 (fl Rm)), (a3, aI G 54 (fl Rg)), (a4, aI G 54 (fl Rw)), (a5, aI G 96 (cN lf)), (a6, aI G 16 (cN rv)), (a7, aI G 7 (cN rf)), (a8, aI G 3 nu)] H locs := hw
  refine lv_aload_n xx xb dL_law_688 rfl (lv_at hl 1 rfl) ?_
  refine lv_aload_n xx xb dL_law_689 rfl (lv_at hl 0 rfl) ?_
  refine lv_iload_n xx xb dL_law_690 rfl (lv_at hl 3 rfl) ?_
  refine lv_iconst (v := nI 1) xx xb dL_law_691 (by decide) ?_
  refine lv_iadd xx xb dL_law_692 ?_
  refine re_i (nI (i + 1)) (nI_add _ _) ?_
  refine va_sld xx xb hX hbl hbA hw.2.2 (vp_in_nI (by omega) (by omega)) dL_law_693 ?_
  refine re_i (xs (i + 1)) (congrArg xs (nI_clamp (by omega))) ?_
  have hM := kX1_key l G x1 so to uo x5 x6 x7 x8 im lm rm sd1 rf ak af ab aa R tk tf tb ta m0 S (xs (i + 1)) ((xs (i + 1)).toInt) rfl (by first | assumption | omega) (by first | assumption | omega) (by first | assumption | omega)
  refine cv_i C hw hM yvX1_key ml_L_89 0 rfl rfl rfl [0, 1, 2, 3, 4, 5, 6, 7, 8, 9, 10, 18] rfl rfl (fun _ => (rfl : ([x1, so, ak, af, ab, aa, to, tk, tf, tb, ta, x7] : List Nat) = [x1, so, ak, af, ab, aa, to, tk, tf, tb, ta, x7])) (by decide) ⟨Nat.le_of_ble_eq_true rfl, Nat.le_of_ble_eq_true rfl⟩ hl.1 rfl (Nat.le_of_ble_eq_true rfl) dL_law_694 (fun r u H locs hr hw => ?_)
  obtain ⟨u1, hu1⟩ : ∃ z, z = u := ⟨_, rfl⟩
  subst hu1
  have hw : Wd G (LA s) s [(x1, .inr (1, [.ref so, .ref to, .ref uo, .int (nI im), .ref x5, .int (nI lm), .ref x6, .int (nI rm), .ref x7, .ref x8, .int sd1])), (so, .inr (0, [.int (nI (sN R)), .int (nI (R 0 1)), .int (nI (sF R)), .int (nI (sS R)), .int (nI (sL R)), .ref ak, .ref af, .ref ab, .ref aa])), (ak, aI G 10 (sK R)), (af, aI G 10 (sG R)), (ab, aI G 10 (sO R)), (aa, aI G 10 (sA R)), (to, .inr (0, [.int (nI (sN u1.2)), .int (nI u1.1), .int (nI (sF u1.2)), .int (nI (sS u1.2)), .int (nI (sL u1.2)), .ref tk, .ref tf, .ref tb, .ref ta])), (tk, aI G 10 (sK u1.2)), (tf, aI G 10 (sG u1.2)), (tb, aI G 10 (sO u1.2)), (ta, aI G 10 (sA u1.2)), (uo, .inr (0, [.int (nI (sN Rk)), .int (nI (Rk 0 1)), .int (nI (sF Rk)), .int (nI (sS Rk)), .int (nI (sL Rk)), .ref uk, .ref uf, .ref ub, .ref ua])), (uk, aI G 10 (sK Rk)), (uf, aI G 10 (sG Rk)), (ub, aI G 10 (sO Rk)), (ua, aI G 10 (sA Rk)), (x5, aI G 96 (cN lf)), (x6, aI G 16 (cN rv)), (x7, aI G 7 (cN (rfU rf (wbN ((xs (i + 1)).toInt) 99)))), (x8, aI G 10 ft), (x2, .inr (2, [.ref a1, .ref a2, .ref a3, .ref a4, .int (nI im), .ref a5, .ref a6, .ref a7, .int (nI lm), .int (nI rm), .int (nI pl), .ref a8, .int sd2])), (a1, aI G 54 (fl R)), (a2, aI G 54 (fl Rm)), (a3, aI G 54 (fl Rg)), (a4, aI G 54 (fl Rw)), (a5, aI G 96 (cN lf)), (a6, aI G 16 (cN rv)), (a7, aI G 7 (cN rf)), (a8, aI G 3 nu)] H locs := hw
  subst hr
  refine lv_aload_n xx xb dL_law_697 rfl (lv_at hl 2 rfl) ?_
  refine lv_aload_n xx xb dL_law_698 rfl (lv_at hl 0 rfl) ?_
  refine lv_iload_n xx xb dL_law_699 rfl (lv_at hl 3 rfl) ?_
  refine lv_iconst (v := nI 1) xx xb dL_law_700 (by decide) ?_
  refine lv_iadd xx xb dL_law_701 ?_
  refine re_i (nI (i + 1)) (nI_add _ _) ?_
  refine va_sld xx xb hX hbl hbA hw.2.2 (vp_in_nI (by omega) (by omega)) dL_law_702 ?_
  refine re_i (xs (i + 1)) (congrArg xs (nI_clamp (by omega))) ?_
  have hM := kX2_key l G x2 a1 a2 a3 a4 a5 a6 a7 a8 im lm rm pl sd2 R Rm rf (xs (i + 1)) ((xs (i + 1)).toInt) rfl (by first | assumption | omega) (by first | assumption | omega)
  refine cv_i C hw hM yvX2_key ml_L_92 20 rfl rfl rfl [20, 21, 22, 27] rfl rfl (fun _ => (rfl : ([x2, a1, a2, a7] : List Nat) = [x2, a1, a2, a7])) (by decide) ⟨Nat.le_of_ble_eq_true rfl, Nat.le_of_ble_eq_true rfl⟩ hl.1 rfl (Nat.le_of_ble_eq_true rfl) dL_law_703 (fun r u H locs hr hw => ?_)
  obtain ⟨u2, hu2⟩ : ∃ z, z = u := ⟨_, rfl⟩
  subst hu2
  have hw : Wd G (LA s) s [(x1, .inr (1, [.ref so, .ref to, .ref uo, .int (nI im), .ref x5, .int (nI lm), .ref x6, .int (nI rm), .ref x7, .ref x8, .int sd1])), (so, .inr (0, [.int (nI (sN R)), .int (nI (R 0 1)), .int (nI (sF R)), .int (nI (sS R)), .int (nI (sL R)), .ref ak, .ref af, .ref ab, .ref aa])), (ak, aI G 10 (sK R)), (af, aI G 10 (sG R)), (ab, aI G 10 (sO R)), (aa, aI G 10 (sA R)), (to, .inr (0, [.int (nI (sN u1.2)), .int (nI u1.1), .int (nI (sF u1.2)), .int (nI (sS u1.2)), .int (nI (sL u1.2)), .ref tk, .ref tf, .ref tb, .ref ta])), (tk, aI G 10 (sK u1.2)), (tf, aI G 10 (sG u1.2)), (tb, aI G 10 (sO u1.2)), (ta, aI G 10 (sA u1.2)), (uo, .inr (0, [.int (nI (sN Rk)), .int (nI (Rk 0 1)), .int (nI (sF Rk)), .int (nI (sS Rk)), .int (nI (sL Rk)), .ref uk, .ref uf, .ref ub, .ref ua])), (uk, aI G 10 (sK Rk)), (uf, aI G 10 (sG Rk)), (ub, aI G 10 (sO Rk)), (ua, aI G 10 (sA Rk)), (x5, aI G 96 (cN lf)), (x6, aI G 16 (cN rv)), (x7, aI G 7 (cN (rfU rf (wbN ((xs (i + 1)).toInt) 99)))), (x8, aI G 10 ft), (x2, .inr (2, [.ref a1, .ref a2, .ref a3, .ref a4, .int (nI im), .ref a5, .ref a6, .ref a7, .int (nI lm), .int (nI rm), .int (nI pl), .ref a8, .int sd2])), (a1, aI G 54 (fl R)), (a2, aI G 54 (fl u2)), (a3, aI G 54 (fl Rg)), (a4, aI G 54 (fl Rw)), (a5, aI G 96 (cN lf)), (a6, aI G 16 (cN rv)), (a7, aI G 7 (cN (rfU rf (wbN ((xs (i + 1)).toInt) 99)))), (a8, aI G 3 nu)] H locs := hw
  subst hr
  refine lv_icmp_eq (tgt := 1137) xx xb dL_law_706 (by decide) (fun _ => ?_) (fun c => absurd rfl c)
  exact K R u1.2 Rk u2 Rg Rw u1.1 lm rm im pl lf (rfU rf (wbN ((xs (i + 1)).toInt) 99)) rv ft nu sd1 sd2 H _ ls (hFI) hw (lv_sub hl [0, 1, 2, 3] rfl)
set_option maxRecDepth 100000 in
set_option maxHeartbeats 4000000 in
theorem lc_prop (C : Cx p s m #[Value.ref b] meth c code 4 RL rt0 G) (hX : va_X b L xs s s.heap) (hbl : b < s.heap.size) (hE : XE X (LA s) s s.heap) (hL : L ≤ 3072) (hiL : i + 6 ≤ L) (K : LK p l e s m below meth c Q G b i x1 so ak af ab aa to tk tf tb ta uo uk uf ub ua x5 x6 x7 x8 x2 a1 a2 a3 a4 a5 a6 a7 a8) (R S Rk Rm Rg Rw : RT) (m0 lm rm im pl : Nat) (lf rf rv : Nat → Nat) (ft nu : Nat → Int32) (sd1 sd2 : Int32) (H : Heap) (locs : List Loc) (ls : Array Slot) (hFI : FI R Rk Rg lf lm rv rm im) (hw : Wd G (LA s) s (LWd G x1 so ak af ab aa to tk tf tb ta uo uk uf ub ua x5 x6 x7 x8 x2 a1 a2 a3 a4 a5 a6 a7 a8 R S Rk Rm Rg Rw m0 lm rm im pl lf rf rv ft nu sd1 sd2) H locs) (hl : lv_has ls 4 [(0, .ref b), (1, .ref x1), (2, .ref x2), (3, .int (nI i))]) : W p l e room_1 s m #[Value.ref b] below meth c H locs 29 638 Q (F0 m 711 ls []) := by
  have xx := C.1
  have xb := C.2.1
  have hbA : ¬ LA s b := Nat.not_le.mpr hbl
  obtain ⟨hFR, hFk, ⟨hLF, hlm⟩, ⟨hrm, hrv⟩, him, himR⟩ := id hFI
  obtain ⟨hR, hK, hp, hm⟩ := id hFR
  obtain ⟨hn, hf0, hpr, hA⟩ := id hR
  have hk02 := hFk.1.2.1
  have hw : Wd G (LA s) s [(x1, .inr (1, [.ref so, .ref to, .ref uo, .int (nI im), .ref x5, .int (nI lm), .ref x6, .int (nI rm), .ref x7, .ref x8, .int sd1])), (so, .inr (0, [.int (nI (sN R)), .int (nI (R 0 1)), .int (nI (sF R)), .int (nI (sS R)), .int (nI (sL R)), .ref ak, .ref af, .ref ab, .ref aa])), (ak, aI G 10 (sK R)), (af, aI G 10 (sG R)), (ab, aI G 10 (sO R)), (aa, aI G 10 (sA R)), (to, .inr (0, [.int (nI (sN S)), .int (nI m0), .int (nI (sF S)), .int (nI (sS S)), .int (nI (sL S)), .ref tk, .ref tf, .ref tb, .ref ta])), (tk, aI G 10 (sK S)), (tf, aI G 10 (sG S)), (tb, aI G 10 (sO S)), (ta, aI G 10 (sA S)), (uo, .inr (0, [.int (nI (sN Rk)), .int (nI (Rk 0 1)), .int (nI (sF Rk)), .int (nI (sS Rk)), .int (nI (sL Rk)), .ref uk, .ref uf, .ref ub, .ref ua])), (uk, aI G 10 (sK Rk)), (uf, aI G 10 (sG Rk)), (ub, aI G 10 (sO Rk)), (ua, aI G 10 (sA Rk)), (x5, aI G 96 (cN lf)), (x6, aI G 16 (cN rv)), (x7, aI G 7 (cN rf)), (x8, aI G 10 ft), (x2, .inr (2, [.ref a1, .ref a2, .ref a3, .ref a4, .int (nI im), .ref a5, .ref a6, .ref a7, .int (nI lm), .int (nI rm), .int (nI pl), .ref a8, .int sd2])), (a1, aI G 54 (fl R)), (a2, aI G 54 (fl Rm)), (a3, aI G 54 (fl Rg)), (a4, aI G 54 (fl Rw)), (a5, aI G 96 (cN lf)), (a6, aI G 16 (cN rv)), (a7, aI G 7 (cN rf)), (a8, aI G 3 nu)] H locs := hw
  refine lv_aload_n xx xb dL_law_711 rfl (lv_at hl 1 rfl) ?_
  refine lv_aload_n xx xb dL_law_712 rfl (lv_at hl 0 rfl) ?_
  refine lv_iload_n xx xb dL_law_713 rfl (lv_at hl 3 rfl) ?_
  refine lv_iconst (v := nI 1) xx xb dL_law_714 (by decide) ?_
  refine lv_iadd xx xb dL_law_715 ?_
  refine re_i (nI (i + 1)) (nI_add _ _) ?_
  refine va_sld xx xb hX hbl hbA hw.2.2 (vp_in_nI (by omega) (by omega)) dL_law_716 ?_
  refine re_i (xs (i + 1)) (congrArg xs (nI_clamp (by omega))) ?_
  have hM := kX1_prop l G x1 so to uo x5 x6 x7 x8 im lm rm sd1 rf ak af ab aa R (xs (i + 1)) ((xs (i + 1)).toInt) rfl (by first | assumption | omega) (by first | assumption | omega) (by first | assumption | omega)
  refine cv_i C hw hM yvX1_prop ml_L_93 0 rfl rfl rfl [0, 1, 2, 3, 4, 5, 18] rfl rfl (fun _ => (rfl : ([x1, so, ak, af, ab, aa, x7] : List Nat) = [x1, so, ak, af, ab, aa, x7])) (by decide) ⟨Nat.le_of_ble_eq_true rfl, Nat.le_of_ble_eq_true rfl⟩ hl.1 rfl (Nat.le_of_ble_eq_true rfl) dL_law_717 (fun r _ H locs hr hw => ?_)
  have hw : Wd G (LA s) s [(x1, .inr (1, [.ref so, .ref to, .ref uo, .int (nI im), .ref x5, .int (nI lm), .ref x6, .int (nI rm), .ref x7, .ref x8, .int sd1])), (so, .inr (0, [.int (nI (sN R)), .int (nI (R 0 1)), .int (nI (sF R)), .int (nI (sS R)), .int (nI (sL R)), .ref ak, .ref af, .ref ab, .ref aa])), (ak, aI G 10 (sK R)), (af, aI G 10 (sG R)), (ab, aI G 10 (sO R)), (aa, aI G 10 (sA R)), (to, .inr (0, [.int (nI (sN S)), .int (nI m0), .int (nI (sF S)), .int (nI (sS S)), .int (nI (sL S)), .ref tk, .ref tf, .ref tb, .ref ta])), (tk, aI G 10 (sK S)), (tf, aI G 10 (sG S)), (tb, aI G 10 (sO S)), (ta, aI G 10 (sA S)), (uo, .inr (0, [.int (nI (sN Rk)), .int (nI (Rk 0 1)), .int (nI (sF Rk)), .int (nI (sS Rk)), .int (nI (sL Rk)), .ref uk, .ref uf, .ref ub, .ref ua])), (uk, aI G 10 (sK Rk)), (uf, aI G 10 (sG Rk)), (ub, aI G 10 (sO Rk)), (ua, aI G 10 (sA Rk)), (x5, aI G 96 (cN lf)), (x6, aI G 16 (cN rv)), (x7, aI G 7 (cN (rfU rf (wbN ((xs (i + 1)).toInt) 99)))), (x8, aI G 10 ft), (x2, .inr (2, [.ref a1, .ref a2, .ref a3, .ref a4, .int (nI im), .ref a5, .ref a6, .ref a7, .int (nI lm), .int (nI rm), .int (nI pl), .ref a8, .int sd2])), (a1, aI G 54 (fl R)), (a2, aI G 54 (fl Rm)), (a3, aI G 54 (fl Rg)), (a4, aI G 54 (fl Rw)), (a5, aI G 96 (cN lf)), (a6, aI G 16 (cN rv)), (a7, aI G 7 (cN rf)), (a8, aI G 3 nu)] H locs := hw
  subst hr
  refine lv_aload_n xx xb dL_law_720 rfl (lv_at hl 2 rfl) ?_
  refine lv_aload_n xx xb dL_law_721 rfl (lv_at hl 0 rfl) ?_
  refine lv_iload_n xx xb dL_law_722 rfl (lv_at hl 3 rfl) ?_
  refine lv_iconst (v := nI 1) xx xb dL_law_723 (by decide) ?_
  refine lv_iadd xx xb dL_law_724 ?_
  refine re_i (nI (i + 1)) (nI_add _ _) ?_
  refine va_sld xx xb hX hbl hbA hw.2.2 (vp_in_nI (by omega) (by omega)) dL_law_725 ?_
  refine re_i (xs (i + 1)) (congrArg xs (nI_clamp (by omega))) ?_
  have hM := kX2_prop l G x2 a1 a2 a3 a4 a5 a6 a7 a8 im lm rm pl sd2 R Rm rf (xs (i + 1)) ((xs (i + 1)).toInt) rfl (by first | assumption | omega) (by first | assumption | omega)
  refine cv_i C hw hM yvX2_prop ml_L_96 20 rfl rfl rfl [20, 21, 22, 27] rfl rfl (fun _ => (rfl : ([x2, a1, a2, a7] : List Nat) = [x2, a1, a2, a7])) (by decide) ⟨Nat.le_of_ble_eq_true rfl, Nat.le_of_ble_eq_true rfl⟩ hl.1 rfl (Nat.le_of_ble_eq_true rfl) dL_law_726 (fun r u H locs hr hw => ?_)
  obtain ⟨u1, hu1⟩ : ∃ z, z = u := ⟨_, rfl⟩
  subst hu1
  have hw : Wd G (LA s) s [(x1, .inr (1, [.ref so, .ref to, .ref uo, .int (nI im), .ref x5, .int (nI lm), .ref x6, .int (nI rm), .ref x7, .ref x8, .int sd1])), (so, .inr (0, [.int (nI (sN R)), .int (nI (R 0 1)), .int (nI (sF R)), .int (nI (sS R)), .int (nI (sL R)), .ref ak, .ref af, .ref ab, .ref aa])), (ak, aI G 10 (sK R)), (af, aI G 10 (sG R)), (ab, aI G 10 (sO R)), (aa, aI G 10 (sA R)), (to, .inr (0, [.int (nI (sN S)), .int (nI m0), .int (nI (sF S)), .int (nI (sS S)), .int (nI (sL S)), .ref tk, .ref tf, .ref tb, .ref ta])), (tk, aI G 10 (sK S)), (tf, aI G 10 (sG S)), (tb, aI G 10 (sO S)), (ta, aI G 10 (sA S)), (uo, .inr (0, [.int (nI (sN Rk)), .int (nI (Rk 0 1)), .int (nI (sF Rk)), .int (nI (sS Rk)), .int (nI (sL Rk)), .ref uk, .ref uf, .ref ub, .ref ua])), (uk, aI G 10 (sK Rk)), (uf, aI G 10 (sG Rk)), (ub, aI G 10 (sO Rk)), (ua, aI G 10 (sA Rk)), (x5, aI G 96 (cN lf)), (x6, aI G 16 (cN rv)), (x7, aI G 7 (cN (rfU rf (wbN ((xs (i + 1)).toInt) 99)))), (x8, aI G 10 ft), (x2, .inr (2, [.ref a1, .ref a2, .ref a3, .ref a4, .int (nI im), .ref a5, .ref a6, .ref a7, .int (nI lm), .int (nI rm), .int (nI pl), .ref a8, .int sd2])), (a1, aI G 54 (fl R)), (a2, aI G 54 (fl u1)), (a3, aI G 54 (fl Rg)), (a4, aI G 54 (fl Rw)), (a5, aI G 96 (cN lf)), (a6, aI G 16 (cN rv)), (a7, aI G 7 (cN (rfU rf (wbN ((xs (i + 1)).toInt) 99)))), (a8, aI G 3 nu)] H locs := hw
  subst hr
  refine lv_icmp_eq (tgt := 1137) xx xb dL_law_729 (by decide) (fun _ => ?_) (fun c => absurd rfl c)
  exact K R S Rk u1 Rg Rw m0 lm rm im pl lf (rfU rf (wbN ((xs (i + 1)).toInt) 99)) rv ft nu sd1 sd2 H _ ls (hFI) hw (lv_sub hl [0, 1, 2, 3] rfl)
set_option maxRecDepth 100000 in
set_option maxHeartbeats 4000000 in
theorem lc_order (C : Cx p s m #[Value.ref b] meth c code 4 RL rt0 G) (hX : va_X b L xs s s.heap) (hbl : b < s.heap.size) (hE : XE X (LA s) s s.heap) (hL : L ≤ 3072) (hiL : i + 6 ≤ L) (K : LK p l e s m below meth c Q G b i x1 so ak af ab aa to tk tf tb ta uo uk uf ub ua x5 x6 x7 x8 x2 a1 a2 a3 a4 a5 a6 a7 a8) (R S Rk Rm Rg Rw : RT) (m0 lm rm im pl : Nat) (lf rf rv : Nat → Nat) (ft nu : Nat → Int32) (sd1 sd2 : Int32) (H : Heap) (locs : List Loc) (ls : Array Slot) (hFI : FI R Rk Rg lf lm rv rm im) (hw : Wd G (LA s) s (LWd G x1 so ak af ab aa to tk tf tb ta uo uk uf ub ua x5 x6 x7 x8 x2 a1 a2 a3 a4 a5 a6 a7 a8 R S Rk Rm Rg Rw m0 lm rm im pl lf rf rv ft nu sd1 sd2) H locs) (hl : lv_has ls 4 [(0, .ref b), (1, .ref x1), (2, .ref x2), (3, .int (nI i))]) : W p l e room_1 s m #[Value.ref b] below meth c H locs 29 638 Q (F0 m 734 ls []) := by
  have xx := C.1
  have xb := C.2.1
  have hbA : ¬ LA s b := Nat.not_le.mpr hbl
  obtain ⟨hFR, hFk, ⟨hLF, hlm⟩, ⟨hrm, hrv⟩, him, himR⟩ := id hFI
  obtain ⟨hR, hK, hp, hm⟩ := id hFR
  obtain ⟨hn, hf0, hpr, hA⟩ := id hR
  have hk02 := hFk.1.2.1
  have hw : Wd G (LA s) s [(x1, .inr (1, [.ref so, .ref to, .ref uo, .int (nI im), .ref x5, .int (nI lm), .ref x6, .int (nI rm), .ref x7, .ref x8, .int sd1])), (so, .inr (0, [.int (nI (sN R)), .int (nI (R 0 1)), .int (nI (sF R)), .int (nI (sS R)), .int (nI (sL R)), .ref ak, .ref af, .ref ab, .ref aa])), (ak, aI G 10 (sK R)), (af, aI G 10 (sG R)), (ab, aI G 10 (sO R)), (aa, aI G 10 (sA R)), (to, .inr (0, [.int (nI (sN S)), .int (nI m0), .int (nI (sF S)), .int (nI (sS S)), .int (nI (sL S)), .ref tk, .ref tf, .ref tb, .ref ta])), (tk, aI G 10 (sK S)), (tf, aI G 10 (sG S)), (tb, aI G 10 (sO S)), (ta, aI G 10 (sA S)), (uo, .inr (0, [.int (nI (sN Rk)), .int (nI (Rk 0 1)), .int (nI (sF Rk)), .int (nI (sS Rk)), .int (nI (sL Rk)), .ref uk, .ref uf, .ref ub, .ref ua])), (uk, aI G 10 (sK Rk)), (uf, aI G 10 (sG Rk)), (ub, aI G 10 (sO Rk)), (ua, aI G 10 (sA Rk)), (x5, aI G 96 (cN lf)), (x6, aI G 16 (cN rv)), (x7, aI G 7 (cN rf)), (x8, aI G 10 ft), (x2, .inr (2, [.ref a1, .ref a2, .ref a3, .ref a4, .int (nI im), .ref a5, .ref a6, .ref a7, .int (nI lm), .int (nI rm), .int (nI pl), .ref a8, .int sd2])), (a1, aI G 54 (fl R)), (a2, aI G 54 (fl Rm)), (a3, aI G 54 (fl Rg)), (a4, aI G 54 (fl Rw)), (a5, aI G 96 (cN lf)), (a6, aI G 16 (cN rv)), (a7, aI G 7 (cN rf)), (a8, aI G 3 nu)] H locs := hw
  refine lv_aload_n xx xb dL_law_734 rfl (lv_at hl 1 rfl) ?_
  refine lv_aload_n xx xb dL_law_735 rfl (lv_at hl 0 rfl) ?_
  refine lv_iload_n xx xb dL_law_736 rfl (lv_at hl 3 rfl) ?_
  refine lv_iconst (v := nI 1) xx xb dL_law_737 (by decide) ?_
  refine lv_iadd xx xb dL_law_738 ?_
  refine re_i (nI (i + 1)) (nI_add _ _) ?_
  refine va_sld xx xb hX hbl hbA hw.2.2 (vp_in_nI (by omega) (by omega)) dL_law_739 ?_
  refine re_i (xs (i + 1)) (congrArg xs (nI_clamp (by omega))) ?_
  refine lv_aload_n xx xb dL_law_740 rfl (lv_at hl 0 rfl) ?_
  refine lv_iload_n xx xb dL_law_741 rfl (lv_at hl 3 rfl) ?_
  refine lv_iconst (v := nI 2) xx xb dL_law_742 (by decide) ?_
  refine lv_iadd xx xb dL_law_743 ?_
  refine re_i (nI (i + 2)) (nI_add _ _) ?_
  refine va_sld xx xb hX hbl hbA hw.2.2 (vp_in_nI (by omega) (by omega)) dL_law_744 ?_
  refine re_i (xs (i + 2)) (congrArg xs (nI_clamp (by omega))) ?_
  refine lv_aload_n xx xb dL_law_745 rfl (lv_at hl 0 rfl) ?_
  refine lv_iload_n xx xb dL_law_746 rfl (lv_at hl 3 rfl) ?_
  refine lv_iconst (v := nI 3) xx xb dL_law_747 (by decide) ?_
  refine lv_iadd xx xb dL_law_748 ?_
  refine re_i (nI (i + 3)) (nI_add _ _) ?_
  refine va_sld xx xb hX hbl hbA hw.2.2 (vp_in_nI (by omega) (by omega)) dL_law_749 ?_
  refine re_i (xs (i + 3)) (congrArg xs (nI_clamp (by omega))) ?_
  refine lv_aload_n xx xb dL_law_750 rfl (lv_at hl 0 rfl) ?_
  refine lv_iload_n xx xb dL_law_751 rfl (lv_at hl 3 rfl) ?_
  refine lv_iconst (v := nI 4) xx xb dL_law_752 (by decide) ?_
  refine lv_iadd xx xb dL_law_753 ?_
  refine re_i (nI (i + 4)) (nI_add _ _) ?_
  refine va_sld xx xb hX hbl hbA hw.2.2 (vp_in_nI (by omega) (by omega)) dL_law_754 ?_
  refine re_i (xs (i + 4)) (congrArg xs (nI_clamp (by omega))) ?_
  refine lv_aload_n xx xb dL_law_755 rfl (lv_at hl 0 rfl) ?_
  refine lv_iload_n xx xb dL_law_756 rfl (lv_at hl 3 rfl) ?_
  refine lv_iconst (v := nI 5) xx xb dL_law_757 (by decide) ?_
  refine lv_iadd xx xb dL_law_758 ?_
  refine re_i (nI (i + 5)) (nI_add _ _) ?_
  refine va_sld xx xb hX hbl hbA hw.2.2 (vp_in_nI (by omega) (by omega)) dL_law_759 ?_
  refine re_i (xs (i + 5)) (congrArg xs (nI_clamp (by omega))) ?_
  have hM := kX1_order l G X x1 so to uo x5 x6 x7 x8 im lm rm sd1 rf ak af ab aa R tk tf tb ta m0 S (xs (i + 1)) ((xs (i + 1)).toInt) (xs (i + 2)) ((xs (i + 2)).toInt) (xs (i + 3)) ((xs (i + 3)).toInt) (xs (i + 4)) ((xs (i + 4)).toInt) (xs (i + 5)) ((xs (i + 5)).toInt) rfl rfl rfl rfl rfl (by first | assumption | omega) (by first | assumption | omega) (by first | assumption | omega)
  refine eV_i C hE hw hM yvX1_order ml_L_97 0 rfl rfl rfl [0, 1, 2, 3, 4, 5, 6, 7, 8, 9, 10, 18] rfl rfl (fun _ => (rfl : ([x1, so, ak, af, ab, aa, to, tk, tf, tb, ta, x7] : List Nat) = [x1, so, ak, af, ab, aa, to, tk, tf, tb, ta, x7])) (by decide) ⟨Nat.le_of_ble_eq_true rfl, Nat.le_of_ble_eq_true rfl⟩ hl.1 rfl (Nat.le_of_ble_eq_true rfl) dL_law_760 (fun r u H locs hr hw => ?_)
  obtain ⟨u1, hu1⟩ : ∃ z, z = u := ⟨_, rfl⟩
  subst hu1
  have hw : Wd G (LA s) s [(x1, .inr (1, [.ref so, .ref to, .ref uo, .int (nI im), .ref x5, .int (nI lm), .ref x6, .int (nI rm), .ref x7, .ref x8, .int sd1])), (so, .inr (0, [.int (nI (sN R)), .int (nI (R 0 1)), .int (nI (sF R)), .int (nI (sS R)), .int (nI (sL R)), .ref ak, .ref af, .ref ab, .ref aa])), (ak, aI G 10 (sK R)), (af, aI G 10 (sG R)), (ab, aI G 10 (sO R)), (aa, aI G 10 (sA R)), (to, .inr (0, [.int (nI (sN u1.2)), .int (nI u1.1), .int (nI (sF u1.2)), .int (nI (sS u1.2)), .int (nI (sL u1.2)), .ref tk, .ref tf, .ref tb, .ref ta])), (tk, aI G 10 (sK u1.2)), (tf, aI G 10 (sG u1.2)), (tb, aI G 10 (sO u1.2)), (ta, aI G 10 (sA u1.2)), (uo, .inr (0, [.int (nI (sN Rk)), .int (nI (Rk 0 1)), .int (nI (sF Rk)), .int (nI (sS Rk)), .int (nI (sL Rk)), .ref uk, .ref uf, .ref ub, .ref ua])), (uk, aI G 10 (sK Rk)), (uf, aI G 10 (sG Rk)), (ub, aI G 10 (sO Rk)), (ua, aI G 10 (sA Rk)), (x5, aI G 96 (cN lf)), (x6, aI G 16 (cN rv)), (x7, aI G 7 (cN (rfU rf (cOrd R ((xs (i + 1)).toInt) ((xs (i + 2)).toInt) ((xs (i + 3)).toInt) ((xs (i + 4)).toInt) ((xs (i + 5)).toInt))))), (x8, aI G 10 ft), (x2, .inr (2, [.ref a1, .ref a2, .ref a3, .ref a4, .int (nI im), .ref a5, .ref a6, .ref a7, .int (nI lm), .int (nI rm), .int (nI pl), .ref a8, .int sd2])), (a1, aI G 54 (fl R)), (a2, aI G 54 (fl Rm)), (a3, aI G 54 (fl Rg)), (a4, aI G 54 (fl Rw)), (a5, aI G 96 (cN lf)), (a6, aI G 16 (cN rv)), (a7, aI G 7 (cN rf)), (a8, aI G 3 nu)] H locs := hw
  subst hr
  refine lv_aload_n xx xb dL_law_763 rfl (lv_at hl 2 rfl) ?_
  refine lv_aload_n xx xb dL_law_764 rfl (lv_at hl 0 rfl) ?_
  refine lv_iload_n xx xb dL_law_765 rfl (lv_at hl 3 rfl) ?_
  refine lv_iconst (v := nI 1) xx xb dL_law_766 (by decide) ?_
  refine lv_iadd xx xb dL_law_767 ?_
  refine re_i (nI (i + 1)) (nI_add _ _) ?_
  refine va_sld xx xb hX hbl hbA hw.2.2 (vp_in_nI (by omega) (by omega)) dL_law_768 ?_
  refine re_i (xs (i + 1)) (congrArg xs (nI_clamp (by omega))) ?_
  refine lv_aload_n xx xb dL_law_769 rfl (lv_at hl 0 rfl) ?_
  refine lv_iload_n xx xb dL_law_770 rfl (lv_at hl 3 rfl) ?_
  refine lv_iconst (v := nI 2) xx xb dL_law_771 (by decide) ?_
  refine lv_iadd xx xb dL_law_772 ?_
  refine re_i (nI (i + 2)) (nI_add _ _) ?_
  refine va_sld xx xb hX hbl hbA hw.2.2 (vp_in_nI (by omega) (by omega)) dL_law_773 ?_
  refine re_i (xs (i + 2)) (congrArg xs (nI_clamp (by omega))) ?_
  refine lv_aload_n xx xb dL_law_774 rfl (lv_at hl 0 rfl) ?_
  refine lv_iload_n xx xb dL_law_775 rfl (lv_at hl 3 rfl) ?_
  refine lv_iconst (v := nI 3) xx xb dL_law_776 (by decide) ?_
  refine lv_iadd xx xb dL_law_777 ?_
  refine re_i (nI (i + 3)) (nI_add _ _) ?_
  refine va_sld xx xb hX hbl hbA hw.2.2 (vp_in_nI (by omega) (by omega)) dL_law_778 ?_
  refine re_i (xs (i + 3)) (congrArg xs (nI_clamp (by omega))) ?_
  refine lv_aload_n xx xb dL_law_779 rfl (lv_at hl 0 rfl) ?_
  refine lv_iload_n xx xb dL_law_780 rfl (lv_at hl 3 rfl) ?_
  refine lv_iconst (v := nI 4) xx xb dL_law_781 (by decide) ?_
  refine lv_iadd xx xb dL_law_782 ?_
  refine re_i (nI (i + 4)) (nI_add _ _) ?_
  refine va_sld xx xb hX hbl hbA hw.2.2 (vp_in_nI (by omega) (by omega)) dL_law_783 ?_
  refine re_i (xs (i + 4)) (congrArg xs (nI_clamp (by omega))) ?_
  refine lv_aload_n xx xb dL_law_784 rfl (lv_at hl 0 rfl) ?_
  refine lv_iload_n xx xb dL_law_785 rfl (lv_at hl 3 rfl) ?_
  refine lv_iconst (v := nI 5) xx xb dL_law_786 (by decide) ?_
  refine lv_iadd xx xb dL_law_787 ?_
  refine re_i (nI (i + 5)) (nI_add _ _) ?_
  refine va_sld xx xb hX hbl hbA hw.2.2 (vp_in_nI (by omega) (by omega)) dL_law_788 ?_
  refine re_i (xs (i + 5)) (congrArg xs (nI_clamp (by omega))) ?_
  have hM := kX2_order l G x2 a1 a2 a3 a4 a5 a6 a7 a8 im lm rm pl sd2 R Rm rf (xs (i + 1)) ((xs (i + 1)).toInt) (xs (i + 2)) ((xs (i + 2)).toInt) (xs (i + 3)) ((xs (i + 3)).toInt) (xs (i + 4)) ((xs (i + 4)).toInt) (xs (i + 5)) ((xs (i + 5)).toInt) rfl rfl rfl rfl rfl (by first | assumption | omega) (by first | assumption | omega)
  refine cv_i C hw hM yvX2_order ml_L_101 20 rfl rfl rfl [20, 21, 22, 27] rfl rfl (fun _ => (rfl : ([x2, a1, a2, a7] : List Nat) = [x2, a1, a2, a7])) (by decide) ⟨Nat.le_of_ble_eq_true rfl, Nat.le_of_ble_eq_true rfl⟩ hl.1 rfl (Nat.le_of_ble_eq_true rfl) dL_law_789 (fun r u H locs hr hw => ?_)
  obtain ⟨u2, hu2⟩ : ∃ z, z = u := ⟨_, rfl⟩
  subst hu2
  have hw : Wd G (LA s) s [(x1, .inr (1, [.ref so, .ref to, .ref uo, .int (nI im), .ref x5, .int (nI lm), .ref x6, .int (nI rm), .ref x7, .ref x8, .int sd1])), (so, .inr (0, [.int (nI (sN R)), .int (nI (R 0 1)), .int (nI (sF R)), .int (nI (sS R)), .int (nI (sL R)), .ref ak, .ref af, .ref ab, .ref aa])), (ak, aI G 10 (sK R)), (af, aI G 10 (sG R)), (ab, aI G 10 (sO R)), (aa, aI G 10 (sA R)), (to, .inr (0, [.int (nI (sN u1.2)), .int (nI u1.1), .int (nI (sF u1.2)), .int (nI (sS u1.2)), .int (nI (sL u1.2)), .ref tk, .ref tf, .ref tb, .ref ta])), (tk, aI G 10 (sK u1.2)), (tf, aI G 10 (sG u1.2)), (tb, aI G 10 (sO u1.2)), (ta, aI G 10 (sA u1.2)), (uo, .inr (0, [.int (nI (sN Rk)), .int (nI (Rk 0 1)), .int (nI (sF Rk)), .int (nI (sS Rk)), .int (nI (sL Rk)), .ref uk, .ref uf, .ref ub, .ref ua])), (uk, aI G 10 (sK Rk)), (uf, aI G 10 (sG Rk)), (ub, aI G 10 (sO Rk)), (ua, aI G 10 (sA Rk)), (x5, aI G 96 (cN lf)), (x6, aI G 16 (cN rv)), (x7, aI G 7 (cN (rfU rf (cOrd R ((xs (i + 1)).toInt) ((xs (i + 2)).toInt) ((xs (i + 3)).toInt) ((xs (i + 4)).toInt) ((xs (i + 5)).toInt))))), (x8, aI G 10 ft), (x2, .inr (2, [.ref a1, .ref a2, .ref a3, .ref a4, .int (nI im), .ref a5, .ref a6, .ref a7, .int (nI lm), .int (nI rm), .int (nI pl), .ref a8, .int sd2])), (a1, aI G 54 (fl R)), (a2, aI G 54 (fl u2)), (a3, aI G 54 (fl Rg)), (a4, aI G 54 (fl Rw)), (a5, aI G 96 (cN lf)), (a6, aI G 16 (cN rv)), (a7, aI G 7 (cN (rfU rf (cOrd R ((xs (i + 1)).toInt) ((xs (i + 2)).toInt) ((xs (i + 3)).toInt) ((xs (i + 4)).toInt) ((xs (i + 5)).toInt))))), (a8, aI G 3 nu)] H locs := hw
  subst hr
  refine lv_icmp_eq (tgt := 1137) xx xb dL_law_792 (by decide) (fun _ => ?_) (fun c => absurd rfl c)
  exact K R u1.2 Rk u2 Rg Rw u1.1 lm rm im pl lf (rfU rf (cOrd R ((xs (i + 1)).toInt) ((xs (i + 2)).toInt) ((xs (i + 3)).toInt) ((xs (i + 4)).toInt) ((xs (i + 5)).toInt))) rv ft nu sd1 sd2 H _ ls (hFI) hw (lv_sub hl [0, 1, 2, 3] rfl)
set_option maxRecDepth 100000 in
set_option maxHeartbeats 4000000 in
theorem lc_floorFalls (C : Cx p s m #[Value.ref b] meth c code 4 RL rt0 G) (hX : va_X b L xs s s.heap) (hbl : b < s.heap.size) (hE : XE X (LA s) s s.heap) (hL : L ≤ 3072) (hiL : i + 6 ≤ L) (K : LK p l e s m below meth c Q G b i x1 so ak af ab aa to tk tf tb ta uo uk uf ub ua x5 x6 x7 x8 x2 a1 a2 a3 a4 a5 a6 a7 a8) (R S Rk Rm Rg Rw : RT) (m0 lm rm im pl : Nat) (lf rf rv : Nat → Nat) (ft nu : Nat → Int32) (sd1 sd2 : Int32) (H : Heap) (locs : List Loc) (ls : Array Slot) (hFI : FI R Rk Rg lf lm rv rm im) (hw : Wd G (LA s) s (LWd G x1 so ak af ab aa to tk tf tb ta uo uk uf ub ua x5 x6 x7 x8 x2 a1 a2 a3 a4 a5 a6 a7 a8 R S Rk Rm Rg Rw m0 lm rm im pl lf rf rv ft nu sd1 sd2) H locs) (hl : lv_has ls 4 [(0, .ref b), (1, .ref x1), (2, .ref x2), (3, .int (nI i))]) : W p l e room_1 s m #[Value.ref b] below meth c H locs 29 638 Q (F0 m 797 ls []) := by
  have xx := C.1
  have xb := C.2.1
  have hbA : ¬ LA s b := Nat.not_le.mpr hbl
  obtain ⟨hFR, hFk, ⟨hLF, hlm⟩, ⟨hrm, hrv⟩, him, himR⟩ := id hFI
  obtain ⟨hR, hK, hp, hm⟩ := id hFR
  obtain ⟨hn, hf0, hpr, hA⟩ := id hR
  have hk02 := hFk.1.2.1
  have hw : Wd G (LA s) s [(x1, .inr (1, [.ref so, .ref to, .ref uo, .int (nI im), .ref x5, .int (nI lm), .ref x6, .int (nI rm), .ref x7, .ref x8, .int sd1])), (so, .inr (0, [.int (nI (sN R)), .int (nI (R 0 1)), .int (nI (sF R)), .int (nI (sS R)), .int (nI (sL R)), .ref ak, .ref af, .ref ab, .ref aa])), (ak, aI G 10 (sK R)), (af, aI G 10 (sG R)), (ab, aI G 10 (sO R)), (aa, aI G 10 (sA R)), (to, .inr (0, [.int (nI (sN S)), .int (nI m0), .int (nI (sF S)), .int (nI (sS S)), .int (nI (sL S)), .ref tk, .ref tf, .ref tb, .ref ta])), (tk, aI G 10 (sK S)), (tf, aI G 10 (sG S)), (tb, aI G 10 (sO S)), (ta, aI G 10 (sA S)), (uo, .inr (0, [.int (nI (sN Rk)), .int (nI (Rk 0 1)), .int (nI (sF Rk)), .int (nI (sS Rk)), .int (nI (sL Rk)), .ref uk, .ref uf, .ref ub, .ref ua])), (uk, aI G 10 (sK Rk)), (uf, aI G 10 (sG Rk)), (ub, aI G 10 (sO Rk)), (ua, aI G 10 (sA Rk)), (x5, aI G 96 (cN lf)), (x6, aI G 16 (cN rv)), (x7, aI G 7 (cN rf)), (x8, aI G 10 ft), (x2, .inr (2, [.ref a1, .ref a2, .ref a3, .ref a4, .int (nI im), .ref a5, .ref a6, .ref a7, .int (nI lm), .int (nI rm), .int (nI pl), .ref a8, .int sd2])), (a1, aI G 54 (fl R)), (a2, aI G 54 (fl Rm)), (a3, aI G 54 (fl Rg)), (a4, aI G 54 (fl Rw)), (a5, aI G 96 (cN lf)), (a6, aI G 16 (cN rv)), (a7, aI G 7 (cN rf)), (a8, aI G 3 nu)] H locs := hw
  refine lv_aload_n xx xb dL_law_797 rfl (lv_at hl 1 rfl) ?_
  refine lv_aload_n xx xb dL_law_798 rfl (lv_at hl 0 rfl) ?_
  refine lv_iload_n xx xb dL_law_799 rfl (lv_at hl 3 rfl) ?_
  refine lv_iconst (v := nI 1) xx xb dL_law_800 (by decide) ?_
  refine lv_iadd xx xb dL_law_801 ?_
  refine re_i (nI (i + 1)) (nI_add _ _) ?_
  refine va_sld xx xb hX hbl hbA hw.2.2 (vp_in_nI (by omega) (by omega)) dL_law_802 ?_
  refine re_i (xs (i + 1)) (congrArg xs (nI_clamp (by omega))) ?_
  have hM := kX1_floorFalls l G x1 so to uo x5 x6 x7 x8 im lm rm sd1 rf ak af ab aa R (xs (i + 1)) ((xs (i + 1)).toInt) rfl (by first | assumption | omega)
  refine cv_i C hw hM yvX1_floorFalls ml_L_102 0 rfl rfl rfl [0, 1, 2, 3, 4, 5, 18] rfl rfl (fun _ => (rfl : ([x1, so, ak, af, ab, aa, x7] : List Nat) = [x1, so, ak, af, ab, aa, x7])) (by decide) ⟨Nat.le_of_ble_eq_true rfl, Nat.le_of_ble_eq_true rfl⟩ hl.1 rfl (Nat.le_of_ble_eq_true rfl) dL_law_803 (fun r _ H locs hr hw => ?_)
  have hw : Wd G (LA s) s [(x1, .inr (1, [.ref so, .ref to, .ref uo, .int (nI im), .ref x5, .int (nI lm), .ref x6, .int (nI rm), .ref x7, .ref x8, .int sd1])), (so, .inr (0, [.int (nI (sN R)), .int (nI (R 0 1)), .int (nI (sF R)), .int (nI (sS R)), .int (nI (sL R)), .ref ak, .ref af, .ref ab, .ref aa])), (ak, aI G 10 (sK R)), (af, aI G 10 (sG R)), (ab, aI G 10 (sO R)), (aa, aI G 10 (sA R)), (to, .inr (0, [.int (nI (sN S)), .int (nI m0), .int (nI (sF S)), .int (nI (sS S)), .int (nI (sL S)), .ref tk, .ref tf, .ref tb, .ref ta])), (tk, aI G 10 (sK S)), (tf, aI G 10 (sG S)), (tb, aI G 10 (sO S)), (ta, aI G 10 (sA S)), (uo, .inr (0, [.int (nI (sN Rk)), .int (nI (Rk 0 1)), .int (nI (sF Rk)), .int (nI (sS Rk)), .int (nI (sL Rk)), .ref uk, .ref uf, .ref ub, .ref ua])), (uk, aI G 10 (sK Rk)), (uf, aI G 10 (sG Rk)), (ub, aI G 10 (sO Rk)), (ua, aI G 10 (sA Rk)), (x5, aI G 96 (cN lf)), (x6, aI G 16 (cN rv)), (x7, aI G 7 (cN (rfU rf (wbN ((xs (i + 1)).toInt) 9)))), (x8, aI G 10 ft), (x2, .inr (2, [.ref a1, .ref a2, .ref a3, .ref a4, .int (nI im), .ref a5, .ref a6, .ref a7, .int (nI lm), .int (nI rm), .int (nI pl), .ref a8, .int sd2])), (a1, aI G 54 (fl R)), (a2, aI G 54 (fl Rm)), (a3, aI G 54 (fl Rg)), (a4, aI G 54 (fl Rw)), (a5, aI G 96 (cN lf)), (a6, aI G 16 (cN rv)), (a7, aI G 7 (cN rf)), (a8, aI G 3 nu)] H locs := hw
  subst hr
  refine lv_aload_n xx xb dL_law_806 rfl (lv_at hl 2 rfl) ?_
  refine lv_aload_n xx xb dL_law_807 rfl (lv_at hl 0 rfl) ?_
  refine lv_iload_n xx xb dL_law_808 rfl (lv_at hl 3 rfl) ?_
  refine lv_iconst (v := nI 1) xx xb dL_law_809 (by decide) ?_
  refine lv_iadd xx xb dL_law_810 ?_
  refine re_i (nI (i + 1)) (nI_add _ _) ?_
  refine va_sld xx xb hX hbl hbA hw.2.2 (vp_in_nI (by omega) (by omega)) dL_law_811 ?_
  refine re_i (xs (i + 1)) (congrArg xs (nI_clamp (by omega))) ?_
  have hM := kX2_floorFalls l G x2 a1 a2 a3 a4 a5 a6 a7 a8 im lm rm pl sd2 R rf (xs (i + 1)) ((xs (i + 1)).toInt) rfl (by first | assumption | omega)
  refine cv_i C hw hM yvX2_floorFalls ml_L_105 20 rfl rfl rfl [20, 21, 27] rfl rfl (fun _ => (rfl : ([x2, a1, a7] : List Nat) = [x2, a1, a7])) (by decide) ⟨Nat.le_of_ble_eq_true rfl, Nat.le_of_ble_eq_true rfl⟩ hl.1 rfl (Nat.le_of_ble_eq_true rfl) dL_law_812 (fun r _ H locs hr hw => ?_)
  have hw : Wd G (LA s) s [(x1, .inr (1, [.ref so, .ref to, .ref uo, .int (nI im), .ref x5, .int (nI lm), .ref x6, .int (nI rm), .ref x7, .ref x8, .int sd1])), (so, .inr (0, [.int (nI (sN R)), .int (nI (R 0 1)), .int (nI (sF R)), .int (nI (sS R)), .int (nI (sL R)), .ref ak, .ref af, .ref ab, .ref aa])), (ak, aI G 10 (sK R)), (af, aI G 10 (sG R)), (ab, aI G 10 (sO R)), (aa, aI G 10 (sA R)), (to, .inr (0, [.int (nI (sN S)), .int (nI m0), .int (nI (sF S)), .int (nI (sS S)), .int (nI (sL S)), .ref tk, .ref tf, .ref tb, .ref ta])), (tk, aI G 10 (sK S)), (tf, aI G 10 (sG S)), (tb, aI G 10 (sO S)), (ta, aI G 10 (sA S)), (uo, .inr (0, [.int (nI (sN Rk)), .int (nI (Rk 0 1)), .int (nI (sF Rk)), .int (nI (sS Rk)), .int (nI (sL Rk)), .ref uk, .ref uf, .ref ub, .ref ua])), (uk, aI G 10 (sK Rk)), (uf, aI G 10 (sG Rk)), (ub, aI G 10 (sO Rk)), (ua, aI G 10 (sA Rk)), (x5, aI G 96 (cN lf)), (x6, aI G 16 (cN rv)), (x7, aI G 7 (cN (rfU rf (wbN ((xs (i + 1)).toInt) 9)))), (x8, aI G 10 ft), (x2, .inr (2, [.ref a1, .ref a2, .ref a3, .ref a4, .int (nI im), .ref a5, .ref a6, .ref a7, .int (nI lm), .int (nI rm), .int (nI pl), .ref a8, .int sd2])), (a1, aI G 54 (fl R)), (a2, aI G 54 (fl Rm)), (a3, aI G 54 (fl Rg)), (a4, aI G 54 (fl Rw)), (a5, aI G 96 (cN lf)), (a6, aI G 16 (cN rv)), (a7, aI G 7 (cN (rfU rf (wbN ((xs (i + 1)).toInt) 9)))), (a8, aI G 3 nu)] H locs := hw
  subst hr
  refine lv_icmp_eq (tgt := 1137) xx xb dL_law_815 (by decide) (fun _ => ?_) (fun c => absurd rfl c)
  exact K R S Rk Rm Rg Rw m0 lm rm im pl lf (rfU rf (wbN ((xs (i + 1)).toInt) 9)) rv ft nu sd1 sd2 H _ ls (hFI) hw (lv_sub hl [0, 1, 2, 3] rfl)
set_option maxRecDepth 100000 in
set_option maxHeartbeats 4000000 in
theorem lc_watched (C : Cx p s m #[Value.ref b] meth c code 4 RL rt0 G) (hX : va_X b L xs s s.heap) (hbl : b < s.heap.size) (hE : XE X (LA s) s s.heap) (hL : L ≤ 3072) (hiL : i + 6 ≤ L) (K : LK p l e s m below meth c Q G b i x1 so ak af ab aa to tk tf tb ta uo uk uf ub ua x5 x6 x7 x8 x2 a1 a2 a3 a4 a5 a6 a7 a8) (R S Rk Rm Rg Rw : RT) (m0 lm rm im pl : Nat) (lf rf rv : Nat → Nat) (ft nu : Nat → Int32) (sd1 sd2 : Int32) (H : Heap) (locs : List Loc) (ls : Array Slot) (hFI : FI R Rk Rg lf lm rv rm im) (hw : Wd G (LA s) s (LWd G x1 so ak af ab aa to tk tf tb ta uo uk uf ub ua x5 x6 x7 x8 x2 a1 a2 a3 a4 a5 a6 a7 a8 R S Rk Rm Rg Rw m0 lm rm im pl lf rf rv ft nu sd1 sd2) H locs) (hl : lv_has ls 4 [(0, .ref b), (1, .ref x1), (2, .ref x2), (3, .int (nI i))]) : W p l e room_1 s m #[Value.ref b] below meth c H locs 29 638 Q (F0 m 820 ls []) := by
  have xx := C.1
  have xb := C.2.1
  have hbA : ¬ LA s b := Nat.not_le.mpr hbl
  obtain ⟨hFR, hFk, ⟨hLF, hlm⟩, ⟨hrm, hrv⟩, him, himR⟩ := id hFI
  obtain ⟨hR, hK, hp, hm⟩ := id hFR
  obtain ⟨hn, hf0, hpr, hA⟩ := id hR
  have hk02 := hFk.1.2.1
  have hw : Wd G (LA s) s [(x1, .inr (1, [.ref so, .ref to, .ref uo, .int (nI im), .ref x5, .int (nI lm), .ref x6, .int (nI rm), .ref x7, .ref x8, .int sd1])), (so, .inr (0, [.int (nI (sN R)), .int (nI (R 0 1)), .int (nI (sF R)), .int (nI (sS R)), .int (nI (sL R)), .ref ak, .ref af, .ref ab, .ref aa])), (ak, aI G 10 (sK R)), (af, aI G 10 (sG R)), (ab, aI G 10 (sO R)), (aa, aI G 10 (sA R)), (to, .inr (0, [.int (nI (sN S)), .int (nI m0), .int (nI (sF S)), .int (nI (sS S)), .int (nI (sL S)), .ref tk, .ref tf, .ref tb, .ref ta])), (tk, aI G 10 (sK S)), (tf, aI G 10 (sG S)), (tb, aI G 10 (sO S)), (ta, aI G 10 (sA S)), (uo, .inr (0, [.int (nI (sN Rk)), .int (nI (Rk 0 1)), .int (nI (sF Rk)), .int (nI (sS Rk)), .int (nI (sL Rk)), .ref uk, .ref uf, .ref ub, .ref ua])), (uk, aI G 10 (sK Rk)), (uf, aI G 10 (sG Rk)), (ub, aI G 10 (sO Rk)), (ua, aI G 10 (sA Rk)), (x5, aI G 96 (cN lf)), (x6, aI G 16 (cN rv)), (x7, aI G 7 (cN rf)), (x8, aI G 10 ft), (x2, .inr (2, [.ref a1, .ref a2, .ref a3, .ref a4, .int (nI im), .ref a5, .ref a6, .ref a7, .int (nI lm), .int (nI rm), .int (nI pl), .ref a8, .int sd2])), (a1, aI G 54 (fl R)), (a2, aI G 54 (fl Rm)), (a3, aI G 54 (fl Rg)), (a4, aI G 54 (fl Rw)), (a5, aI G 96 (cN lf)), (a6, aI G 16 (cN rv)), (a7, aI G 7 (cN rf)), (a8, aI G 3 nu)] H locs := hw
  refine lv_aload_n xx xb dL_law_820 rfl (lv_at hl 1 rfl) ?_
  refine lv_aload_n xx xb dL_law_821 rfl (lv_at hl 0 rfl) ?_
  refine lv_iload_n xx xb dL_law_822 rfl (lv_at hl 3 rfl) ?_
  refine lv_iconst (v := nI 1) xx xb dL_law_823 (by decide) ?_
  refine lv_iadd xx xb dL_law_824 ?_
  refine re_i (nI (i + 1)) (nI_add _ _) ?_
  refine va_sld xx xb hX hbl hbA hw.2.2 (vp_in_nI (by omega) (by omega)) dL_law_825 ?_
  refine re_i (xs (i + 1)) (congrArg xs (nI_clamp (by omega))) ?_
  have hM := kX1_watched l G x1 so to uo x5 x6 x7 x8 im lm rm sd1 rf ak af ab aa R (xs (i + 1)) ((xs (i + 1)).toInt) rfl (by first | assumption | omega) (by first | assumption | omega)
  refine cv_i C hw hM yvX1_watched ml_L_106 0 rfl rfl rfl [0, 1, 2, 3, 4, 5, 18] rfl rfl (fun _ => (rfl : ([x1, so, ak, af, ab, aa, x7] : List Nat) = [x1, so, ak, af, ab, aa, x7])) (by decide) ⟨Nat.le_of_ble_eq_true rfl, Nat.le_of_ble_eq_true rfl⟩ hl.1 rfl (Nat.le_of_ble_eq_true rfl) dL_law_826 (fun r _ H locs hr hw => ?_)
  have hw : Wd G (LA s) s [(x1, .inr (1, [.ref so, .ref to, .ref uo, .int (nI im), .ref x5, .int (nI lm), .ref x6, .int (nI rm), .ref x7, .ref x8, .int sd1])), (so, .inr (0, [.int (nI (sN R)), .int (nI (R 0 1)), .int (nI (sF R)), .int (nI (sS R)), .int (nI (sL R)), .ref ak, .ref af, .ref ab, .ref aa])), (ak, aI G 10 (sK R)), (af, aI G 10 (sG R)), (ab, aI G 10 (sO R)), (aa, aI G 10 (sA R)), (to, .inr (0, [.int (nI (sN S)), .int (nI m0), .int (nI (sF S)), .int (nI (sS S)), .int (nI (sL S)), .ref tk, .ref tf, .ref tb, .ref ta])), (tk, aI G 10 (sK S)), (tf, aI G 10 (sG S)), (tb, aI G 10 (sO S)), (ta, aI G 10 (sA S)), (uo, .inr (0, [.int (nI (sN Rk)), .int (nI (Rk 0 1)), .int (nI (sF Rk)), .int (nI (sS Rk)), .int (nI (sL Rk)), .ref uk, .ref uf, .ref ub, .ref ua])), (uk, aI G 10 (sK Rk)), (uf, aI G 10 (sG Rk)), (ub, aI G 10 (sO Rk)), (ua, aI G 10 (sA Rk)), (x5, aI G 96 (cN lf)), (x6, aI G 16 (cN rv)), (x7, aI G 7 (cN (rfU rf (cWhat ((xs (i + 1)).toInt))))), (x8, aI G 10 ft), (x2, .inr (2, [.ref a1, .ref a2, .ref a3, .ref a4, .int (nI im), .ref a5, .ref a6, .ref a7, .int (nI lm), .int (nI rm), .int (nI pl), .ref a8, .int sd2])), (a1, aI G 54 (fl R)), (a2, aI G 54 (fl Rm)), (a3, aI G 54 (fl Rg)), (a4, aI G 54 (fl Rw)), (a5, aI G 96 (cN lf)), (a6, aI G 16 (cN rv)), (a7, aI G 7 (cN rf)), (a8, aI G 3 nu)] H locs := hw
  subst hr
  refine lv_aload_n xx xb dL_law_829 rfl (lv_at hl 2 rfl) ?_
  refine lv_aload_n xx xb dL_law_830 rfl (lv_at hl 0 rfl) ?_
  refine lv_iload_n xx xb dL_law_831 rfl (lv_at hl 3 rfl) ?_
  refine lv_iconst (v := nI 1) xx xb dL_law_832 (by decide) ?_
  refine lv_iadd xx xb dL_law_833 ?_
  refine re_i (nI (i + 1)) (nI_add _ _) ?_
  refine va_sld xx xb hX hbl hbA hw.2.2 (vp_in_nI (by omega) (by omega)) dL_law_834 ?_
  refine re_i (xs (i + 1)) (congrArg xs (nI_clamp (by omega))) ?_
  have hM := kX2_watched l G x2 a1 a2 a3 a4 a5 a6 a7 a8 im lm rm pl sd2 R rf (xs (i + 1)) ((xs (i + 1)).toInt) rfl (by first | assumption | omega)
  refine cv_i C hw hM yvX2_watched ml_L_109 20 rfl rfl rfl [20, 21, 27] rfl rfl (fun _ => (rfl : ([x2, a1, a7] : List Nat) = [x2, a1, a7])) (by decide) ⟨Nat.le_of_ble_eq_true rfl, Nat.le_of_ble_eq_true rfl⟩ hl.1 rfl (Nat.le_of_ble_eq_true rfl) dL_law_835 (fun r _ H locs hr hw => ?_)
  have hw : Wd G (LA s) s [(x1, .inr (1, [.ref so, .ref to, .ref uo, .int (nI im), .ref x5, .int (nI lm), .ref x6, .int (nI rm), .ref x7, .ref x8, .int sd1])), (so, .inr (0, [.int (nI (sN R)), .int (nI (R 0 1)), .int (nI (sF R)), .int (nI (sS R)), .int (nI (sL R)), .ref ak, .ref af, .ref ab, .ref aa])), (ak, aI G 10 (sK R)), (af, aI G 10 (sG R)), (ab, aI G 10 (sO R)), (aa, aI G 10 (sA R)), (to, .inr (0, [.int (nI (sN S)), .int (nI m0), .int (nI (sF S)), .int (nI (sS S)), .int (nI (sL S)), .ref tk, .ref tf, .ref tb, .ref ta])), (tk, aI G 10 (sK S)), (tf, aI G 10 (sG S)), (tb, aI G 10 (sO S)), (ta, aI G 10 (sA S)), (uo, .inr (0, [.int (nI (sN Rk)), .int (nI (Rk 0 1)), .int (nI (sF Rk)), .int (nI (sS Rk)), .int (nI (sL Rk)), .ref uk, .ref uf, .ref ub, .ref ua])), (uk, aI G 10 (sK Rk)), (uf, aI G 10 (sG Rk)), (ub, aI G 10 (sO Rk)), (ua, aI G 10 (sA Rk)), (x5, aI G 96 (cN lf)), (x6, aI G 16 (cN rv)), (x7, aI G 7 (cN (rfU rf (cWhat ((xs (i + 1)).toInt))))), (x8, aI G 10 ft), (x2, .inr (2, [.ref a1, .ref a2, .ref a3, .ref a4, .int (nI im), .ref a5, .ref a6, .ref a7, .int (nI lm), .int (nI rm), .int (nI pl), .ref a8, .int sd2])), (a1, aI G 54 (fl R)), (a2, aI G 54 (fl Rm)), (a3, aI G 54 (fl Rg)), (a4, aI G 54 (fl Rw)), (a5, aI G 96 (cN lf)), (a6, aI G 16 (cN rv)), (a7, aI G 7 (cN (rfU rf (cWhat ((xs (i + 1)).toInt))))), (a8, aI G 3 nu)] H locs := hw
  subst hr
  refine lv_icmp_eq (tgt := 1137) xx xb dL_law_838 (by decide) (fun _ => ?_) (fun c => absurd rfl c)
  exact K R S Rk Rm Rg Rw m0 lm rm im pl lf (rfU rf (cWhat ((xs (i + 1)).toInt))) rv ft nu sd1 sd2 H _ ls (hFI) hw (lv_sub hl [0, 1, 2, 3] rfl)
set_option maxRecDepth 100000 in
set_option maxHeartbeats 4000000 in
theorem lc_rebuild (C : Cx p s m #[Value.ref b] meth c code 4 RL rt0 G) (hX : va_X b L xs s s.heap) (hbl : b < s.heap.size) (hE : XE X (LA s) s s.heap) (hL : L ≤ 3072) (hiL : i + 6 ≤ L) (K : LK p l e s m below meth c Q G b i x1 so ak af ab aa to tk tf tb ta uo uk uf ub ua x5 x6 x7 x8 x2 a1 a2 a3 a4 a5 a6 a7 a8) (R S Rk Rm Rg Rw : RT) (m0 lm rm im pl : Nat) (lf rf rv : Nat → Nat) (ft nu : Nat → Int32) (sd1 sd2 : Int32) (H : Heap) (locs : List Loc) (ls : Array Slot) (hFI : FI R Rk Rg lf lm rv rm im) (hw : Wd G (LA s) s (LWd G x1 so ak af ab aa to tk tf tb ta uo uk uf ub ua x5 x6 x7 x8 x2 a1 a2 a3 a4 a5 a6 a7 a8 R S Rk Rm Rg Rw m0 lm rm im pl lf rf rv ft nu sd1 sd2) H locs) (hl : lv_has ls 4 [(0, .ref b), (1, .ref x1), (2, .ref x2), (3, .int (nI i))]) : W p l e room_1 s m #[Value.ref b] below meth c H locs 29 638 Q (F0 m 843 ls []) := by
  have xx := C.1
  have xb := C.2.1
  have hbA : ¬ LA s b := Nat.not_le.mpr hbl
  obtain ⟨hFR, hFk, ⟨hLF, hlm⟩, ⟨hrm, hrv⟩, him, himR⟩ := id hFI
  obtain ⟨hR, hK, hp, hm⟩ := id hFR
  obtain ⟨hn, hf0, hpr, hA⟩ := id hR
  have hk02 := hFk.1.2.1
  have hw : Wd G (LA s) s [(x1, .inr (1, [.ref so, .ref to, .ref uo, .int (nI im), .ref x5, .int (nI lm), .ref x6, .int (nI rm), .ref x7, .ref x8, .int sd1])), (so, .inr (0, [.int (nI (sN R)), .int (nI (R 0 1)), .int (nI (sF R)), .int (nI (sS R)), .int (nI (sL R)), .ref ak, .ref af, .ref ab, .ref aa])), (ak, aI G 10 (sK R)), (af, aI G 10 (sG R)), (ab, aI G 10 (sO R)), (aa, aI G 10 (sA R)), (to, .inr (0, [.int (nI (sN S)), .int (nI m0), .int (nI (sF S)), .int (nI (sS S)), .int (nI (sL S)), .ref tk, .ref tf, .ref tb, .ref ta])), (tk, aI G 10 (sK S)), (tf, aI G 10 (sG S)), (tb, aI G 10 (sO S)), (ta, aI G 10 (sA S)), (uo, .inr (0, [.int (nI (sN Rk)), .int (nI (Rk 0 1)), .int (nI (sF Rk)), .int (nI (sS Rk)), .int (nI (sL Rk)), .ref uk, .ref uf, .ref ub, .ref ua])), (uk, aI G 10 (sK Rk)), (uf, aI G 10 (sG Rk)), (ub, aI G 10 (sO Rk)), (ua, aI G 10 (sA Rk)), (x5, aI G 96 (cN lf)), (x6, aI G 16 (cN rv)), (x7, aI G 7 (cN rf)), (x8, aI G 10 ft), (x2, .inr (2, [.ref a1, .ref a2, .ref a3, .ref a4, .int (nI im), .ref a5, .ref a6, .ref a7, .int (nI lm), .int (nI rm), .int (nI pl), .ref a8, .int sd2])), (a1, aI G 54 (fl R)), (a2, aI G 54 (fl Rm)), (a3, aI G 54 (fl Rg)), (a4, aI G 54 (fl Rw)), (a5, aI G 96 (cN lf)), (a6, aI G 16 (cN rv)), (a7, aI G 7 (cN rf)), (a8, aI G 3 nu)] H locs := hw
  refine lv_aload_n xx xb dL_law_843 rfl (lv_at hl 1 rfl) ?_
  refine lv_aload_n xx xb dL_law_844 rfl (lv_at hl 0 rfl) ?_
  refine lv_iload_n xx xb dL_law_845 rfl (lv_at hl 3 rfl) ?_
  refine lv_iconst (v := nI 1) xx xb dL_law_846 (by decide) ?_
  refine lv_iadd xx xb dL_law_847 ?_
  refine re_i (nI (i + 1)) (nI_add _ _) ?_
  refine va_sld xx xb hX hbl hbA hw.2.2 (vp_in_nI (by omega) (by omega)) dL_law_848 ?_
  refine re_i (xs (i + 1)) (congrArg xs (nI_clamp (by omega))) ?_
  have hM := kX1_rebuild l G x1 so to uo x5 x6 x7 x8 im lm rm sd1 rf ak af ab aa R tk tf tb ta m0 S (xs (i + 1)) ((xs (i + 1)).toInt) rfl (by first | assumption | omega) (by first | assumption | omega) (by first | assumption | omega)
  refine cv_i C hw hM yvX1_rebuild ml_L_110 0 rfl rfl rfl [0, 1, 2, 3, 4, 5, 6, 7, 8, 9, 10, 18] rfl rfl (fun _ => (rfl : ([x1, so, ak, af, ab, aa, to, tk, tf, tb, ta, x7] : List Nat) = [x1, so, ak, af, ab, aa, to, tk, tf, tb, ta, x7])) (by decide) ⟨Nat.le_of_ble_eq_true rfl, Nat.le_of_ble_eq_true rfl⟩ hl.1 rfl (Nat.le_of_ble_eq_true rfl) dL_law_849 (fun r u H locs hr hw => ?_)
  obtain ⟨u1, hu1⟩ : ∃ z, z = u := ⟨_, rfl⟩
  subst hu1
  have hw : Wd G (LA s) s [(x1, .inr (1, [.ref so, .ref to, .ref uo, .int (nI im), .ref x5, .int (nI lm), .ref x6, .int (nI rm), .ref x7, .ref x8, .int sd1])), (so, .inr (0, [.int (nI (sN R)), .int (nI (R 0 1)), .int (nI (sF R)), .int (nI (sS R)), .int (nI (sL R)), .ref ak, .ref af, .ref ab, .ref aa])), (ak, aI G 10 (sK R)), (af, aI G 10 (sG R)), (ab, aI G 10 (sO R)), (aa, aI G 10 (sA R)), (to, .inr (0, [.int (nI (sN u1.2)), .int (nI u1.1), .int (nI (sF u1.2)), .int (nI (sS u1.2)), .int (nI (sL u1.2)), .ref tk, .ref tf, .ref tb, .ref ta])), (tk, aI G 10 (sK u1.2)), (tf, aI G 10 (sG u1.2)), (tb, aI G 10 (sO u1.2)), (ta, aI G 10 (sA u1.2)), (uo, .inr (0, [.int (nI (sN Rk)), .int (nI (Rk 0 1)), .int (nI (sF Rk)), .int (nI (sS Rk)), .int (nI (sL Rk)), .ref uk, .ref uf, .ref ub, .ref ua])), (uk, aI G 10 (sK Rk)), (uf, aI G 10 (sG Rk)), (ub, aI G 10 (sO Rk)), (ua, aI G 10 (sA Rk)), (x5, aI G 96 (cN lf)), (x6, aI G 16 (cN rv)), (x7, aI G 7 (cN (rfU rf (cWhat ((xs (i + 1)).toInt))))), (x8, aI G 10 ft), (x2, .inr (2, [.ref a1, .ref a2, .ref a3, .ref a4, .int (nI im), .ref a5, .ref a6, .ref a7, .int (nI lm), .int (nI rm), .int (nI pl), .ref a8, .int sd2])), (a1, aI G 54 (fl R)), (a2, aI G 54 (fl Rm)), (a3, aI G 54 (fl Rg)), (a4, aI G 54 (fl Rw)), (a5, aI G 96 (cN lf)), (a6, aI G 16 (cN rv)), (a7, aI G 7 (cN rf)), (a8, aI G 3 nu)] H locs := hw
  subst hr
  refine lv_aload_n xx xb dL_law_852 rfl (lv_at hl 2 rfl) ?_
  refine lv_aload_n xx xb dL_law_853 rfl (lv_at hl 0 rfl) ?_
  refine lv_iload_n xx xb dL_law_854 rfl (lv_at hl 3 rfl) ?_
  refine lv_iconst (v := nI 1) xx xb dL_law_855 (by decide) ?_
  refine lv_iadd xx xb dL_law_856 ?_
  refine re_i (nI (i + 1)) (nI_add _ _) ?_
  refine va_sld xx xb hX hbl hbA hw.2.2 (vp_in_nI (by omega) (by omega)) dL_law_857 ?_
  refine re_i (xs (i + 1)) (congrArg xs (nI_clamp (by omega))) ?_
  have hM := kX2_rebuild l G x2 a1 a2 a3 a4 a5 a6 a7 a8 im lm rm pl sd2 R Rm rf (xs (i + 1)) ((xs (i + 1)).toInt) rfl (by first | assumption | omega)
  refine cv_i C hw hM yvX2_rebuild ml_L_113 20 rfl rfl rfl [20, 21, 22, 27] rfl rfl (fun _ => (rfl : ([x2, a1, a2, a7] : List Nat) = [x2, a1, a2, a7])) (by decide) ⟨Nat.le_of_ble_eq_true rfl, Nat.le_of_ble_eq_true rfl⟩ hl.1 rfl (Nat.le_of_ble_eq_true rfl) dL_law_858 (fun r u H locs hr hw => ?_)
  obtain ⟨u2, hu2⟩ : ∃ z, z = u := ⟨_, rfl⟩
  subst hu2
  have hw : Wd G (LA s) s [(x1, .inr (1, [.ref so, .ref to, .ref uo, .int (nI im), .ref x5, .int (nI lm), .ref x6, .int (nI rm), .ref x7, .ref x8, .int sd1])), (so, .inr (0, [.int (nI (sN R)), .int (nI (R 0 1)), .int (nI (sF R)), .int (nI (sS R)), .int (nI (sL R)), .ref ak, .ref af, .ref ab, .ref aa])), (ak, aI G 10 (sK R)), (af, aI G 10 (sG R)), (ab, aI G 10 (sO R)), (aa, aI G 10 (sA R)), (to, .inr (0, [.int (nI (sN u1.2)), .int (nI u1.1), .int (nI (sF u1.2)), .int (nI (sS u1.2)), .int (nI (sL u1.2)), .ref tk, .ref tf, .ref tb, .ref ta])), (tk, aI G 10 (sK u1.2)), (tf, aI G 10 (sG u1.2)), (tb, aI G 10 (sO u1.2)), (ta, aI G 10 (sA u1.2)), (uo, .inr (0, [.int (nI (sN Rk)), .int (nI (Rk 0 1)), .int (nI (sF Rk)), .int (nI (sS Rk)), .int (nI (sL Rk)), .ref uk, .ref uf, .ref ub, .ref ua])), (uk, aI G 10 (sK Rk)), (uf, aI G 10 (sG Rk)), (ub, aI G 10 (sO Rk)), (ua, aI G 10 (sA Rk)), (x5, aI G 96 (cN lf)), (x6, aI G 16 (cN rv)), (x7, aI G 7 (cN (rfU rf (cWhat ((xs (i + 1)).toInt))))), (x8, aI G 10 ft), (x2, .inr (2, [.ref a1, .ref a2, .ref a3, .ref a4, .int (nI im), .ref a5, .ref a6, .ref a7, .int (nI lm), .int (nI rm), .int (nI pl), .ref a8, .int sd2])), (a1, aI G 54 (fl R)), (a2, aI G 54 (fl u2)), (a3, aI G 54 (fl Rg)), (a4, aI G 54 (fl Rw)), (a5, aI G 96 (cN lf)), (a6, aI G 16 (cN rv)), (a7, aI G 7 (cN (rfU rf (cWhat ((xs (i + 1)).toInt))))), (a8, aI G 3 nu)] H locs := hw
  subst hr
  refine lv_icmp_eq (tgt := 1137) xx xb dL_law_861 (by decide) (fun _ => ?_) (fun c => absurd rfl c)
  exact K R u1.2 Rk u2 Rg Rw u1.1 lm rm im pl lf (rfU rf (cWhat ((xs (i + 1)).toInt))) rv ft nu sd1 sd2 H _ ls (hFI) hw (lv_sub hl [0, 1, 2, 3] rfl)
set_option maxRecDepth 100000 in
set_option maxHeartbeats 4000000 in
theorem lc_draught (C : Cx p s m #[Value.ref b] meth c code 4 RL rt0 G) (hX : va_X b L xs s s.heap) (hbl : b < s.heap.size) (hE : XE X (LA s) s s.heap) (hL : L ≤ 3072) (hiL : i + 6 ≤ L) (K : LK p l e s m below meth c Q G b i x1 so ak af ab aa to tk tf tb ta uo uk uf ub ua x5 x6 x7 x8 x2 a1 a2 a3 a4 a5 a6 a7 a8) (R S Rk Rm Rg Rw : RT) (m0 lm rm im pl : Nat) (lf rf rv : Nat → Nat) (ft nu : Nat → Int32) (sd1 sd2 : Int32) (H : Heap) (locs : List Loc) (ls : Array Slot) (hFI : FI R Rk Rg lf lm rv rm im) (hw : Wd G (LA s) s (LWd G x1 so ak af ab aa to tk tf tb ta uo uk uf ub ua x5 x6 x7 x8 x2 a1 a2 a3 a4 a5 a6 a7 a8 R S Rk Rm Rg Rw m0 lm rm im pl lf rf rv ft nu sd1 sd2) H locs) (hl : lv_has ls 4 [(0, .ref b), (1, .ref x1), (2, .ref x2), (3, .int (nI i))]) : W p l e room_1 s m #[Value.ref b] below meth c H locs 29 638 Q (F0 m 866 ls []) := by
  have xx := C.1
  have xb := C.2.1
  have hbA : ¬ LA s b := Nat.not_le.mpr hbl
  obtain ⟨hFR, hFk, ⟨hLF, hlm⟩, ⟨hrm, hrv⟩, him, himR⟩ := id hFI
  obtain ⟨hR, hK, hp, hm⟩ := id hFR
  obtain ⟨hn, hf0, hpr, hA⟩ := id hR
  have hk02 := hFk.1.2.1
  have hw : Wd G (LA s) s [(x1, .inr (1, [.ref so, .ref to, .ref uo, .int (nI im), .ref x5, .int (nI lm), .ref x6, .int (nI rm), .ref x7, .ref x8, .int sd1])), (so, .inr (0, [.int (nI (sN R)), .int (nI (R 0 1)), .int (nI (sF R)), .int (nI (sS R)), .int (nI (sL R)), .ref ak, .ref af, .ref ab, .ref aa])), (ak, aI G 10 (sK R)), (af, aI G 10 (sG R)), (ab, aI G 10 (sO R)), (aa, aI G 10 (sA R)), (to, .inr (0, [.int (nI (sN S)), .int (nI m0), .int (nI (sF S)), .int (nI (sS S)), .int (nI (sL S)), .ref tk, .ref tf, .ref tb, .ref ta])), (tk, aI G 10 (sK S)), (tf, aI G 10 (sG S)), (tb, aI G 10 (sO S)), (ta, aI G 10 (sA S)), (uo, .inr (0, [.int (nI (sN Rk)), .int (nI (Rk 0 1)), .int (nI (sF Rk)), .int (nI (sS Rk)), .int (nI (sL Rk)), .ref uk, .ref uf, .ref ub, .ref ua])), (uk, aI G 10 (sK Rk)), (uf, aI G 10 (sG Rk)), (ub, aI G 10 (sO Rk)), (ua, aI G 10 (sA Rk)), (x5, aI G 96 (cN lf)), (x6, aI G 16 (cN rv)), (x7, aI G 7 (cN rf)), (x8, aI G 10 ft), (x2, .inr (2, [.ref a1, .ref a2, .ref a3, .ref a4, .int (nI im), .ref a5, .ref a6, .ref a7, .int (nI lm), .int (nI rm), .int (nI pl), .ref a8, .int sd2])), (a1, aI G 54 (fl R)), (a2, aI G 54 (fl Rm)), (a3, aI G 54 (fl Rg)), (a4, aI G 54 (fl Rw)), (a5, aI G 96 (cN lf)), (a6, aI G 16 (cN rv)), (a7, aI G 7 (cN rf)), (a8, aI G 3 nu)] H locs := hw
  refine lv_aload_n xx xb dL_law_866 rfl (lv_at hl 1 rfl) ?_
  refine lv_aload_n xx xb dL_law_867 rfl (lv_at hl 0 rfl) ?_
  refine lv_iload_n xx xb dL_law_868 rfl (lv_at hl 3 rfl) ?_
  refine lv_iconst (v := nI 1) xx xb dL_law_869 (by decide) ?_
  refine lv_iadd xx xb dL_law_870 ?_
  refine re_i (nI (i + 1)) (nI_add _ _) ?_
  refine va_sld xx xb hX hbl hbA hw.2.2 (vp_in_nI (by omega) (by omega)) dL_law_871 ?_
  refine re_i (xs (i + 1)) (congrArg xs (nI_clamp (by omega))) ?_
  refine lv_aload_n xx xb dL_law_872 rfl (lv_at hl 0 rfl) ?_
  refine lv_iload_n xx xb dL_law_873 rfl (lv_at hl 3 rfl) ?_
  refine lv_iconst (v := nI 2) xx xb dL_law_874 (by decide) ?_
  refine lv_iadd xx xb dL_law_875 ?_
  refine re_i (nI (i + 2)) (nI_add _ _) ?_
  refine va_sld xx xb hX hbl hbA hw.2.2 (vp_in_nI (by omega) (by omega)) dL_law_876 ?_
  refine re_i (xs (i + 2)) (congrArg xs (nI_clamp (by omega))) ?_
  refine lv_aload_n xx xb dL_law_877 rfl (lv_at hl 0 rfl) ?_
  refine lv_iload_n xx xb dL_law_878 rfl (lv_at hl 3 rfl) ?_
  refine lv_iconst (v := nI 3) xx xb dL_law_879 (by decide) ?_
  refine lv_iadd xx xb dL_law_880 ?_
  refine re_i (nI (i + 3)) (nI_add _ _) ?_
  refine va_sld xx xb hX hbl hbA hw.2.2 (vp_in_nI (by omega) (by omega)) dL_law_881 ?_
  refine re_i (xs (i + 3)) (congrArg xs (nI_clamp (by omega))) ?_
  refine lv_aload_n xx xb dL_law_882 rfl (lv_at hl 0 rfl) ?_
  refine lv_iload_n xx xb dL_law_883 rfl (lv_at hl 3 rfl) ?_
  refine lv_iconst (v := nI 4) xx xb dL_law_884 (by decide) ?_
  refine lv_iadd xx xb dL_law_885 ?_
  refine re_i (nI (i + 4)) (nI_add _ _) ?_
  refine va_sld xx xb hX hbl hbA hw.2.2 (vp_in_nI (by omega) (by omega)) dL_law_886 ?_
  refine re_i (xs (i + 4)) (congrArg xs (nI_clamp (by omega))) ?_
  have hM := kX1_draught l G x1 so to uo x5 x6 x7 x8 im lm rm sd1 rf ak af ab aa R tk tf tb ta m0 S (xs (i + 1)) ((xs (i + 1)).toInt) (xs (i + 2)) ((xs (i + 2)).toInt) (xs (i + 3)) ((xs (i + 3)).toInt) (xs (i + 4)) ((xs (i + 4)).toInt) rfl rfl rfl rfl (by first | assumption | omega) (by first | assumption | omega) (by first | assumption | omega)
  refine cv_l C hw hM yvX1_draught ml_L_114 0 rfl rfl rfl [0, 1, 2, 3, 4, 5, 6, 7, 8, 9, 10, 18] rfl rfl (fun _ => (rfl : ([x1, so, ak, af, ab, aa, to, tk, tf, tb, ta, x7] : List Nat) = [x1, so, ak, af, ab, aa, to, tk, tf, tb, ta, x7])) (by decide) ⟨Nat.le_of_ble_eq_true rfl, Nat.le_of_ble_eq_true rfl⟩ hl.1 rfl (Nat.le_of_ble_eq_true rfl) dL_law_887 (fun r u H locs hr hw => ?_)
  obtain ⟨u1, hu1⟩ : ∃ z, z = u := ⟨_, rfl⟩
  subst hu1
  have hw : Wd G (LA s) s [(x1, .inr (1, [.ref so, .ref to, .ref uo, .int (nI im), .ref x5, .int (nI lm), .ref x6, .int (nI rm), .ref x7, .ref x8, .int sd1])), (so, .inr (0, [.int (nI (sN R)), .int (nI (R 0 1)), .int (nI (sF R)), .int (nI (sS R)), .int (nI (sL R)), .ref ak, .ref af, .ref ab, .ref aa])), (ak, aI G 10 (sK R)), (af, aI G 10 (sG R)), (ab, aI G 10 (sO R)), (aa, aI G 10 (sA R)), (to, .inr (0, [.int (nI (sN u1.2)), .int (nI u1.1), .int (nI (sF u1.2)), .int (nI (sS u1.2)), .int (nI (sL u1.2)), .ref tk, .ref tf, .ref tb, .ref ta])), (tk, aI G 10 (sK u1.2)), (tf, aI G 10 (sG u1.2)), (tb, aI G 10 (sO u1.2)), (ta, aI G 10 (sA u1.2)), (uo, .inr (0, [.int (nI (sN Rk)), .int (nI (Rk 0 1)), .int (nI (sF Rk)), .int (nI (sS Rk)), .int (nI (sL Rk)), .ref uk, .ref uf, .ref ub, .ref ua])), (uk, aI G 10 (sK Rk)), (uf, aI G 10 (sG Rk)), (ub, aI G 10 (sO Rk)), (ua, aI G 10 (sA Rk)), (x5, aI G 96 (cN lf)), (x6, aI G 16 (cN rv)), (x7, aI G 7 (cN (rfU rf (cDr R ((xs (i + 1)).toInt) ((xs (i + 2)).toInt) ((xs (i + 3)).toInt) ((xs (i + 4)).toInt))))), (x8, aI G 10 ft), (x2, .inr (2, [.ref a1, .ref a2, .ref a3, .ref a4, .int (nI im), .ref a5, .ref a6, .ref a7, .int (nI lm), .int (nI rm), .int (nI pl), .ref a8, .int sd2])), (a1, aI G 54 (fl R)), (a2, aI G 54 (fl Rm)), (a3, aI G 54 (fl Rg)), (a4, aI G 54 (fl Rw)), (a5, aI G 96 (cN lf)), (a6, aI G 16 (cN rv)), (a7, aI G 7 (cN rf)), (a8, aI G 3 nu)] H locs := hw
  subst hr
  refine lv_aload_n xx xb dL_law_890 rfl (lv_at hl 2 rfl) ?_
  refine lv_aload_n xx xb dL_law_891 rfl (lv_at hl 0 rfl) ?_
  refine lv_iload_n xx xb dL_law_892 rfl (lv_at hl 3 rfl) ?_
  refine lv_iconst (v := nI 1) xx xb dL_law_893 (by decide) ?_
  refine lv_iadd xx xb dL_law_894 ?_
  refine re_i (nI (i + 1)) (nI_add _ _) ?_
  refine va_sld xx xb hX hbl hbA hw.2.2 (vp_in_nI (by omega) (by omega)) dL_law_895 ?_
  refine re_i (xs (i + 1)) (congrArg xs (nI_clamp (by omega))) ?_
  refine lv_aload_n xx xb dL_law_896 rfl (lv_at hl 0 rfl) ?_
  refine lv_iload_n xx xb dL_law_897 rfl (lv_at hl 3 rfl) ?_
  refine lv_iconst (v := nI 2) xx xb dL_law_898 (by decide) ?_
  refine lv_iadd xx xb dL_law_899 ?_
  refine re_i (nI (i + 2)) (nI_add _ _) ?_
  refine va_sld xx xb hX hbl hbA hw.2.2 (vp_in_nI (by omega) (by omega)) dL_law_900 ?_
  refine re_i (xs (i + 2)) (congrArg xs (nI_clamp (by omega))) ?_
  refine lv_aload_n xx xb dL_law_901 rfl (lv_at hl 0 rfl) ?_
  refine lv_iload_n xx xb dL_law_902 rfl (lv_at hl 3 rfl) ?_
  refine lv_iconst (v := nI 3) xx xb dL_law_903 (by decide) ?_
  refine lv_iadd xx xb dL_law_904 ?_
  refine re_i (nI (i + 3)) (nI_add _ _) ?_
  refine va_sld xx xb hX hbl hbA hw.2.2 (vp_in_nI (by omega) (by omega)) dL_law_905 ?_
  refine re_i (xs (i + 3)) (congrArg xs (nI_clamp (by omega))) ?_
  refine lv_aload_n xx xb dL_law_906 rfl (lv_at hl 0 rfl) ?_
  refine lv_iload_n xx xb dL_law_907 rfl (lv_at hl 3 rfl) ?_
  refine lv_iconst (v := nI 4) xx xb dL_law_908 (by decide) ?_
  refine lv_iadd xx xb dL_law_909 ?_
  refine re_i (nI (i + 4)) (nI_add _ _) ?_
  refine va_sld xx xb hX hbl hbA hw.2.2 (vp_in_nI (by omega) (by omega)) dL_law_910 ?_
  refine re_i (xs (i + 4)) (congrArg xs (nI_clamp (by omega))) ?_
  have hM := kX2_draught l G x2 a1 a2 a3 a4 a5 a6 a7 a8 im lm rm pl sd2 R Rm rf (xs (i + 1)) ((xs (i + 1)).toInt) (xs (i + 2)) ((xs (i + 2)).toInt) (xs (i + 3)) ((xs (i + 3)).toInt) (xs (i + 4)) ((xs (i + 4)).toInt) rfl rfl rfl rfl (by first | assumption | omega) (by first | assumption | omega)
  refine cv_l C hw hM yvX2_draught ml_L_118 20 rfl rfl rfl [20, 21, 22, 27] rfl rfl (fun _ => (rfl : ([x2, a1, a2, a7] : List Nat) = [x2, a1, a2, a7])) (by decide) ⟨Nat.le_of_ble_eq_true rfl, Nat.le_of_ble_eq_true rfl⟩ hl.1 rfl (Nat.le_of_ble_eq_true rfl) dL_law_911 (fun r u H locs hr hw => ?_)
  obtain ⟨u2, hu2⟩ : ∃ z, z = u := ⟨_, rfl⟩
  subst hu2
  have hw : Wd G (LA s) s [(x1, .inr (1, [.ref so, .ref to, .ref uo, .int (nI im), .ref x5, .int (nI lm), .ref x6, .int (nI rm), .ref x7, .ref x8, .int sd1])), (so, .inr (0, [.int (nI (sN R)), .int (nI (R 0 1)), .int (nI (sF R)), .int (nI (sS R)), .int (nI (sL R)), .ref ak, .ref af, .ref ab, .ref aa])), (ak, aI G 10 (sK R)), (af, aI G 10 (sG R)), (ab, aI G 10 (sO R)), (aa, aI G 10 (sA R)), (to, .inr (0, [.int (nI (sN u1.2)), .int (nI u1.1), .int (nI (sF u1.2)), .int (nI (sS u1.2)), .int (nI (sL u1.2)), .ref tk, .ref tf, .ref tb, .ref ta])), (tk, aI G 10 (sK u1.2)), (tf, aI G 10 (sG u1.2)), (tb, aI G 10 (sO u1.2)), (ta, aI G 10 (sA u1.2)), (uo, .inr (0, [.int (nI (sN Rk)), .int (nI (Rk 0 1)), .int (nI (sF Rk)), .int (nI (sS Rk)), .int (nI (sL Rk)), .ref uk, .ref uf, .ref ub, .ref ua])), (uk, aI G 10 (sK Rk)), (uf, aI G 10 (sG Rk)), (ub, aI G 10 (sO Rk)), (ua, aI G 10 (sA Rk)), (x5, aI G 96 (cN lf)), (x6, aI G 16 (cN rv)), (x7, aI G 7 (cN (rfU rf (cDr R ((xs (i + 1)).toInt) ((xs (i + 2)).toInt) ((xs (i + 3)).toInt) ((xs (i + 4)).toInt))))), (x8, aI G 10 ft), (x2, .inr (2, [.ref a1, .ref a2, .ref a3, .ref a4, .int (nI im), .ref a5, .ref a6, .ref a7, .int (nI lm), .int (nI rm), .int (nI pl), .ref a8, .int sd2])), (a1, aI G 54 (fl R)), (a2, aI G 54 (fl u2)), (a3, aI G 54 (fl Rg)), (a4, aI G 54 (fl Rw)), (a5, aI G 96 (cN lf)), (a6, aI G 16 (cN rv)), (a7, aI G 7 (cN (rfU rf (cDr R ((xs (i + 1)).toInt) ((xs (i + 2)).toInt) ((xs (i + 3)).toInt) ((xs (i + 4)).toInt))))), (a8, aI G 3 nu)] H locs := hw
  subst hr
  refine W.lcmp xx xb dL_law_914 ?_
  refine lv_if_eq (tgt := 1137) xx xb dL_law_915 (by decide) (fun _ => ?_) (fun c => absurd ((lg_cmp_eq _ _).mpr rfl) c)
  exact K R u1.2 Rk u2 Rg Rw u1.1 lm rm im pl lf (rfU rf (cDr R ((xs (i + 1)).toInt) ((xs (i + 2)).toInt) ((xs (i + 3)).toInt) ((xs (i + 4)).toInt))) rv ft nu sd1 sd2 H _ ls (hFI) hw (lv_sub hl [0, 1, 2, 3] rfl)
set_option maxRecDepth 100000 in
set_option maxHeartbeats 4000000 in
theorem lc_two (C : Cx p s m #[Value.ref b] meth c code 4 RL rt0 G) (hX : va_X b L xs s s.heap) (hbl : b < s.heap.size) (hE : XE X (LA s) s s.heap) (hL : L ≤ 3072) (hiL : i + 6 ≤ L) (K : LK p l e s m below meth c Q G b i x1 so ak af ab aa to tk tf tb ta uo uk uf ub ua x5 x6 x7 x8 x2 a1 a2 a3 a4 a5 a6 a7 a8) (R S Rk Rm Rg Rw : RT) (m0 lm rm im pl : Nat) (lf rf rv : Nat → Nat) (ft nu : Nat → Int32) (sd1 sd2 : Int32) (H : Heap) (locs : List Loc) (ls : Array Slot) (hFI : FI R Rk Rg lf lm rv rm im) (hw : Wd G (LA s) s (LWd G x1 so ak af ab aa to tk tf tb ta uo uk uf ub ua x5 x6 x7 x8 x2 a1 a2 a3 a4 a5 a6 a7 a8 R S Rk Rm Rg Rw m0 lm rm im pl lf rf rv ft nu sd1 sd2) H locs) (hl : lv_has ls 4 [(0, .ref b), (1, .ref x1), (2, .ref x2), (3, .int (nI i))]) : W p l e room_1 s m #[Value.ref b] below meth c H locs 29 638 Q (F0 m 920 ls []) := by
  have xx := C.1
  have xb := C.2.1
  have hbA : ¬ LA s b := Nat.not_le.mpr hbl
  obtain ⟨hFR, hFk, ⟨hLF, hlm⟩, ⟨hrm, hrv⟩, him, himR⟩ := id hFI
  obtain ⟨hR, hK, hp, hm⟩ := id hFR
  obtain ⟨hn, hf0, hpr, hA⟩ := id hR
  have hk02 := hFk.1.2.1
  have hw : Wd G (LA s) s [(x1, .inr (1, [.ref so, .ref to, .ref uo, .int (nI im), .ref x5, .int (nI lm), .ref x6, .int (nI rm), .ref x7, .ref x8, .int sd1])), (so, .inr (0, [.int (nI (sN R)), .int (nI (R 0 1)), .int (nI (sF R)), .int (nI (sS R)), .int (nI (sL R)), .ref ak, .ref af, .ref ab, .ref aa])), (ak, aI G 10 (sK R)), (af, aI G 10 (sG R)), (ab, aI G 10 (sO R)), (aa, aI G 10 (sA R)), (to, .inr (0, [.int (nI (sN S)), .int (nI m0), .int (nI (sF S)), .int (nI (sS S)), .int (nI (sL S)), .ref tk, .ref tf, .ref tb, .ref ta])), (tk, aI G 10 (sK S)), (tf, aI G 10 (sG S)), (tb, aI G 10 (sO S)), (ta, aI G 10 (sA S)), (uo, .inr (0, [.int (nI (sN Rk)), .int (nI (Rk 0 1)), .int (nI (sF Rk)), .int (nI (sS Rk)), .int (nI (sL Rk)), .ref uk, .ref uf, .ref ub, .ref ua])), (uk, aI G 10 (sK Rk)), (uf, aI G 10 (sG Rk)), (ub, aI G 10 (sO Rk)), (ua, aI G 10 (sA Rk)), (x5, aI G 96 (cN lf)), (x6, aI G 16 (cN rv)), (x7, aI G 7 (cN rf)), (x8, aI G 10 ft), (x2, .inr (2, [.ref a1, .ref a2, .ref a3, .ref a4, .int (nI im), .ref a5, .ref a6, .ref a7, .int (nI lm), .int (nI rm), .int (nI pl), .ref a8, .int sd2])), (a1, aI G 54 (fl R)), (a2, aI G 54 (fl Rm)), (a3, aI G 54 (fl Rg)), (a4, aI G 54 (fl Rw)), (a5, aI G 96 (cN lf)), (a6, aI G 16 (cN rv)), (a7, aI G 7 (cN rf)), (a8, aI G 3 nu)] H locs := hw
  refine lv_aload_n xx xb dL_law_920 rfl (lv_at hl 1 rfl) ?_
  refine lv_aload_n xx xb dL_law_921 rfl (lv_at hl 0 rfl) ?_
  refine lv_iload_n xx xb dL_law_922 rfl (lv_at hl 3 rfl) ?_
  refine lv_iconst (v := nI 1) xx xb dL_law_923 (by decide) ?_
  refine lv_iadd xx xb dL_law_924 ?_
  refine re_i (nI (i + 1)) (nI_add _ _) ?_
  refine va_sld xx xb hX hbl hbA hw.2.2 (vp_in_nI (by omega) (by omega)) dL_law_925 ?_
  refine re_i (xs (i + 1)) (congrArg xs (nI_clamp (by omega))) ?_
  refine lv_aload_n xx xb dL_law_926 rfl (lv_at hl 0 rfl) ?_
  refine lv_iload_n xx xb dL_law_927 rfl (lv_at hl 3 rfl) ?_
  refine lv_iconst (v := nI 2) xx xb dL_law_928 (by decide) ?_
  refine lv_iadd xx xb dL_law_929 ?_
  refine re_i (nI (i + 2)) (nI_add _ _) ?_
  refine va_sld xx xb hX hbl hbA hw.2.2 (vp_in_nI (by omega) (by omega)) dL_law_930 ?_
  refine re_i (xs (i + 2)) (congrArg xs (nI_clamp (by omega))) ?_
  refine lv_aload_n xx xb dL_law_931 rfl (lv_at hl 0 rfl) ?_
  refine lv_iload_n xx xb dL_law_932 rfl (lv_at hl 3 rfl) ?_
  refine lv_iconst (v := nI 3) xx xb dL_law_933 (by decide) ?_
  refine lv_iadd xx xb dL_law_934 ?_
  refine re_i (nI (i + 3)) (nI_add _ _) ?_
  refine va_sld xx xb hX hbl hbA hw.2.2 (vp_in_nI (by omega) (by omega)) dL_law_935 ?_
  refine re_i (xs (i + 3)) (congrArg xs (nI_clamp (by omega))) ?_
  have hM := kX1_two l G x1 so to uo x5 x6 x7 x8 im lm rm sd1 rf ak af ab aa R tk tf tb ta m0 S (xs (i + 1)) ((xs (i + 1)).toInt) (xs (i + 2)) ((xs (i + 2)).toInt) (xs (i + 3)) ((xs (i + 3)).toInt) rfl rfl rfl (by first | assumption | omega) (by first | assumption | omega) (by first | assumption | omega)
  refine cv_i C hw hM yvX1_two ml_L_119 0 rfl rfl rfl [0, 1, 2, 3, 4, 5, 6, 7, 8, 9, 10, 18] rfl rfl (fun _ => (rfl : ([x1, so, ak, af, ab, aa, to, tk, tf, tb, ta, x7] : List Nat) = [x1, so, ak, af, ab, aa, to, tk, tf, tb, ta, x7])) (by decide) ⟨Nat.le_of_ble_eq_true rfl, Nat.le_of_ble_eq_true rfl⟩ hl.1 rfl (Nat.le_of_ble_eq_true rfl) dL_law_936 (fun r u H locs hr hw => ?_)
  obtain ⟨u1, hu1⟩ : ∃ z, z = u := ⟨_, rfl⟩
  subst hu1
  have hw : Wd G (LA s) s [(x1, .inr (1, [.ref so, .ref to, .ref uo, .int (nI im), .ref x5, .int (nI lm), .ref x6, .int (nI rm), .ref x7, .ref x8, .int sd1])), (so, .inr (0, [.int (nI (sN R)), .int (nI (R 0 1)), .int (nI (sF R)), .int (nI (sS R)), .int (nI (sL R)), .ref ak, .ref af, .ref ab, .ref aa])), (ak, aI G 10 (sK R)), (af, aI G 10 (sG R)), (ab, aI G 10 (sO R)), (aa, aI G 10 (sA R)), (to, .inr (0, [.int (nI (sN u1.2)), .int (nI u1.1), .int (nI (sF u1.2)), .int (nI (sS u1.2)), .int (nI (sL u1.2)), .ref tk, .ref tf, .ref tb, .ref ta])), (tk, aI G 10 (sK u1.2)), (tf, aI G 10 (sG u1.2)), (tb, aI G 10 (sO u1.2)), (ta, aI G 10 (sA u1.2)), (uo, .inr (0, [.int (nI (sN Rk)), .int (nI (Rk 0 1)), .int (nI (sF Rk)), .int (nI (sS Rk)), .int (nI (sL Rk)), .ref uk, .ref uf, .ref ub, .ref ua])), (uk, aI G 10 (sK Rk)), (uf, aI G 10 (sG Rk)), (ub, aI G 10 (sO Rk)), (ua, aI G 10 (sA Rk)), (x5, aI G 96 (cN lf)), (x6, aI G 16 (cN rv)), (x7, aI G 7 (cN (rfU rf (cTwo R ((xs (i + 1)).toInt) ((xs (i + 2)).toInt) ((xs (i + 3)).toInt))))), (x8, aI G 10 ft), (x2, .inr (2, [.ref a1, .ref a2, .ref a3, .ref a4, .int (nI im), .ref a5, .ref a6, .ref a7, .int (nI lm), .int (nI rm), .int (nI pl), .ref a8, .int sd2])), (a1, aI G 54 (fl R)), (a2, aI G 54 (fl Rm)), (a3, aI G 54 (fl Rg)), (a4, aI G 54 (fl Rw)), (a5, aI G 96 (cN lf)), (a6, aI G 16 (cN rv)), (a7, aI G 7 (cN rf)), (a8, aI G 3 nu)] H locs := hw
  subst hr
  refine lv_aload_n xx xb dL_law_939 rfl (lv_at hl 2 rfl) ?_
  refine lv_aload_n xx xb dL_law_940 rfl (lv_at hl 0 rfl) ?_
  refine lv_iload_n xx xb dL_law_941 rfl (lv_at hl 3 rfl) ?_
  refine lv_iconst (v := nI 1) xx xb dL_law_942 (by decide) ?_
  refine lv_iadd xx xb dL_law_943 ?_
  refine re_i (nI (i + 1)) (nI_add _ _) ?_
  refine va_sld xx xb hX hbl hbA hw.2.2 (vp_in_nI (by omega) (by omega)) dL_law_944 ?_
  refine re_i (xs (i + 1)) (congrArg xs (nI_clamp (by omega))) ?_
  refine lv_aload_n xx xb dL_law_945 rfl (lv_at hl 0 rfl) ?_
  refine lv_iload_n xx xb dL_law_946 rfl (lv_at hl 3 rfl) ?_
  refine lv_iconst (v := nI 2) xx xb dL_law_947 (by decide) ?_
  refine lv_iadd xx xb dL_law_948 ?_
  refine re_i (nI (i + 2)) (nI_add _ _) ?_
  refine va_sld xx xb hX hbl hbA hw.2.2 (vp_in_nI (by omega) (by omega)) dL_law_949 ?_
  refine re_i (xs (i + 2)) (congrArg xs (nI_clamp (by omega))) ?_
  refine lv_aload_n xx xb dL_law_950 rfl (lv_at hl 0 rfl) ?_
  refine lv_iload_n xx xb dL_law_951 rfl (lv_at hl 3 rfl) ?_
  refine lv_iconst (v := nI 3) xx xb dL_law_952 (by decide) ?_
  refine lv_iadd xx xb dL_law_953 ?_
  refine re_i (nI (i + 3)) (nI_add _ _) ?_
  refine va_sld xx xb hX hbl hbA hw.2.2 (vp_in_nI (by omega) (by omega)) dL_law_954 ?_
  refine re_i (xs (i + 3)) (congrArg xs (nI_clamp (by omega))) ?_
  have hM := kX2_two l G x2 a1 a2 a3 a4 a5 a6 a7 a8 im lm rm pl sd2 R Rm rf (xs (i + 1)) ((xs (i + 1)).toInt) (xs (i + 2)) ((xs (i + 2)).toInt) (xs (i + 3)) ((xs (i + 3)).toInt) rfl rfl rfl (by first | assumption | omega) (by first | assumption | omega)
  refine cv_i C hw hM yvX2_two ml_L_122 20 rfl rfl rfl [20, 21, 22, 27] rfl rfl (fun _ => (rfl : ([x2, a1, a2, a7] : List Nat) = [x2, a1, a2, a7])) (by decide) ⟨Nat.le_of_ble_eq_true rfl, Nat.le_of_ble_eq_true rfl⟩ hl.1 rfl (Nat.le_of_ble_eq_true rfl) dL_law_955 (fun r u H locs hr hw => ?_)
  obtain ⟨u2, hu2⟩ : ∃ z, z = u := ⟨_, rfl⟩
  subst hu2
  have hw : Wd G (LA s) s [(x1, .inr (1, [.ref so, .ref to, .ref uo, .int (nI im), .ref x5, .int (nI lm), .ref x6, .int (nI rm), .ref x7, .ref x8, .int sd1])), (so, .inr (0, [.int (nI (sN R)), .int (nI (R 0 1)), .int (nI (sF R)), .int (nI (sS R)), .int (nI (sL R)), .ref ak, .ref af, .ref ab, .ref aa])), (ak, aI G 10 (sK R)), (af, aI G 10 (sG R)), (ab, aI G 10 (sO R)), (aa, aI G 10 (sA R)), (to, .inr (0, [.int (nI (sN u1.2)), .int (nI u1.1), .int (nI (sF u1.2)), .int (nI (sS u1.2)), .int (nI (sL u1.2)), .ref tk, .ref tf, .ref tb, .ref ta])), (tk, aI G 10 (sK u1.2)), (tf, aI G 10 (sG u1.2)), (tb, aI G 10 (sO u1.2)), (ta, aI G 10 (sA u1.2)), (uo, .inr (0, [.int (nI (sN Rk)), .int (nI (Rk 0 1)), .int (nI (sF Rk)), .int (nI (sS Rk)), .int (nI (sL Rk)), .ref uk, .ref uf, .ref ub, .ref ua])), (uk, aI G 10 (sK Rk)), (uf, aI G 10 (sG Rk)), (ub, aI G 10 (sO Rk)), (ua, aI G 10 (sA Rk)), (x5, aI G 96 (cN lf)), (x6, aI G 16 (cN rv)), (x7, aI G 7 (cN (rfU rf (cTwo R ((xs (i + 1)).toInt) ((xs (i + 2)).toInt) ((xs (i + 3)).toInt))))), (x8, aI G 10 ft), (x2, .inr (2, [.ref a1, .ref a2, .ref a3, .ref a4, .int (nI im), .ref a5, .ref a6, .ref a7, .int (nI lm), .int (nI rm), .int (nI pl), .ref a8, .int sd2])), (a1, aI G 54 (fl R)), (a2, aI G 54 (fl u2)), (a3, aI G 54 (fl Rg)), (a4, aI G 54 (fl Rw)), (a5, aI G 96 (cN lf)), (a6, aI G 16 (cN rv)), (a7, aI G 7 (cN (rfU rf (cTwo R ((xs (i + 1)).toInt) ((xs (i + 2)).toInt) ((xs (i + 3)).toInt))))), (a8, aI G 3 nu)] H locs := hw
  subst hr
  refine lv_icmp_eq (tgt := 1137) xx xb dL_law_958 (by decide) (fun _ => ?_) (fun c => absurd rfl c)
  exact K R u1.2 Rk u2 Rg Rw u1.1 lm rm im pl lf (rfU rf (cTwo R ((xs (i + 1)).toInt) ((xs (i + 2)).toInt) ((xs (i + 3)).toInt))) rv ft nu sd1 sd2 H _ ls (hFI) hw (lv_sub hl [0, 1, 2, 3] rfl)
set_option maxRecDepth 100000 in
set_option maxHeartbeats 4000000 in
theorem lc_whatWas (C : Cx p s m #[Value.ref b] meth c code 4 RL rt0 G) (hX : va_X b L xs s s.heap) (hbl : b < s.heap.size) (hE : XE X (LA s) s s.heap) (hL : L ≤ 3072) (hiL : i + 6 ≤ L) (K : LK p l e s m below meth c Q G b i x1 so ak af ab aa to tk tf tb ta uo uk uf ub ua x5 x6 x7 x8 x2 a1 a2 a3 a4 a5 a6 a7 a8) (R S Rk Rm Rg Rw : RT) (m0 lm rm im pl : Nat) (lf rf rv : Nat → Nat) (ft nu : Nat → Int32) (sd1 sd2 : Int32) (H : Heap) (locs : List Loc) (ls : Array Slot) (hFI : FI R Rk Rg lf lm rv rm im) (hw : Wd G (LA s) s (LWd G x1 so ak af ab aa to tk tf tb ta uo uk uf ub ua x5 x6 x7 x8 x2 a1 a2 a3 a4 a5 a6 a7 a8 R S Rk Rm Rg Rw m0 lm rm im pl lf rf rv ft nu sd1 sd2) H locs) (hl : lv_has ls 4 [(0, .ref b), (1, .ref x1), (2, .ref x2), (3, .int (nI i))]) : W p l e room_1 s m #[Value.ref b] below meth c H locs 29 638 Q (F0 m 963 ls []) := by
  have xx := C.1
  have xb := C.2.1
  have hbA : ¬ LA s b := Nat.not_le.mpr hbl
  obtain ⟨hFR, hFk, ⟨hLF, hlm⟩, ⟨hrm, hrv⟩, him, himR⟩ := id hFI
  obtain ⟨hR, hK, hp, hm⟩ := id hFR
  obtain ⟨hn, hf0, hpr, hA⟩ := id hR
  have hk02 := hFk.1.2.1
  have hw : Wd G (LA s) s [(x1, .inr (1, [.ref so, .ref to, .ref uo, .int (nI im), .ref x5, .int (nI lm), .ref x6, .int (nI rm), .ref x7, .ref x8, .int sd1])), (so, .inr (0, [.int (nI (sN R)), .int (nI (R 0 1)), .int (nI (sF R)), .int (nI (sS R)), .int (nI (sL R)), .ref ak, .ref af, .ref ab, .ref aa])), (ak, aI G 10 (sK R)), (af, aI G 10 (sG R)), (ab, aI G 10 (sO R)), (aa, aI G 10 (sA R)), (to, .inr (0, [.int (nI (sN S)), .int (nI m0), .int (nI (sF S)), .int (nI (sS S)), .int (nI (sL S)), .ref tk, .ref tf, .ref tb, .ref ta])), (tk, aI G 10 (sK S)), (tf, aI G 10 (sG S)), (tb, aI G 10 (sO S)), (ta, aI G 10 (sA S)), (uo, .inr (0, [.int (nI (sN Rk)), .int (nI (Rk 0 1)), .int (nI (sF Rk)), .int (nI (sS Rk)), .int (nI (sL Rk)), .ref uk, .ref uf, .ref ub, .ref ua])), (uk, aI G 10 (sK Rk)), (uf, aI G 10 (sG Rk)), (ub, aI G 10 (sO Rk)), (ua, aI G 10 (sA Rk)), (x5, aI G 96 (cN lf)), (x6, aI G 16 (cN rv)), (x7, aI G 7 (cN rf)), (x8, aI G 10 ft), (x2, .inr (2, [.ref a1, .ref a2, .ref a3, .ref a4, .int (nI im), .ref a5, .ref a6, .ref a7, .int (nI lm), .int (nI rm), .int (nI pl), .ref a8, .int sd2])), (a1, aI G 54 (fl R)), (a2, aI G 54 (fl Rm)), (a3, aI G 54 (fl Rg)), (a4, aI G 54 (fl Rw)), (a5, aI G 96 (cN lf)), (a6, aI G 16 (cN rv)), (a7, aI G 7 (cN rf)), (a8, aI G 3 nu)] H locs := hw
  refine lv_aload_n xx xb dL_law_963 rfl (lv_at hl 1 rfl) ?_
  refine lv_aload_n xx xb dL_law_964 rfl (lv_at hl 0 rfl) ?_
  refine lv_iload_n xx xb dL_law_965 rfl (lv_at hl 3 rfl) ?_
  refine lv_iconst (v := nI 1) xx xb dL_law_966 (by decide) ?_
  refine lv_iadd xx xb dL_law_967 ?_
  refine re_i (nI (i + 1)) (nI_add _ _) ?_
  refine va_sld xx xb hX hbl hbA hw.2.2 (vp_in_nI (by omega) (by omega)) dL_law_968 ?_
  refine re_i (xs (i + 1)) (congrArg xs (nI_clamp (by omega))) ?_
  refine lv_aload_n xx xb dL_law_969 rfl (lv_at hl 0 rfl) ?_
  refine lv_iload_n xx xb dL_law_970 rfl (lv_at hl 3 rfl) ?_
  refine lv_iconst (v := nI 2) xx xb dL_law_971 (by decide) ?_
  refine lv_iadd xx xb dL_law_972 ?_
  refine re_i (nI (i + 2)) (nI_add _ _) ?_
  refine va_sld xx xb hX hbl hbA hw.2.2 (vp_in_nI (by omega) (by omega)) dL_law_973 ?_
  refine re_i (xs (i + 2)) (congrArg xs (nI_clamp (by omega))) ?_
  have hM := kX1_whatWas l G x1 so to uo x5 x6 x7 x8 im lm rm sd1 rf ak af ab aa R tk tf tb ta m0 S ft rv (xs (i + 1)) ((xs (i + 1)).toInt) (xs (i + 2)) ((xs (i + 2)).toInt) rfl rfl (by first | assumption | omega) (by first | assumption | omega) (by first | assumption | omega) (by first | assumption | omega) (by first | assumption | omega)
  refine cv_i C hw hM yvX1_whatWas ml_L_123 0 rfl rfl rfl [0, 1, 2, 3, 4, 5, 6, 7, 8, 9, 10, 17, 19, 18] rfl rfl (fun _ => (rfl : ([x1, so, ak, af, ab, aa, to, tk, tf, tb, ta, x6, x8, x7] : List Nat) = [x1, so, ak, af, ab, aa, to, tk, tf, tb, ta, x6, x8, x7])) (by decide) ⟨Nat.le_of_ble_eq_true rfl, Nat.le_of_ble_eq_true rfl⟩ hl.1 rfl (Nat.le_of_ble_eq_true rfl) dL_law_974 (fun r u H locs hr hw => ?_)
  obtain ⟨u1, hu1⟩ : ∃ z, z = u := ⟨_, rfl⟩
  subst hu1
  have hw : Wd G (LA s) s [(x1, .inr (1, [.ref so, .ref to, .ref uo, .int (nI im), .ref x5, .int (nI lm), .ref x6, .int (nI rm), .ref x7, .ref x8, .int sd1])), (so, .inr (0, [.int (nI (sN R)), .int (nI (R 0 1)), .int (nI (sF R)), .int (nI (sS R)), .int (nI (sL R)), .ref ak, .ref af, .ref ab, .ref aa])), (ak, aI G 10 (sK R)), (af, aI G 10 (sG R)), (ab, aI G 10 (sO R)), (aa, aI G 10 (sA R)), (to, .inr (0, [.int (nI (sN u1.2.1)), .int (nI u1.1), .int (nI (sF u1.2.1)), .int (nI (sS u1.2.1)), .int (nI (sL u1.2.1)), .ref tk, .ref tf, .ref tb, .ref ta])), (tk, aI G 10 (sK u1.2.1)), (tf, aI G 10 (sG u1.2.1)), (tb, aI G 10 (sO u1.2.1)), (ta, aI G 10 (sA u1.2.1)), (uo, .inr (0, [.int (nI (sN Rk)), .int (nI (Rk 0 1)), .int (nI (sF Rk)), .int (nI (sS Rk)), .int (nI (sL Rk)), .ref uk, .ref uf, .ref ub, .ref ua])), (uk, aI G 10 (sK Rk)), (uf, aI G 10 (sG Rk)), (ub, aI G 10 (sO Rk)), (ua, aI G 10 (sA Rk)), (x5, aI G 96 (cN lf)), (x6, aI G 16 (cN rv)), (x7, aI G 7 (cN (rfU rf (cWW R ((xs (i + 1)).toInt) ((xs (i + 2)).toInt) rm)))), (x8, aI G 10 u1.2.2), (x2, .inr (2, [.ref a1, .ref a2, .ref a3, .ref a4, .int (nI im), .ref a5, .ref a6, .ref a7, .int (nI lm), .int (nI rm), .int (nI pl), .ref a8, .int sd2])), (a1, aI G 54 (fl R)), (a2, aI G 54 (fl Rm)), (a3, aI G 54 (fl Rg)), (a4, aI G 54 (fl Rw)), (a5, aI G 96 (cN lf)), (a6, aI G 16 (cN rv)), (a7, aI G 7 (cN rf)), (a8, aI G 3 nu)] H locs := hw
  subst hr
  refine lv_aload_n xx xb dL_law_977 rfl (lv_at hl 2 rfl) ?_
  refine lv_aload_n xx xb dL_law_978 rfl (lv_at hl 0 rfl) ?_
  refine lv_iload_n xx xb dL_law_979 rfl (lv_at hl 3 rfl) ?_
  refine lv_iconst (v := nI 1) xx xb dL_law_980 (by decide) ?_
  refine lv_iadd xx xb dL_law_981 ?_
  refine re_i (nI (i + 1)) (nI_add _ _) ?_
  refine va_sld xx xb hX hbl hbA hw.2.2 (vp_in_nI (by omega) (by omega)) dL_law_982 ?_
  refine re_i (xs (i + 1)) (congrArg xs (nI_clamp (by omega))) ?_
  refine lv_aload_n xx xb dL_law_983 rfl (lv_at hl 0 rfl) ?_
  refine lv_iload_n xx xb dL_law_984 rfl (lv_at hl 3 rfl) ?_
  refine lv_iconst (v := nI 2) xx xb dL_law_985 (by decide) ?_
  refine lv_iadd xx xb dL_law_986 ?_
  refine re_i (nI (i + 2)) (nI_add _ _) ?_
  refine va_sld xx xb hX hbl hbA hw.2.2 (vp_in_nI (by omega) (by omega)) dL_law_987 ?_
  refine re_i (xs (i + 2)) (congrArg xs (nI_clamp (by omega))) ?_
  have hM := kX2_whatWas l G x2 a1 a2 a3 a4 a5 a6 a7 a8 im lm rm pl sd2 R Rm rv rf (xs (i + 1)) ((xs (i + 1)).toInt) (xs (i + 2)) ((xs (i + 2)).toInt) rfl rfl (by first | assumption | omega) (by first | assumption | omega) (by first | assumption | omega) (by first | assumption | omega)
  refine cv_i C hw hM yvX2_whatWas ml_L_126 20 rfl rfl rfl [20, 21, 22, 26, 27] rfl rfl (fun _ => (rfl : ([x2, a1, a2, a6, a7] : List Nat) = [x2, a1, a2, a6, a7])) (by decide) ⟨Nat.le_of_ble_eq_true rfl, Nat.le_of_ble_eq_true rfl⟩ hl.1 rfl (Nat.le_of_ble_eq_true rfl) dL_law_988 (fun r u H locs hr hw => ?_)
  obtain ⟨u2, hu2⟩ : ∃ z, z = u := ⟨_, rfl⟩
  subst hu2
  have hw : Wd G (LA s) s [(x1, .inr (1, [.ref so, .ref to, .ref uo, .int (nI im), .ref x5, .int (nI lm), .ref x6, .int (nI rm), .ref x7, .ref x8, .int sd1])), (so, .inr (0, [.int (nI (sN R)), .int (nI (R 0 1)), .int (nI (sF R)), .int (nI (sS R)), .int (nI (sL R)), .ref ak, .ref af, .ref ab, .ref aa])), (ak, aI G 10 (sK R)), (af, aI G 10 (sG R)), (ab, aI G 10 (sO R)), (aa, aI G 10 (sA R)), (to, .inr (0, [.int (nI (sN u1.2.1)), .int (nI u1.1), .int (nI (sF u1.2.1)), .int (nI (sS u1.2.1)), .int (nI (sL u1.2.1)), .ref tk, .ref tf, .ref tb, .ref ta])), (tk, aI G 10 (sK u1.2.1)), (tf, aI G 10 (sG u1.2.1)), (tb, aI G 10 (sO u1.2.1)), (ta, aI G 10 (sA u1.2.1)), (uo, .inr (0, [.int (nI (sN Rk)), .int (nI (Rk 0 1)), .int (nI (sF Rk)), .int (nI (sS Rk)), .int (nI (sL Rk)), .ref uk, .ref uf, .ref ub, .ref ua])), (uk, aI G 10 (sK Rk)), (uf, aI G 10 (sG Rk)), (ub, aI G 10 (sO Rk)), (ua, aI G 10 (sA Rk)), (x5, aI G 96 (cN lf)), (x6, aI G 16 (cN rv)), (x7, aI G 7 (cN (rfU rf (cWW R ((xs (i + 1)).toInt) ((xs (i + 2)).toInt) rm)))), (x8, aI G 10 u1.2.2), (x2, .inr (2, [.ref a1, .ref a2, .ref a3, .ref a4, .int (nI im), .ref a5, .ref a6, .ref a7, .int (nI lm), .int (nI rm), .int (nI pl), .ref a8, .int sd2])), (a1, aI G 54 (fl R)), (a2, aI G 54 (fl u2)), (a3, aI G 54 (fl Rg)), (a4, aI G 54 (fl Rw)), (a5, aI G 96 (cN lf)), (a6, aI G 16 (cN rv)), (a7, aI G 7 (cN (rfU rf (cWW R ((xs (i + 1)).toInt) ((xs (i + 2)).toInt) rm)))), (a8, aI G 3 nu)] H locs := hw
  subst hr
  refine lv_icmp_eq (tgt := 1137) xx xb dL_law_991 (by decide) (fun _ => ?_) (fun c => absurd rfl c)
  exact K R u1.2.1 Rk u2 Rg Rw u1.1 lm rm im pl lf (rfU rf (cWW R ((xs (i + 1)).toInt) ((xs (i + 2)).toInt) rm)) rv u1.2.2 nu sd1 sd2 H _ ls (hFI) hw (lv_sub hl [0, 1, 2, 3] rfl)
set_option maxRecDepth 100000 in
set_option maxHeartbeats 4000000 in
theorem lc_row (C : Cx p s m #[Value.ref b] meth c code 4 RL rt0 G) (hX : va_X b L xs s s.heap) (hbl : b < s.heap.size) (hE : XE X (LA s) s s.heap) (hL : L ≤ 3072) (hiL : i + 6 ≤ L) (K : LK p l e s m below meth c Q G b i x1 so ak af ab aa to tk tf tb ta uo uk uf ub ua x5 x6 x7 x8 x2 a1 a2 a3 a4 a5 a6 a7 a8) (R S Rk Rm Rg Rw : RT) (m0 lm rm im pl : Nat) (lf rf rv : Nat → Nat) (ft nu : Nat → Int32) (sd1 sd2 : Int32) (H : Heap) (locs : List Loc) (ls : Array Slot) (hFI : FI R Rk Rg lf lm rv rm im) (hw : Wd G (LA s) s (LWd G x1 so ak af ab aa to tk tf tb ta uo uk uf ub ua x5 x6 x7 x8 x2 a1 a2 a3 a4 a5 a6 a7 a8 R S Rk Rm Rg Rw m0 lm rm im pl lf rf rv ft nu sd1 sd2) H locs) (hl : lv_has ls 4 [(0, .ref b), (1, .ref x1), (2, .ref x2), (3, .int (nI i))]) : W p l e room_1 s m #[Value.ref b] below meth c H locs 29 638 Q (F0 m 996 ls []) := by
  have xx := C.1
  have xb := C.2.1
  have hbA : ¬ LA s b := Nat.not_le.mpr hbl
  obtain ⟨hFR, hFk, ⟨hLF, hlm⟩, ⟨hrm, hrv⟩, him, himR⟩ := id hFI
  obtain ⟨hR, hK, hp, hm⟩ := id hFR
  obtain ⟨hn, hf0, hpr, hA⟩ := id hR
  have hk02 := hFk.1.2.1
  have hw : Wd G (LA s) s [(x1, .inr (1, [.ref so, .ref to, .ref uo, .int (nI im), .ref x5, .int (nI lm), .ref x6, .int (nI rm), .ref x7, .ref x8, .int sd1])), (so, .inr (0, [.int (nI (sN R)), .int (nI (R 0 1)), .int (nI (sF R)), .int (nI (sS R)), .int (nI (sL R)), .ref ak, .ref af, .ref ab, .ref aa])), (ak, aI G 10 (sK R)), (af, aI G 10 (sG R)), (ab, aI G 10 (sO R)), (aa, aI G 10 (sA R)), (to, .inr (0, [.int (nI (sN S)), .int (nI m0), .int (nI (sF S)), .int (nI (sS S)), .int (nI (sL S)), .ref tk, .ref tf, .ref tb, .ref ta])), (tk, aI G 10 (sK S)), (tf, aI G 10 (sG S)), (tb, aI G 10 (sO S)), (ta, aI G 10 (sA S)), (uo, .inr (0, [.int (nI (sN Rk)), .int (nI (Rk 0 1)), .int (nI (sF Rk)), .int (nI (sS Rk)), .int (nI (sL Rk)), .ref uk, .ref uf, .ref ub, .ref ua])), (uk, aI G 10 (sK Rk)), (uf, aI G 10 (sG Rk)), (ub, aI G 10 (sO Rk)), (ua, aI G 10 (sA Rk)), (x5, aI G 96 (cN lf)), (x6, aI G 16 (cN rv)), (x7, aI G 7 (cN rf)), (x8, aI G 10 ft), (x2, .inr (2, [.ref a1, .ref a2, .ref a3, .ref a4, .int (nI im), .ref a5, .ref a6, .ref a7, .int (nI lm), .int (nI rm), .int (nI pl), .ref a8, .int sd2])), (a1, aI G 54 (fl R)), (a2, aI G 54 (fl Rm)), (a3, aI G 54 (fl Rg)), (a4, aI G 54 (fl Rw)), (a5, aI G 96 (cN lf)), (a6, aI G 16 (cN rv)), (a7, aI G 7 (cN rf)), (a8, aI G 3 nu)] H locs := hw
  refine lv_aload_n xx xb dL_law_996 rfl (lv_at hl 1 rfl) ?_
  refine lv_aload_n xx xb dL_law_997 rfl (lv_at hl 0 rfl) ?_
  refine lv_iload_n xx xb dL_law_998 rfl (lv_at hl 3 rfl) ?_
  refine lv_iconst (v := nI 1) xx xb dL_law_999 (by decide) ?_
  refine lv_iadd xx xb dL_law_1000 ?_
  refine re_i (nI (i + 1)) (nI_add _ _) ?_
  refine va_sld xx xb hX hbl hbA hw.2.2 (vp_in_nI (by omega) (by omega)) dL_law_1001 ?_
  refine re_i (xs (i + 1)) (congrArg xs (nI_clamp (by omega))) ?_
  have hM := kX1_row l G x1 so to uo x5 x6 x7 x8 im lm rm sd1 rf rv (xs (i + 1)) ((xs (i + 1)).toInt) rfl (by first | assumption | omega)
  refine cv_i C hw hM yvX1_row ml_L_127 0 rfl rfl rfl [0, 17, 18] rfl rfl (fun _ => (rfl : ([x1, x6, x7] : List Nat) = [x1, x6, x7])) (by decide) ⟨Nat.le_of_ble_eq_true rfl, Nat.le_of_ble_eq_true rfl⟩ hl.1 rfl (Nat.le_of_ble_eq_true rfl) dL_law_1002 (fun r _ H locs hr hw => ?_)
  have hw : Wd G (LA s) s [(x1, .inr (1, [.ref so, .ref to, .ref uo, .int (nI im), .ref x5, .int (nI lm), .ref x6, .int (nI (selN (cRow ((xs (i + 1)).toInt) rm) (rm + 1) rm)), .ref x7, .ref x8, .int sd1])), (so, .inr (0, [.int (nI (sN R)), .int (nI (R 0 1)), .int (nI (sF R)), .int (nI (sS R)), .int (nI (sL R)), .ref ak, .ref af, .ref ab, .ref aa])), (ak, aI G 10 (sK R)), (af, aI G 10 (sG R)), (ab, aI G 10 (sO R)), (aa, aI G 10 (sA R)), (to, .inr (0, [.int (nI (sN S)), .int (nI m0), .int (nI (sF S)), .int (nI (sS S)), .int (nI (sL S)), .ref tk, .ref tf, .ref tb, .ref ta])), (tk, aI G 10 (sK S)), (tf, aI G 10 (sG S)), (tb, aI G 10 (sO S)), (ta, aI G 10 (sA S)), (uo, .inr (0, [.int (nI (sN Rk)), .int (nI (Rk 0 1)), .int (nI (sF Rk)), .int (nI (sS Rk)), .int (nI (sL Rk)), .ref uk, .ref uf, .ref ub, .ref ua])), (uk, aI G 10 (sK Rk)), (uf, aI G 10 (sG Rk)), (ub, aI G 10 (sO Rk)), (ua, aI G 10 (sA Rk)), (x5, aI G 96 (cN lf)), (x6, aI G 16 (cN (selF (cRow ((xs (i + 1)).toInt) rm) (upN rv rm ((xs (i + 1)).toInt).toNat) rv))), (x7, aI G 7 (cN (rfU rf (cRow ((xs (i + 1)).toInt) rm)))), (x8, aI G 10 ft), (x2, .inr (2, [.ref a1, .ref a2, .ref a3, .ref a4, .int (nI im), .ref a5, .ref a6, .ref a7, .int (nI lm), .int (nI rm), .int (nI pl), .ref a8, .int sd2])), (a1, aI G 54 (fl R)), (a2, aI G 54 (fl Rm)), (a3, aI G 54 (fl Rg)), (a4, aI G 54 (fl Rw)), (a5, aI G 96 (cN lf)), (a6, aI G 16 (cN rv)), (a7, aI G 7 (cN rf)), (a8, aI G 3 nu)] H locs := hw
  subst hr
  refine lv_aload_n xx xb dL_law_1005 rfl (lv_at hl 2 rfl) ?_
  refine lv_aload_n xx xb dL_law_1006 rfl (lv_at hl 0 rfl) ?_
  refine lv_iload_n xx xb dL_law_1007 rfl (lv_at hl 3 rfl) ?_
  refine lv_iconst (v := nI 1) xx xb dL_law_1008 (by decide) ?_
  refine lv_iadd xx xb dL_law_1009 ?_
  refine re_i (nI (i + 1)) (nI_add _ _) ?_
  refine va_sld xx xb hX hbl hbA hw.2.2 (vp_in_nI (by omega) (by omega)) dL_law_1010 ?_
  refine re_i (xs (i + 1)) (congrArg xs (nI_clamp (by omega))) ?_
  have hM := kX2_row l G x2 a1 a2 a3 a4 a5 a6 a7 a8 im lm rm pl sd2 rv rf (xs (i + 1)) ((xs (i + 1)).toInt) rfl (by first | assumption | omega)
  refine cv_i C hw hM yvX2_row ml_L_130 20 rfl rfl rfl [20, 26, 27] rfl rfl (fun _ => (rfl : ([x2, a6, a7] : List Nat) = [x2, a6, a7])) (by decide) ⟨Nat.le_of_ble_eq_true rfl, Nat.le_of_ble_eq_true rfl⟩ hl.1 rfl (Nat.le_of_ble_eq_true rfl) dL_law_1011 (fun r _ H locs hr hw => ?_)
  have hw : Wd G (LA s) s [(x1, .inr (1, [.ref so, .ref to, .ref uo, .int (nI im), .ref x5, .int (nI lm), .ref x6, .int (nI (selN (cRow ((xs (i + 1)).toInt) rm) (rm + 1) rm)), .ref x7, .ref x8, .int sd1])), (so, .inr (0, [.int (nI (sN R)), .int (nI (R 0 1)), .int (nI (sF R)), .int (nI (sS R)), .int (nI (sL R)), .ref ak, .ref af, .ref ab, .ref aa])), (ak, aI G 10 (sK R)), (af, aI G 10 (sG R)), (ab, aI G 10 (sO R)), (aa, aI G 10 (sA R)), (to, .inr (0, [.int (nI (sN S)), .int (nI m0), .int (nI (sF S)), .int (nI (sS S)), .int (nI (sL S)), .ref tk, .ref tf, .ref tb, .ref ta])), (tk, aI G 10 (sK S)), (tf, aI G 10 (sG S)), (tb, aI G 10 (sO S)), (ta, aI G 10 (sA S)), (uo, .inr (0, [.int (nI (sN Rk)), .int (nI (Rk 0 1)), .int (nI (sF Rk)), .int (nI (sS Rk)), .int (nI (sL Rk)), .ref uk, .ref uf, .ref ub, .ref ua])), (uk, aI G 10 (sK Rk)), (uf, aI G 10 (sG Rk)), (ub, aI G 10 (sO Rk)), (ua, aI G 10 (sA Rk)), (x5, aI G 96 (cN lf)), (x6, aI G 16 (cN (selF (cRow ((xs (i + 1)).toInt) rm) (upN rv rm ((xs (i + 1)).toInt).toNat) rv))), (x7, aI G 7 (cN (rfU rf (cRow ((xs (i + 1)).toInt) rm)))), (x8, aI G 10 ft), (x2, .inr (2, [.ref a1, .ref a2, .ref a3, .ref a4, .int (nI im), .ref a5, .ref a6, .ref a7, .int (nI lm), .int (nI (selN (cRow ((xs (i + 1)).toInt) rm) (rm + 1) rm)), .int (nI pl), .ref a8, .int sd2])), (a1, aI G 54 (fl R)), (a2, aI G 54 (fl Rm)), (a3, aI G 54 (fl Rg)), (a4, aI G 54 (fl Rw)), (a5, aI G 96 (cN lf)), (a6, aI G 16 (cN (selF (cRow ((xs (i + 1)).toInt) rm) (upN rv rm ((xs (i + 1)).toInt).toNat) rv))), (a7, aI G 7 (cN (rfU rf (cRow ((xs (i + 1)).toInt) rm)))), (a8, aI G 3 nu)] H locs := hw
  subst hr
  refine lv_icmp_eq (tgt := 1137) xx xb dL_law_1014 (by decide) (fun _ => ?_) (fun c => absurd rfl c)
  exact K R S Rk Rm Rg Rw m0 lm (selN (cRow ((xs (i + 1)).toInt) rm) (rm + 1) rm) im pl lf (rfU rf (cRow ((xs (i + 1)).toInt) rm)) (selF (cRow ((xs (i + 1)).toInt) rm) (upN rv rm ((xs (i + 1)).toInt).toNat) rv) ft nu sd1 sd2 H _ ls (⟨hFR, hFk, ⟨hLF, hlm⟩, fi_row hrm hrv, him, himR⟩) hw (lv_sub hl [0, 1, 2, 3] rfl)
set_option maxRecDepth 100000 in
set_option maxHeartbeats 4000000 in
theorem lc_judge (C : Cx p s m #[Value.ref b] meth c code 4 RL rt0 G) (hX : va_X b L xs s s.heap) (hbl : b < s.heap.size) (hE : XE X (LA s) s s.heap) (hL : L ≤ 3072) (hiL : i + 6 ≤ L) (K : LK p l e s m below meth c Q G b i x1 so ak af ab aa to tk tf tb ta uo uk uf ub ua x5 x6 x7 x8 x2 a1 a2 a3 a4 a5 a6 a7 a8) (R S Rk Rm Rg Rw : RT) (m0 lm rm im pl : Nat) (lf rf rv : Nat → Nat) (ft nu : Nat → Int32) (sd1 sd2 : Int32) (H : Heap) (locs : List Loc) (ls : Array Slot) (hFI : FI R Rk Rg lf lm rv rm im) (hw : Wd G (LA s) s (LWd G x1 so ak af ab aa to tk tf tb ta uo uk uf ub ua x5 x6 x7 x8 x2 a1 a2 a3 a4 a5 a6 a7 a8 R S Rk Rm Rg Rw m0 lm rm im pl lf rf rv ft nu sd1 sd2) H locs) (hl : lv_has ls 4 [(0, .ref b), (1, .ref x1), (2, .ref x2), (3, .int (nI i))]) : W p l e room_1 s m #[Value.ref b] below meth c H locs 29 638 Q (F0 m 1019 ls []) := by
  have xx := C.1
  have xb := C.2.1
  have hbA : ¬ LA s b := Nat.not_le.mpr hbl
  obtain ⟨hFR, hFk, ⟨hLF, hlm⟩, ⟨hrm, hrv⟩, him, himR⟩ := id hFI
  obtain ⟨hR, hK, hp, hm⟩ := id hFR
  obtain ⟨hn, hf0, hpr, hA⟩ := id hR
  have hk02 := hFk.1.2.1
  have hw : Wd G (LA s) s [(x1, .inr (1, [.ref so, .ref to, .ref uo, .int (nI im), .ref x5, .int (nI lm), .ref x6, .int (nI rm), .ref x7, .ref x8, .int sd1])), (so, .inr (0, [.int (nI (sN R)), .int (nI (R 0 1)), .int (nI (sF R)), .int (nI (sS R)), .int (nI (sL R)), .ref ak, .ref af, .ref ab, .ref aa])), (ak, aI G 10 (sK R)), (af, aI G 10 (sG R)), (ab, aI G 10 (sO R)), (aa, aI G 10 (sA R)), (to, .inr (0, [.int (nI (sN S)), .int (nI m0), .int (nI (sF S)), .int (nI (sS S)), .int (nI (sL S)), .ref tk, .ref tf, .ref tb, .ref ta])), (tk, aI G 10 (sK S)), (tf, aI G 10 (sG S)), (tb, aI G 10 (sO S)), (ta, aI G 10 (sA S)), (uo, .inr (0, [.int (nI (sN Rk)), .int (nI (Rk 0 1)), .int (nI (sF Rk)), .int (nI (sS Rk)), .int (nI (sL Rk)), .ref uk, .ref uf, .ref ub, .ref ua])), (uk, aI G 10 (sK Rk)), (uf, aI G 10 (sG Rk)), (ub, aI G 10 (sO Rk)), (ua, aI G 10 (sA Rk)), (x5, aI G 96 (cN lf)), (x6, aI G 16 (cN rv)), (x7, aI G 7 (cN rf)), (x8, aI G 10 ft), (x2, .inr (2, [.ref a1, .ref a2, .ref a3, .ref a4, .int (nI im), .ref a5, .ref a6, .ref a7, .int (nI lm), .int (nI rm), .int (nI pl), .ref a8, .int sd2])), (a1, aI G 54 (fl R)), (a2, aI G 54 (fl Rm)), (a3, aI G 54 (fl Rg)), (a4, aI G 54 (fl Rw)), (a5, aI G 96 (cN lf)), (a6, aI G 16 (cN rv)), (a7, aI G 7 (cN rf)), (a8, aI G 3 nu)] H locs := hw
  refine lv_aload_n xx xb dL_law_1019 rfl (lv_at hl 1 rfl) ?_
  have hM := kX1_judge l G x1 so to uo x5 x6 x7 x8 im lm rm sd1 ak af ab aa R tk tf tb ta m0 S rv (by first | assumption | omega) (by first | assumption | omega) (by first | assumption | omega) (by first | assumption | omega) (by first | assumption | omega)
  refine cv_i C hw hM yvX1_judge ml_L_131 0 rfl rfl rfl [0, 1, 2, 3, 4, 5, 6, 7, 8, 9, 10, 17] rfl rfl (fun _ => (rfl : ([x1, so, ak, af, ab, aa, to, tk, tf, tb, ta, x6] : List Nat) = [x1, so, ak, af, ab, aa, to, tk, tf, tb, ta, x6])) (by decide) ⟨Nat.le_of_ble_eq_true rfl, Nat.le_of_ble_eq_true rfl⟩ hl.1 rfl (Nat.le_of_ble_eq_true rfl) dL_law_1020 (fun r u H locs hr hw => ?_)
  obtain ⟨u1, hu1⟩ : ∃ z, z = u := ⟨_, rfl⟩
  subst hu1
  have hw : Wd G (LA s) s [(x1, .inr (1, [.ref so, .ref to, .ref uo, .int (nI im), .ref x5, .int (nI lm), .ref x6, .int (nI 0), .ref x7, .ref x8, .int sd1])), (so, .inr (0, [.int (nI (sN R)), .int (nI (R 0 1)), .int (nI (sF R)), .int (nI (sS R)), .int (nI (sL R)), .ref ak, .ref af, .ref ab, .ref aa])), (ak, aI G 10 (sK R)), (af, aI G 10 (sG R)), (ab, aI G 10 (sO R)), (aa, aI G 10 (sA R)), (to, .inr (0, [.int (nI (sN u1)), .int (nI (R 0 1)), .int (nI (sF u1)), .int (nI (sS u1)), .int (nI (sL u1)), .ref tk, .ref tf, .ref tb, .ref ta])), (tk, aI G 10 (sK u1)), (tf, aI G 10 (sG u1)), (tb, aI G 10 (sO u1)), (ta, aI G 10 (sA u1)), (uo, .inr (0, [.int (nI (sN Rk)), .int (nI (Rk 0 1)), .int (nI (sF Rk)), .int (nI (sS Rk)), .int (nI (sL Rk)), .ref uk, .ref uf, .ref ub, .ref ua])), (uk, aI G 10 (sK Rk)), (uf, aI G 10 (sG Rk)), (ub, aI G 10 (sO Rk)), (ua, aI G 10 (sA Rk)), (x5, aI G 96 (cN lf)), (x6, aI G 16 (cN rv)), (x7, aI G 7 (cN rf)), (x8, aI G 10 ft), (x2, .inr (2, [.ref a1, .ref a2, .ref a3, .ref a4, .int (nI im), .ref a5, .ref a6, .ref a7, .int (nI lm), .int (nI rm), .int (nI pl), .ref a8, .int sd2])), (a1, aI G 54 (fl R)), (a2, aI G 54 (fl Rm)), (a3, aI G 54 (fl Rg)), (a4, aI G 54 (fl Rw)), (a5, aI G 96 (cN lf)), (a6, aI G 16 (cN rv)), (a7, aI G 7 (cN rf)), (a8, aI G 3 nu)] H locs := hw
  subst hr
  refine lv_aload_n xx xb dL_law_1023 rfl (lv_at hl 2 rfl) ?_
  have hM := kX2_judge l G x2 a1 a2 a3 a4 a5 a6 a7 a8 im lm rm pl sd2 R Rm rv (by first | assumption | omega) (by first | assumption | omega) (by first | assumption | omega) (by first | assumption | omega)
  refine cv_i C hw hM yvX2_judge ml_L_134 20 rfl rfl rfl [20, 21, 22, 26] rfl rfl (fun _ => (rfl : ([x2, a1, a2, a6] : List Nat) = [x2, a1, a2, a6])) (by decide) ⟨Nat.le_of_ble_eq_true rfl, Nat.le_of_ble_eq_true rfl⟩ hl.1 rfl (Nat.le_of_ble_eq_true rfl) dL_law_1024 (fun r _ H locs hr hw => ?_)
  have hw : Wd G (LA s) s [(x1, .inr (1, [.ref so, .ref to, .ref uo, .int (nI im), .ref x5, .int (nI lm), .ref x6, .int (nI 0), .ref x7, .ref x8, .int sd1])), (so, .inr (0, [.int (nI (sN R)), .int (nI (R 0 1)), .int (nI (sF R)), .int (nI (sS R)), .int (nI (sL R)), .ref ak, .ref af, .ref ab, .ref aa])), (ak, aI G 10 (sK R)), (af, aI G 10 (sG R)), (ab, aI G 10 (sO R)), (aa, aI G 10 (sA R)), (to, .inr (0, [.int (nI (sN u1)), .int (nI (R 0 1)), .int (nI (sF u1)), .int (nI (sS u1)), .int (nI (sL u1)), .ref tk, .ref tf, .ref tb, .ref ta])), (tk, aI G 10 (sK u1)), (tf, aI G 10 (sG u1)), (tb, aI G 10 (sO u1)), (ta, aI G 10 (sA u1)), (uo, .inr (0, [.int (nI (sN Rk)), .int (nI (Rk 0 1)), .int (nI (sF Rk)), .int (nI (sS Rk)), .int (nI (sL Rk)), .ref uk, .ref uf, .ref ub, .ref ua])), (uk, aI G 10 (sK Rk)), (uf, aI G 10 (sG Rk)), (ub, aI G 10 (sO Rk)), (ua, aI G 10 (sA Rk)), (x5, aI G 96 (cN lf)), (x6, aI G 16 (cN rv)), (x7, aI G 7 (cN rf)), (x8, aI G 10 ft), (x2, .inr (2, [.ref a1, .ref a2, .ref a3, .ref a4, .int (nI im), .ref a5, .ref a6, .ref a7, .int (nI lm), .int (nI 0), .int (nI pl), .ref a8, .int sd2])), (a1, aI G 54 (fl R)), (a2, aI G 54 (fl (itF R (jdN R rv rm)))), (a3, aI G 54 (fl Rg)), (a4, aI G 54 (fl Rw)), (a5, aI G 96 (cN lf)), (a6, aI G 16 (cN rv)), (a7, aI G 7 (cN rf)), (a8, aI G 3 nu)] H locs := hw
  subst hr
  refine lv_icmp_eq (tgt := 1137) xx xb dL_law_1027 (by decide) (fun _ => ?_) (fun c => absurd rfl c)
  exact K R u1 Rk (itF R (jdN R rv rm)) Rg Rw (R 0 1) lm 0 im pl lf rf rv ft nu sd1 sd2 H _ ls (⟨hFR, hFk, ⟨hLF, hlm⟩, ⟨Nat.zero_le _, fun k hk => absurd hk (Nat.not_lt_zero _)⟩, him, himR⟩) hw (lv_sub hl [0, 1, 2, 3] rfl)
set_option maxRecDepth 100000 in
set_option maxHeartbeats 4000000 in
theorem lc_clear (C : Cx p s m #[Value.ref b] meth c code 4 RL rt0 G) (hX : va_X b L xs s s.heap) (hbl : b < s.heap.size) (hE : XE X (LA s) s s.heap) (hL : L ≤ 3072) (hiL : i + 6 ≤ L) (K : LK p l e s m below meth c Q G b i x1 so ak af ab aa to tk tf tb ta uo uk uf ub ua x5 x6 x7 x8 x2 a1 a2 a3 a4 a5 a6 a7 a8) (R S Rk Rm Rg Rw : RT) (m0 lm rm im pl : Nat) (lf rf rv : Nat → Nat) (ft nu : Nat → Int32) (sd1 sd2 : Int32) (H : Heap) (locs : List Loc) (ls : Array Slot) (hFI : FI R Rk Rg lf lm rv rm im) (hw : Wd G (LA s) s (LWd G x1 so ak af ab aa to tk tf tb ta uo uk uf ub ua x5 x6 x7 x8 x2 a1 a2 a3 a4 a5 a6 a7 a8 R S Rk Rm Rg Rw m0 lm rm im pl lf rf rv ft nu sd1 sd2) H locs) (hl : lv_has ls 4 [(0, .ref b), (1, .ref x1), (2, .ref x2), (3, .int (nI i))]) : W p l e room_1 s m #[Value.ref b] below meth c H locs 29 638 Q (F0 m 1032 ls []) := by
  have xx := C.1
  have xb := C.2.1
  have hbA : ¬ LA s b := Nat.not_le.mpr hbl
  obtain ⟨hFR, hFk, ⟨hLF, hlm⟩, ⟨hrm, hrv⟩, him, himR⟩ := id hFI
  obtain ⟨hR, hK, hp, hm⟩ := id hFR
  obtain ⟨hn, hf0, hpr, hA⟩ := id hR
  have hk02 := hFk.1.2.1
  have hw : Wd G (LA s) s [(x1, .inr (1, [.ref so, .ref to, .ref uo, .int (nI im), .ref x5, .int (nI lm), .ref x6, .int (nI rm), .ref x7, .ref x8, .int sd1])), (so, .inr (0, [.int (nI (sN R)), .int (nI (R 0 1)), .int (nI (sF R)), .int (nI (sS R)), .int (nI (sL R)), .ref ak, .ref af, .ref ab, .ref aa])), (ak, aI G 10 (sK R)), (af, aI G 10 (sG R)), (ab, aI G 10 (sO R)), (aa, aI G 10 (sA R)), (to, .inr (0, [.int (nI (sN S)), .int (nI m0), .int (nI (sF S)), .int (nI (sS S)), .int (nI (sL S)), .ref tk, .ref tf, .ref tb, .ref ta])), (tk, aI G 10 (sK S)), (tf, aI G 10 (sG S)), (tb, aI G 10 (sO S)), (ta, aI G 10 (sA S)), (uo, .inr (0, [.int (nI (sN Rk)), .int (nI (Rk 0 1)), .int (nI (sF Rk)), .int (nI (sS Rk)), .int (nI (sL Rk)), .ref uk, .ref uf, .ref ub, .ref ua])), (uk, aI G 10 (sK Rk)), (uf, aI G 10 (sG Rk)), (ub, aI G 10 (sO Rk)), (ua, aI G 10 (sA Rk)), (x5, aI G 96 (cN lf)), (x6, aI G 16 (cN rv)), (x7, aI G 7 (cN rf)), (x8, aI G 10 ft), (x2, .inr (2, [.ref a1, .ref a2, .ref a3, .ref a4, .int (nI im), .ref a5, .ref a6, .ref a7, .int (nI lm), .int (nI rm), .int (nI pl), .ref a8, .int sd2])), (a1, aI G 54 (fl R)), (a2, aI G 54 (fl Rm)), (a3, aI G 54 (fl Rg)), (a4, aI G 54 (fl Rw)), (a5, aI G 96 (cN lf)), (a6, aI G 16 (cN rv)), (a7, aI G 7 (cN rf)), (a8, aI G 3 nu)] H locs := hw
  refine lv_aload_n xx xb dL_law_1032 rfl (lv_at hl 1 rfl) ?_
  have hM := kX1_clear l G x1 so to uo x5 x6 x7 x8 im lm rm sd1 
  refine cv_i C hw hM yvX1_clear ml_L_135 0 rfl rfl rfl [0] rfl rfl (fun _ => (rfl : ([x1] : List Nat) = [x1])) (by decide) ⟨Nat.le_of_ble_eq_true rfl, Nat.le_of_ble_eq_true rfl⟩ hl.1 rfl (Nat.le_of_ble_eq_true rfl) dL_law_1033 (fun r _ H locs hr hw => ?_)
  have hw : Wd G (LA s) s [(x1, .inr (1, [.ref so, .ref to, .ref uo, .int (nI im), .ref x5, .int (nI lm), .ref x6, .int (nI 0), .ref x7, .ref x8, .int sd1])), (so, .inr (0, [.int (nI (sN R)), .int (nI (R 0 1)), .int (nI (sF R)), .int (nI (sS R)), .int (nI (sL R)), .ref ak, .ref af, .ref ab, .ref aa])), (ak, aI G 10 (sK R)), (af, aI G 10 (sG R)), (ab, aI G 10 (sO R)), (aa, aI G 10 (sA R)), (to, .inr (0, [.int (nI (sN S)), .int (nI m0), .int (nI (sF S)), .int (nI (sS S)), .int (nI (sL S)), .ref tk, .ref tf, .ref tb, .ref ta])), (tk, aI G 10 (sK S)), (tf, aI G 10 (sG S)), (tb, aI G 10 (sO S)), (ta, aI G 10 (sA S)), (uo, .inr (0, [.int (nI (sN Rk)), .int (nI (Rk 0 1)), .int (nI (sF Rk)), .int (nI (sS Rk)), .int (nI (sL Rk)), .ref uk, .ref uf, .ref ub, .ref ua])), (uk, aI G 10 (sK Rk)), (uf, aI G 10 (sG Rk)), (ub, aI G 10 (sO Rk)), (ua, aI G 10 (sA Rk)), (x5, aI G 96 (cN lf)), (x6, aI G 16 (cN rv)), (x7, aI G 7 (cN rf)), (x8, aI G 10 ft), (x2, .inr (2, [.ref a1, .ref a2, .ref a3, .ref a4, .int (nI im), .ref a5, .ref a6, .ref a7, .int (nI lm), .int (nI rm), .int (nI pl), .ref a8, .int sd2])), (a1, aI G 54 (fl R)), (a2, aI G 54 (fl Rm)), (a3, aI G 54 (fl Rg)), (a4, aI G 54 (fl Rw)), (a5, aI G 96 (cN lf)), (a6, aI G 16 (cN rv)), (a7, aI G 7 (cN rf)), (a8, aI G 3 nu)] H locs := hw
  subst hr
  refine lv_aload_n xx xb dL_law_1036 rfl (lv_at hl 2 rfl) ?_
  have hM := kX2_clear l G x2 a1 a2 a3 a4 a5 a6 a7 a8 im lm rm pl sd2 
  refine cv_i C hw hM yvX2_clear ml_L_138 20 rfl rfl rfl [20] rfl rfl (fun _ => (rfl : ([x2] : List Nat) = [x2])) (by decide) ⟨Nat.le_of_ble_eq_true rfl, Nat.le_of_ble_eq_true rfl⟩ hl.1 rfl (Nat.le_of_ble_eq_true rfl) dL_law_1037 (fun r _ H locs hr hw => ?_)
  have hw : Wd G (LA s) s [(x1, .inr (1, [.ref so, .ref to, .ref uo, .int (nI im), .ref x5, .int (nI lm), .ref x6, .int (nI 0), .ref x7, .ref x8, .int sd1])), (so, .inr (0, [.int (nI (sN R)), .int (nI (R 0 1)), .int (nI (sF R)), .int (nI (sS R)), .int (nI (sL R)), .ref ak, .ref af, .ref ab, .ref aa])), (ak, aI G 10 (sK R)), (af, aI G 10 (sG R)), (ab, aI G 10 (sO R)), (aa, aI G 10 (sA R)), (to, .inr (0, [.int (nI (sN S)), .int (nI m0), .int (nI (sF S)), .int (nI (sS S)), .int (nI (sL S)), .ref tk, .ref tf, .ref tb, .ref ta])), (tk, aI G 10 (sK S)), (tf, aI G 10 (sG S)), (tb, aI G 10 (sO S)), (ta, aI G 10 (sA S)), (uo, .inr (0, [.int (nI (sN Rk)), .int (nI (Rk 0 1)), .int (nI (sF Rk)), .int (nI (sS Rk)), .int (nI (sL Rk)), .ref uk, .ref uf, .ref ub, .ref ua])), (uk, aI G 10 (sK Rk)), (uf, aI G 10 (sG Rk)), (ub, aI G 10 (sO Rk)), (ua, aI G 10 (sA Rk)), (x5, aI G 96 (cN lf)), (x6, aI G 16 (cN rv)), (x7, aI G 7 (cN rf)), (x8, aI G 10 ft), (x2, .inr (2, [.ref a1, .ref a2, .ref a3, .ref a4, .int (nI im), .ref a5, .ref a6, .ref a7, .int (nI lm), .int (nI 0), .int (nI pl), .ref a8, .int sd2])), (a1, aI G 54 (fl R)), (a2, aI G 54 (fl Rm)), (a3, aI G 54 (fl Rg)), (a4, aI G 54 (fl Rw)), (a5, aI G 96 (cN lf)), (a6, aI G 16 (cN rv)), (a7, aI G 7 (cN rf)), (a8, aI G 3 nu)] H locs := hw
  subst hr
  refine lv_icmp_eq (tgt := 1137) xx xb dL_law_1040 (by decide) (fun _ => ?_) (fun c => absurd rfl c)
  exact K R S Rk Rm Rg Rw m0 lm 0 im pl lf rf rv ft nu sd1 sd2 H _ ls (⟨hFR, hFk, ⟨hLF, hlm⟩, ⟨Nat.zero_le _, fun k hk => absurd hk (Nat.not_lt_zero _)⟩, him, himR⟩) hw (lv_sub hl [0, 1, 2, 3] rfl)
set_option maxRecDepth 100000 in
set_option maxHeartbeats 4000000 in
theorem lc_lots (C : Cx p s m #[Value.ref b] meth c code 4 RL rt0 G) (hX : va_X b L xs s s.heap) (hbl : b < s.heap.size) (hE : XE X (LA s) s s.heap) (hL : L ≤ 3072) (hiL : i + 6 ≤ L) (K : LK p l e s m below meth c Q G b i x1 so ak af ab aa to tk tf tb ta uo uk uf ub ua x5 x6 x7 x8 x2 a1 a2 a3 a4 a5 a6 a7 a8) (R S Rk Rm Rg Rw : RT) (m0 lm rm im pl : Nat) (lf rf rv : Nat → Nat) (ft nu : Nat → Int32) (sd1 sd2 : Int32) (H : Heap) (locs : List Loc) (ls : Array Slot) (hFI : FI R Rk Rg lf lm rv rm im) (hw : Wd G (LA s) s (LWd G x1 so ak af ab aa to tk tf tb ta uo uk uf ub ua x5 x6 x7 x8 x2 a1 a2 a3 a4 a5 a6 a7 a8 R S Rk Rm Rg Rw m0 lm rm im pl lf rf rv ft nu sd1 sd2) H locs) (hl : lv_has ls 4 [(0, .ref b), (1, .ref x1), (2, .ref x2), (3, .int (nI i))]) : W p l e room_1 s m #[Value.ref b] below meth c H locs 29 638 Q (F0 m 1045 ls []) := by
  have xx := C.1
  have xb := C.2.1
  have hbA : ¬ LA s b := Nat.not_le.mpr hbl
  obtain ⟨hFR, hFk, ⟨hLF, hlm⟩, ⟨hrm, hrv⟩, him, himR⟩ := id hFI
  obtain ⟨hR, hK, hp, hm⟩ := id hFR
  obtain ⟨hn, hf0, hpr, hA⟩ := id hR
  have hk02 := hFk.1.2.1
  have hw : Wd G (LA s) s [(x1, .inr (1, [.ref so, .ref to, .ref uo, .int (nI im), .ref x5, .int (nI lm), .ref x6, .int (nI rm), .ref x7, .ref x8, .int sd1])), (so, .inr (0, [.int (nI (sN R)), .int (nI (R 0 1)), .int (nI (sF R)), .int (nI (sS R)), .int (nI (sL R)), .ref ak, .ref af, .ref ab, .ref aa])), (ak, aI G 10 (sK R)), (af, aI G 10 (sG R)), (ab, aI G 10 (sO R)), (aa, aI G 10 (sA R)), (to, .inr (0, [.int (nI (sN S)), .int (nI m0), .int (nI (sF S)), .int (nI (sS S)), .int (nI (sL S)), .ref tk, .ref tf, .ref tb, .ref ta])), (tk, aI G 10 (sK S)), (tf, aI G 10 (sG S)), (tb, aI G 10 (sO S)), (ta, aI G 10 (sA S)), (uo, .inr (0, [.int (nI (sN Rk)), .int (nI (Rk 0 1)), .int (nI (sF Rk)), .int (nI (sS Rk)), .int (nI (sL Rk)), .ref uk, .ref uf, .ref ub, .ref ua])), (uk, aI G 10 (sK Rk)), (uf, aI G 10 (sG Rk)), (ub, aI G 10 (sO Rk)), (ua, aI G 10 (sA Rk)), (x5, aI G 96 (cN lf)), (x6, aI G 16 (cN rv)), (x7, aI G 7 (cN rf)), (x8, aI G 10 ft), (x2, .inr (2, [.ref a1, .ref a2, .ref a3, .ref a4, .int (nI im), .ref a5, .ref a6, .ref a7, .int (nI lm), .int (nI rm), .int (nI pl), .ref a8, .int sd2])), (a1, aI G 54 (fl R)), (a2, aI G 54 (fl Rm)), (a3, aI G 54 (fl Rg)), (a4, aI G 54 (fl Rw)), (a5, aI G 96 (cN lf)), (a6, aI G 16 (cN rv)), (a7, aI G 7 (cN rf)), (a8, aI G 3 nu)] H locs := hw
  refine lv_aload_n xx xb dL_law_1045 rfl (lv_at hl 1 rfl) ?_
  refine lv_aload_n xx xb dL_law_1046 rfl (lv_at hl 0 rfl) ?_
  refine lv_iload_n xx xb dL_law_1047 rfl (lv_at hl 3 rfl) ?_
  refine lv_iconst (v := nI 1) xx xb dL_law_1048 (by decide) ?_
  refine lv_iadd xx xb dL_law_1049 ?_
  refine re_i (nI (i + 1)) (nI_add _ _) ?_
  refine va_sld xx xb hX hbl hbA hw.2.2 (vp_in_nI (by omega) (by omega)) dL_law_1050 ?_
  refine re_i (xs (i + 1)) (congrArg xs (nI_clamp (by omega))) ?_
  refine lv_aload_n xx xb dL_law_1051 rfl (lv_at hl 0 rfl) ?_
  refine lv_iload_n xx xb dL_law_1052 rfl (lv_at hl 3 rfl) ?_
  refine lv_iconst (v := nI 2) xx xb dL_law_1053 (by decide) ?_
  refine lv_iadd xx xb dL_law_1054 ?_
  refine re_i (nI (i + 2)) (nI_add _ _) ?_
  refine va_sld xx xb hX hbl hbA hw.2.2 (vp_in_nI (by omega) (by omega)) dL_law_1055 ?_
  refine re_i (xs (i + 2)) (congrArg xs (nI_clamp (by omega))) ?_
  refine lv_aload_n xx xb dL_law_1056 rfl (lv_at hl 0 rfl) ?_
  refine lv_iload_n xx xb dL_law_1057 rfl (lv_at hl 3 rfl) ?_
  refine lv_iconst (v := nI 3) xx xb dL_law_1058 (by decide) ?_
  refine lv_iadd xx xb dL_law_1059 ?_
  refine re_i (nI (i + 3)) (nI_add _ _) ?_
  refine va_sld xx xb hX hbl hbA hw.2.2 (vp_in_nI (by omega) (by omega)) dL_law_1060 ?_
  refine re_i (xs (i + 3)) (congrArg xs (nI_clamp (by omega))) ?_
  have hM := kX1_lots l G x1 so to uo x5 x6 x7 x8 im lm rm sd1 rf ak af ab aa R tk tf tb ta m0 S (xs (i + 2)) (xs (i + 1)) ((xs (i + 1)).toInt) (xs (i + 3)) ((xs (i + 3)).toInt) rfl rfl (by first | assumption | omega) (by first | assumption | omega) (by first | assumption | omega)
  refine cv_i C hw hM yvX1_lots ml_L_139 0 rfl rfl rfl [0, 1, 2, 3, 4, 5, 6, 7, 8, 9, 10, 18] rfl rfl (fun _ => (rfl : ([x1, so, ak, af, ab, aa, to, tk, tf, tb, ta, x7] : List Nat) = [x1, so, ak, af, ab, aa, to, tk, tf, tb, ta, x7])) (by decide) ⟨Nat.le_of_ble_eq_true rfl, Nat.le_of_ble_eq_true rfl⟩ hl.1 rfl (Nat.le_of_ble_eq_true rfl) dL_law_1061 (fun r u H locs hr hw => ?_)
  obtain ⟨u1, hu1⟩ : ∃ z, z = u := ⟨_, rfl⟩
  subst hu1
  have hw : Wd G (LA s) s [(x1, .inr (1, [.ref so, .ref to, .ref uo, .int (nI im), .ref x5, .int (nI lm), .ref x6, .int (nI rm), .ref x7, .ref x8, .int u1.2.2])), (so, .inr (0, [.int (nI (sN R)), .int (nI (R 0 1)), .int (nI (sF R)), .int (nI (sS R)), .int (nI (sL R)), .ref ak, .ref af, .ref ab, .ref aa])), (ak, aI G 10 (sK R)), (af, aI G 10 (sG R)), (ab, aI G 10 (sO R)), (aa, aI G 10 (sA R)), (to, .inr (0, [.int (nI (sN u1.2.1)), .int (nI u1.1), .int (nI (sF u1.2.1)), .int (nI (sS u1.2.1)), .int (nI (sL u1.2.1)), .ref tk, .ref tf, .ref tb, .ref ta])), (tk, aI G 10 (sK u1.2.1)), (tf, aI G 10 (sG u1.2.1)), (tb, aI G 10 (sO u1.2.1)), (ta, aI G 10 (sA u1.2.1)), (uo, .inr (0, [.int (nI (sN Rk)), .int (nI (Rk 0 1)), .int (nI (sF Rk)), .int (nI (sS Rk)), .int (nI (sL Rk)), .ref uk, .ref uf, .ref ub, .ref ua])), (uk, aI G 10 (sK Rk)), (uf, aI G 10 (sG Rk)), (ub, aI G 10 (sO Rk)), (ua, aI G 10 (sA Rk)), (x5, aI G 96 (cN lf)), (x6, aI G 16 (cN rv)), (x7, aI G 7 (cN (rfU rf (cLots R ((xs (i + 1)).toInt) ((xs (i + 3)).toInt))))), (x8, aI G 10 ft), (x2, .inr (2, [.ref a1, .ref a2, .ref a3, .ref a4, .int (nI im), .ref a5, .ref a6, .ref a7, .int (nI lm), .int (nI rm), .int (nI pl), .ref a8, .int sd2])), (a1, aI G 54 (fl R)), (a2, aI G 54 (fl Rm)), (a3, aI G 54 (fl Rg)), (a4, aI G 54 (fl Rw)), (a5, aI G 96 (cN lf)), (a6, aI G 16 (cN rv)), (a7, aI G 7 (cN rf)), (a8, aI G 3 nu)] H locs := hw
  subst hr
  refine lv_aload_n xx xb dL_law_1064 rfl (lv_at hl 2 rfl) ?_
  refine lv_aload_n xx xb dL_law_1065 rfl (lv_at hl 0 rfl) ?_
  refine lv_iload_n xx xb dL_law_1066 rfl (lv_at hl 3 rfl) ?_
  refine lv_iconst (v := nI 1) xx xb dL_law_1067 (by decide) ?_
  refine lv_iadd xx xb dL_law_1068 ?_
  refine re_i (nI (i + 1)) (nI_add _ _) ?_
  refine va_sld xx xb hX hbl hbA hw.2.2 (vp_in_nI (by omega) (by omega)) dL_law_1069 ?_
  refine re_i (xs (i + 1)) (congrArg xs (nI_clamp (by omega))) ?_
  refine lv_aload_n xx xb dL_law_1070 rfl (lv_at hl 0 rfl) ?_
  refine lv_iload_n xx xb dL_law_1071 rfl (lv_at hl 3 rfl) ?_
  refine lv_iconst (v := nI 2) xx xb dL_law_1072 (by decide) ?_
  refine lv_iadd xx xb dL_law_1073 ?_
  refine re_i (nI (i + 2)) (nI_add _ _) ?_
  refine va_sld xx xb hX hbl hbA hw.2.2 (vp_in_nI (by omega) (by omega)) dL_law_1074 ?_
  refine re_i (xs (i + 2)) (congrArg xs (nI_clamp (by omega))) ?_
  refine lv_aload_n xx xb dL_law_1075 rfl (lv_at hl 0 rfl) ?_
  refine lv_iload_n xx xb dL_law_1076 rfl (lv_at hl 3 rfl) ?_
  refine lv_iconst (v := nI 3) xx xb dL_law_1077 (by decide) ?_
  refine lv_iadd xx xb dL_law_1078 ?_
  refine re_i (nI (i + 3)) (nI_add _ _) ?_
  refine va_sld xx xb hX hbl hbA hw.2.2 (vp_in_nI (by omega) (by omega)) dL_law_1079 ?_
  refine re_i (xs (i + 3)) (congrArg xs (nI_clamp (by omega))) ?_
  have hM := kX2_lots l G x2 a1 a2 a3 a4 a5 a6 a7 a8 im lm rm pl sd2 R Rm rf (xs (i + 2)) (xs (i + 1)) ((xs (i + 1)).toInt) (xs (i + 3)) ((xs (i + 3)).toInt) rfl rfl (by first | assumption | omega) (by first | assumption | omega)
  refine cv_i C hw hM yvX2_lots ml_L_142 20 rfl rfl rfl [20, 21, 22, 27] rfl rfl (fun _ => (rfl : ([x2, a1, a2, a7] : List Nat) = [x2, a1, a2, a7])) (by decide) ⟨Nat.le_of_ble_eq_true rfl, Nat.le_of_ble_eq_true rfl⟩ hl.1 rfl (Nat.le_of_ble_eq_true rfl) dL_law_1080 (fun r u H locs hr hw => ?_)
  obtain ⟨u2, hu2⟩ : ∃ z, z = u := ⟨_, rfl⟩
  subst hu2
  have hw : Wd G (LA s) s [(x1, .inr (1, [.ref so, .ref to, .ref uo, .int (nI im), .ref x5, .int (nI lm), .ref x6, .int (nI rm), .ref x7, .ref x8, .int u1.2.2])), (so, .inr (0, [.int (nI (sN R)), .int (nI (R 0 1)), .int (nI (sF R)), .int (nI (sS R)), .int (nI (sL R)), .ref ak, .ref af, .ref ab, .ref aa])), (ak, aI G 10 (sK R)), (af, aI G 10 (sG R)), (ab, aI G 10 (sO R)), (aa, aI G 10 (sA R)), (to, .inr (0, [.int (nI (sN u1.2.1)), .int (nI u1.1), .int (nI (sF u1.2.1)), .int (nI (sS u1.2.1)), .int (nI (sL u1.2.1)), .ref tk, .ref tf, .ref tb, .ref ta])), (tk, aI G 10 (sK u1.2.1)), (tf, aI G 10 (sG u1.2.1)), (tb, aI G 10 (sO u1.2.1)), (ta, aI G 10 (sA u1.2.1)), (uo, .inr (0, [.int (nI (sN Rk)), .int (nI (Rk 0 1)), .int (nI (sF Rk)), .int (nI (sS Rk)), .int (nI (sL Rk)), .ref uk, .ref uf, .ref ub, .ref ua])), (uk, aI G 10 (sK Rk)), (uf, aI G 10 (sG Rk)), (ub, aI G 10 (sO Rk)), (ua, aI G 10 (sA Rk)), (x5, aI G 96 (cN lf)), (x6, aI G 16 (cN rv)), (x7, aI G 7 (cN (rfU rf (cLots R ((xs (i + 1)).toInt) ((xs (i + 3)).toInt))))), (x8, aI G 10 ft), (x2, .inr (2, [.ref a1, .ref a2, .ref a3, .ref a4, .int (nI im), .ref a5, .ref a6, .ref a7, .int (nI lm), .int (nI rm), .int (nI pl), .ref a8, .int u2.2])), (a1, aI G 54 (fl R)), (a2, aI G 54 (fl u2.1)), (a3, aI G 54 (fl Rg)), (a4, aI G 54 (fl Rw)), (a5, aI G 96 (cN lf)), (a6, aI G 16 (cN rv)), (a7, aI G 7 (cN (rfU rf (cLots R ((xs (i + 1)).toInt) ((xs (i + 3)).toInt))))), (a8, aI G 3 nu)] H locs := hw
  subst hr
  refine lv_icmp_eq (tgt := 1137) xx xb dL_law_1083 (by decide) (fun _ => ?_) (fun c => absurd rfl c)
  exact K R u1.2.1 Rk u2.1 Rg Rw u1.1 lm rm im pl lf (rfU rf (cLots R ((xs (i + 1)).toInt) ((xs (i + 3)).toInt))) rv ft nu u1.2.2 u2.2 H _ ls (hFI) hw (lv_sub hl [0, 1, 2, 3] rfl)
set_option maxRecDepth 100000 in
set_option maxHeartbeats 4000000 in
theorem lc_image (C : Cx p s m #[Value.ref b] meth c code 4 RL rt0 G) (hX : va_X b L xs s s.heap) (hbl : b < s.heap.size) (hE : XE X (LA s) s s.heap) (hL : L ≤ 3072) (hiL : i + 6 ≤ L) (K : LK p l e s m below meth c Q G b i x1 so ak af ab aa to tk tf tb ta uo uk uf ub ua x5 x6 x7 x8 x2 a1 a2 a3 a4 a5 a6 a7 a8) (R S Rk Rm Rg Rw : RT) (m0 lm rm im pl : Nat) (lf rf rv : Nat → Nat) (ft nu : Nat → Int32) (sd1 sd2 : Int32) (H : Heap) (locs : List Loc) (ls : Array Slot) (hFI : FI R Rk Rg lf lm rv rm im) (hw : Wd G (LA s) s (LWd G x1 so ak af ab aa to tk tf tb ta uo uk uf ub ua x5 x6 x7 x8 x2 a1 a2 a3 a4 a5 a6 a7 a8 R S Rk Rm Rg Rw m0 lm rm im pl lf rf rv ft nu sd1 sd2) H locs) (hl : lv_has ls 4 [(0, .ref b), (1, .ref x1), (2, .ref x2), (3, .int (nI i))]) : W p l e room_1 s m #[Value.ref b] below meth c H locs 29 638 Q (F0 m 1088 ls []) := by
  have xx := C.1
  have xb := C.2.1
  have hbA : ¬ LA s b := Nat.not_le.mpr hbl
  obtain ⟨hFR, hFk, ⟨hLF, hlm⟩, ⟨hrm, hrv⟩, him, himR⟩ := id hFI
  obtain ⟨hR, hK, hp, hm⟩ := id hFR
  obtain ⟨hn, hf0, hpr, hA⟩ := id hR
  have hk02 := hFk.1.2.1
  have hw : Wd G (LA s) s [(x1, .inr (1, [.ref so, .ref to, .ref uo, .int (nI im), .ref x5, .int (nI lm), .ref x6, .int (nI rm), .ref x7, .ref x8, .int sd1])), (so, .inr (0, [.int (nI (sN R)), .int (nI (R 0 1)), .int (nI (sF R)), .int (nI (sS R)), .int (nI (sL R)), .ref ak, .ref af, .ref ab, .ref aa])), (ak, aI G 10 (sK R)), (af, aI G 10 (sG R)), (ab, aI G 10 (sO R)), (aa, aI G 10 (sA R)), (to, .inr (0, [.int (nI (sN S)), .int (nI m0), .int (nI (sF S)), .int (nI (sS S)), .int (nI (sL S)), .ref tk, .ref tf, .ref tb, .ref ta])), (tk, aI G 10 (sK S)), (tf, aI G 10 (sG S)), (tb, aI G 10 (sO S)), (ta, aI G 10 (sA S)), (uo, .inr (0, [.int (nI (sN Rk)), .int (nI (Rk 0 1)), .int (nI (sF Rk)), .int (nI (sS Rk)), .int (nI (sL Rk)), .ref uk, .ref uf, .ref ub, .ref ua])), (uk, aI G 10 (sK Rk)), (uf, aI G 10 (sG Rk)), (ub, aI G 10 (sO Rk)), (ua, aI G 10 (sA Rk)), (x5, aI G 96 (cN lf)), (x6, aI G 16 (cN rv)), (x7, aI G 7 (cN rf)), (x8, aI G 10 ft), (x2, .inr (2, [.ref a1, .ref a2, .ref a3, .ref a4, .int (nI im), .ref a5, .ref a6, .ref a7, .int (nI lm), .int (nI rm), .int (nI pl), .ref a8, .int sd2])), (a1, aI G 54 (fl R)), (a2, aI G 54 (fl Rm)), (a3, aI G 54 (fl Rg)), (a4, aI G 54 (fl Rw)), (a5, aI G 96 (cN lf)), (a6, aI G 16 (cN rv)), (a7, aI G 7 (cN rf)), (a8, aI G 3 nu)] H locs := hw
  refine lv_aload_n xx xb dL_law_1088 rfl (lv_at hl 1 rfl) ?_
  have hM := kX1_image l G x1 so to uo x5 x6 x7 x8 im lm rm sd1 ak af ab aa R uk uf ub ua Rk (Rk 0 1) (by first | assumption | omega)
  refine cv_i C hw hM yvX1_image ml_L_143 0 rfl rfl rfl [0, 1, 2, 3, 4, 5, 11, 12, 13, 14, 15] rfl rfl (fun _ => (rfl : ([x1, so, ak, af, ab, aa, uo, uk, uf, ub, ua] : List Nat) = [x1, so, ak, af, ab, aa, uo, uk, uf, ub, ua])) (by decide) ⟨Nat.le_of_ble_eq_true rfl, Nat.le_of_ble_eq_true rfl⟩ hl.1 rfl (Nat.le_of_ble_eq_true rfl) dL_law_1089 (fun r _ H locs hr hw => ?_)
  have hw : Wd G (LA s) s [(x1, .inr (1, [.ref so, .ref to, .ref uo, .int (nI 1), .ref x5, .int (nI lm), .ref x6, .int (nI rm), .ref x7, .ref x8, .int sd1])), (so, .inr (0, [.int (nI (sN R)), .int (nI (R 0 1)), .int (nI (sF R)), .int (nI (sS R)), .int (nI (sL R)), .ref ak, .ref af, .ref ab, .ref aa])), (ak, aI G 10 (sK R)), (af, aI G 10 (sG R)), (ab, aI G 10 (sO R)), (aa, aI G 10 (sA R)), (to, .inr (0, [.int (nI (sN S)), .int (nI m0), .int (nI (sF S)), .int (nI (sS S)), .int (nI (sL S)), .ref tk, .ref tf, .ref tb, .ref ta])), (tk, aI G 10 (sK S)), (tf, aI G 10 (sG S)), (tb, aI G 10 (sO S)), (ta, aI G 10 (sA S)), (uo, .inr (0, [.int (nI (sN R)), .int (nI (R 0 1)), .int (nI (sF R)), .int (nI (sS R)), .int (nI (sL R)), .ref uk, .ref uf, .ref ub, .ref ua])), (uk, aI G 10 (sK R)), (uf, aI G 10 (sG R)), (ub, aI G 10 (sO R)), (ua, aI G 10 (sA R)), (x5, aI G 96 (cN lf)), (x6, aI G 16 (cN rv)), (x7, aI G 7 (cN rf)), (x8, aI G 10 ft), (x2, .inr (2, [.ref a1, .ref a2, .ref a3, .ref a4, .int (nI im), .ref a5, .ref a6, .ref a7, .int (nI lm), .int (nI rm), .int (nI pl), .ref a8, .int sd2])), (a1, aI G 54 (fl R)), (a2, aI G 54 (fl Rm)), (a3, aI G 54 (fl Rg)), (a4, aI G 54 (fl Rw)), (a5, aI G 96 (cN lf)), (a6, aI G 16 (cN rv)), (a7, aI G 7 (cN rf)), (a8, aI G 3 nu)] H locs := hw
  subst hr
  refine lv_aload_n xx xb dL_law_1092 rfl (lv_at hl 2 rfl) ?_
  have hM := kX2_image l G x2 a1 a2 a3 a4 a5 a6 a7 a8 im lm rm pl sd2 R Rg 
  refine cv_i C hw hM yvX2_image ml_L_146 20 rfl rfl rfl [20, 21, 23] rfl rfl (fun _ => (rfl : ([x2, a1, a3] : List Nat) = [x2, a1, a3])) (by decide) ⟨Nat.le_of_ble_eq_true rfl, Nat.le_of_ble_eq_true rfl⟩ hl.1 rfl (Nat.le_of_ble_eq_true rfl) dL_law_1093 (fun r _ H locs hr hw => ?_)
  have hw : Wd G (LA s) s [(x1, .inr (1, [.ref so, .ref to, .ref uo, .int (nI 1), .ref x5, .int (nI lm), .ref x6, .int (nI rm), .ref x7, .ref x8, .int sd1])), (so, .inr (0, [.int (nI (sN R)), .int (nI (R 0 1)), .int (nI (sF R)), .int (nI (sS R)), .int (nI (sL R)), .ref ak, .ref af, .ref ab, .ref aa])), (ak, aI G 10 (sK R)), (af, aI G 10 (sG R)), (ab, aI G 10 (sO R)), (aa, aI G 10 (sA R)), (to, .inr (0, [.int (nI (sN S)), .int (nI m0), .int (nI (sF S)), .int (nI (sS S)), .int (nI (sL S)), .ref tk, .ref tf, .ref tb, .ref ta])), (tk, aI G 10 (sK S)), (tf, aI G 10 (sG S)), (tb, aI G 10 (sO S)), (ta, aI G 10 (sA S)), (uo, .inr (0, [.int (nI (sN R)), .int (nI (R 0 1)), .int (nI (sF R)), .int (nI (sS R)), .int (nI (sL R)), .ref uk, .ref uf, .ref ub, .ref ua])), (uk, aI G 10 (sK R)), (uf, aI G 10 (sG R)), (ub, aI G 10 (sO R)), (ua, aI G 10 (sA R)), (x5, aI G 96 (cN lf)), (x6, aI G 16 (cN rv)), (x7, aI G 7 (cN rf)), (x8, aI G 10 ft), (x2, .inr (2, [.ref a1, .ref a2, .ref a3, .ref a4, .int (nI 1), .ref a5, .ref a6, .ref a7, .int (nI lm), .int (nI rm), .int (nI pl), .ref a8, .int sd2])), (a1, aI G 54 (fl R)), (a2, aI G 54 (fl Rm)), (a3, aI G 54 (fl R)), (a4, aI G 54 (fl Rw)), (a5, aI G 96 (cN lf)), (a6, aI G 16 (cN rv)), (a7, aI G 7 (cN rf)), (a8, aI G 3 nu)] H locs := hw
  subst hr
  refine lv_icmp_eq (tgt := 1137) xx xb dL_law_1096 (by decide) (fun _ => ?_) (fun c => absurd rfl c)
  exact K R S R Rm R Rw m0 lm rm 1 pl lf rf rv ft nu sd1 sd2 H _ ls (⟨hFR, hFR, ⟨hLF, hlm⟩, ⟨hrm, hrv⟩, Nat.le_refl 1, fun _ => rfl⟩) hw (lv_sub hl [0, 1, 2, 3] rfl)
set_option maxRecDepth 100000 in
set_option maxHeartbeats 4000000 in
theorem lc_on (C : Cx p s m #[Value.ref b] meth c code 4 RL rt0 G) (hX : va_X b L xs s s.heap) (hbl : b < s.heap.size) (hE : XE X (LA s) s s.heap) (hL : L ≤ 3072) (hiL : i + 6 ≤ L) (K : LK p l e s m below meth c Q G b i x1 so ak af ab aa to tk tf tb ta uo uk uf ub ua x5 x6 x7 x8 x2 a1 a2 a3 a4 a5 a6 a7 a8) (R S Rk Rm Rg Rw : RT) (m0 lm rm im pl : Nat) (lf rf rv : Nat → Nat) (ft nu : Nat → Int32) (sd1 sd2 : Int32) (H : Heap) (locs : List Loc) (ls : Array Slot) (hFI : FI R Rk Rg lf lm rv rm im) (hw : Wd G (LA s) s (LWd G x1 so ak af ab aa to tk tf tb ta uo uk uf ub ua x5 x6 x7 x8 x2 a1 a2 a3 a4 a5 a6 a7 a8 R S Rk Rm Rg Rw m0 lm rm im pl lf rf rv ft nu sd1 sd2) H locs) (hl : lv_has ls 4 [(0, .ref b), (1, .ref x1), (2, .ref x2), (3, .int (nI i))]) : W p l e room_1 s m #[Value.ref b] below meth c H locs 29 638 Q (F0 m 1101 ls []) := by
  have xx := C.1
  have xb := C.2.1
  have hbA : ¬ LA s b := Nat.not_le.mpr hbl
  obtain ⟨hFR, hFk, ⟨hLF, hlm⟩, ⟨hrm, hrv⟩, him, himR⟩ := id hFI
  obtain ⟨hR, hK, hp, hm⟩ := id hFR
  obtain ⟨hn, hf0, hpr, hA⟩ := id hR
  have hk02 := hFk.1.2.1
  have hw : Wd G (LA s) s [(x1, .inr (1, [.ref so, .ref to, .ref uo, .int (nI im), .ref x5, .int (nI lm), .ref x6, .int (nI rm), .ref x7, .ref x8, .int sd1])), (so, .inr (0, [.int (nI (sN R)), .int (nI (R 0 1)), .int (nI (sF R)), .int (nI (sS R)), .int (nI (sL R)), .ref ak, .ref af, .ref ab, .ref aa])), (ak, aI G 10 (sK R)), (af, aI G 10 (sG R)), (ab, aI G 10 (sO R)), (aa, aI G 10 (sA R)), (to, .inr (0, [.int (nI (sN S)), .int (nI m0), .int (nI (sF S)), .int (nI (sS S)), .int (nI (sL S)), .ref tk, .ref tf, .ref tb, .ref ta])), (tk, aI G 10 (sK S)), (tf, aI G 10 (sG S)), (tb, aI G 10 (sO S)), (ta, aI G 10 (sA S)), (uo, .inr (0, [.int (nI (sN Rk)), .int (nI (Rk 0 1)), .int (nI (sF Rk)), .int (nI (sS Rk)), .int (nI (sL Rk)), .ref uk, .ref uf, .ref ub, .ref ua])), (uk, aI G 10 (sK Rk)), (uf, aI G 10 (sG Rk)), (ub, aI G 10 (sO Rk)), (ua, aI G 10 (sA Rk)), (x5, aI G 96 (cN lf)), (x6, aI G 16 (cN rv)), (x7, aI G 7 (cN rf)), (x8, aI G 10 ft), (x2, .inr (2, [.ref a1, .ref a2, .ref a3, .ref a4, .int (nI im), .ref a5, .ref a6, .ref a7, .int (nI lm), .int (nI rm), .int (nI pl), .ref a8, .int sd2])), (a1, aI G 54 (fl R)), (a2, aI G 54 (fl Rm)), (a3, aI G 54 (fl Rg)), (a4, aI G 54 (fl Rw)), (a5, aI G 96 (cN lf)), (a6, aI G 16 (cN rv)), (a7, aI G 7 (cN rf)), (a8, aI G 3 nu)] H locs := hw
  refine lv_aload_n xx xb dL_law_1101 rfl (lv_at hl 1 rfl) ?_
  have hM := kX1_on l G x1 so to uo x5 x6 x7 x8 im lm rm sd1 rf ak af ab aa R uk uf ub ua Rk (by first | assumption | omega) (by first | assumption | omega)
  refine cv_i C hw hM yvX1_on ml_L_147 0 rfl rfl rfl [0, 1, 2, 3, 4, 5, 11, 12, 13, 14, 15, 18] rfl rfl (fun _ => (rfl : ([x1, so, ak, af, ab, aa, uo, uk, uf, ub, ua, x7] : List Nat) = [x1, so, ak, af, ab, aa, uo, uk, uf, ub, ua, x7])) (by decide) ⟨Nat.le_of_ble_eq_true rfl, Nat.le_of_ble_eq_true rfl⟩ hl.1 rfl (Nat.le_of_ble_eq_true rfl) dL_law_1102 (fun r _ H locs hr hw => ?_)
  have hw : Wd G (LA s) s [(x1, .inr (1, [.ref so, .ref to, .ref uo, .int (nI im), .ref x5, .int (nI lm), .ref x6, .int (nI rm), .ref x7, .ref x8, .int sd1])), (so, .inr (0, [.int (nI (sN (selR (cOn im) Rk R))), .int (nI (selN (cOn im) (Rk 0 1) (R 0 1))), .int (nI (sF (selR (cOn im) Rk R))), .int (nI (sS (selR (cOn im) Rk R))), .int (nI (sL (selR (cOn im) Rk R))), .ref ak, .ref af, .ref ab, .ref aa])), (ak, aI G 10 (sK (selR (cOn im) Rk R))), (af, aI G 10 (sG (selR (cOn im) Rk R))), (ab, aI G 10 (sO (selR (cOn im) Rk R))), (aa, aI G 10 (sA (selR (cOn im) Rk R))), (to, .inr (0, [.int (nI (sN S)), .int (nI m0), .int (nI (sF S)), .int (nI (sS S)), .int (nI (sL S)), .ref tk, .ref tf, .ref tb, .ref ta])), (tk, aI G 10 (sK S)), (tf, aI G 10 (sG S)), (tb, aI G 10 (sO S)), (ta, aI G 10 (sA S)), (uo, .inr (0, [.int (nI (sN Rk)), .int (nI (Rk 0 1)), .int (nI (sF Rk)), .int (nI (sS Rk)), .int (nI (sL Rk)), .ref uk, .ref uf, .ref ub, .ref ua])), (uk, aI G 10 (sK Rk)), (uf, aI G 10 (sG Rk)), (ub, aI G 10 (sO Rk)), (ua, aI G 10 (sA Rk)), (x5, aI G 96 (cN lf)), (x6, aI G 16 (cN rv)), (x7, aI G 7 (cN (rfU rf (cOn im)))), (x8, aI G 10 ft), (x2, .inr (2, [.ref a1, .ref a2, .ref a3, .ref a4, .int (nI im), .ref a5, .ref a6, .ref a7, .int (nI lm), .int (nI rm), .int (nI pl), .ref a8, .int sd2])), (a1, aI G 54 (fl R)), (a2, aI G 54 (fl Rm)), (a3, aI G 54 (fl Rg)), (a4, aI G 54 (fl Rw)), (a5, aI G 96 (cN lf)), (a6, aI G 16 (cN rv)), (a7, aI G 7 (cN rf)), (a8, aI G 3 nu)] H locs := hw
  subst hr
  refine lv_aload_n xx xb dL_law_1105 rfl (lv_at hl 2 rfl) ?_
  have hM := kX2_on l G x2 a1 a2 a3 a4 a5 a6 a7 a8 im lm rm pl sd2 R Rg rf (by first | assumption | omega)
  refine cv_i C hw hM yvX2_on ml_L_150 20 rfl rfl rfl [20, 21, 23, 27] rfl rfl (fun _ => (rfl : ([x2, a1, a3, a7] : List Nat) = [x2, a1, a3, a7])) (by decide) ⟨Nat.le_of_ble_eq_true rfl, Nat.le_of_ble_eq_true rfl⟩ hl.1 rfl (Nat.le_of_ble_eq_true rfl) dL_law_1106 (fun r _ H locs hr hw => ?_)
  have hw : Wd G (LA s) s [(x1, .inr (1, [.ref so, .ref to, .ref uo, .int (nI im), .ref x5, .int (nI lm), .ref x6, .int (nI rm), .ref x7, .ref x8, .int sd1])), (so, .inr (0, [.int (nI (sN (selR (cOn im) Rk R))), .int (nI (selN (cOn im) (Rk 0 1) (R 0 1))), .int (nI (sF (selR (cOn im) Rk R))), .int (nI (sS (selR (cOn im) Rk R))), .int (nI (sL (selR (cOn im) Rk R))), .ref ak, .ref af, .ref ab, .ref aa])), (ak, aI G 10 (sK (selR (cOn im) Rk R))), (af, aI G 10 (sG (selR (cOn im) Rk R))), (ab, aI G 10 (sO (selR (cOn im) Rk R))), (aa, aI G 10 (sA (selR (cOn im) Rk R))), (to, .inr (0, [.int (nI (sN S)), .int (nI m0), .int (nI (sF S)), .int (nI (sS S)), .int (nI (sL S)), .ref tk, .ref tf, .ref tb, .ref ta])), (tk, aI G 10 (sK S)), (tf, aI G 10 (sG S)), (tb, aI G 10 (sO S)), (ta, aI G 10 (sA S)), (uo, .inr (0, [.int (nI (sN Rk)), .int (nI (Rk 0 1)), .int (nI (sF Rk)), .int (nI (sS Rk)), .int (nI (sL Rk)), .ref uk, .ref uf, .ref ub, .ref ua])), (uk, aI G 10 (sK Rk)), (uf, aI G 10 (sG Rk)), (ub, aI G 10 (sO Rk)), (ua, aI G 10 (sA Rk)), (x5, aI G 96 (cN lf)), (x6, aI G 16 (cN rv)), (x7, aI G 7 (cN (rfU rf (cOn im)))), (x8, aI G 10 ft), (x2, .inr (2, [.ref a1, .ref a2, .ref a3, .ref a4, .int (nI im), .ref a5, .ref a6, .ref a7, .int (nI lm), .int (nI rm), .int (nI pl), .ref a8, .int sd2])), (a1, aI G 54 (fl (selR (cOn im) Rg R))), (a2, aI G 54 (fl Rm)), (a3, aI G 54 (fl Rg)), (a4, aI G 54 (fl Rw)), (a5, aI G 96 (cN lf)), (a6, aI G 16 (cN rv)), (a7, aI G 7 (cN (rfU rf (cOn im)))), (a8, aI G 3 nu)] H locs := hw
  subst hr
  have heq : anI (cOn im) (nI (Rk 0 1)) = anI (cOn im) (nI (Rg 0 1)) := by
    have h01 : im = 0 ∨ im = 1 := by omega
    rcases h01 with h | h
    · subst h; rfl
    · rw [himR h]
  refine lv_icmp_eq (tgt := 1137) xx xb dL_law_1109 (by decide) (fun _ => ?_) (fun c => absurd heq c)
  have hRR : selR (cOn im) Rg R = selR (cOn im) Rk R := by
      have h01 : im = 0 ∨ im = 1 := by omega
      rcases h01 with h | h
      · subst h; rfl
      · rw [himR h]
  rw [hRR] at hw
  have hw : Wd G (LA s) s [(x1, .inr (1, [.ref so, .ref to, .ref uo, .int (nI im), .ref x5, .int (nI lm), .ref x6, .int (nI rm), .ref x7, .ref x8, .int sd1])), (so, .inr (0, [.int (nI (sN (selR (cOn im) Rk R))), .int (nI (selN (cOn im) (Rk 0 1) (R 0 1))), .int (nI (sF (selR (cOn im) Rk R))), .int (nI (sS (selR (cOn im) Rk R))), .int (nI (sL (selR (cOn im) Rk R))), .ref ak, .ref af, .ref ab, .ref aa])), (ak, aI G 10 (sK (selR (cOn im) Rk R))), (af, aI G 10 (sG (selR (cOn im) Rk R))), (ab, aI G 10 (sO (selR (cOn im) Rk R))), (aa, aI G 10 (sA (selR (cOn im) Rk R))), (to, .inr (0, [.int (nI (sN S)), .int (nI m0), .int (nI (sF S)), .int (nI (sS S)), .int (nI (sL S)), .ref tk, .ref tf, .ref tb, .ref ta])), (tk, aI G 10 (sK S)), (tf, aI G 10 (sG S)), (tb, aI G 10 (sO S)), (ta, aI G 10 (sA S)), (uo, .inr (0, [.int (nI (sN Rk)), .int (nI (Rk 0 1)), .int (nI (sF Rk)), .int (nI (sS Rk)), .int (nI (sL Rk)), .ref uk, .ref uf, .ref ub, .ref ua])), (uk, aI G 10 (sK Rk)), (uf, aI G 10 (sG Rk)), (ub, aI G 10 (sO Rk)), (ua, aI G 10 (sA Rk)), (x5, aI G 96 (cN lf)), (x6, aI G 16 (cN rv)), (x7, aI G 7 (cN (rfU rf (cOn im)))), (x8, aI G 10 ft), (x2, .inr (2, [.ref a1, .ref a2, .ref a3, .ref a4, .int (nI im), .ref a5, .ref a6, .ref a7, .int (nI lm), .int (nI rm), .int (nI pl), .ref a8, .int sd2])), (a1, aI G 54 (fl (selR (cOn im) Rk R))), (a2, aI G 54 (fl Rm)), (a3, aI G 54 (fl Rg)), (a4, aI G 54 (fl Rw)), (a5, aI G 96 (cN lf)), (a6, aI G 16 (cN rv)), (a7, aI G 7 (cN (rfU rf (cOn im)))), (a8, aI G 3 nu)] H locs := hw
  have hmn : (selR (cOn im) Rk R) 0 1 = selN (cOn im) (Rk 0 1) (R 0 1) := sel_01
  have hw : Wd G (LA s) s [(x1, .inr (1, [.ref so, .ref to, .ref uo, .int (nI im), .ref x5, .int (nI lm), .ref x6, .int (nI rm), .ref x7, .ref x8, .int sd1])), (so, .inr (0, [.int (nI (sN (selR (cOn im) Rk R))), .int (nI ((selR (cOn im) Rk R) 0 1)), .int (nI (sF (selR (cOn im) Rk R))), .int (nI (sS (selR (cOn im) Rk R))), .int (nI (sL (selR (cOn im) Rk R))), .ref ak, .ref af, .ref ab, .ref aa])), (ak, aI G 10 (sK (selR (cOn im) Rk R))), (af, aI G 10 (sG (selR (cOn im) Rk R))), (ab, aI G 10 (sO (selR (cOn im) Rk R))), (aa, aI G 10 (sA (selR (cOn im) Rk R))), (to, .inr (0, [.int (nI (sN S)), .int (nI m0), .int (nI (sF S)), .int (nI (sS S)), .int (nI (sL S)), .ref tk, .ref tf, .ref tb, .ref ta])), (tk, aI G 10 (sK S)), (tf, aI G 10 (sG S)), (tb, aI G 10 (sO S)), (ta, aI G 10 (sA S)), (uo, .inr (0, [.int (nI (sN Rk)), .int (nI (Rk 0 1)), .int (nI (sF Rk)), .int (nI (sS Rk)), .int (nI (sL Rk)), .ref uk, .ref uf, .ref ub, .ref ua])), (uk, aI G 10 (sK Rk)), (uf, aI G 10 (sG Rk)), (ub, aI G 10 (sO Rk)), (ua, aI G 10 (sA Rk)), (x5, aI G 96 (cN lf)), (x6, aI G 16 (cN rv)), (x7, aI G 7 (cN (rfU rf (cOn im)))), (x8, aI G 10 ft), (x2, .inr (2, [.ref a1, .ref a2, .ref a3, .ref a4, .int (nI im), .ref a5, .ref a6, .ref a7, .int (nI lm), .int (nI rm), .int (nI pl), .ref a8, .int sd2])), (a1, aI G 54 (fl (selR (cOn im) Rk R))), (a2, aI G 54 (fl Rm)), (a3, aI G 54 (fl Rg)), (a4, aI G 54 (fl Rw)), (a5, aI G 96 (cN lf)), (a6, aI G 16 (cN rv)), (a7, aI G 7 (cN (rfU rf (cOn im)))), (a8, aI G 3 nu)] H locs := by rw [hmn]; exact hw
  exact K (selR (cOn im) Rk R) S Rk Rm Rg Rw m0 lm rm im pl lf (rfU rf (cOn im)) rv ft nu sd1 sd2 H _ ls (⟨FIR_sel hFR (fun _ => hFk), hFk, ⟨hLF, hlm⟩, ⟨hrm, hrv⟩, him, himR⟩) hw (lv_sub hl [0, 1, 2, 3] rfl)
set_option maxRecDepth 100000 in
set_option maxHeartbeats 4000000 in
theorem lc_count (C : Cx p s m #[Value.ref b] meth c code 4 RL rt0 G) (hX : va_X b L xs s s.heap) (hbl : b < s.heap.size) (hE : XE X (LA s) s s.heap) (hL : L ≤ 3072) (hiL : i + 6 ≤ L) (K : LK p l e s m below meth c Q G b i x1 so ak af ab aa to tk tf tb ta uo uk uf ub ua x5 x6 x7 x8 x2 a1 a2 a3 a4 a5 a6 a7 a8) (R S Rk Rm Rg Rw : RT) (m0 lm rm im pl : Nat) (lf rf rv : Nat → Nat) (ft nu : Nat → Int32) (sd1 sd2 : Int32) (H : Heap) (locs : List Loc) (ls : Array Slot) (hFI : FI R Rk Rg lf lm rv rm im) (hw : Wd G (LA s) s (LWd G x1 so ak af ab aa to tk tf tb ta uo uk uf ub ua x5 x6 x7 x8 x2 a1 a2 a3 a4 a5 a6 a7 a8 R S Rk Rm Rg Rw m0 lm rm im pl lf rf rv ft nu sd1 sd2) H locs) (hl : lv_has ls 4 [(0, .ref b), (1, .ref x1), (2, .ref x2), (3, .int (nI i))]) : W p l e room_1 s m #[Value.ref b] below meth c H locs 29 638 Q (F0 m 1114 ls []) := by
  have xx := C.1
  have xb := C.2.1
  have hbA : ¬ LA s b := Nat.not_le.mpr hbl
  obtain ⟨hFR, hFk, ⟨hLF, hlm⟩, ⟨hrm, hrv⟩, him, himR⟩ := id hFI
  obtain ⟨hR, hK, hp, hm⟩ := id hFR
  obtain ⟨hn, hf0, hpr, hA⟩ := id hR
  have hk02 := hFk.1.2.1
  have hw : Wd G (LA s) s [(x1, .inr (1, [.ref so, .ref to, .ref uo, .int (nI im), .ref x5, .int (nI lm), .ref x6, .int (nI rm), .ref x7, .ref x8, .int sd1])), (so, .inr (0, [.int (nI (sN R)), .int (nI (R 0 1)), .int (nI (sF R)), .int (nI (sS R)), .int (nI (sL R)), .ref ak, .ref af, .ref ab, .ref aa])), (ak, aI G 10 (sK R)), (af, aI G 10 (sG R)), (ab, aI G 10 (sO R)), (aa, aI G 10 (sA R)), (to, .inr (0, [.int (nI (sN S)), .int (nI m0), .int (nI (sF S)), .int (nI (sS S)), .int (nI (sL S)), .ref tk, .ref tf, .ref tb, .ref ta])), (tk, aI G 10 (sK S)), (tf, aI G 10 (sG S)), (tb, aI G 10 (sO S)), (ta, aI G 10 (sA S)), (uo, .inr (0, [.int (nI (sN Rk)), .int (nI (Rk 0 1)), .int (nI (sF Rk)), .int (nI (sS Rk)), .int (nI (sL Rk)), .ref uk, .ref uf, .ref ub, .ref ua])), (uk, aI G 10 (sK Rk)), (uf, aI G 10 (sG Rk)), (ub, aI G 10 (sO Rk)), (ua, aI G 10 (sA Rk)), (x5, aI G 96 (cN lf)), (x6, aI G 16 (cN rv)), (x7, aI G 7 (cN rf)), (x8, aI G 10 ft), (x2, .inr (2, [.ref a1, .ref a2, .ref a3, .ref a4, .int (nI im), .ref a5, .ref a6, .ref a7, .int (nI lm), .int (nI rm), .int (nI pl), .ref a8, .int sd2])), (a1, aI G 54 (fl R)), (a2, aI G 54 (fl Rm)), (a3, aI G 54 (fl Rg)), (a4, aI G 54 (fl Rw)), (a5, aI G 96 (cN lf)), (a6, aI G 16 (cN rv)), (a7, aI G 7 (cN rf)), (a8, aI G 3 nu)] H locs := hw
  refine lv_aload_n xx xb dL_law_1114 rfl (lv_at hl 1 rfl) ?_
  refine lv_aload_n xx xb dL_law_1115 rfl (lv_at hl 0 rfl) ?_
  refine lv_iload_n xx xb dL_law_1116 rfl (lv_at hl 3 rfl) ?_
  refine lv_iconst (v := nI 1) xx xb dL_law_1117 (by decide) ?_
  refine lv_iadd xx xb dL_law_1118 ?_
  refine re_i (nI (i + 1)) (nI_add _ _) ?_
  refine va_sld xx xb hX hbl hbA hw.2.2 (vp_in_nI (by omega) (by omega)) dL_law_1119 ?_
  refine re_i (xs (i + 1)) (congrArg xs (nI_clamp (by omega))) ?_
  have hM := kX1_count l G x1 so to uo x5 x6 x7 x8 im lm rm sd1 rf ak af ab aa R (xs (i + 1)) ((xs (i + 1)).toInt) rfl (by first | assumption | omega)
  refine cv_i C hw hM yvX1_count ml_L_151 0 rfl rfl rfl [0, 1, 2, 3, 4, 5, 18] rfl rfl (fun _ => (rfl : ([x1, so, ak, af, ab, aa, x7] : List Nat) = [x1, so, ak, af, ab, aa, x7])) (by decide) ⟨Nat.le_of_ble_eq_true rfl, Nat.le_of_ble_eq_true rfl⟩ hl.1 rfl (Nat.le_of_ble_eq_true rfl) dL_law_1120 (fun r _ H locs hr hw => ?_)
  have hw : Wd G (LA s) s [(x1, .inr (1, [.ref so, .ref to, .ref uo, .int (nI im), .ref x5, .int (nI lm), .ref x6, .int (nI rm), .ref x7, .ref x8, .int sd1])), (so, .inr (0, [.int (nI (sN R)), .int (nI (R 0 1)), .int (nI (sF R)), .int (nI (sS R)), .int (nI (sL R)), .ref ak, .ref af, .ref ab, .ref aa])), (ak, aI G 10 (sK R)), (af, aI G 10 (sG R)), (ab, aI G 10 (sO R)), (aa, aI G 10 (sA R)), (to, .inr (0, [.int (nI (sN S)), .int (nI m0), .int (nI (sF S)), .int (nI (sS S)), .int (nI (sL S)), .ref tk, .ref tf, .ref tb, .ref ta])), (tk, aI G 10 (sK S)), (tf, aI G 10 (sG S)), (tb, aI G 10 (sO S)), (ta, aI G 10 (sA S)), (uo, .inr (0, [.int (nI (sN Rk)), .int (nI (Rk 0 1)), .int (nI (sF Rk)), .int (nI (sS Rk)), .int (nI (sL Rk)), .ref uk, .ref uf, .ref ub, .ref ua])), (uk, aI G 10 (sK Rk)), (uf, aI G 10 (sG Rk)), (ub, aI G 10 (sO Rk)), (ua, aI G 10 (sA Rk)), (x5, aI G 96 (cN lf)), (x6, aI G 16 (cN rv)), (x7, aI G 7 (cN rf)), (x8, aI G 10 ft), (x2, .inr (2, [.ref a1, .ref a2, .ref a3, .ref a4, .int (nI im), .ref a5, .ref a6, .ref a7, .int (nI lm), .int (nI rm), .int (nI pl), .ref a8, .int sd2])), (a1, aI G 54 (fl R)), (a2, aI G 54 (fl Rm)), (a3, aI G 54 (fl Rg)), (a4, aI G 54 (fl Rw)), (a5, aI G 96 (cN lf)), (a6, aI G 16 (cN rv)), (a7, aI G 7 (cN rf)), (a8, aI G 3 nu)] H locs := hw
  subst hr
  refine lv_aload_n xx xb dL_law_1123 rfl (lv_at hl 2 rfl) ?_
  refine lv_aload_n xx xb dL_law_1124 rfl (lv_at hl 0 rfl) ?_
  refine lv_iload_n xx xb dL_law_1125 rfl (lv_at hl 3 rfl) ?_
  refine lv_iconst (v := nI 1) xx xb dL_law_1126 (by decide) ?_
  refine lv_iadd xx xb dL_law_1127 ?_
  refine re_i (nI (i + 1)) (nI_add _ _) ?_
  refine va_sld xx xb hX hbl hbA hw.2.2 (vp_in_nI (by omega) (by omega)) dL_law_1128 ?_
  refine re_i (xs (i + 1)) (congrArg xs (nI_clamp (by omega))) ?_
  have hM := kX2_count l G x2 a1 a2 a3 a4 a5 a6 a7 a8 im lm rm pl sd2 R rf (xs (i + 1)) ((xs (i + 1)).toInt) rfl (by first | assumption | omega)
  refine cv_i C hw hM yvX2_count ml_L_154 20 rfl rfl rfl [20, 21, 27] rfl rfl (fun _ => (rfl : ([x2, a1, a7] : List Nat) = [x2, a1, a7])) (by decide) ⟨Nat.le_of_ble_eq_true rfl, Nat.le_of_ble_eq_true rfl⟩ hl.1 rfl (Nat.le_of_ble_eq_true rfl) dL_law_1129 (fun r _ H locs hr hw => ?_)
  have hw : Wd G (LA s) s [(x1, .inr (1, [.ref so, .ref to, .ref uo, .int (nI im), .ref x5, .int (nI lm), .ref x6, .int (nI rm), .ref x7, .ref x8, .int sd1])), (so, .inr (0, [.int (nI (sN R)), .int (nI (R 0 1)), .int (nI (sF R)), .int (nI (sS R)), .int (nI (sL R)), .ref ak, .ref af, .ref ab, .ref aa])), (ak, aI G 10 (sK R)), (af, aI G 10 (sG R)), (ab, aI G 10 (sO R)), (aa, aI G 10 (sA R)), (to, .inr (0, [.int (nI (sN S)), .int (nI m0), .int (nI (sF S)), .int (nI (sS S)), .int (nI (sL S)), .ref tk, .ref tf, .ref tb, .ref ta])), (tk, aI G 10 (sK S)), (tf, aI G 10 (sG S)), (tb, aI G 10 (sO S)), (ta, aI G 10 (sA S)), (uo, .inr (0, [.int (nI (sN Rk)), .int (nI (Rk 0 1)), .int (nI (sF Rk)), .int (nI (sS Rk)), .int (nI (sL Rk)), .ref uk, .ref uf, .ref ub, .ref ua])), (uk, aI G 10 (sK Rk)), (uf, aI G 10 (sG Rk)), (ub, aI G 10 (sO Rk)), (ua, aI G 10 (sA Rk)), (x5, aI G 96 (cN lf)), (x6, aI G 16 (cN rv)), (x7, aI G 7 (cN rf)), (x8, aI G 10 ft), (x2, .inr (2, [.ref a1, .ref a2, .ref a3, .ref a4, .int (nI im), .ref a5, .ref a6, .ref a7, .int (nI lm), .int (nI rm), .int (nI pl), .ref a8, .int sd2])), (a1, aI G 54 (fl R)), (a2, aI G 54 (fl Rm)), (a3, aI G 54 (fl Rg)), (a4, aI G 54 (fl Rw)), (a5, aI G 96 (cN lf)), (a6, aI G 16 (cN rv)), (a7, aI G 7 (cN rf)), (a8, aI G 3 nu)] H locs := hw
  subst hr
  refine lv_icmp_eq (tgt := 1137) xx xb dL_law_1132 (by decide) (fun _ => ?_) (fun c => absurd rfl c)
  exact K R S Rk Rm Rg Rw m0 lm rm im pl lf rf rv ft nu sd1 sd2 H _ ls (hFI) hw (lv_sub hl [0, 1, 2, 3] rfl)
end LW
