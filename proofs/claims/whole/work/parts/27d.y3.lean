theorem n6_t {L : Nat} (h : L ≤ 3072) : (nI L - nI 6).toInt = ((L : Nat) : Int) - 6 := by
  by_cases q : 6 ≤ L
  · rw [pk_sub q, tN (by omega)]; omega
  · have : ∀ L, L < 6 → (nI L - nI 6).toInt = ((L : Nat) : Int) - 6 := by decide +kernel
    exact this L (by omega)
section LW
variable {p : Program} {l : Launch} {e : Env} {s : State} {m : MethodId} {below : List Frame} {meth : Method} {c : Code} {Q : State → Prop} {rt0 : Option FieldType} {G : GT} {X : Xt} {b L i : Nat} {xs : Nat → Int32} {x1 so ak af ab aa to tk tf tb ta uo uk uf ub ua x5 x6 x7 x8 x2 a1 a2 a3 a4 a5 a6 a7 a8 : Nat}
set_option maxRecDepth 100000 in
set_option maxHeartbeats 4000000 in
theorem law_loop (C : Cx p s m #[Value.ref b] meth c code 4 RL rt0 G) (hX : va_X b L xs s s.heap) (hbl : b < s.heap.size) (hE : XE X (LA s) s s.heap) (hL : L ≤ 3072)
    (hend : ∀ (H : Heap) (locs : List Loc) (ls : Array Slot) {i : Nat}, va_S (LA s) s.heap H locs → lv_has ls 4 [(0, .ref b), (1, .ref x1), (2, .ref x2), (3, .int (nI i))] → W p l e room_1 s m #[Value.ref b] below meth c H locs 29 638 Q (F0 m 1143 ls [])) :
    ∀ (fu i : Nat) (R S Rk Rm Rg Rw : RT) (m0 lm rm im pl : Nat) (lf rf rv : Nat → Nat) (ft nu : Nat → Int32) (sd1 sd2 : Int32) (H : Heap) (locs : List Loc) (ls : Array Slot), L < i + fu → i ≤ L → FI R Rk Rg lf lm rv rm im → Wd G (LA s) s (LWd G x1 so ak af ab aa to tk tf tb ta uo uk uf ub ua x5 x6 x7 x8 x2 a1 a2 a3 a4 a5 a6 a7 a8 R S Rk Rm Rg Rw m0 lm rm im pl lf rf rv ft nu sd1 sd2) H locs → lv_has ls 4 [(0, .ref b), (1, .ref x1), (2, .ref x2), (3, .int (nI i))] → W p l e room_1 s m #[Value.ref b] below meth c H locs 29 638 Q (F0 m 18 ls []) := by
  have xx := C.1
  have xb := C.2.1
  have hbA : ¬ LA s b := Nat.not_le.mpr hbl
  intro fu
  induction fu with
  | zero => intro i R S Rk Rm Rg Rw m0 lm rm im pl lf rf rv ft nu sd1 sd2 H locs ls hfu hi; omega
  | succ fu ih =>
    intro i R S Rk Rm Rg Rw m0 lm rm im pl lf rf rv ft nu sd1 sd2 H locs ls hfu hi hFI hw hl
    refine lv_iload_n xx xb dL_law_18 rfl (lv_at hl 3 rfl) ?_
    refine lv_aload_n xx xb dL_law_19 rfl (lv_at hl 0 rfl) ?_
    refine va_slen xx xb hX hbl hbA hw.2.2 dL_law_20 ?_
    refine re_i (nI L) rfl ?_
    refine lv_bipush (v := nI 6) xx xb dL_law_21 (by decide) ?_
    refine lv_isub xx xb dL_law_23 ?_
    refine lv_icmp_gt (tgt := 1143) xx xb dL_law_24 (by decide) (fun c_24 => ?_) (fun c_24 => ?_)
    · skip
      exact hend _ _ ls hw.2.2 hl
    · skip
      have c_24 := nlt_c (n6_t hL) (tN (by omega)) c_24
      have hiL : i + 6 ≤ L := by omega
      have K : LK p l e s m below meth c Q G b i x1 so ak af ab aa to tk tf tb ta uo uk uf ub ua x5 x6 x7 x8 x2 a1 a2 a3 a4 a5 a6 a7 a8 := by
        intro R S Rk Rm Rg Rw m0 lm rm im pl lf rf rv ft nu sd1 sd2 H locs ls hFI hw hl
        refine lv_iinc (v := nI (i + 6)) (lv' := [(3, .int (nI (i + 6))), (0, .ref b), (1, .ref x1), (2, .ref x2)]) xx xb dL_law_1137 hl (k := 3) rfl (nI_add _ 6) (by decide) rfl (fun ls hl => ?_)
        refine lv_goto (tgt := 18) xx xb dL_law_1140 (by decide) ?_
        exact ih (i + 6) R S Rk Rm Rg Rw m0 lm rm im pl lf rf rv ft nu sd1 sd2 H locs ls (by omega) (by omega) hFI hw (lv_sub hl [1, 2, 3, 0] rfl)
      refine lv_aload_n xx xb dL_law_27 rfl (lv_at hl 0 rfl) ?_
      refine lv_iload_n xx xb dL_law_28 rfl (lv_at hl 3 rfl) ?_
      refine va_sld xx xb hX hbl hbA hw.2.2 (vp_in_nI (by omega) (by omega)) dL_law_29 ?_
      refine re_i (xs i) (congrArg xs (nI_clamp (by omega))) ?_
      refine lv_bipush (v := nI 63) xx xb dL_law_30 (by decide) ?_
      refine lv_iand xx xb dL_law_32 ?_
      obtain ⟨j, hj, ej⟩ := pk_andE (xs i) (m := nI 63) 6 (by decide)
      refine re_i (nI j) ej ?_
      by_cases k_33_0 : j = 0
      · skip
        refine re_i (nI 0) (by rw [k_33_0]) ?_
        refine lv_tableIn (off := 151) (tgt := 184) xx xb dL_law_33 (by decide +kernel) (by decide +kernel) (by decide +kernel) (by decide) ?_
        exact lc_letter C hX hbl hE hL hiL K R S Rk Rm Rg Rw m0 lm rm im pl lf rf rv ft nu sd1 sd2 H locs ls hFI hw hl
      by_cases k_33_1 : j = 1
      · skip
        refine re_i (nI 1) (by rw [k_33_1]) ?_
        refine lv_tableIn (off := 174) (tgt := 207) xx xb dL_law_33 (by decide +kernel) (by decide +kernel) (by decide +kernel) (by decide) ?_
        exact lc_room C hX hbl hE hL hiL K R S Rk Rm Rg Rw m0 lm rm im pl lf rf rv ft nu sd1 sd2 H locs ls hFI hw hl
      by_cases k_33_2 : j = 2
      · skip
        refine re_i (nI 2) (by rw [k_33_2]) ?_
        refine lv_tableIn (off := 187) (tgt := 220) xx xb dL_law_33 (by decide +kernel) (by decide +kernel) (by decide +kernel) (by decide) ?_
        exact lc_thing C hX hbl hE hL hiL K R S Rk Rm Rg Rw m0 lm rm im pl lf rf rv ft nu sd1 sd2 H locs ls hFI hw hl
      by_cases k_33_3 : j = 3
      · skip
        refine re_i (nI 3) (by rw [k_33_3]) ?_
        refine lv_tableIn (off := 220) (tgt := 253) xx xb dL_law_33 (by decide +kernel) (by decide +kernel) (by decide +kernel) (by decide) ?_
        exact lc_pulls C hX hbl hE hL hiL K R S Rk Rm Rg Rw m0 lm rm im pl lf rf rv ft nu sd1 sd2 H locs ls hFI hw hl
      by_cases k_33_4 : j = 4
      · skip
        refine re_i (nI 4) (by rw [k_33_4]) ?_
        refine lv_tableIn (off := 253) (tgt := 286) xx xb dL_law_33 (by decide +kernel) (by decide +kernel) (by decide +kernel) (by decide) ?_
        exact lc_floor C hX hbl hE hL hiL K R S Rk Rm Rg Rw m0 lm rm im pl lf rf rv ft nu sd1 sd2 H locs ls hFI hw hl
      by_cases k_33_5 : j = 5
      · skip
        refine re_i (nI 5) (by rw [k_33_5]) ?_
        refine lv_tableIn (off := 276) (tgt := 309) xx xb dL_law_33 (by decide +kernel) (by decide +kernel) (by decide +kernel) (by decide) ?_
        exact lc_lays C hX hbl hE hL hiL K R S Rk Rm Rg Rw m0 lm rm im pl lf rf rv ft nu sd1 sd2 H locs ls hFI hw hl
      by_cases k_33_6 : j = 6
      · skip
        refine re_i (nI 6) (by rw [k_33_6]) ?_
        refine lv_tableIn (off := 289) (tgt := 322) xx xb dL_law_33 (by decide +kernel) (by decide +kernel) (by decide +kernel) (by decide) ?_
        exact lc_setsUp C hX hbl hE hL hiL K R S Rk Rm Rg Rw m0 lm rm im pl lf rf rv ft nu sd1 sd2 H locs ls hFI hw hl
      by_cases k_33_7 : j = 7
      · skip
        refine re_i (nI 7) (by rw [k_33_7]) ?_
        refine lv_tableIn (off := 312) (tgt := 345) xx xb dL_law_33 (by decide +kernel) (by decide +kernel) (by decide +kernel) (by decide) ?_
        exact lc_turn C hX hbl hE hL hiL K R S Rk Rm Rg Rw m0 lm rm im pl lf rf rv ft nu sd1 sd2 H locs ls hFI hw hl
      by_cases k_33_8 : j = 8
      · skip
        refine re_i (nI 8) (by rw [k_33_8]) ?_
        refine lv_tableIn (off := 355) (tgt := 388) xx xb dL_law_33 (by decide +kernel) (by decide +kernel) (by decide +kernel) (by decide) ?_
        exact lc_minutes C hX hbl hE hL hiL K R S Rk Rm Rg Rw m0 lm rm im pl lf rf rv ft nu sd1 sd2 H locs ls hFI hw hl
      by_cases k_33_9 : j = 9
      · skip
        refine re_i (nI 9) (by rw [k_33_9]) ?_
        refine lv_tableIn (off := 378) (tgt := 411) xx xb dL_law_33 (by decide +kernel) (by decide +kernel) (by decide +kernel) (by decide) ?_
        exact lc_behind C hX hbl hE hL hiL K R S Rk Rm Rg Rw m0 lm rm im pl lf rf rv ft nu sd1 sd2 H locs ls hFI hw hl
      by_cases k_33_10 : j = 10
      · skip
        refine re_i (nI 10) (by rw [k_33_10]) ?_
        refine lv_tableIn (off := 421) (tgt := 454) xx xb dL_law_33 (by decide +kernel) (by decide +kernel) (by decide +kernel) (by decide) ?_
        exact lc_falls C hX hbl hE hL hiL K R S Rk Rm Rg Rw m0 lm rm im pl lf rf rv ft nu sd1 sd2 H locs ls hFI hw hl
      by_cases k_33_11 : j = 11
      · skip
        refine re_i (nI 11) (by rw [k_33_11]) ?_
        refine lv_tableIn (off := 444) (tgt := 477) xx xb dL_law_33 (by decide +kernel) (by decide +kernel) (by decide +kernel) (by decide) ?_
        exact lc_first C hX hbl hE hL hiL K R S Rk Rm Rg Rw m0 lm rm im pl lf rf rv ft nu sd1 sd2 H locs ls hFI hw hl
      by_cases k_33_12 : j = 12
      · skip
        refine re_i (nI 12) (by rw [k_33_12]) ?_
        refine lv_tableIn (off := 467) (tgt := 500) xx xb dL_law_33 (by decide +kernel) (by decide +kernel) (by decide +kernel) (by decide) ?_
        exact lc_allStand C hX hbl hE hL hiL K R S Rk Rm Rg Rw m0 lm rm im pl lf rf rv ft nu sd1 sd2 H locs ls hFI hw hl
      by_cases k_33_13 : j = 13
      · skip
        refine re_i (nI 13) (by rw [k_33_13]) ?_
        refine lv_tableIn (off := 480) (tgt := 513) xx xb dL_law_33 (by decide +kernel) (by decide +kernel) (by decide +kernel) (by decide) ?_
        exact lc_tower C hX hbl hE hL hiL K R S Rk Rm Rg Rw m0 lm rm im pl lf rf rv ft nu sd1 sd2 H locs ls hFI hw hl
      by_cases k_33_14 : j = 14
      · skip
        refine re_i (nI 14) (by rw [k_33_14]) ?_
        refine lv_tableIn (off := 513) (tgt := 546) xx xb dL_law_33 (by decide +kernel) (by decide +kernel) (by decide +kernel) (by decide) ?_
        exact lc_leastSpeed C hX hbl hE hL hiL K R S Rk Rm Rg Rw m0 lm rm im pl lf rf rv ft nu sd1 sd2 H locs ls hFI hw hl
      by_cases k_33_15 : j = 15
      · skip
        refine re_i (nI 15) (by rw [k_33_15]) ?_
        refine lv_tableIn (off := 536) (tgt := 569) xx xb dL_law_33 (by decide +kernel) (by decide +kernel) (by decide +kernel) (by decide) ?_
        exact lc_atOnce C hX hbl hE hL hiL K R S Rk Rm Rg Rw m0 lm rm im pl lf rf rv ft nu sd1 sd2 H locs ls hFI hw hl
      by_cases k_33_16 : j = 16
      · skip
        refine re_i (nI 16) (by rw [k_33_16]) ?_
        refine lv_tableIn (off := 569) (tgt := 602) xx xb dL_law_33 (by decide +kernel) (by decide +kernel) (by decide +kernel) (by decide) ?_
        exact lc_later C hX hbl hE hL hiL K R S Rk Rm Rg Rw m0 lm rm im pl lf rf rv ft nu sd1 sd2 H locs ls hFI hw hl
      by_cases k_33_17 : j = 17
      · skip
        refine re_i (nI 17) (by rw [k_33_17]) ?_
        refine lv_tableIn (off := 612) (tgt := 645) xx xb dL_law_33 (by decide +kernel) (by decide +kernel) (by decide +kernel) (by decide) ?_
        exact lc_pullMost C hX hbl hE hL hiL K R S Rk Rm Rg Rw m0 lm rm im pl lf rf rv ft nu sd1 sd2 H locs ls hFI hw hl
      by_cases k_33_18 : j = 18
      · skip
        refine re_i (nI 18) (by rw [k_33_18]) ?_
        refine lv_tableIn (off := 655) (tgt := 688) xx xb dL_law_33 (by decide +kernel) (by decide +kernel) (by decide +kernel) (by decide) ?_
        exact lc_key C hX hbl hE hL hiL K R S Rk Rm Rg Rw m0 lm rm im pl lf rf rv ft nu sd1 sd2 H locs ls hFI hw hl
      by_cases k_33_19 : j = 19
      · skip
        refine re_i (nI 19) (by rw [k_33_19]) ?_
        refine lv_tableIn (off := 678) (tgt := 711) xx xb dL_law_33 (by decide +kernel) (by decide +kernel) (by decide +kernel) (by decide) ?_
        exact lc_prop C hX hbl hE hL hiL K R S Rk Rm Rg Rw m0 lm rm im pl lf rf rv ft nu sd1 sd2 H locs ls hFI hw hl
      by_cases k_33_20 : j = 20
      · skip
        refine re_i (nI 20) (by rw [k_33_20]) ?_
        refine lv_tableIn (off := 701) (tgt := 734) xx xb dL_law_33 (by decide +kernel) (by decide +kernel) (by decide +kernel) (by decide) ?_
        exact lc_order C hX hbl hE hL hiL K R S Rk Rm Rg Rw m0 lm rm im pl lf rf rv ft nu sd1 sd2 H locs ls hFI hw hl
      by_cases k_33_21 : j = 21
      · skip
        refine re_i (nI 21) (by rw [k_33_21]) ?_
        refine lv_tableIn (off := 764) (tgt := 797) xx xb dL_law_33 (by decide +kernel) (by decide +kernel) (by decide +kernel) (by decide) ?_
        exact lc_floorFalls C hX hbl hE hL hiL K R S Rk Rm Rg Rw m0 lm rm im pl lf rf rv ft nu sd1 sd2 H locs ls hFI hw hl
      by_cases k_33_22 : j = 22
      · skip
        refine re_i (nI 22) (by rw [k_33_22]) ?_
        refine lv_tableIn (off := 787) (tgt := 820) xx xb dL_law_33 (by decide +kernel) (by decide +kernel) (by decide +kernel) (by decide) ?_
        exact lc_watched C hX hbl hE hL hiL K R S Rk Rm Rg Rw m0 lm rm im pl lf rf rv ft nu sd1 sd2 H locs ls hFI hw hl
      by_cases k_33_23 : j = 23
      · skip
        refine re_i (nI 23) (by rw [k_33_23]) ?_
        refine lv_tableIn (off := 810) (tgt := 843) xx xb dL_law_33 (by decide +kernel) (by decide +kernel) (by decide +kernel) (by decide) ?_
        exact lc_rebuild C hX hbl hE hL hiL K R S Rk Rm Rg Rw m0 lm rm im pl lf rf rv ft nu sd1 sd2 H locs ls hFI hw hl
      by_cases k_33_24 : j = 24
      · skip
        refine re_i (nI 24) (by rw [k_33_24]) ?_
        refine lv_tableIn (off := 833) (tgt := 866) xx xb dL_law_33 (by decide +kernel) (by decide +kernel) (by decide +kernel) (by decide) ?_
        exact lc_draught C hX hbl hE hL hiL K R S Rk Rm Rg Rw m0 lm rm im pl lf rf rv ft nu sd1 sd2 H locs ls hFI hw hl
      by_cases k_33_25 : j = 25
      · skip
        refine re_i (nI 25) (by rw [k_33_25]) ?_
        refine lv_tableIn (off := 887) (tgt := 920) xx xb dL_law_33 (by decide +kernel) (by decide +kernel) (by decide +kernel) (by decide) ?_
        exact lc_two C hX hbl hE hL hiL K R S Rk Rm Rg Rw m0 lm rm im pl lf rf rv ft nu sd1 sd2 H locs ls hFI hw hl
      by_cases k_33_26 : j = 26
      · skip
        refine re_i (nI 26) (by rw [k_33_26]) ?_
        refine lv_tableIn (off := 930) (tgt := 963) xx xb dL_law_33 (by decide +kernel) (by decide +kernel) (by decide +kernel) (by decide) ?_
        exact lc_whatWas C hX hbl hE hL hiL K R S Rk Rm Rg Rw m0 lm rm im pl lf rf rv ft nu sd1 sd2 H locs ls hFI hw hl
      by_cases k_33_27 : j = 27
      · skip
        refine re_i (nI 27) (by rw [k_33_27]) ?_
        refine lv_tableIn (off := 963) (tgt := 996) xx xb dL_law_33 (by decide +kernel) (by decide +kernel) (by decide +kernel) (by decide) ?_
        exact lc_row C hX hbl hE hL hiL K R S Rk Rm Rg Rw m0 lm rm im pl lf rf rv ft nu sd1 sd2 H locs ls hFI hw hl
      by_cases k_33_28 : j = 28
      · skip
        refine re_i (nI 28) (by rw [k_33_28]) ?_
        refine lv_tableIn (off := 986) (tgt := 1019) xx xb dL_law_33 (by decide +kernel) (by decide +kernel) (by decide +kernel) (by decide) ?_
        exact lc_judge C hX hbl hE hL hiL K R S Rk Rm Rg Rw m0 lm rm im pl lf rf rv ft nu sd1 sd2 H locs ls hFI hw hl
      by_cases k_33_29 : j = 29
      · skip
        refine re_i (nI 29) (by rw [k_33_29]) ?_
        refine lv_tableIn (off := 999) (tgt := 1032) xx xb dL_law_33 (by decide +kernel) (by decide +kernel) (by decide +kernel) (by decide) ?_
        exact lc_clear C hX hbl hE hL hiL K R S Rk Rm Rg Rw m0 lm rm im pl lf rf rv ft nu sd1 sd2 H locs ls hFI hw hl
      by_cases k_33_30 : j = 30
      · skip
        refine re_i (nI 30) (by rw [k_33_30]) ?_
        refine lv_tableIn (off := 1012) (tgt := 1045) xx xb dL_law_33 (by decide +kernel) (by decide +kernel) (by decide +kernel) (by decide) ?_
        exact lc_lots C hX hbl hE hL hiL K R S Rk Rm Rg Rw m0 lm rm im pl lf rf rv ft nu sd1 sd2 H locs ls hFI hw hl
      by_cases k_33_31 : j = 31
      · skip
        refine re_i (nI 31) (by rw [k_33_31]) ?_
        refine lv_tableIn (off := 1055) (tgt := 1088) xx xb dL_law_33 (by decide +kernel) (by decide +kernel) (by decide +kernel) (by decide) ?_
        exact lc_image C hX hbl hE hL hiL K R S Rk Rm Rg Rw m0 lm rm im pl lf rf rv ft nu sd1 sd2 H locs ls hFI hw hl
      by_cases k_33_32 : j = 32
      · skip
        refine re_i (nI 32) (by rw [k_33_32]) ?_
        refine lv_tableIn (off := 1068) (tgt := 1101) xx xb dL_law_33 (by decide +kernel) (by decide +kernel) (by decide +kernel) (by decide) ?_
        exact lc_on C hX hbl hE hL hiL K R S Rk Rm Rg Rw m0 lm rm im pl lf rf rv ft nu sd1 sd2 H locs ls hFI hw hl
      by_cases k_33_33 : j = 33
      · skip
        refine re_i (nI 33) (by rw [k_33_33]) ?_
        refine lv_tableIn (off := 1081) (tgt := 1114) xx xb dL_law_33 (by decide +kernel) (by decide +kernel) (by decide +kernel) (by decide) ?_
        exact lc_count C hX hbl hE hL hiL K R S Rk Rm Rg Rw m0 lm rm im pl lf rf rv ft nu sd1 sd2 H locs ls hFI hw hl
      · skip
        refine lv_tableOut (tgt := 1137) xx xb dL_law_33 (by rw [tN (by omega)]; omega) (by decide) ?_
        exact K R S Rk Rm Rg Rw m0 lm rm im pl lf rf rv ft nu sd1 sd2 H _ ls hFI hw hl
end LW
def sKey (i : Nat) : Nat := [250, 263, 265, 267, 269].getD i 0
def R00 : RT := upR (fun _ _ => 0) 0 2 1
def Z00 : RT := fun _ _ => 0
theorem fl_Z : fl Z00 = fun _ => (0 : Int32) := by
  funext j
  unfold fl Z00
  repeat' split
  all_goals rfl
theorem fl_R : upd (fun _ => (0 : Int32)) 2 (nI 1) = fl R00 := by
  rw [← fl_Z]
  exact fl_uh Z00 (by decide)
theorem FIR_0 : FIR R00 := by
  refine ⟨⟨by decide, by decide, by decide, fun a ha => absurd ha (Nat.not_lt_zero _)⟩, fun a ha => absurd ha (Nat.not_lt_zero _), by decide, by decide⟩
theorem FI_0 : FI R00 R00 Z00 (fun _ => 0) 0 (fun _ => 0) 0 0 := ⟨FIR_0, FIR_0, ⟨fun j hj => absurd hj (Nat.not_lt_zero _), by decide⟩, ⟨by decide, fun k hk => absurd hk (Nat.not_lt_zero _)⟩, by decide, fun h => absurd h (by decide)⟩
set_option maxRecDepth 100000 in
set_option maxHeartbeats 4000000 in
theorem XE_0 {b : Nat} {s : State} (hts : ∀ w ∈ lw_tbl, w.before #[Value.ref b] s = true) (hgv : (Jvm.Cond.and given_1 narrow_1).before #[Value.ref b] s = true) : ∃ X : Xt, XE X (LA s) s s.heap := by
  have ht := tb_all hts
  have hs := flat_of_before _ hgv
  have hA : ∀ a : Nat, a < s.heap.size → ¬ LA s a := fun a h => Nat.not_le.mpr h
  obtain ⟨t, et, hT⟩ := va_Tof (args := #[Value.ref b]) (s := s) (tm := Term.static RX1 "ORDERS" "[I") (ty := .int) (N := 6) (f := fun j => .int (nI (ordN j))) (A := LA s) (by decide) (hs _ (by decide +kernel)) (va_eqt (z := 6) (hs _ (by decide +kernel))) (fun j hj => by
    rcases (show j = 0 ∨ j = 1 ∨ j = 2 ∨ j = 3 ∨ j = 4 ∨ j = 5 by omega) with rfl | rfl | rfl | rfl | rfl | rfl
    · exact va_eqt (z := 12) (hs _ (by decide +kernel))
    · exact va_eqt (z := 21) (hs _ (by decide +kernel))
    · exact va_eqt (z := 102) (hs _ (by decide +kernel))
    · exact va_eqt (z := 120) (hs _ (by decide +kernel))
    · exact va_eqt (z := 201) (hs _ (by decide +kernel))
    · exact va_eqt (z := 210) (hs _ (by decide +kernel))) hA
  obtain ⟨adK, adV, hS, ev⟩ := vk_Sof (args := #[Value.ref b]) (s := s) (N := 5) (tm := fun i => Term.string RX1 (sKey i)) (len := sLen) (byt := sByt) (A := LA s) (by decide +kernel)
    (fun i hi => by
      rcases (show i = 0 ∨ i = 1 ∨ i = 2 ∨ i = 3 ∨ i = 4 by omega) with rfl | rfl | rfl | rfl | rfl
      all_goals exact hs _ (by decide +kernel))
    (fun i hi => by
      rcases (show i = 0 ∨ i = 1 ∨ i = 2 ∨ i = 3 ∨ i = 4 by omega) with rfl | rfl | rfl | rfl | rfl
      all_goals exact hs _ (by decide +kernel))
    (fun i hi => by
      rcases (show i = 0 ∨ i = 1 ∨ i = 2 ∨ i = 3 ∨ i = 4 by omega) with rfl | rfl | rfl | rfl | rfl
      all_goals exact hs _ (by decide +kernel))
    (fun i hi => by
      rcases (show i = 0 ∨ i = 1 ∨ i = 2 ∨ i = 3 ∨ i = 4 by omega) with rfl | rfl | rfl | rfl | rfl
      all_goals exact hs _ (by decide +kernel))
    (fun i hi j hj => by
      have h4 := sl_4 i hi
      rcases (show i = 0 ∨ i = 1 ∨ i = 2 ∨ i = 3 ∨ i = 4 by omega) with rfl | rfl | rfl | rfl | rfl
      all_goals rcases (show j = 0 ∨ j = 1 ∨ j = 2 ∨ j = 3 by omega) with rfl | rfl | rfl | rfl
      all_goals first | exact hs _ (by decide +kernel) | exact absurd hj (by decide))
    (fun i j hi hj hij => by
      rcases (show i = 0 ∨ i = 1 ∨ i = 2 ∨ i = 3 ∨ i = 4 by omega) with rfl | rfl | rfl | rfl | rfl
      all_goals rcases (show j = 0 ∨ j = 1 ∨ j = 2 ∨ j = 3 ∨ j = 4 by omega) with rfl | rfl | rfl | rfl | rfl
      all_goals first | exact absurd rfl hij | exact Or.inl (hs _ (by decide +kernel)) | exact Or.inr (hs _ (by decide +kernel)))
    hA
  exact ⟨(t, adK, adV), ⟨va_Zref (hts _ ls_ord) (ht _ in_X1) et hA, hT⟩, hS, va_Zof (hts _ ls_cmp) (ht _ yvJ0_length_8abf5.1.2.1) (va_eqi (z := 1) (hs _ (by decide +kernel))) hA, va_Zqof (hts _ ls_fmt) (ht _ ysJ3_checkIndex_8e157.1.2.1) (hs _ (by decide +kernel)) hA,
    vk_R.of (hts _ sr_0) (ev 0 (by decide)), vk_R.of (hts _ sr_1) (ev 1 (by decide)), vk_R.of (hts _ sr_2) (ev 2 (by decide)), vk_R.of (hts _ sr_3) (ev 3 (by decide)), vk_R.of (hts _ sr_4) (ev 4 (by decide))⟩
