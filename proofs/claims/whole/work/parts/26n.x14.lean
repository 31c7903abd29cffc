theorem sr_0 : Cond.stringRef RX1 250 "" ∈ lw_tbl := List.mem_of_getElem? (i := 165) (by decide +kernel)
theorem sr_1 : Cond.stringRef RX1 263 "kd;" ∈ lw_tbl := List.mem_of_getElem? (i := 179) (by decide +kernel)
theorem sr_2 : Cond.stringRef RX1 265 "kdd;" ∈ lw_tbl := List.mem_of_getElem? (i := 180) (by decide +kernel)
theorem sr_3 : Cond.stringRef RX1 267 "dd;" ∈ lw_tbl := List.mem_of_getElem? (i := 181) (by decide +kernel)
theorem sr_4 : Cond.stringRef RX1 269 "d;" ∈ lw_tbl := List.mem_of_getElem? (i := 182) (by decide +kernel)
theorem fl_cmp : Cond.fieldLink RJ0 38 RJ0 "COMPACT_STRINGS" "Z" ∈ TB := tbm 174 (by decide +kernel) (by decide +kernel)
theorem fl_fmt : Cond.fieldLink RJ0 1053 RJ3 "SIOOBE_FORMATTER" "Ljava/util/function/BiFunction;" ∈ TB := tbm 201 (by decide +kernel) (by decide +kernel)
theorem fl_ord : Cond.fieldLink RX1 172 RX1 "ORDERS" "[I" ∈ TB := tbm 482 (by decide +kernel) (by decide +kernel)
theorem fl_val : Cond.fieldLink RJ0 9 RJ0 "value" "[B" ∈ TB := tbm 927 (by decide +kernel) (by decide +kernel)
theorem fl_cod : Cond.fieldLink RJ0 15 RJ0 "coder" "B" ∈ TB := tbm 928 (by decide +kernel) (by decide +kernel)
theorem ls_cmp : Cond.laysStatic RJ0 "COMPACT_STRINGS" "Z" ∈ lw_tbl := List.mem_of_getElem? (i := 175) (by decide +kernel)
theorem ls_fmt : Cond.laysStatic RJ3 "SIOOBE_FORMATTER" "Ljava/util/function/BiFunction;" ∈ lw_tbl := List.mem_of_getElem? (i := 202) (by decide +kernel)
theorem ls_ord : Cond.laysStatic RX1 "ORDERS" "[I" ∈ lw_tbl := List.mem_of_getElem? (i := 483) (by decide +kernel)
def ordN (j : Nat) : Nat := if j = 0 then 12 else if j = 1 then 21 else if j = 2 then 102 else if j = 3 then 120 else if j = 4 then 201 else 210
def sLen : List Nat := [0, 3, 4, 3, 2]
def sByt : List (List Int32) := [[], [107, 100, 59], [107, 100, 100, 59], [100, 100, 59], [100, 59]]
/-- where the static row lies; where the texts lie, and their bytes -/
abbrev Xt : Type := Nat × (Nat → Nat) × (Nat → Nat)
def XE (X : Xt) (A : Nat → Prop) (U : State) (H : Heap) : Prop :=
  (va_Z RX1 "ORDERS" "[I" (.ref X.1) A U H ∧ va_T .int X.1 6 (fun j => .int (nI (ordN j))) A U H) ∧ vk_S 5 sLen sByt X.2.1 X.2.2 A U H ∧ va_Z RJ0 "COMPACT_STRINGS" "Z" (.int 1) A U H ∧ va_Zq RJ3 "SIOOBE_FORMATTER" "Ljava/util/function/BiFunction;" A U H ∧
  (vk_R RX1 250 "" (X.2.1 0) U ∧ vk_R RX1 263 "kd;" (X.2.1 1) U ∧ vk_R RX1 265 "kdd;" (X.2.1 2) U ∧ vk_R RX1 267 "dd;" (X.2.1 3) U ∧ vk_R RX1 269 "d;" (X.2.1 4) U)
theorem XE.warm {X : Xt} {A : Nat → Prop} {s U : State} {H : Heap} (hW : s.WarmedH U.vm) (h : XE X A s H) : XE X A U H := by
  obtain ⟨⟨a1, a2⟩, a3, a4, a5, r0, r1, r2, r3, r4⟩ := h
  exact ⟨⟨va_Z.moved hW.alike a1, va_T.moved hW.alike a2⟩, vk_S.moved hW.alike a3, va_Z.moved hW.alike a4, va_Zq.moved hW.alike a5, r0.warm hW, r1.warm hW, r2.warm hW, r3.warm hW, r4.warm hW⟩
theorem XE.same {X : Xt} {A : Nat → Prop} {u U : State} {H : Heap} (hv : U.vm = u.vm) (h : XE X A u H) : XE X A U H := by
  have hA : u.vm.Alike U.vm := by rw [hv]; exact Vm.Alike.refl u.vm
  obtain ⟨⟨a1, a2⟩, a3, a4, a5, r0, r1, r2, r3, r4⟩ := h
  exact ⟨⟨va_Z.moved hA a1, va_T.moved hA a2⟩, vk_S.moved hA a3, va_Z.moved hA a4, va_Zq.moved hA a5, r0.same hv, r1.same hv, r2.same hv, r3.same hv, r4.same hv⟩
theorem XE.kept {X : Xt} {A : Nat → Prop} {U : State} {H H1 : Heap} (h : XE X A U H) (hq : ∀ a : Nat, a < H.size → ¬ A a → H1[a]? = H[a]?) : XE X A U H1 :=
  ⟨⟨h.1.1.kept hq, h.1.2.kept hq⟩, h.2.1.kept hq, h.2.2.1.kept hq, h.2.2.2.1.kept hq, h.2.2.2.2⟩
theorem XE.narrow {X : Xt} {A B : Nat → Prop} {U : State} {H : Heap} (h : XE X A U H) (hAB : ∀ q, B q → A q) : XE X B U H :=
  ⟨⟨h.1.1.narrow hAB, h.1.2.narrow hAB⟩, h.2.1.narrow hAB, h.2.2.1.narrow hAB, h.2.2.2.1.narrow hAB, h.2.2.2.2⟩
/-- a contract that rests on them too -/
def Cte (l : Launch) (y : MethodName) (cc : ByteArray) (maxL : Nat) (ret : Option FieldType) (fr lo : Nat) (av : List Value) (G : GT) (w : va_W) (X : Xt) (Qc : Array Value → State → Outcome → State → Prop) : Prop :=
  Met l y (Cond.code y cc maxL ret :: TB) ({ frames := fr, cells := 0, slots := 0, locals := lo }) (va_Pc av (fun U => va_P G.1 vwCl w U.heap ∧ va_K G.1 vwCl [(G.2, .int)] U ∧ va_D (fun _ => True) w ∧ XE X (fA w) U U.heap)) Qc 0 0 (fA w)
abbrev QR (G : GT) (X : Xt) (k : Nat) (w : va_W) : Array Value → State → Outcome → State → Prop := va_Qr (fun _ : Unit => True) (fun _ a t => a = X.2.1 k ∧ va_P G.1 vwCl w t.heap) (fA w)
section EX
variable {p : Program} {l : Launch} {e : Env} {R : Room} {s : State} {m : MethodId} {args : Array Value} {below : List Frame} {meth : Method} {c : Code} {H : Heap} {locs : List Loc} {cells slots : Nat} {Q : State → Prop}
variable {cc : ByteArray} {pc nL : Nat} {ls : Array Slot} {rest : List Value} {own : String} {ret : Option FieldType} {G : GT} {A : Nat → Prop} {w w0 : va_W} {a : Nat} {lv : List (Nat × Value)} {X : Xt}
theorem enE {y : MethodName} {maxL fr lo : Nat} {av : List Value} {Qc : Array Value → State → Outcome → State → Prop} (hy : plainName y.cls = true) (hlen : (lg_sl av).length ≤ maxL)
    (body : ∀ p e s m below meth c ls H locs, Cx p s m av.toArray meth c cc maxL y.cls ret G → XE X (fA w) s s.heap → lv_has ls maxL (lv_args 0 av) → Wd G (fA w) s w H locs → W p l e ({ frames := fr, cells := 0, slots := 0, locals := lo }) s m av.toArray below meth c H locs 0 0 (MQ below Qc av.toArray s 0 0 (fA w)) (F0 m 0 ls [])) : Cte l y cc maxL ret fr lo av G w X Qc := by
  refine Met.ofW (cc := cc) (maxL := maxL) (ret := ret) hy rfl ?_
  intro p e s m args below meth c s₁ B hml hv
  obtain ⟨rfl, hP, hK, hD, hE⟩ := hv
  have hts := atoms_spec B.pre
  rw [lg_entry_eq]
  exact body p e s m below meth c _ s.heap [] ⟨B.exec, B.bytes, hml, findClass_of_methodNamed B.named, fun w h => hts w (List.mem_cons_of_mem _ h), B.returns, B.notSynchronized, hK⟩ hE (lv_entry av hlen) ⟨hP, ⟨hD.1, fun k q h => List.mem_map.mpr ⟨q, List.mem_of_getElem? h, rfl⟩⟩, va_S.rf⟩
theorem pre_blindE {av : List Value} {wc : va_W} : FrameBlind (va_Pc av (fun U => va_P G.1 vwCl wc U.heap ∧ va_K G.1 vwCl [(G.2, .int)] U ∧ va_D (fun _ => True) wc ∧ XE X (fA wc) U U.heap)) := by
  intro a U g mk q
  obtain ⟨q0, qP, qK, qD, qE⟩ := q
  exact ⟨q0, qP, va_K.moved (u := U) (U := U.calling g mk a) (Vm.Alike.refl U.vm) qK, qD, XE.same (u := U) (U := U.calling g mk a) rfl qE⟩
/-- the callee's own part of it -/
theorem xe_sub {wc : va_W} {U : State} (hw : Wd G A s w H locs) (hE : XE X A s s.heap) (hs : ∀ q, fA wc q → A q) (hU : U.heap = H) (hW : s.WarmedH U.vm) : XE X (fA wc) U U.heap := by
  rw [hU]
  exact ((hE.kept hw.2.2.2.1).warm hW).narrow hs
variable {y : MethodName} {bytes : ByteArray} {maxL n index fr lo : Nat} {rt : Option FieldType} {av As st0 : List Value} {wc : va_W} {Qc : Array Value → State → Outcome → State → Prop} {b : Nat}
theorem run_sE (C : Cx p s m args meth c cc nL own ret G) (hw : Wd G A s w H locs) (hE : XE X A s s.heap) (hM : Cte l y bytes maxL rt fr lo av G wc X Qc) (hy : YS y bytes maxL rt n) (hl : Cond.methodLink own index y ∈ TB) (hn : av.length = n) (is : List Nat) (hC : is.map (fun i => w[i]?) = wc.map some) (hnd : va_nd is = true)
    (hR : fr + 1 ≤ R.frames ∧ 8 + (maxL + 11) + lo ≤ R.locals) (hcs : cells ≤ R.cells ∧ slots ≤ R.slots) (hls : ls.size = nL) (hst : st0 = av.reverse ++ rest) (hrm : (rest.map fun v => v.category).sum ≤ 8) (hdg : decode cc pc = .ok (.invokestatic index, 3)) :
    va_Run p l e R s m args below meth c H locs cells slots 0 0 (F0 m pc ls st0) rest (Qc av.toArray) (fA wc) := by
  obtain ⟨hx, hb, hml, hown, hts, hr, hlocks, hK⟩ := id C
  exact va_runS (own := own) ⟨hx, hb, hml, hown, hts⟩ hM ⟨yc_B C hy.1 hl hR, hts _ hy.2⟩ ⟨pre_blindE, fun U hU hW => ⟨rfl, by rw [hU]; exact sub_P hw.1 hC, va_K.moved hW.alike hK, sub_D hw hC hnd, xe_sub hw hE (fA_sub hw hC) hU hW⟩⟩ rfl hn hls hst (lv_room hrm) hdg hcs
theorem run_vE (C : Cx p s m args meth c cc nL own ret G) (hw : Wd G A s w H locs) (hE : XE X A s s.heap) (hM : Cte l y bytes maxL rt fr lo (.ref b :: As) G wc X Qc) (hy : YV y bytes maxL rt n) (hl : Cond.methodLink own index y ∈ TB) (q0 : Nat) {ci : Nat} {T : u_T} {N : Nat} {fs : List Value} (he : w[q0]? = some (b, .inr (ci, fs))) (hcl : vwCl[ci]? = some (y.cls, T, N)) (hn : As.length = n) (is : List Nat) (hC : is.map (fun i => w[i]?) = wc.map some) (hnd : va_nd is = true)
    (hR : fr + 1 ≤ R.frames ∧ 8 + (maxL + 11) + lo ≤ R.locals) (hcs : cells ≤ R.cells ∧ slots ≤ R.slots) (hls : ls.size = nL) (hst : st0 = As.reverse ++ .ref b :: rest) (hrm : (rest.map fun v => v.category).sum ≤ 8) (hdg : decode cc pc = .ok (.invokevirtual index, 3)) :
    va_Run p l e R s m args below meth c H locs cells slots 0 0 (F0 m pc ls st0) rest (Qc (Value.ref b :: As).toArray) (fA wc) := by
  obtain ⟨hx, hb, hml, hown, hts, hr, hlocks, hK⟩ := id C
  exact va_runV (own := own) ⟨hx, hb, hml, hown, hts⟩ hM ⟨yc_B C hy.1 hl hR, hts _ hy.2.1, hts _ hy.2.2⟩ ⟨pre_blindE, va_recv hK hw.1 hcl he, fun U hU hW => ⟨rfl, by rw [hU]; exact sub_P hw.1 hC, va_K.moved hW.alike hK, sub_D hw hC hnd, xe_sub hw hE (fA_sub hw hC) hU hW⟩⟩ rfl hn hls hst (lv_room hrm) hdg hcs
/-- a text's own method -/
theorem run_vT (C : Cx p s m args meth c cc nL own ret G) (hw : Wd G A s w H locs) (hE : XE X A s s.heap) {k : Nat} (hk : k < 5) (hM : Cte l y bytes maxL rt fr lo (.ref (X.2.1 k) :: As) G [] X Qc) (hy : YV y bytes maxL rt n) (hl : Cond.methodLink own index y ∈ TB) (hcl : y.cls = "java/lang/String") (hn : As.length = n)
    (hR : fr + 1 ≤ R.frames ∧ 8 + (maxL + 11) + lo ≤ R.locals) (hcs : cells ≤ R.cells ∧ slots ≤ R.slots) (hls : ls.size = nL) (hst : st0 = As.reverse ++ .ref (X.2.1 k) :: rest) (hrm : (rest.map fun v => v.category).sum ≤ 8) (hdg : decode cc pc = .ok (.invokevirtual index, 3)) :
    va_Run p l e R s m args below meth c H locs cells slots 0 0 (F0 m pc ls st0) rest (Qc (Value.ref (X.2.1 k) :: As).toArray) (fA []) := by
  obtain ⟨hx, hb, hml, hown, hts, hr, hlocks, hK⟩ := id C
  have hC : ([] : List Nat).map (fun i => w[i]?) = ([] : va_W).map some := rfl
  exact va_runV (own := own) ⟨hx, hb, hml, hown, hts⟩ hM ⟨yc_B C hy.1 hl hR, hts _ hy.2.1, hts _ hy.2.2⟩ ⟨pre_blindE, by rw [hcl]; exact vk_recv hE.2.1 hk hw.2.2, fun U hU hW => ⟨rfl, by rw [hU]; exact sub_P hw.1 hC, va_K.moved hW.alike hK, sub_D hw hC rfl, xe_sub hw hE (fA_sub hw hC) hU hW⟩⟩ rfl hn hls hst (lv_room hrm) hdg hcs
theorem go_r {k : Nat} {aa : Array Value} (hw : Wd G A s w H locs) (is : List Nat) (hC : is.map (fun i => w[i]?) = wc.map some)
    (hr : va_Run p l e R s m args below meth c H locs cells slots 0 0 (F0 m pc ls st0) rest (QR G X k wc aa) (fA wc))
    (kk : ∀ (H1 : Heap) (locs1 : List Loc), Wd G A s (mrg w is wc) H1 locs1 → W p l e R s m args below meth c H1 locs1 cells slots Q (F0 m (pc + 3) ls (.ref (X.2.1 k) :: rest))) : W p l e R s m args below meth c H locs cells slots Q (F0 m pc ls st0) :=
  va_callr hr hw.2.2 (fun q _ h => fA_sub hw hC q h) (fA_sub hw hC) (fun u ra t H1 locs1 ht _ _ hB _ hk hS => by
    obtain ⟨rfl, hB2⟩ := hB
    exact kk H1 locs1 (wd_join hw hC rfl hk (ht ▸ hB2) hS))
variable {S : Type} {w' : S → va_W}
theorem eS_i {post : Int32 → S → Prop} (C : Cx p s m args meth c cc nL own ret G) (hE : XE X A s s.heap) (hw : Wd G A s w H locs) (hM : Cte l y bytes maxL rt fr lo av G wc X (QI G wc post w')) (hy : YS y bytes maxL rt n) (hl : Cond.methodLink own index y ∈ TB) (hn : av.length = n) (is : List Nat) (hC : is.map (fun i => w[i]?) = wc.map some) (hnd : va_nd is = true) (hf : ∀ u, (w' u).map Prod.fst = wc.map Prod.fst)
    (hR : fr + 1 ≤ R.frames ∧ 8 + (maxL + 11) + lo ≤ R.locals) (hcs : cells ≤ R.cells ∧ slots ≤ R.slots) (hls : ls.size = nL) (hst : st0 = av.reverse ++ rest) (hrm : (rest.map fun v => v.category).sum ≤ 8) (hdg : decode cc pc = .ok (.invokestatic index, 3))
    (kk : ∀ (r : Int32) (u : S) (H1 : Heap) (locs1 : List Loc), post r u → Wd G A s (mrg w is (w' u)) H1 locs1 → W p l e R s m args below meth c H1 locs1 cells slots Q (F0 m (pc + 3) ls (.int r :: rest))) : W p l e R s m args below meth c H locs cells slots Q (F0 m pc ls st0) := go_i hw is hC hf (run_sE C hw hE hM hy hl hn is hC hnd hR hcs hls hst hrm hdg) kk
theorem eS_v {post : S → Prop} (C : Cx p s m args meth c cc nL own ret G) (hE : XE X A s s.heap) (hw : Wd G A s w H locs) (hM : Cte l y bytes maxL rt fr lo av G wc X (QV G wc post w')) (hy : YS y bytes maxL rt n) (hl : Cond.methodLink own index y ∈ TB) (hn : av.length = n) (is : List Nat) (hC : is.map (fun i => w[i]?) = wc.map some) (hnd : va_nd is = true) (hf : ∀ u, (w' u).map Prod.fst = wc.map Prod.fst)
    (hR : fr + 1 ≤ R.frames ∧ 8 + (maxL + 11) + lo ≤ R.locals) (hcs : cells ≤ R.cells ∧ slots ≤ R.slots) (hls : ls.size = nL) (hst : st0 = av.reverse ++ rest) (hrm : (rest.map fun v => v.category).sum ≤ 8) (hdg : decode cc pc = .ok (.invokestatic index, 3))
    (kk : ∀ (u : S) (H1 : Heap) (locs1 : List Loc), post u → Wd G A s (mrg w is (w' u)) H1 locs1 → W p l e R s m args below meth c H1 locs1 cells slots Q (F0 m (pc + 3) ls rest)) : W p l e R s m args below meth c H locs cells slots Q (F0 m pc ls st0) := go_v hw is hC hf (run_sE C hw hE hM hy hl hn is hC hnd hR hcs hls hst hrm hdg) kk
theorem eV_i {post : Int32 → S → Prop} (C : Cx p s m args meth c cc nL own ret G) (hE : XE X A s s.heap) (hw : Wd G A s w H locs) (hM : Cte l y bytes maxL rt fr lo (.ref b :: As) G wc X (QI G wc post w')) (hy : YV y bytes maxL rt n) (hl : Cond.methodLink own index y ∈ TB) (q0 : Nat) {ci : Nat} {T : u_T} {N : Nat} {fs : List Value} (he : w[q0]? = some (b, .inr (ci, fs))) (hcl : vwCl[ci]? = some (y.cls, T, N)) (hn : As.length = n) (is : List Nat) (hC : is.map (fun i => w[i]?) = wc.map some) (hnd : va_nd is = true) (hf : ∀ u, (w' u).map Prod.fst = wc.map Prod.fst)
    (hR : fr + 1 ≤ R.frames ∧ 8 + (maxL + 11) + lo ≤ R.locals) (hcs : cells ≤ R.cells ∧ slots ≤ R.slots) (hls : ls.size = nL) (hst : st0 = As.reverse ++ .ref b :: rest) (hrm : (rest.map fun v => v.category).sum ≤ 8) (hdg : decode cc pc = .ok (.invokevirtual index, 3))
    (kk : ∀ (r : Int32) (u : S) (H1 : Heap) (locs1 : List Loc), post r u → Wd G A s (mrg w is (w' u)) H1 locs1 → W p l e R s m args below meth c H1 locs1 cells slots Q (F0 m (pc + 3) ls (.int r :: rest))) : W p l e R s m args below meth c H locs cells slots Q (F0 m pc ls st0) := go_i hw is hC hf (run_vE C hw hE hM hy hl q0 he hcl hn is hC hnd hR hcs hls hst hrm hdg) kk
theorem eT_i {post : Int32 → S → Prop} (C : Cx p s m args meth c cc nL own ret G) (hE : XE X A s s.heap) (hw : Wd G A s w H locs) {k : Nat} (hk : k < 5) (hM : Cte l y bytes maxL rt fr lo (.ref (X.2.1 k) :: As) G [] X (QI G [] post (fun _ : S => []))) (hy : YV y bytes maxL rt n) (hl : Cond.methodLink own index y ∈ TB) (hcl : y.cls = "java/lang/String") (hn : As.length = n)
    (hR : fr + 1 ≤ R.frames ∧ 8 + (maxL + 11) + lo ≤ R.locals) (hcs : cells ≤ R.cells ∧ slots ≤ R.slots) (hls : ls.size = nL) (hst : st0 = As.reverse ++ .ref (X.2.1 k) :: rest) (hrm : (rest.map fun v => v.category).sum ≤ 8) (hdg : decode cc pc = .ok (.invokevirtual index, 3))
    (kk : ∀ (r : Int32) (u : S) (H1 : Heap) (locs1 : List Loc), post r u → Wd G A s w H1 locs1 → W p l e R s m args below meth c H1 locs1 cells slots Q (F0 m (pc + 3) ls (.int r :: rest))) : W p l e R s m args below meth c H locs cells slots Q (F0 m pc ls st0) := go_i hw [] rfl (fun _ => rfl) (run_vT C hw hE hk hM hy hl hcl hn hR hcs hls hst hrm hdg) kk
theorem eS_r {k : Nat} (C : Cx p s m args meth c cc nL own ret G) (hE : XE X A s s.heap) (hw : Wd G A s w H locs) (hM : Cte l y bytes maxL rt fr lo av G [] X (QR G X k [])) (hy : YS y bytes maxL rt n) (hl : Cond.methodLink own index y ∈ TB) (hn : av.length = n)
    (hR : fr + 1 ≤ R.frames ∧ 8 + (maxL + 11) + lo ≤ R.locals) (hcs : cells ≤ R.cells ∧ slots ≤ R.slots) (hls : ls.size = nL) (hst : st0 = av.reverse ++ rest) (hrm : (rest.map fun v => v.category).sum ≤ 8) (hdg : decode cc pc = .ok (.invokestatic index, 3))
    (kk : ∀ (H1 : Heap) (locs1 : List Loc), Wd G A s w H1 locs1 → W p l e R s m args below meth c H1 locs1 cells slots Q (F0 m (pc + 3) ls (.ref (X.2.1 k) :: rest))) : W p l e R s m args below meth c H locs cells slots Q (F0 m pc ls st0) := go_r hw [] rfl (run_sE C hw hE hM hy hl hn [] rfl rfl hR hcs hls hst hrm hdg) kk
theorem rt_n {S : Type} {post : Int32 → S → Prop} {w' : S → va_W} {v : Int32} {ty : FieldType} (C : Cx p s m args meth c cc nL own (some ty) G) (hw : Wd G (fA w0) s w H locs) (u : S) (hv : narrow ty (.int v) = .int v) (hp : post v u) (he : w = w' u) (hdg : decode cc pc = .ok (.ireturn, 1)) : W p l e R s m args below meth c H locs 0 0 (MQ below (QI G w0 post w') args s 0 0 (fA w0)) (F0 m pc ls [.int v]) := by
  obtain ⟨hx, hb, -, -, -, hr, hlocks, -⟩ := C
  subst he
  exact W.zret hx hb hr hv (fun t ht _ => ⟨⟨v, u, rfl, hp, by show va_P _ _ _ t.heap; rw [ht]; exact hw.1⟩, hw.2.2.F ht⟩) hw.2.2.2.2 hdg hlocks
theorem rt_r {k : Nat} {n : String} (C : Cx p s m args meth c cc nL own (some (.object n)) G) (hw : Wd G (fA w0) s w0 H locs) (hdg : decode cc pc = .ok (.areturn, 1)) : W p l e R s m args below meth c H locs 0 0 (MQ below (QR G X k w0) args s 0 0 (fA w0)) (F0 m pc ls [.ref (X.2.1 k)]) := by
  obtain ⟨hx, hb, -, -, -, hr, hlocks, -⟩ := C
  exact W.aret hx hb hr (Or.inl ⟨n, rfl⟩) (Or.inr ⟨_, rfl⟩) (fun t ht _ => ⟨⟨(), _, rfl, trivial, rfl, by show va_P _ _ _ t.heap; rw [ht]; exact hw.1⟩, hw.2.2.F ht⟩) hw.2.2.2.2 hdg hlocks
/-- ldc_w of a text -/
theorem va_ldcwT (hexec : p.tables.exec = Jvm.exec) (hb : c.code = cc) {tx : String} {index q : Nat} (hown : s.vm.findClass own = some m.cls) (hZ : vk_R own index tx q s) (hdg : decode cc pc = .ok (.ldc_w index, 3))
    (k : W p l e R s m args below meth c H locs cells slots Q (F0 m (pc + 3) ls (.ref q :: rest))) : W p l e R s m args below meth c H locs cells slots Q (F0 m pc ls rest) := by
  intro T hT X0
  obtain ⟨t, a1, b1⟩ := k T hT X0
  obtain ⟨k0, cf, i, a', hk, hcf, hcp, -, hr, hev'⟩ := Cond.stringRef_spec hown hZ.1
  cases hZ.2.symm.trans hev'
  obtain ⟨k', hk', he⟩ := X0.warmed.alike.2.2 _ _ hk
  have hr' : k'.resolved[index]? = some (some (.string q)) := by
    rcases X0.warmed.entry hk hk' index with h | ⟨h, -⟩
    · rw [h]; exact hr
    · rw [hr] at h; cases h
  have hdg2 : decode c.code (F0 m pc ls rest).pc = .ok (.ldc_w index, 3) := by rw [hb]; exact hdg
  refine ⟨t, ?_, b1⟩
  jvm_step X0.here [hexec, hdg2, Op.ldc_w.wp_string (e := e) (s := T) (f := F0 m pc ls rest) X0.here.top hk' (by rw [he]; exact hcf) hcp hr']
  exact a1
end EX
