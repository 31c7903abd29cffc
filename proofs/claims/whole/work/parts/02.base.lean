-- ===== my layer over the kit: a method's context, its world, its rows =====
abbrev GT : Type := va_G × ClassId
abbrev aI (G : GT) (n : Nat) (f : Nat → Int32) : va_E := .inl (G.2, n, .inl f)
/-- the addresses of a world: what a method may change -/
def fA (w : va_W) : Nat → Prop := fun q => q ∈ w.map Prod.fst
/-- a method's contract: it makes nothing, and works on its world alone -/
def Ct (l : Launch) (y : MethodName) (cc : ByteArray) (maxL : Nat) (ret : Option FieldType) (fr lo : Nat) (av : List Value) (G : GT) (w : va_W) (Qc : Array Value → State → Outcome → State → Prop) : Prop :=
  Met l y (Cond.code y cc maxL ret :: TB) ({ frames := fr, cells := 0, slots := 0, locals := lo }) (va_Pc av (fun U => va_P G.1 vwCl w U.heap ∧ va_K G.1 vwCl [(G.2, .int)] U ∧ va_D (fun _ => True) w)) Qc 0 0 (fA w)
abbrev QI (G : GT) (w : va_W) {S : Type} (post : Int32 → S → Prop) (w' : S → va_W) : Array Value → State → Outcome → State → Prop := va_Qi post (fun u t => va_P G.1 vwCl (w' u) t.heap) (fA w)
abbrev QL (G : GT) (w : va_W) {S : Type} (post : Int64 → S → Prop) (w' : S → va_W) : Array Value → State → Outcome → State → Prop := va_Ql post (fun u t => va_P G.1 vwCl (w' u) t.heap) (fA w)
abbrev QV (G : GT) (w : va_W) {S : Type} (post : S → Prop) (w' : S → va_W) : Array Value → State → Outcome → State → Prop := va_Qv post (fun u t => va_P G.1 vwCl (w' u) t.heap) (fA w)
/-- what holds of the machine in a method's body -/
def Cx (p : Program) (s : State) (m : MethodId) (args : Array Value) (meth : Method) (c : Code) (cc : ByteArray) (nL : Nat) (own : String) (ret : Option FieldType) (G : GT) : Prop :=
  p.tables.exec = Jvm.exec ∧ c.code = cc ∧ c.maxLocals = nL ∧ s.vm.findClass own = some m.cls ∧ (∀ w ∈ TB, w.before args s = true) ∧ meth.sig.returnType = ret ∧ meth.locks = false ∧ va_K G.1 vwCl [(G.2, .int)] s
/-- the world, in the heap -/
def Wd (G : GT) (A : Nat → Prop) (s : State) (w : va_W) (H : Heap) (locs : List Loc) : Prop := va_P G.1 vwCl w H ∧ va_D A w ∧ va_S A s.heap H locs
theorem va_D_fst {A : Nat → Prop} {w w' : va_W} (h : w.map Prod.fst = w'.map Prod.fst) (hD : va_D A w) : va_D A w' := by
  have key : ∀ (k : Nat) (q : Nat × va_E), w'[k]? = some q → ∃ q0, w[k]? = some q0 ∧ q0.1 = q.1 := by
    intro k q hk
    have h1 : (w.map Prod.fst)[k]? = some q.1 := by rw [h, List.getElem?_map, hk]; rfl
    rw [List.getElem?_map] at h1
    cases hw : w[k]? with
    | none => rw [hw] at h1; cases h1
    | some x => rw [hw] at h1; exact ⟨x, rfl, Option.some.inj h1⟩
  refine ⟨fun i j x y hi hj hxy => ?_, fun k q hk => ?_⟩
  · obtain ⟨x0, h1, h2⟩ := key i x hi
    obtain ⟨y0, h3, h4⟩ := key j y hj
    exact hD.1 i j x0 y0 h1 h3 (h2.trans (hxy.trans h4.symm))
  · obtain ⟨q0, h1, h2⟩ := key k q hk
    rw [← h2]
    exact hD.2 k q0 h1
/-- w1's cells at the places is of w -/
def mrg : va_W → List Nat → va_W → va_W
  | w, i :: is, e :: w1 => mrg (w.set i e) is w1
  | w, _, _ => w
theorem mrg_get : ∀ (is : List Nat) (w1 w : va_W), is.length = w1.length → ∀ (k : Nat) (q : Nat × va_E), (mrg w is w1)[k]? = some q → (∃ j : Nat, is[j]? = some k ∧ w1[j]? = some q) ∨ (w[k]? = some q ∧ k ∉ is)
  | [], [], w, _, k, q, h => Or.inr ⟨h, List.not_mem_nil⟩
  | i :: is, e :: w1, w, hl, k, q, h => by
    rcases mrg_get is w1 (w.set i e) (by simpa using hl) k q h with ⟨j, h1, h2⟩ | ⟨h1, h2⟩
    · exact Or.inl ⟨j + 1, by simpa using h1, by simpa using h2⟩
    · by_cases hk : k = i
      · subst hk
        have hlt : k < w.length := by
          have := (List.getElem?_eq_some_iff.mp h1).1
          simpa using this
        rw [List.getElem?_set_self hlt] at h1
        exact Or.inl ⟨0, rfl, by simpa using h1⟩
      · rw [List.getElem?_set_ne (Ne.symm hk)] at h1
        exact Or.inr ⟨h1, fun hm => by
          rcases List.mem_cons.mp hm with h3 | h3
          · exact hk h3
          · exact h2 h3⟩
theorem mrg_fst : ∀ (is : List Nat) (w1 w : va_W), is.map (fun i => (w.map Prod.fst)[i]?) = w1.map (fun q => some q.1) → (mrg w is w1).map Prod.fst = w.map Prod.fst
  | [], [], w, _ => rfl
  | [], _ :: _, w, h => by simp at h
  | _ :: _, [], w, h => by simp at h
  | i :: is, e :: w1, w, h => by
    simp only [List.map_cons, List.cons.injEq] at h
    have hs : (w.set i e).map Prod.fst = w.map Prod.fst := by
      rw [List.map_set]
      refine List.ext_getElem? fun k => ?_
      by_cases hk : k = i
      · subst hk
        have hlt := (List.getElem?_eq_some_iff.mp h.1).1
        rw [List.getElem?_set_self hlt]
        exact h.1.symm
      · rw [List.getElem?_set_ne (Ne.symm hk)]
    have := mrg_fst is w1 (w.set i e) (by rw [hs]; exact h.2)
    exact this.trans hs
section MY
variable {p : Program} {l : Launch} {e : Env} {R : Room} {s : State} {m : MethodId} {args : Array Value} {below : List Frame} {meth : Method} {c : Code} {H : Heap} {locs : List Loc} {cells slots : Nat} {Q : State → Prop}
variable {cc : ByteArray} {pc nL : Nat} {ls : Array Slot} {rest : List Value} {own : String} {ret : Option FieldType} {G : GT} {A : Nat → Prop} {w w0 : va_W} {a : Nat} {lv : List (Nat × Value)}
theorem en {y : MethodName} {maxL fr lo : Nat} {av : List Value} {Qc : Array Value → State → Outcome → State → Prop} (hy : plainName y.cls = true) (hlen : (lg_sl av).length ≤ maxL)
    (body : ∀ p e s m below meth c ls H locs, Cx p s m av.toArray meth c cc maxL y.cls ret G → lv_has ls maxL (lv_args 0 av) → Wd G (fA w) s w H locs → W p l e ({ frames := fr, cells := 0, slots := 0, locals := lo }) s m av.toArray below meth c H locs 0 0 (MQ below Qc av.toArray s 0 0 (fA w)) (F0 m 0 ls [])) : Ct l y cc maxL ret fr lo av G w Qc := by
  refine Met.ofW (cc := cc) (maxL := maxL) (ret := ret) hy rfl ?_
  intro p e s m args below meth c s₁ B hml hv
  obtain ⟨rfl, hP, hK, hD⟩ := hv
  have hts := atoms_spec B.pre
  rw [lg_entry_eq]
  exact body p e s m below meth c _ s.heap [] ⟨B.exec, B.bytes, hml, findClass_of_methodNamed B.named, fun w h => hts w (List.mem_cons_of_mem _ h), B.returns, B.notSynchronized, hK⟩ (lv_entry av hlen) ⟨hP, ⟨hD.1, fun k q h => List.mem_map.mpr ⟨q, List.mem_of_getElem? h, rfl⟩⟩, va_S.rf⟩
/-- another name, another form of what is on top -/
theorem re_i {x : Int32} (y : Int32) (h : x = y) (k : W p l e R s m args below meth c H locs cells slots Q (F0 m pc ls (.int y :: rest))) : W p l e R s m args below meth c H locs cells slots Q (F0 m pc ls (.int x :: rest)) := h ▸ k
theorem re_l {x : Int64} (y : Int64) (h : x = y) (k : W p l e R s m args below meth c H locs cells slots Q (F0 m pc ls (.long y :: rest))) : W p l e R s m args below meth c H locs cells slots Q (F0 m pc ls (.long x :: rest)) := h ▸ k
theorem m_get (C : Cx p s m args meth c cc nL own ret G) (hw : Wd G A s w H locs) (q0 : Nat) {ci k index : Nat} {fs : List Value} (he : w[q0]? = some (a, .inr (ci, fs))) (hf : FK own index ci k) {v : Value} (hv : fs[k]? = some v) (hdg : decode cc pc = .ok (.getfield index, 3))
    (kk : W p l e R s m args below meth c H locs cells slots Q (F0 m (pc + 3) ls (v :: rest))) : W p l e R s m args below meth c H locs cells slots Q (F0 m pc ls (.ref a :: rest)) := by
  obtain ⟨hx, hb, -, hown, hts, -, -, hK⟩ := C
  obtain ⟨⟨Cn, T, N⟩, hc, hk, hin, hl⟩ := hf
  exact va_get hx hb hts hin hown hK hw.1 q0 he hc k hk (hts _ hl) (fun _ h => h) hv hdg kk
theorem m_put (C : Cx p s m args meth c cc nL own ret G) (hw : Wd G A s w H locs) (q0 : Nat) {ci k index : Nat} {fs : List Value} (he : w[q0]? = some (a, .inr (ci, fs))) {Cn : String} {T : u_T} {N : Nat} (hc : vwCl[ci]? = some (Cn, T, N)) (ty0 : Nat → FieldType) (hty : ∀ k, k < N → parseFieldDescriptor (T k).2.2.1 = some (ty0 k)) (hnm : ∀ a, a < N → ∀ b, b < N → a ≠ b → (T a).2.1 ≠ (T b).2.1) (hf : FK own index ci k) (hfin : (T k).2.2.2 = false) {ty : FieldType} (hd : parseFieldDescriptor (T k).2.2.1 = some ty) {v : Value} (hn : narrow ty v = v) (hfit : fits ty v = true) (hlt : k < fs.length) (hdg : decode cc pc = .ok (.putfield index, 3))
    (kk : ∀ (H1 : Heap) (locs1 : List Loc), Wd G A s (w.set q0 (a, .inr (ci, fs.set k v))) H1 locs1 → W p l e R s m args below meth c H1 locs1 cells slots Q (F0 m (pc + 3) ls rest)) : W p l e R s m args below meth c H locs cells slots Q (F0 m pc ls (v :: .ref a :: rest)) := by
  obtain ⟨hx, hb, -, hown, hts, -, -, hK⟩ := C
  obtain ⟨q, hc', hk, hin, hl⟩ := hf
  have hq : q = (Cn, T, N) := Option.some.inj (hc'.symm.trans hc)
  subst hq
  exact va_put hx hb hts hin ty0 hty hnm hown hK hw.1 hw.2.1 hw.2.2 q0 he hc k hk (hts _ hl) (fun _ h => h) hfin hd hn hfit hlt hdg (fun H1 locs1 h1 h2 h3 => kk H1 locs1 ⟨h1, h2, h3⟩)
theorem m_ald (C : Cx p s m args meth c cc nL own ret G) (hw : Wd G A s w H locs) (q0 : Nat) {n : Nat} {f : Nat → Int32} (he : w[q0]? = some (a, aI G n f)) (k : Nat) {i : Int32} (hi : i = nI k) (hk : k < n) (hn : n < 2147483648) (hdg : decode cc pc = .ok (.iaload, 1))
    (kk : W p l e R s m args below meth c H locs cells slots Q (F0 m (pc + 1) ls (.int (f k) :: rest))) : W p l e R s m args below meth c H locs cells slots Q (F0 m pc ls (.int i :: .ref a :: rest)) := by
  obtain ⟨hx, hb, -, -, -, -, -, hK⟩ := C
  subst hi
  refine va_iald hx hb hK hw.1 q0 0 he rfl (vp_in_nI hk hn) hdg ?_
  rw [nI_clamp (Nat.lt_trans hk hn)]
  exact kk
theorem m_ast (C : Cx p s m args meth c cc nL own ret G) (hw : Wd G A s w H locs) (q0 : Nat) {n : Nat} {f : Nat → Int32} (he : w[q0]? = some (a, aI G n f)) (k : Nat) {i x : Int32} (hi : i = nI k) (hk : k < n) (hn : n < 2147483648) (f' : Nat → Int32) (hf : upd f k x = f') (hdg : decode cc pc = .ok (.iastore, 1))
    (kk : ∀ (H1 : Heap) (locs1 : List Loc), Wd G A s (w.set q0 (a, aI G n f')) H1 locs1 → W p l e R s m args below meth c H1 locs1 cells slots Q (F0 m (pc + 1) ls rest)) : W p l e R s m args below meth c H locs cells slots Q (F0 m pc ls (.int x :: .int i :: .ref a :: rest)) := by
  obtain ⟨hx, hb, -, -, -, -, -, hK⟩ := C
  subst hi; subst hf
  refine va_iast hx hb hK hw.1 hw.2.1 hw.2.2 q0 0 he rfl (vp_in_nI hk hn) hdg (fun H1 locs1 h1 h2 h3 => ?_)
  rw [nI_clamp (Nat.lt_trans hk hn)] at h1 h2
  exact kk H1 locs1 ⟨h1, h2, h3⟩
theorem m_len (C : Cx p s m args meth c cc nL own ret G) (hw : Wd G A s w H locs) (q0 : Nat) {n : Nat} {f : Nat → Int32} (he : w[q0]? = some (a, aI G n f)) (hdg : decode cc pc = .ok (.arraylength, 1))
    (kk : W p l e R s m args below meth c H locs cells slots Q (F0 m (pc + 1) ls (.int (nI n) :: rest))) : W p l e R s m args below meth c H locs cells slots Q (F0 m pc ls (.ref a :: rest)) := by
  obtain ⟨hx, hb, -, -, -, -, -, hK⟩ := C
  exact va_alen hx hb hK hw.1 q0 0 he rfl rfl hdg kk
theorem m_ldc (C : Cx p s m args meth c cc nL own ret G) {index : Nat} {v : Int32} (h : Cond.constant own index v ∈ TB) (hdg : decode cc pc = .ok (.ldc index, 2)) (k : W p l e R s m args below meth c H locs cells slots Q (F0 m (pc + 2) ls (.int v :: rest))) : W p l e R s m args below meth c H locs cells slots Q (F0 m pc ls rest) :=
  lv_ldc C.1 C.2.1 C.2.2.2.1 (C.2.2.2.2.1 _ h) hdg k
theorem m_ldcw (C : Cx p s m args meth c cc nL own ret G) {index : Nat} {v : Int32} (h : Cond.constant own index v ∈ TB) (hdg : decode cc pc = .ok (.ldc_w index, 3)) (k : W p l e R s m args below meth c H locs cells slots Q (F0 m (pc + 3) ls (.int v :: rest))) : W p l e R s m args below meth c H locs cells slots Q (F0 m pc ls rest) :=
  lv_ldcw C.1 C.2.1 C.2.2.2.1 (C.2.2.2.2.1 _ h) hdg k
theorem m_ldc2 (C : Cx p s m args meth c cc nL own ret G) {index : Nat} {v : Int64} (h : Cond.constantLong own index v ∈ TB) (hdg : decode cc pc = .ok (.ldc2_w index, 3)) (k : W p l e R s m args below meth c H locs cells slots Q (F0 m (pc + 3) ls (.long v :: rest))) : W p l e R s m args below meth c H locs cells slots Q (F0 m pc ls rest) :=
  lv_ldc2 C.1 C.2.1 C.2.2.2.1 (C.2.2.2.2.1 _ h) hdg k
/-- the ends -/
theorem rt_i {S : Type} {post : Int32 → S → Prop} {w' : S → va_W} {v : Int32} (C : Cx p s m args meth c cc nL own (some .int) G) (hw : Wd G (fA w0) s w H locs) (u : S) (hp : post v u) (he : w = w' u) (hdg : decode cc pc = .ok (.ireturn, 1)) : W p l e R s m args below meth c H locs 0 0 (MQ below (QI G w0 post w') args s 0 0 (fA w0)) (F0 m pc ls [.int v]) := by
  obtain ⟨hx, hb, -, -, -, hr, hlocks, -⟩ := C
  subst he
  exact W.iret hx hb hr (fun t ht _ => ⟨⟨v, u, rfl, hp, by show va_P _ _ _ t.heap; rw [ht]; exact hw.1⟩, hw.2.2.F ht⟩) hw.2.2.2.2 hdg hlocks
theorem rt_z {S : Type} {post : Int32 → S → Prop} {w' : S → va_W} {v : Int32} (C : Cx p s m args meth c cc nL own (some .boolean) G) (hw : Wd G (fA w0) s w H locs) (u : S) (hv : v = 0 ∨ v = 1) (hp : post v u) (he : w = w' u) (hdg : decode cc pc = .ok (.ireturn, 1)) : W p l e R s m args below meth c H locs 0 0 (MQ below (QI G w0 post w') args s 0 0 (fA w0)) (F0 m pc ls [.int v]) := by
  obtain ⟨hx, hb, -, -, -, hr, hlocks, -⟩ := C
  subst he
  exact W.zret hx hb hr (by rcases hv with h | h <;> subst h <;> rfl) (fun t ht _ => ⟨⟨v, u, rfl, hp, by show va_P _ _ _ t.heap; rw [ht]; exact hw.1⟩, hw.2.2.F ht⟩) hw.2.2.2.2 hdg hlocks
theorem rt_v {S : Type} {post : S → Prop} {w' : S → va_W} (C : Cx p s m args meth c cc nL own none G) (hw : Wd G (fA w0) s w H locs) (u : S) (hp : post u) (he : w = w' u) (hdg : decode cc pc = .ok (.return_, 1)) : W p l e R s m args below meth c H locs 0 0 (MQ below (QV G w0 post w') args s 0 0 (fA w0)) (F0 m pc ls []) := by
  obtain ⟨hx, hb, -, -, -, hr, hlocks, -⟩ := C
  subst he
  exact W.vret hx hb hr (fun t ht _ => ⟨⟨u, rfl, hp, by show va_P _ _ _ t.heap; rw [ht]; exact hw.1⟩, hw.2.2.F ht⟩) hw.2.2.2.2 hdg hlocks
theorem rt_l {S : Type} {post : Int64 → S → Prop} {w' : S → va_W} {v : Int64} (C : Cx p s m args meth c cc nL own (some .long) G) (hw : Wd G (fA w0) s w H locs) (u : S) (hp : post v u) (he : w = w' u) (hdg : decode cc pc = .ok (.lreturn, 1)) : W p l e R s m args below meth c H locs 0 0 (MQ below (QL G w0 post w') args s 0 0 (fA w0)) (F0 m pc ls [.long v]) := by
  obtain ⟨hx, hb, -, -, -, hr, hlocks, -⟩ := C
  subst he
  exact W.lret hx hb hr (fun t ht _ => ⟨⟨v, u, rfl, hp, by show va_P _ _ _ t.heap; rw [ht]; exact hw.1⟩, hw.2.2.F ht⟩) hw.2.2.2.2 hdg hlocks
/-- the calls: what is asked of the caller -/
theorem pre_blind {av : List Value} {wc : va_W} : FrameBlind (va_Pc av (fun U => va_P G.1 vwCl wc U.heap ∧ va_K G.1 vwCl [(G.2, .int)] U ∧ va_D (fun _ => True) wc)) := by
  intro a U g mk q
  obtain ⟨q0, qP, qK, qD⟩ := q
  exact ⟨q0, qP, va_K.moved (u := U) (U := U.calling g mk a) (Vm.Alike.refl U.vm) qK, qD⟩
theorem sub_P {is : List Nat} {wc : va_W} {cl : List vw_C} {D : va_G} (hP : va_P D cl w H) (hC : is.map (fun i => w[i]?) = wc.map some) : va_P D cl wc H := by
  intro k q hk
  have h1 : (is.map (fun i => w[i]?))[k]? = some (some q) := by rw [hC, List.getElem?_map, hk]; rfl
  rw [List.getElem?_map] at h1
  cases hi : is[k]? with
  | none => rw [hi] at h1; cases h1
  | some i => rw [hi] at h1; exact hP i q (Option.some.inj h1)
/-- behind a call: the world with the callee's cells as they came back -/
theorem wd_join {is : List Nat} {wc w1 : va_W} {H1 : Heap} {locs1 : List Loc} (hw : Wd G A s w H locs) (hC : is.map (fun i => w[i]?) = wc.map some) (hf : w1.map Prod.fst = wc.map Prod.fst)
    (hk : ∀ q : Nat, q < H.size → ¬ fA wc q → H1[q]? = H[q]?) (hP1 : va_P G.1 vwCl w1 H1) (hS : va_S A s.heap H1 locs1) : Wd G A s (mrg w is w1) H1 locs1 := by
  have hlen : is.length = w1.length := by
    have h1 := congrArg List.length hC
    have h2 := congrArg List.length hf
    simp only [List.length_map] at h1 h2
    omega
  have hidx : is.map (fun i => (w.map Prod.fst)[i]?) = w1.map (fun q => some q.1) := by
    have h1 : w1.map (fun q => some q.1) = (w1.map Prod.fst).map some := by rw [List.map_map]; rfl
    rw [h1, hf]
    have h2 : is.map (fun i => (w.map Prod.fst)[i]?) = (is.map (fun i => w[i]?)).map (Option.map Prod.fst) := by
      rw [List.map_map]
      refine List.map_congr_left fun i _ => ?_
      simp [List.getElem?_map]
    rw [h2, hC, List.map_map, List.map_map]
    rfl
  refine ⟨fun k q hq => ?_, va_D_fst (mrg_fst is w1 w hidx).symm hw.2.1, hS⟩
  rcases mrg_get is w1 w hlen k q hq with ⟨j, -, h2⟩ | ⟨h1, h2⟩
  · exact hP1 j q h2
  · refine (hw.1 k q h1).kept (hk q.1 (hw.1 k q h1).lt (fun hm => ?_))
    obtain ⟨q2, hq2, he⟩ := List.mem_map.mp hm
    obtain ⟨k2, hk2⟩ := List.getElem?_of_mem hq2
    have h3 : (is.map (fun i => w[i]?))[k2]? = some (some q2) := by rw [hC, List.getElem?_map, hk2]; rfl
    rw [List.getElem?_map] at h3
    cases hi : is[k2]? with
    | none => rw [hi] at h3; cases h3
    | some i =>
      rw [hi] at h3
      have hki : k = i := hw.2.1.1 k i q q2 h1 (Option.some.inj h3) he.symm
      exact h2 (by rw [hki]; exact List.mem_of_getElem? hi)
theorem fA_sub {is : List Nat} {wc : va_W} (hw : Wd G A s w H locs) (hC : is.map (fun i => w[i]?) = wc.map some) : ∀ q, fA wc q → A q := by
  intro q hm
  obtain ⟨q2, hq2, he⟩ := List.mem_map.mp hm
  obtain ⟨k2, hk2⟩ := List.getElem?_of_mem hq2
  have h3 : (is.map (fun i => w[i]?))[k2]? = some (some q2) := by rw [hC, List.getElem?_map, hk2]; rfl
  rw [List.getElem?_map] at h3
  cases hi : is[k2]? with
  | none => rw [hi] at h3; cases h3
  | some i => rw [hi] at h3; rw [← he]; exact hw.2.1.2 i q2 (Option.some.inj h3)
theorem sub_D {is : List Nat} {wc : va_W} (hw : Wd G A s w H locs) (hC : is.map (fun i => w[i]?) = wc.map some) (hnd : va_nd is = true) : va_D (fun _ => True) wc := (hw.2.1.sub is hnd hC).weaken (fun _ _ _ _ => trivial)
variable {y : MethodName} {bytes : ByteArray} {maxL n index fr lo : Nat} {rt : Option FieldType} {av As st0 : List Value} {wc : va_W} {Qc : Array Value → State → Outcome → State → Prop} {b : Nat}
theorem yc_B (C : Cx p s m args meth c cc nL own ret G) (hy : YC y bytes maxL rt n) (hl : Cond.methodLink own index y ∈ TB) (hR : fr + 1 ≤ R.frames ∧ 8 + (maxL + 11) + lo ≤ R.locals) :
    CallB R s args own index y bytes maxL rt (Cond.code y bytes maxL rt :: TB) ({ frames := fr, cells := 0, slots := 0, locals := lo }) 0 0 n := by
  obtain ⟨-, -, -, -, hts, -, -, -⟩ := C
  obtain ⟨h1, h2, h3⟩ := hy
  refine callB_of n hts (fun x hx => ?_) rfl rfl rfl (hts _ h2) (hts _ hl) h3 hR
  rcases List.mem_cons.mp hx with h | h
  · rw [h]; exact ⟨h1, good_of_word (tb_good _ h1)⟩
  · exact ⟨h, good_of_word (tb_good _ h)⟩
theorem run_s (C : Cx p s m args meth c cc nL own ret G) (hw : Wd G A s w H locs) (hM : Ct l y bytes maxL rt fr lo av G wc Qc) (hy : YS y bytes maxL rt n) (hl : Cond.methodLink own index y ∈ TB) (hn : av.length = n) (is : List Nat) (hC : is.map (fun i => w[i]?) = wc.map some) (hnd : va_nd is = true)
    (hR : fr + 1 ≤ R.frames ∧ 8 + (maxL + 11) + lo ≤ R.locals) (hcs : cells ≤ R.cells ∧ slots ≤ R.slots) (hls : ls.size = nL) (hst : st0 = av.reverse ++ rest) (hrm : (rest.map fun v => v.category).sum ≤ 8) (hdg : decode cc pc = .ok (.invokestatic index, 3)) :
    va_Run p l e R s m args below meth c H locs cells slots 0 0 (F0 m pc ls st0) rest (Qc av.toArray) (fA wc) := by
  obtain ⟨hx, hb, hml, hown, hts, hr, hlocks, hK⟩ := id C
  exact va_runS (own := own) ⟨hx, hb, hml, hown, hts⟩ hM ⟨yc_B C hy.1 hl hR, hts _ hy.2⟩ ⟨pre_blind, fun U hU hW => ⟨rfl, by rw [hU]; exact sub_P hw.1 hC, va_K.moved hW.alike hK, sub_D hw hC hnd⟩⟩ rfl hn hls hst (lv_room hrm) hdg hcs
theorem run_v (C : Cx p s m args meth c cc nL own ret G) (hw : Wd G A s w H locs) (hM : Ct l y bytes maxL rt fr lo (.ref b :: As) G wc Qc) (hy : YV y bytes maxL rt n) (hl : Cond.methodLink own index y ∈ TB) (q0 : Nat) {ci : Nat} {T : u_T} {N : Nat} {fs : List Value} (he : w[q0]? = some (b, .inr (ci, fs))) (hcl : vwCl[ci]? = some (y.cls, T, N)) (hn : As.length = n) (is : List Nat) (hC : is.map (fun i => w[i]?) = wc.map some) (hnd : va_nd is = true)
    (hR : fr + 1 ≤ R.frames ∧ 8 + (maxL + 11) + lo ≤ R.locals) (hcs : cells ≤ R.cells ∧ slots ≤ R.slots) (hls : ls.size = nL) (hst : st0 = As.reverse ++ .ref b :: rest) (hrm : (rest.map fun v => v.category).sum ≤ 8) (hdg : decode cc pc = .ok (.invokevirtual index, 3)) :
    va_Run p l e R s m args below meth c H locs cells slots 0 0 (F0 m pc ls st0) rest (Qc (Value.ref b :: As).toArray) (fA wc) := by
  obtain ⟨hx, hb, hml, hown, hts, hr, hlocks, hK⟩ := id C
  exact va_runV (own := own) ⟨hx, hb, hml, hown, hts⟩ hM ⟨yc_B C hy.1 hl hR, hts _ hy.2.1, hts _ hy.2.2⟩ ⟨pre_blind, va_recv hK hw.1 hcl he, fun U hU hW => ⟨rfl, by rw [hU]; exact sub_P hw.1 hC, va_K.moved hW.alike hK, sub_D hw hC hnd⟩⟩ rfl hn hls hst (lv_room hrm) hdg hcs
/-- what comes behind a call, by what it answers -/
theorem go_i {S : Type} {post : Int32 → S → Prop} {w' : S → va_W} {aa : Array Value} (hw : Wd G A s w H locs) (is : List Nat) (hC : is.map (fun i => w[i]?) = wc.map some) (hf : ∀ u, (w' u).map Prod.fst = wc.map Prod.fst)
    (hr : va_Run p l e R s m args below meth c H locs cells slots 0 0 (F0 m pc ls st0) rest (QI G wc post w' aa) (fA wc))
    (kk : ∀ (r : Int32) (u : S) (H1 : Heap) (locs1 : List Loc), post r u → Wd G A s (mrg w is (w' u)) H1 locs1 → W p l e R s m args below meth c H1 locs1 cells slots Q (F0 m (pc + 3) ls (.int r :: rest))) : W p l e R s m args below meth c H locs cells slots Q (F0 m pc ls st0) :=
  va_calli hr hw.2.2 (fun q _ h => fA_sub hw hC q h) (fA_sub hw hC) (fun r u t H1 locs1 ht _ hp hB _ hk hS => kk r u H1 locs1 hp (wd_join hw hC (hf u) hk (ht ▸ hB) hS))
theorem go_l {S : Type} {post : Int64 → S → Prop} {w' : S → va_W} {aa : Array Value} (hw : Wd G A s w H locs) (is : List Nat) (hC : is.map (fun i => w[i]?) = wc.map some) (hf : ∀ u, (w' u).map Prod.fst = wc.map Prod.fst)
    (hr : va_Run p l e R s m args below meth c H locs cells slots 0 0 (F0 m pc ls st0) rest (QL G wc post w' aa) (fA wc))
    (kk : ∀ (r : Int64) (u : S) (H1 : Heap) (locs1 : List Loc), post r u → Wd G A s (mrg w is (w' u)) H1 locs1 → W p l e R s m args below meth c H1 locs1 cells slots Q (F0 m (pc + 3) ls (.long r :: rest))) : W p l e R s m args below meth c H locs cells slots Q (F0 m pc ls st0) :=
  va_calll hr hw.2.2 (fun q _ h => fA_sub hw hC q h) (fA_sub hw hC) (fun r u t H1 locs1 ht _ hp hB _ hk hS => kk r u H1 locs1 hp (wd_join hw hC (hf u) hk (ht ▸ hB) hS))
theorem go_v {S : Type} {post : S → Prop} {w' : S → va_W} {aa : Array Value} (hw : Wd G A s w H locs) (is : List Nat) (hC : is.map (fun i => w[i]?) = wc.map some) (hf : ∀ u, (w' u).map Prod.fst = wc.map Prod.fst)
    (hr : va_Run p l e R s m args below meth c H locs cells slots 0 0 (F0 m pc ls st0) rest (QV G wc post w' aa) (fA wc))
    (kk : ∀ (u : S) (H1 : Heap) (locs1 : List Loc), post u → Wd G A s (mrg w is (w' u)) H1 locs1 → W p l e R s m args below meth c H1 locs1 cells slots Q (F0 m (pc + 3) ls rest)) : W p l e R s m args below meth c H locs cells slots Q (F0 m pc ls st0) :=
  va_callv hr hw.2.2 (fun q _ h => fA_sub hw hC q h) (fA_sub hw hC) (fun u t H1 locs1 ht _ hp hB _ hk hS => kk u H1 locs1 hp (wd_join hw hC (hf u) hk (ht ▸ hB) hS))
end MY
