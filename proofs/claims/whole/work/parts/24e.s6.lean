theorem oi_ac : Cond.arrayClass (newarray.typeOf .int) ∈ TB := tbm 107 (by decide +kernel) (by decide +kernel)
theorem oi_in : Cond.instanceMethod Lib.objectInit ∈ TB := tbm 62 (by decide +kernel) (by decide +kernel)
theorem oi_co : Cond.code Lib.objectInit ⟨#[0xb1]⟩ 1 none ∈ TB := tbm 63 (by decide +kernel) (by decide +kernel)
theorem oi_X0 : Cond.methodLink RX0 3 Lib.objectInit ∈ TB := tbm 69 (by decide +kernel) (by decide +kernel)
theorem oi_X1 : Cond.methodLink RX1 1 Lib.objectInit ∈ TB := tbm 61 (by decide +kernel) (by decide +kernel)
theorem oi_X2 : Cond.methodLink RX2 1 Lib.objectInit ∈ TB := tbm 606 (by decide +kernel) (by decide +kernel)
/-- what a maker may change: its world, and what it makes -/
def nA (w : va_W) (sz : Nat) : Nat → Prop := fun q => q ∈ w.map Prod.fst ∨ sz ≤ q
def Nt (l : Launch) (y : MethodName) (cc : ByteArray) (maxL : Nat) (fr lo nc ns : Nat) (av : List Value) (G : GT) (sz : Nat) (w : va_W) (Qc : Array Value → State → Outcome → State → Prop) : Prop :=
  Met l y (Cond.code y cc maxL none :: TB) ({ frames := fr, cells := nc, slots := ns, locals := lo }) (va_Pc av (fun U => U.heap.size = sz ∧ va_P G.1 vwCl w U.heap ∧ va_K G.1 vwCl [(G.2, .int)] U ∧ va_D (fun _ => True) w)) Qc nc ns (nA w sz)
abbrev QN (G : GT) (sz : Nat) (w : va_W) {S : Type} (w' : S → va_W) : Array Value → State → Outcome → State → Prop := va_Qv (fun _ : S => True) (fun u t => va_P G.1 vwCl (w' u) t.heap ∧ va_D (nA w sz) (w' u)) (nA w sz)
section NW
variable {p : Program} {l : Launch} {e : Env} {R : Room} {s : State} {m : MethodId} {args : Array Value} {below : List Frame} {meth : Method} {c : Code} {H : Heap} {locs : List Loc} {cells slots : Nat} {Q : State → Prop}
variable {cc : ByteArray} {pc nL : Nat} {ls : Array Slot} {rest : List Value} {own : String} {ret : Option FieldType} {G : GT} {A : Nat → Prop} {w w0 : va_W} {a : Nat} {lv : List (Nat × Value)}
theorem enN {y : MethodName} {maxL fr lo nc ns sz : Nat} {av : List Value} {Qc : Array Value → State → Outcome → State → Prop} (hy : plainName y.cls = true) (hlen : (lg_sl av).length ≤ maxL)
    (body : ∀ p e s m below meth c ls H locs, Cx p s m av.toArray meth c cc maxL y.cls none G → meth.name = y.name → s.heap.size = sz → lv_has ls maxL (lv_args 0 av) → Wd G (nA w sz) s w H locs → W p l e ({ frames := fr, cells := nc, slots := ns, locals := lo }) s m av.toArray below meth c H locs 0 0 (MQ below Qc av.toArray s nc ns (nA w sz)) (F0 m 0 ls [])) : Nt l y cc maxL fr lo nc ns av G sz w Qc := by
  refine Met.ofW (cc := cc) (maxL := maxL) (ret := none) hy rfl ?_
  intro p e s m args below meth c s₁ B hml hv
  obtain ⟨rfl, hsz, hP, hK, hD⟩ := hv
  have hts := atoms_spec B.pre
  rw [lg_entry_eq]
  exact body p e s m below meth c _ s.heap [] ⟨B.exec, B.bytes, hml, findClass_of_methodNamed B.named, fun w h => hts w (List.mem_cons_of_mem _ h), B.returns, B.notSynchronized, hK⟩ (name_of_methodNamed B.named B.method).1 hsz (lv_entry av hlen) ⟨hP, ⟨hD.1, fun k q h => Or.inl (List.mem_map.mpr ⟨q, List.mem_of_getElem? h, rfl⟩)⟩, va_S.rf⟩
theorem m_newa (C : Cx p s m args meth c cc nL own ret G) (hw : Wd G A s w H locs) (hA : ∀ q, s.heap.size ≤ q → A q) {n : Nat} {k : Int32} (hk : k = nI n) (hn : n ≤ 100) (hc : cells + 1 ≤ R.cells) (hs : slots + n ≤ R.slots) (hdg : decode cc pc = .ok (.newarray .int, 2))
    (kk : ∀ (q : Nat) (H1 : Heap), Wd G A s (w ++ [(q, aI G n (fun _ => 0))]) H1 locs → W p l e R s m args below meth c H1 locs (cells + 1) (slots + n) Q (F0 m (pc + 2) ls (.ref q :: rest))) : W p l e R s m args below meth c H locs cells slots Q (F0 m pc ls (.int k :: rest)) := by
  obtain ⟨hx, hb, -, -, hts, -, -, hK⟩ := C
  subst hk
  have en : (nI n).toNatClampNeg = n := nI_clamp (by omega)
  have hneg : ¬ nI n < 0 := by
    intro z
    have := Int32.lt_iff_toInt_lt.mp z
    rw [tN (by omega)] at this
    have z0 : (0 : Int32).toInt = 0 := rfl
    omega
  refine va_newa hx hb (atype := .int) (hts _ oi_ac) (ty := .int) rfl hK hw.1 hw.2.1 hw.2.2 hA (N' := n) (a0 := (n, .inl (fun _ => 0))) (fun cA => rfl) hneg en (by show n * 4 ≤ 536870912; omega) hc hs hdg (fun q cA H1 k1 k2 k3 k4 => ?_)
  have e1 : s.vm.findClass ("[" ++ (FieldType.int).toString) = some cA := (k1.2 1 (cA, .int) rfl).2
  have e2 : s.vm.findClass ("[" ++ (FieldType.int).toString) = some G.2 := (hK.2 0 (G.2, .int) rfl).2
  have e : cA = G.2 := Option.some.inj (e1.symm.trans e2)
  rw [e] at k2 k3
  exact kk q H1 ⟨k2, k3, k4⟩
theorem m_obj0 (C : Cx p s m args meth c cc nL own ret G) {index : Nat} (hl : Cond.methodLink own index Lib.objectInit ∈ TB) (hsz : ls.size = nL) (hf : 1 ≤ R.frames) (hlo : (rest.map fun v => v.category).sum + 12 ≤ R.locals) (hdg : decode cc pc = .ok (.invokespecial index, 3))
    (kk : W p l e R s m args below meth c H locs cells slots Q (F0 m (pc + 3) ls rest)) : W p l e R s m args below meth c H locs cells slots Q (F0 m pc ls (.ref a :: rest)) := by
  obtain ⟨hx, hb, hml, hown, hts, -, -, -⟩ := C
  exact W.objInit hx hb hown (hts _ hl) (hts _ oi_in) (hts _ oi_co) rfl (hsz.trans hml.symm) rfl hdg hf (by show 2 * 0 + _ + 12 ≤ _; omega) kk
theorem m_putF (C : Cx p s m args meth c cc nL own ret G) (hw : Wd G A s w H locs) (hin2 : meth.name = "<init>") (q0 : Nat) {ci k index : Nat} {fs : List Value} (he : w[q0]? = some (a, .inr (ci, fs))) {Cn : String} {T : u_T} {N : Nat} (hc : vwCl[ci]? = some (Cn, T, N)) (ty0 : Nat → FieldType) (hty : ∀ k, k < N → parseFieldDescriptor (T k).2.2.1 = some (ty0 k)) (hnm : ∀ a, a < N → ∀ b, b < N → a ≠ b → (T a).2.1 ≠ (T b).2.1) (hf : FK own index ci k) (hfin : (T k).2.2.2 = true) (hdecl : (T k).1 = own) {ty : FieldType} (hd : parseFieldDescriptor (T k).2.2.1 = some ty) {v : Value} (hn : narrow ty v = v) (hfit : fits ty v = true) (hlt : k < fs.length) (hdg : decode cc pc = .ok (.putfield index, 3))
    (kk : ∀ (H1 : Heap) (locs1 : List Loc), Wd G A s (w.set q0 (a, .inr (ci, fs.set k v))) H1 locs1 → W p l e R s m args below meth c H1 locs1 cells slots Q (F0 m (pc + 3) ls rest)) : W p l e R s m args below meth c H locs cells slots Q (F0 m pc ls (v :: .ref a :: rest)) := by
  obtain ⟨hx, hb, -, hown, hts, -, -, hK⟩ := C
  obtain ⟨q, hc', hk, hin, hl⟩ := hf
  have hq : q = (Cn, T, N) := Option.some.inj (hc'.symm.trans hc)
  subst hq
  exact va_putF hx hb hts hin ty0 hty hnm hown hK hw.1 hw.2.1 hw.2.2 q0 he hc k hk (hts _ hl) (fun _ h => h) hfin hin2 hdecl hd hn hfit hlt hdg (fun H1 locs1 h1 h2 h3 => kk H1 locs1 ⟨h1, h2, h3⟩)
theorem rtN {S : Type} {w' : S → va_W} {sz : Nat} (C : Cx p s m args meth c cc nL own none G) (hw : Wd G (nA w0 sz) s w H locs) (u : S) (he : w = w' u) (hdg : decode cc pc = .ok (.return_, 1)) : W p l e R s m args below meth c H locs cells slots (MQ below (QN G sz w0 w') args s cells slots (nA w0 sz)) (F0 m pc ls []) := by
  obtain ⟨hx, hb, -, -, -, hr, hlocks, -⟩ := C
  subst he
  exact W.vret hx hb hr (fun t ht _ => ⟨⟨u, rfl, trivial, by rw [ht]; exact hw.1, hw.2.1⟩, hw.2.2.F ht⟩) hw.2.2.2.2 hdg hlocks
end NW
abbrev nX2w (h0 : Nat) : va_W := [(h0, .inr (2, [.null, .null, .null, .null, .int 0, .null, .null, .null, .int 0, .int 0, .int 0, .null, .int 0]))]
abbrev nX2u (G : GT) (h0 : Nat) (u : Nat × Nat × Nat × Nat × Nat × Nat × Nat × Nat) : va_W := [(h0, .inr (2, [.ref u.1, .ref u.2.1, .ref u.2.2.1, .ref u.2.2.2.1, .int 0, .ref u.2.2.2.2.1, .ref u.2.2.2.2.2.1, .ref u.2.2.2.2.2.2.1, .int 0, .int 0, .int 0, .ref u.2.2.2.2.2.2.2, .int 0])), (u.1, aI G 54 (upd (fun _ => 0) 2 (nI 1))), (u.2.1, aI G 54 (fun _ => 0)), (u.2.2.1, aI G 54 (fun _ => 0)), (u.2.2.2.1, aI G 54 (fun _ => 0)), (u.2.2.2.2.1, aI G 96 (fun _ => 0)), (u.2.2.2.2.2.1, aI G 16 (fun _ => 0)), (u.2.2.2.2.2.2.1, aI G 7 (fun _ => 0)), (u.2.2.2.2.2.2.2, aI G 3 (fun _ => 0))]
set_option maxRecDepth 100000 in
set_option maxHeartbeats 4000000 in
theorem kX2_init (l : Launch) (G : GT) (h0 sz : Nat) : Nt l yX2_init cX2_init 1 1 12 8 338 [.ref h0] G sz (nX2w h0) (QN G sz (nX2w h0) (nX2u G h0)) := by
  refine enN (by decide +kernel) (Nat.le_of_ble_eq_true rfl) ?_
  intro p e s m below meth c ls H locs C hin hsz hl hw
  have xx := C.1
  have xb := C.2.1
  subst hsz
  generalize hs : s.heap.size = sz at *
  have hA : ∀ q, s.heap.size ≤ q → nA [(h0, .inr (2, [.null, .null, .null, .null, .int 0, .null, .null, .null, .int 0, .int 0, .int 0, .null, .int 0]))] sz q := fun q h => Or.inr (hs ▸ h)
  have hl : lv_has ls 1 [(0, .ref h0)] := hl
  have hw : Wd G (nA [(h0, .inr (2, [.null, .null, .null, .null, .int 0, .null, .null, .null, .int 0, .int 0, .int 0, .null, .int 0]))] sz) s [(h0, .inr (2, [.null, .null, .null, .null, .int 0, .null, .null, .null, .int 0, .int 0, .int 0, .null, .int 0]))] H locs := hw
  refine lv_aload_n xx xb dX2_init_0 rfl (lv_at hl 0 rfl) ?_
  refine m_obj0 C oi_X2 hl.1 (Nat.le_of_ble_eq_true rfl) (Nat.le_of_ble_eq_true rfl) dX2_init_1 ?_
  refine lv_aload_n xx xb dX2_init_4 rfl (lv_at hl 0 rfl) ?_
  refine lv_bipush (v := nI 54) xx xb dX2_init_5 (by decide) ?_
  refine m_newa C hw hA (n := 54) rfl (by decide) (Nat.le_of_ble_eq_true rfl) (Nat.le_of_ble_eq_true rfl) dX2_init_7 (fun a1 H hw => ?_)
  have hw : Wd G (nA [(h0, .inr (2, [.null, .null, .null, .null, .int 0, .null, .null, .null, .int 0, .int 0, .int 0, .null, .int 0]))] sz) s [(h0, .inr (2, [.null, .null, .null, .null, .int 0, .null, .null, .null, .int 0, .int 0, .int 0, .null, .int 0])), (a1, aI G 54 (fun _ => 0))] H locs := hw
  refine m_putF C hw hin 0 rfl rfl tyX2 tyX2_ok nmX2 fk_X2_9 rfl rfl rfl rfl rfl (Nat.le_of_ble_eq_true rfl) dX2_init_9 (fun H locs hw => ?_)
  have hw : Wd G (nA [(h0, .inr (2, [.null, .null, .null, .null, .int 0, .null, .null, .null, .int 0, .int 0, .int 0, .null, .int 0]))] sz) s [(h0, .inr (2, [.ref a1, .null, .null, .null, .int 0, .null, .null, .null, .int 0, .int 0, .int 0, .null, .int 0])), (a1, aI G 54 (fun _ => 0))] H locs := hw
  refine lv_aload_n xx xb dX2_init_12 rfl (lv_at hl 0 rfl) ?_
  refine lv_bipush (v := nI 54) xx xb dX2_init_13 (by decide) ?_
  refine m_newa C hw hA (n := 54) rfl (by decide) (Nat.le_of_ble_eq_true rfl) (Nat.le_of_ble_eq_true rfl) dX2_init_15 (fun a2 H hw => ?_)
  have hw : Wd G (nA [(h0, .inr (2, [.null, .null, .null, .null, .int 0, .null, .null, .null, .int 0, .int 0, .int 0, .null, .int 0]))] sz) s [(h0, .inr (2, [.ref a1, .null, .null, .null, .int 0, .null, .null, .null, .int 0, .int 0, .int 0, .null, .int 0])), (a1, aI G 54 (fun _ => 0)), (a2, aI G 54 (fun _ => 0))] H locs := hw
  refine m_putF C hw hin 0 rfl rfl tyX2 tyX2_ok nmX2 fk_X2_13 rfl rfl rfl rfl rfl (Nat.le_of_ble_eq_true rfl) dX2_init_17 (fun H locs hw => ?_)
  have hw : Wd G (nA [(h0, .inr (2, [.null, .null, .null, .null, .int 0, .null, .null, .null, .int 0, .int 0, .int 0, .null, .int 0]))] sz) s [(h0, .inr (2, [.ref a1, .ref a2, .null, .null, .int 0, .null, .null, .null, .int 0, .int 0, .int 0, .null, .int 0])), (a1, aI G 54 (fun _ => 0)), (a2, aI G 54 (fun _ => 0))] H locs := hw
  refine lv_aload_n xx xb dX2_init_20 rfl (lv_at hl 0 rfl) ?_
  refine lv_bipush (v := nI 54) xx xb dX2_init_21 (by decide) ?_
  refine m_newa C hw hA (n := 54) rfl (by decide) (Nat.le_of_ble_eq_true rfl) (Nat.le_of_ble_eq_true rfl) dX2_init_23 (fun a3 H hw => ?_)
  have hw : Wd G (nA [(h0, .inr (2, [.null, .null, .null, .null, .int 0, .null, .null, .null, .int 0, .int 0, .int 0, .null, .int 0]))] sz) s [(h0, .inr (2, [.ref a1, .ref a2, .null, .null, .int 0, .null, .null, .null, .int 0, .int 0, .int 0, .null, .int 0])), (a1, aI G 54 (fun _ => 0)), (a2, aI G 54 (fun _ => 0)), (a3, aI G 54 (fun _ => 0))] H locs := hw
  refine m_putF C hw hin 0 rfl rfl tyX2 tyX2_ok nmX2 fk_X2_16 rfl rfl rfl rfl rfl (Nat.le_of_ble_eq_true rfl) dX2_init_25 (fun H locs hw => ?_)
  have hw : Wd G (nA [(h0, .inr (2, [.null, .null, .null, .null, .int 0, .null, .null, .null, .int 0, .int 0, .int 0, .null, .int 0]))] sz) s [(h0, .inr (2, [.ref a1, .ref a2, .ref a3, .null, .int 0, .null, .null, .null, .int 0, .int 0, .int 0, .null, .int 0])), (a1, aI G 54 (fun _ => 0)), (a2, aI G 54 (fun _ => 0)), (a3, aI G 54 (fun _ => 0))] H locs := hw
  refine lv_aload_n xx xb dX2_init_28 rfl (lv_at hl 0 rfl) ?_
  refine lv_bipush (v := nI 54) xx xb dX2_init_29 (by decide) ?_
  refine m_newa C hw hA (n := 54) rfl (by decide) (Nat.le_of_ble_eq_true rfl) (Nat.le_of_ble_eq_true rfl) dX2_init_31 (fun a4 H hw => ?_)
  have hw : Wd G (nA [(h0, .inr (2, [.null, .null, .null, .null, .int 0, .null, .null, .null, .int 0, .int 0, .int 0, .null, .int 0]))] sz) s [(h0, .inr (2, [.ref a1, .ref a2, .ref a3, .null, .int 0, .null, .null, .null, .int 0, .int 0, .int 0, .null, .int 0])), (a1, aI G 54 (fun _ => 0)), (a2, aI G 54 (fun _ => 0)), (a3, aI G 54 (fun _ => 0)), (a4, aI G 54 (fun _ => 0))] H locs := hw
  refine m_putF C hw hin 0 rfl rfl tyX2 tyX2_ok nmX2 fk_X2_19 rfl rfl rfl rfl rfl (Nat.le_of_ble_eq_true rfl) dX2_init_33 (fun H locs hw => ?_)
  have hw : Wd G (nA [(h0, .inr (2, [.null, .null, .null, .null, .int 0, .null, .null, .null, .int 0, .int 0, .int 0, .null, .int 0]))] sz) s [(h0, .inr (2, [.ref a1, .ref a2, .ref a3, .ref a4, .int 0, .null, .null, .null, .int 0, .int 0, .int 0, .null, .int 0])), (a1, aI G 54 (fun _ => 0)), (a2, aI G 54 (fun _ => 0)), (a3, aI G 54 (fun _ => 0)), (a4, aI G 54 (fun _ => 0))] H locs := hw
  refine lv_aload_n xx xb dX2_init_36 rfl (lv_at hl 0 rfl) ?_
  refine lv_bipush (v := nI 96) xx xb dX2_init_37 (by decide) ?_
  refine m_newa C hw hA (n := 96) rfl (by decide) (Nat.le_of_ble_eq_true rfl) (Nat.le_of_ble_eq_true rfl) dX2_init_39 (fun a5 H hw => ?_)
  have hw : Wd G (nA [(h0, .inr (2, [.null, .null, .null, .null, .int 0, .null, .null, .null, .int 0, .int 0, .int 0, .null, .int 0]))] sz) s [(h0, .inr (2, [.ref a1, .ref a2, .ref a3, .ref a4, .int 0, .null, .null, .null, .int 0, .int 0, .int 0, .null, .int 0])), (a1, aI G 54 (fun _ => 0)), (a2, aI G 54 (fun _ => 0)), (a3, aI G 54 (fun _ => 0)), (a4, aI G 54 (fun _ => 0)), (a5, aI G 96 (fun _ => 0))] H locs := hw
  refine m_putF C hw hin 0 rfl rfl tyX2 tyX2_ok nmX2 fk_X2_22 rfl rfl rfl rfl rfl (Nat.le_of_ble_eq_true rfl) dX2_init_41 (fun H locs hw => ?_)
  have hw : Wd G (nA [(h0, .inr (2, [.null, .null, .null, .null, .int 0, .null, .null, .null, .int 0, .int 0, .int 0, .null, .int 0]))] sz) s [(h0, .inr (2, [.ref a1, .ref a2, .ref a3, .ref a4, .int 0, .ref a5, .null, .null, .int 0, .int 0, .int 0, .null, .int 0])), (a1, aI G 54 (fun _ => 0)), (a2, aI G 54 (fun _ => 0)), (a3, aI G 54 (fun _ => 0)), (a4, aI G 54 (fun _ => 0)), (a5, aI G 96 (fun _ => 0))] H locs := hw
  refine lv_aload_n xx xb dX2_init_44 rfl (lv_at hl 0 rfl) ?_
  refine lv_bipush (v := nI 16) xx xb dX2_init_45 (by decide) ?_
  refine m_newa C hw hA (n := 16) rfl (by decide) (Nat.le_of_ble_eq_true rfl) (Nat.le_of_ble_eq_true rfl) dX2_init_47 (fun a6 H hw => ?_)
  have hw : Wd G (nA [(h0, .inr (2, [.null, .null, .null, .null, .int 0, .null, .null, .null, .int 0, .int 0, .int 0, .null, .int 0]))] sz) s [(h0, .inr (2, [.ref a1, .ref a2, .ref a3, .ref a4, .int 0, .ref a5, .null, .null, .int 0, .int 0, .int 0, .null, .int 0])), (a1, aI G 54 (fun _ => 0)), (a2, aI G 54 (fun _ => 0)), (a3, aI G 54 (fun _ => 0)), (a4, aI G 54 (fun _ => 0)), (a5, aI G 96 (fun _ => 0)), (a6, aI G 16 (fun _ => 0))] H locs := hw
  refine m_putF C hw hin 0 rfl rfl tyX2 tyX2_ok nmX2 fk_X2_25 rfl rfl rfl rfl rfl (Nat.le_of_ble_eq_true rfl) dX2_init_49 (fun H locs hw => ?_)
  have hw : Wd G (nA [(h0, .inr (2, [.null, .null, .null, .null, .int 0, .null, .null, .null, .int 0, .int 0, .int 0, .null, .int 0]))] sz) s [(h0, .inr (2, [.ref a1, .ref a2, .ref a3, .ref a4, .int 0, .ref a5, .ref a6, .null, .int 0, .int 0, .int 0, .null, .int 0])), (a1, aI G 54 (fun _ => 0)), (a2, aI G 54 (fun _ => 0)), (a3, aI G 54 (fun _ => 0)), (a4, aI G 54 (fun _ => 0)), (a5, aI G 96 (fun _ => 0)), (a6, aI G 16 (fun _ => 0))] H locs := hw
  refine lv_aload_n xx xb dX2_init_52 rfl (lv_at hl 0 rfl) ?_
  refine lv_bipush (v := nI 7) xx xb dX2_init_53 (by decide) ?_
  refine m_newa C hw hA (n := 7) rfl (by decide) (Nat.le_of_ble_eq_true rfl) (Nat.le_of_ble_eq_true rfl) dX2_init_55 (fun a7 H hw => ?_)
  have hw : Wd G (nA [(h0, .inr (2, [.null, .null, .null, .null, .int 0, .null, .null, .null, .int 0, .int 0, .int 0, .null, .int 0]))] sz) s [(h0, .inr (2, [.ref a1, .ref a2, .ref a3, .ref a4, .int 0, .ref a5, .ref a6, .null, .int 0, .int 0, .int 0, .null, .int 0])), (a1, aI G 54 (fun _ => 0)), (a2, aI G 54 (fun _ => 0)), (a3, aI G 54 (fun _ => 0)), (a4, aI G 54 (fun _ => 0)), (a5, aI G 96 (fun _ => 0)), (a6, aI G 16 (fun _ => 0)), (a7, aI G 7 (fun _ => 0))] H locs := hw
  refine m_putF C hw hin 0 rfl rfl tyX2 tyX2_ok nmX2 fk_X2_28 rfl rfl rfl rfl rfl (Nat.le_of_ble_eq_true rfl) dX2_init_57 (fun H locs hw => ?_)
  have hw : Wd G (nA [(h0, .inr (2, [.null, .null, .null, .null, .int 0, .null, .null, .null, .int 0, .int 0, .int 0, .null, .int 0]))] sz) s [(h0, .inr (2, [.ref a1, .ref a2, .ref a3, .ref a4, .int 0, .ref a5, .ref a6, .ref a7, .int 0, .int 0, .int 0, .null, .int 0])), (a1, aI G 54 (fun _ => 0)), (a2, aI G 54 (fun _ => 0)), (a3, aI G 54 (fun _ => 0)), (a4, aI G 54 (fun _ => 0)), (a5, aI G 96 (fun _ => 0)), (a6, aI G 16 (fun _ => 0)), (a7, aI G 7 (fun _ => 0))] H locs := hw
  refine lv_aload_n xx xb dX2_init_60 rfl (lv_at hl 0 rfl) ?_
  refine lv_iconst (v := nI 3) xx xb dX2_init_61 (by decide) ?_
  refine m_newa C hw hA (n := 3) rfl (by decide) (Nat.le_of_ble_eq_true rfl) (Nat.le_of_ble_eq_true rfl) dX2_init_62 (fun a8 H hw => ?_)
  have hw : Wd G (nA [(h0, .inr (2, [.null, .null, .null, .null, .int 0, .null, .null, .null, .int 0, .int 0, .int 0, .null, .int 0]))] sz) s [(h0, .inr (2, [.ref a1, .ref a2, .ref a3, .ref a4, .int 0, .ref a5, .ref a6, .ref a7, .int 0, .int 0, .int 0, .null, .int 0])), (a1, aI G 54 (fun _ => 0)), (a2, aI G 54 (fun _ => 0)), (a3, aI G 54 (fun _ => 0)), (a4, aI G 54 (fun _ => 0)), (a5, aI G 96 (fun _ => 0)), (a6, aI G 16 (fun _ => 0)), (a7, aI G 7 (fun _ => 0)), (a8, aI G 3 (fun _ => 0))] H locs := hw
  refine m_putF C hw hin 0 rfl rfl tyX2 tyX2_ok nmX2 fk_X2_31 rfl rfl rfl rfl rfl (Nat.le_of_ble_eq_true rfl) dX2_init_64 (fun H locs hw => ?_)
  have hw : Wd G (nA [(h0, .inr (2, [.null, .null, .null, .null, .int 0, .null, .null, .null, .int 0, .int 0, .int 0, .null, .int 0]))] sz) s [(h0, .inr (2, [.ref a1, .ref a2, .ref a3, .ref a4, .int 0, .ref a5, .ref a6, .ref a7, .int 0, .int 0, .int 0, .ref a8, .int 0])), (a1, aI G 54 (fun _ => 0)), (a2, aI G 54 (fun _ => 0)), (a3, aI G 54 (fun _ => 0)), (a4, aI G 54 (fun _ => 0)), (a5, aI G 96 (fun _ => 0)), (a6, aI G 16 (fun _ => 0)), (a7, aI G 7 (fun _ => 0)), (a8, aI G 3 (fun _ => 0))] H locs := hw
  refine lv_aload_n xx xb dX2_init_67 rfl (lv_at hl 0 rfl) ?_
  refine m_get C hw 0 rfl fk_X2_9 rfl dX2_init_68 ?_
  refine lv_iconst (v := nI 2) xx xb dX2_init_71 (by decide) ?_
  refine lv_iconst (v := nI 1) xx xb dX2_init_72 (by decide) ?_
  refine m_ast C hw 1 rfl 2 rfl (by decide) (by decide) (upd (fun _ => 0) 2 (nI 1)) rfl dX2_init_73 (fun H locs hw => ?_)
  have hw : Wd G (nA [(h0, .inr (2, [.null, .null, .null, .null, .int 0, .null, .null, .null, .int 0, .int 0, .int 0, .null, .int 0]))] sz) s [(h0, .inr (2, [.ref a1, .ref a2, .ref a3, .ref a4, .int 0, .ref a5, .ref a6, .ref a7, .int 0, .int 0, .int 0, .ref a8, .int 0])), (a1, aI G 54 (upd (fun _ => 0) 2 (nI 1))), (a2, aI G 54 (fun _ => 0)), (a3, aI G 54 (fun _ => 0)), (a4, aI G 54 (fun _ => 0)), (a5, aI G 96 (fun _ => 0)), (a6, aI G 16 (fun _ => 0)), (a7, aI G 7 (fun _ => 0)), (a8, aI G 3 (fun _ => 0))] H locs := hw
  exact rtN C hw (⟨a1, a2, a3, a4, a5, a6, a7, a8⟩ : Nat × Nat × Nat × Nat × Nat × Nat × Nat × Nat) rfl dX2_init_74
abbrev nX0w (h0 : Nat) : va_W := [(h0, .inr (0, [.int 0, .int 0, .int 0, .int 0, .int 0, .null, .null, .null, .null]))]
abbrev nX0u (G : GT) (h0 : Nat) (u : Nat × Nat × Nat × Nat) : va_W := [(h0, .inr (0, [.int 0, .int 0, .int (nI 1), .int 0, .int 0, .ref u.1, .ref u.2.1, .ref u.2.2.1, .ref u.2.2.2])), (u.1, aI G 10 (fun _ => 0)), (u.2.1, aI G 10 (fun _ => 0)), (u.2.2.1, aI G 10 (fun _ => 0)), (u.2.2.2, aI G 10 (fun _ => 0))]
set_option maxRecDepth 100000 in
set_option maxHeartbeats 4000000 in
theorem kX0_init (l : Launch) (G : GT) (h0 sz : Nat) : Nt l yX0_init cX0_init 1 1 12 4 40 [.ref h0] G sz (nX0w h0) (QN G sz (nX0w h0) (nX0u G h0)) := by
  refine enN (by decide +kernel) (Nat.le_of_ble_eq_true rfl) ?_
  intro p e s m below meth c ls H locs C hin hsz hl hw
  have xx := C.1
  have xb := C.2.1
  subst hsz
  generalize hs : s.heap.size = sz at *
  have hA : ∀ q, s.heap.size ≤ q → nA [(h0, .inr (0, [.int 0, .int 0, .int 0, .int 0, .int 0, .null, .null, .null, .null]))] sz q := fun q h => Or.inr (hs ▸ h)
  have hl : lv_has ls 1 [(0, .ref h0)] := hl
  have hw : Wd G (nA [(h0, .inr (0, [.int 0, .int 0, .int 0, .int 0, .int 0, .null, .null, .null, .null]))] sz) s [(h0, .inr (0, [.int 0, .int 0, .int 0, .int 0, .int 0, .null, .null, .null, .null]))] H locs := hw
  refine lv_aload_n xx xb dX0_init_0 rfl (lv_at hl 0 rfl) ?_
  refine m_obj0 C oi_X0 hl.1 (Nat.le_of_ble_eq_true rfl) (Nat.le_of_ble_eq_true rfl) dX0_init_1 ?_
  refine lv_aload_n xx xb dX0_init_4 rfl (lv_at hl 0 rfl) ?_
  refine lv_iconst (v := nI 1) xx xb dX0_init_5 (by decide) ?_
  refine m_put C hw 0 rfl rfl tyX0 tyX0_ok nmX0 fk_X0_9 rfl rfl rfl rfl (Nat.le_of_ble_eq_true rfl) dX0_init_6 (fun H locs hw => ?_)
  have hw : Wd G (nA [(h0, .inr (0, [.int 0, .int 0, .int 0, .int 0, .int 0, .null, .null, .null, .null]))] sz) s [(h0, .inr (0, [.int 0, .int 0, .int (nI 1), .int 0, .int 0, .null, .null, .null, .null]))] H locs := hw
  refine lv_aload_n xx xb dX0_init_9 rfl (lv_at hl 0 rfl) ?_
  refine lv_bipush (v := nI 10) xx xb dX0_init_10 (by decide) ?_
  refine m_newa C hw hA (n := 10) rfl (by decide) (Nat.le_of_ble_eq_true rfl) (Nat.le_of_ble_eq_true rfl) dX0_init_12 (fun ak H hw => ?_)
  have hw : Wd G (nA [(h0, .inr (0, [.int 0, .int 0, .int 0, .int 0, .int 0, .null, .null, .null, .null]))] sz) s [(h0, .inr (0, [.int 0, .int 0, .int (nI 1), .int 0, .int 0, .null, .null, .null, .null])), (ak, aI G 10 (fun _ => 0))] H locs := hw
  refine m_putF C hw hin 0 rfl rfl tyX0 tyX0_ok nmX0 fk_X0_15 rfl rfl rfl rfl rfl (Nat.le_of_ble_eq_true rfl) dX0_init_14 (fun H locs hw => ?_)
  have hw : Wd G (nA [(h0, .inr (0, [.int 0, .int 0, .int 0, .int 0, .int 0, .null, .null, .null, .null]))] sz) s [(h0, .inr (0, [.int 0, .int 0, .int (nI 1), .int 0, .int 0, .ref ak, .null, .null, .null])), (ak, aI G 10 (fun _ => 0))] H locs := hw
  refine lv_aload_n xx xb dX0_init_17 rfl (lv_at hl 0 rfl) ?_
  refine lv_bipush (v := nI 10) xx xb dX0_init_18 (by decide) ?_
  refine m_newa C hw hA (n := 10) rfl (by decide) (Nat.le_of_ble_eq_true rfl) (Nat.le_of_ble_eq_true rfl) dX0_init_20 (fun af H hw => ?_)
  have hw : Wd G (nA [(h0, .inr (0, [.int 0, .int 0, .int 0, .int 0, .int 0, .null, .null, .null, .null]))] sz) s [(h0, .inr (0, [.int 0, .int 0, .int (nI 1), .int 0, .int 0, .ref ak, .null, .null, .null])), (ak, aI G 10 (fun _ => 0)), (af, aI G 10 (fun _ => 0))] H locs := hw
  refine m_putF C hw hin 0 rfl rfl tyX0 tyX0_ok nmX0 fk_X0_19 rfl rfl rfl rfl rfl (Nat.le_of_ble_eq_true rfl) dX0_init_22 (fun H locs hw => ?_)
  have hw : Wd G (nA [(h0, .inr (0, [.int 0, .int 0, .int 0, .int 0, .int 0, .null, .null, .null, .null]))] sz) s [(h0, .inr (0, [.int 0, .int 0, .int (nI 1), .int 0, .int 0, .ref ak, .ref af, .null, .null])), (ak, aI G 10 (fun _ => 0)), (af, aI G 10 (fun _ => 0))] H locs := hw
  refine lv_aload_n xx xb dX0_init_25 rfl (lv_at hl 0 rfl) ?_
  refine lv_bipush (v := nI 10) xx xb dX0_init_26 (by decide) ?_
  refine m_newa C hw hA (n := 10) rfl (by decide) (Nat.le_of_ble_eq_true rfl) (Nat.le_of_ble_eq_true rfl) dX0_init_28 (fun ab H hw => ?_)
  have hw : Wd G (nA [(h0, .inr (0, [.int 0, .int 0, .int 0, .int 0, .int 0, .null, .null, .null, .null]))] sz) s [(h0, .inr (0, [.int 0, .int 0, .int (nI 1), .int 0, .int 0, .ref ak, .ref af, .null, .null])), (ak, aI G 10 (fun _ => 0)), (af, aI G 10 (fun _ => 0)), (ab, aI G 10 (fun _ => 0))] H locs := hw
  refine m_putF C hw hin 0 rfl rfl tyX0 tyX0_ok nmX0 fk_X0_22 rfl rfl rfl rfl rfl (Nat.le_of_ble_eq_true rfl) dX0_init_30 (fun H locs hw => ?_)
  have hw : Wd G (nA [(h0, .inr (0, [.int 0, .int 0, .int 0, .int 0, .int 0, .null, .null, .null, .null]))] sz) s [(h0, .inr (0, [.int 0, .int 0, .int (nI 1), .int 0, .int 0, .ref ak, .ref af, .ref ab, .null])), (ak, aI G 10 (fun _ => 0)), (af, aI G 10 (fun _ => 0)), (ab, aI G 10 (fun _ => 0))] H locs := hw
  refine lv_aload_n xx xb dX0_init_33 rfl (lv_at hl 0 rfl) ?_
  refine lv_bipush (v := nI 10) xx xb dX0_init_34 (by decide) ?_
  refine m_newa C hw hA (n := 10) rfl (by decide) (Nat.le_of_ble_eq_true rfl) (Nat.le_of_ble_eq_true rfl) dX0_init_36 (fun aa H hw => ?_)
  have hw : Wd G (nA [(h0, .inr (0, [.int 0, .int 0, .int 0, .int 0, .int 0, .null, .null, .null, .null]))] sz) s [(h0, .inr (0, [.int 0, .int 0, .int (nI 1), .int 0, .int 0, .ref ak, .ref af, .ref ab, .null])), (ak, aI G 10 (fun _ => 0)), (af, aI G 10 (fun _ => 0)), (ab, aI G 10 (fun _ => 0)), (aa, aI G 10 (fun _ => 0))] H locs := hw
  refine m_putF C hw hin 0 rfl rfl tyX0 tyX0_ok nmX0 fk_X0_25 rfl rfl rfl rfl rfl (Nat.le_of_ble_eq_true rfl) dX0_init_38 (fun H locs hw => ?_)
  have hw : Wd G (nA [(h0, .inr (0, [.int 0, .int 0, .int 0, .int 0, .int 0, .null, .null, .null, .null]))] sz) s [(h0, .inr (0, [.int 0, .int 0, .int (nI 1), .int 0, .int 0, .ref ak, .ref af, .ref ab, .ref aa])), (ak, aI G 10 (fun _ => 0)), (af, aI G 10 (fun _ => 0)), (ab, aI G 10 (fun _ => 0)), (aa, aI G 10 (fun _ => 0))] H locs := hw
  exact rtN C hw (⟨ak, af, ab, aa⟩ : Nat × Nat × Nat × Nat) rfl dX0_init_41
