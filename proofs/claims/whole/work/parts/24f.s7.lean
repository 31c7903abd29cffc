section NWC
variable {p : Program} {l : Launch} {e : Env} {R : Room} {s : State} {m : MethodId} {args : Array Value} {below : List Frame} {meth : Method} {c : Code} {H H1 : Heap} {locs locs1 : List Loc} {cells slots : Nat} {Q : State → Prop}
variable {cc : ByteArray} {pc nL : Nat} {ls : Array Slot} {rest : List Value} {own : String} {ret : Option FieldType} {G : GT} {A : Nat → Prop} {w w0 : va_W} {a b : Nat} {lv : List (Nat × Value)}
theorem wd_grow {e0 e1 : va_E} {nw : va_W} {i : Nat} (hw : Wd G A s w H locs) (hA : ∀ q, s.heap.size ≤ q → A q) (hi : w[i]? = some (b, e0)) (hP1 : va_P G.1 vwCl ((b, e1) :: nw) H1) (hD1 : va_D (nA [(b, e0)] H.size) ((b, e1) :: nw)) (hk : ∀ q, q < H.size → ¬ nA [(b, e0)] H.size q → H1[q]? = H[q]?) (hS : va_S A s.heap H1 locs1) : Wd G A s (w.set i (b, e1) ++ nw) H1 locs1 := by
  have hil : i < w.length := (List.getElem?_eq_some_iff.mp hi).1
  have old : ∀ (k : Nat) (q : Nat × va_E), (w.set i (b, e1))[k]? = some q → (k = i ∧ q = (b, e1)) ∨ (k ≠ i ∧ w[k]? = some q) := by
    intro k q hq
    by_cases h : k = i
    · subst h
      rw [List.getElem?_set_self hil] at hq
      exact Or.inl ⟨rfl, (Option.some.inj hq).symm⟩
    · rw [List.getElem?_set_ne (Ne.symm h)] at hq
      exact Or.inr ⟨h, hq⟩
  have hbl : b < H.size := (hw.1 i _ hi).lt
  have olt : ∀ (k : Nat) (q : Nat × va_E), (w.set i (b, e1))[k]? = some q → q.1 < H.size := by
    intro k q hq
    rcases old k q hq with ⟨h1, h2⟩ | ⟨h1, h2⟩
    · rw [h2]; exact hbl
    · exact (hw.1 k q h2).lt
  have new : ∀ (k : Nat) (q : Nat × va_E), nw[k]? = some q → H.size ≤ q.1 := by
    intro k q hq
    have h1 : ((b, e1) :: nw)[k + 1]? = some q := hq
    rcases hD1.2 (k + 1) q h1 with h | h
    · exfalso
      have h3 : q.1 = b := by simpa using h
      have := hD1.1 (k + 1) 0 q (b, e1) h1 rfl h3
      omega
    · exact h
  have split : ∀ (k : Nat) (q : Nat × va_E), (w.set i (b, e1) ++ nw)[k]? = some q → (k < w.length ∧ (w.set i (b, e1))[k]? = some q) ∨ (w.length ≤ k ∧ nw[k - w.length]? = some q) := by
    intro k q hq
    by_cases h : k < w.length
    · rw [List.getElem?_append_left (by rw [List.length_set]; exact h)] at hq
      exact Or.inl ⟨h, hq⟩
    · rw [List.getElem?_append_right (by rw [List.length_set]; omega), List.length_set] at hq
      exact Or.inr ⟨by omega, hq⟩
  have oldD : ∀ (k j : Nat) (q r : Nat × va_E), (w.set i (b, e1))[k]? = some q → (w.set i (b, e1))[j]? = some r → q.1 = r.1 → k = j := by
    intro k j q r hq hr hqr
    rcases old k q hq with ⟨h1, h2⟩ | ⟨h1, h2⟩
    · rcases old j r hr with ⟨g1, g2⟩ | ⟨g1, g2⟩
      · omega
      · rw [h2] at hqr
        exact h1.trans (hw.2.1.1 i j _ r hi g2 hqr)
    · rcases old j r hr with ⟨g1, g2⟩ | ⟨g1, g2⟩
      · rw [g2] at hqr
        exact (hw.2.1.1 k i q _ h2 hi hqr).trans g1.symm
      · exact hw.2.1.1 k j q r h2 g2 hqr
  refine ⟨fun k q hq => ?_, ⟨fun k j q r hq hr hqr => ?_, fun k q hq => ?_⟩, hS⟩
  · rcases split k q hq with ⟨h1, h2⟩ | ⟨h1, h2⟩
    · rcases old k q h2 with ⟨g1, g2⟩ | ⟨g1, g2⟩
      · rw [g2]; exact hP1 0 _ rfl
      · refine (hw.1 k q g2).kept (hk q.1 (hw.1 k q g2).lt (fun hm => ?_))
        rcases hm with hm | hm
        · have h3 : q.1 = b := by simpa using hm
          exact g1 (hw.2.1.1 k i q _ g2 hi h3)
        · have := (hw.1 k q g2).lt
          omega
    · exact hP1 (k - w.length + 1) q h2
  · rcases split k q hq with ⟨h1, h2⟩ | ⟨h1, h2⟩
    · rcases split j r hr with ⟨g1, g2⟩ | ⟨g1, g2⟩
      · exact oldD k j q r h2 g2 hqr
      · have := olt k q h2
        have := new _ r g2
        omega
    · rcases split j r hr with ⟨g1, g2⟩ | ⟨g1, g2⟩
      · have := olt j r g2
        have := new _ q h2
        omega
      · have := hD1.1 (k - w.length + 1) (j - w.length + 1) q r h2 g2 hqr
        omega
  · rcases split k q hq with ⟨h1, h2⟩ | ⟨h1, h2⟩
    · rcases old k q h2 with ⟨g1, g2⟩ | ⟨g1, g2⟩
      · rw [g2]; exact hw.2.1.2 i (b, e0) hi
      · exact hw.2.1.2 k q g2
    · exact hA _ (Nat.le_trans hw.2.2.1 (new _ q h2))
theorem pre_blindN {av : List Value} {wc : va_W} {sz : Nat} : FrameBlind (va_Pc av (fun U => U.heap.size = sz ∧ va_P G.1 vwCl wc U.heap ∧ va_K G.1 vwCl [(G.2, .int)] U ∧ va_D (fun _ => True) wc)) := by
  intro a U g mk q
  obtain ⟨q0, q1, qP, qK, qD⟩ := q
  exact ⟨q0, q1, qP, va_K.moved (u := U) (U := U.calling g mk a) (Vm.Alike.refl U.vm) qK, qD⟩
theorem m_ci {S : Type} {w' nw : S → va_W} {e0 : va_E} {e1 : S → va_E} {y : MethodName} {bytes : ByteArray} {maxL fr lo nc ns index : Nat} (C : Cx p s m args meth c cc nL own ret G) (hw : Wd G A s w H locs) (hA : ∀ q, s.heap.size ≤ q → A q)
    (hM : Nt l y bytes maxL fr lo nc ns [.ref b] G H.size [(b, e0)] (QN G H.size [(b, e0)] w')) (hw' : ∀ u, w' u = (b, e1 u) :: nw u) (hy : YC y bytes maxL none 0) (hin : Cond.instanceMethod y ∈ TB) (hy1 : y.name = "<init>") (hl : Cond.methodLink own index y ∈ TB) (i : Nat) (hi : w[i]? = some (b, e0))
    (hR : fr + 1 ≤ R.frames ∧ 8 + (maxL + 11) + lo ≤ R.locals) (hcs : cells + nc ≤ R.cells ∧ slots + ns ≤ R.slots) (hls : ls.size = nL) (hrm : (rest.map fun v => v.category).sum ≤ 8) (hdg : decode cc pc = .ok (.invokespecial index, 3))
    (kk : ∀ (u : S) (H1 : Heap) (locs1 : List Loc), Wd G A s (w.set i (b, e1 u) ++ nw u) H1 locs1 → W p l e R s m args below meth c H1 locs1 (cells + nc) (slots + ns) Q (F0 m (pc + 3) ls rest)) : W p l e R s m args below meth c H locs cells slots Q (F0 m pc ls (.ref b :: rest)) := by
  obtain ⟨hx, hb, hml, hown, hts, hr, hlocks, hK⟩ := id C
  have h1 := hy.1
  have hB : CallB R s args own index y bytes maxL none (Cond.code y bytes maxL none :: TB) ({ frames := fr, cells := nc, slots := ns, locals := lo }) nc ns 0 := by
    refine callB_of 0 hts (fun x hx => ?_) rfl rfl rfl (hts _ hy.2.1) (hts _ hl) hy.2.2 hR
    rcases List.mem_cons.mp hx with h | h
    · rw [h]; exact ⟨h1, good_of_word (tb_good _ h1)⟩
    · exact ⟨h, good_of_word (tb_good _ h)⟩
  have hbA : A b := hw.2.1.2 i _ hi
  have hfr : ∀ q, nA [(b, e0)] H.size q → A q := by
    intro q hq
    rcases hq with hq | hq
    · have h3 : q = b := by simpa using hq
      rw [h3]; exact hbA
    · exact hA q (Nat.le_trans hw.2.2.1 hq)
  have hC : [i].map (fun i => w[i]?) = [((b, e0) : Nat × va_E)].map some := by
    show [w[i]?] = _
    rw [hi]; rfl
  have hrun := va_runI (p := p) (l := l) (e := e) (R := R) (s := s) (m := m) (args := args) (below := below) (meth := meth) (c := c) (H := H) (locs := locs) (cells := cells) (slots := slots) (As := []) (g := F0 m pc ls (.ref b :: rest)) (rest := rest) (own := own) (nL := nL) ⟨hx, hb, hml, hown, hts⟩ hM ⟨hB, hy1, hts _ hin⟩ ⟨pre_blindN, fun U hU hW => ⟨rfl, by rw [hU], by rw [hU]; exact sub_P hw.1 hC, va_K.moved hW.alike hK, sub_D hw hC rfl⟩⟩ rfl rfl hls rfl (lv_room hrm) hdg hcs
  refine va_callv hrun hw.2.2 (fun q _ h => hfr q h) hfr (fun u t H1 locs1 ht _ _ hB2 _ hk hS => kk u H1 locs1 ?_)
  obtain ⟨hP1, hD1⟩ := hB2
  rw [hw' u] at hP1 hD1
  rw [ht] at hP1
  exact wd_grow hw hA hi hP1 hD1 hk hS
theorem m_new (C : Cx p s m args meth c cc nL own ret G) (hw : Wd G A s w H locs) (hA : ∀ q, s.heap.size ≤ q → A q) {Cn : String} {T : u_T} {N ci index : Nat} (hc : vwCl[ci]? = some (Cn, T, N)) (hus : ∀ x ∈ u_ws Cn T N, x ∈ TB) (ty0 : Nat → FieldType) (hty : ∀ k, k < N → parseFieldDescriptor (T k).2.2.1 = some (ty0 k)) (hcl : Cond.classLink own index Cn ∈ TB) (hinst : Cond.instantiable Cn N ∈ TB) (hini : Cond.initialized Cn ∈ TB)
    (fs : List Value) (hfs : ∀ j, j < N → defaultValue (ty0 j) = vp_V fs j) (hcells : cells + 1 ≤ R.cells) (hslots : slots + N ≤ R.slots) (hdg : decode cc pc = .ok (.new index, 3))
    (kk : ∀ (q : Nat) (H1 : Heap), Wd G A s (w ++ [(q, .inr (ci, fs))]) H1 locs → W p l e R s m args below meth c H1 locs (cells + 1) (slots + N) Q (F0 m (pc + 3) ls (.ref q :: rest))) : W p l e R s m args below meth c H locs cells slots Q (F0 m pc ls rest) := by
  obtain ⟨hx, hb, -, hown, hts, -, -, hK⟩ := C
  exact va_new hx hb hts hus ty0 hty hown (hts _ hcl) (hts _ hinst) (hts _ hini) hK hw.1 hw.2.1 hw.2.2 hA hc hfs hcells hslots hdg (fun q H1 k1 k2 k3 => kk q H1 ⟨k1, k2, k3⟩)
end NWC
