theorem wd_arr {G : GT} {A : Nat → Prop} {s : State} {w : va_W} {H : Heap} {locs : List Loc} {a n : Nat} {f : Nat → Int32} (hw : Wd G A s w H locs) (k : Nat) (he : w[k]? = some (a, aI G n f)) (g : Nat → Int32) (hfg : ∀ j, j < n → f j = g j) : Wd G A s (w.set k (a, aI G n g)) H locs := by
  refine ⟨hw.1.set hw.2.1 he ?_ (fun _ _ => rfl), hw.2.1.set he, hw.2.2⟩
  have h := hw.1 k _ he
  have h1 : H[a]? = some (vp_cell G.2 (n, .inl f)) := h
  show H[a]? = some (vp_cell G.2 (n, .inl g))
  rw [h1]
  have e : (Array.ofFn (n := n) fun j => Value.int (f j.val)) = Array.ofFn (n := n) fun j => Value.int (g j.val) := by
    congr 1
    funext j
    rw [hfg j.val j.isLt]
  show some (arrV G.2 n fun j => Value.int (f j)) = some (arrV G.2 n fun j => Value.int (g j))
  unfold arrV
  rw [e]
/-- f below k, g from there -/
def mixF (f g : Nat → Int32) (k : Nat) : Nat → Int32 := fun j => if j < k then f j else g j
theorem mix_s (f g : Nat → Int32) (k : Nat) : upd (mixF f g k) k (f k) = mixF f g (k + 1) := by
  funext j
  unfold upd mixF
  by_cases h : j = k
  · rw [if_pos h, if_pos (by omega), h]
  · rw [if_neg h]
    by_cases h2 : j < k
    · rw [if_pos h2, if_pos (by omega)]
    · rw [if_neg h2, if_neg (by omega)]
theorem mix_0 (f g : Nat → Int32) : g = mixF f g 0 := by
  funext j
  unfold mixF
  rw [if_neg (by omega)]
/-- the codes of refusals: 0, or j for -j -/
def nG (j : Nat) : Int32 := -(nI j)
theorem nG_neg (j : Nat) : -(nG j) = nI j := by unfold nG; rw [Int32.neg_neg]
theorem nG_t {j : Nat} (h : j < 2147483648) : (nG j).toInt = -(j : Int) := sb_negT h
theorem g0_c {j : Nat} (hj : j < 100) (h : nG j = 0) : j = 0 := by
  have : ∀ j, j < 100 → nG j = 0 → j = 0 := by decide +kernel
  exact this j hj h
theorem g0_n {j : Nat} (h : ¬ nG j = 0) : j ≠ 0 := fun q => h (by rw [q]; decide)
def wbN (z a : Int) : Nat := if z < 0 then 4 else if a < z then 6 else 0
theorem wbN_le (z a : Int) : wbN z a ≤ 6 := by unfold wbN; repeat' split
                                               all_goals omega
def cN (g : Nat → Nat) : Nat → Int32 := fun j => nI (g j)
def cO (g : Nat → Nat) : Nat → Int32 := fun j => onI (g j)
def upN (g : Nat → Nat) (k v : Nat) : Nat → Nat := fun j => if j = k then v else g j
theorem cN_u (g : Nat → Nat) (k v : Nat) : upd (cN g) k (nI v) = cN (upN g k v) := by
  funext j
  unfold upd cN upN
  by_cases h : j = k
  · rw [if_pos h, if_pos h]
  · rw [if_neg h, if_neg h]
theorem cO_u (g : Nat → Nat) (k v : Nat) : upd (cO g) k (onI v) = cO (upN g k v) := by
  funext j
  unfold upd cO upN
  by_cases h : j = k
  · rw [if_pos h, if_pos h]
  · rw [if_neg h, if_neg h]
theorem ifc {P Q : Prop} [Decidable P] [Decidable Q] (h : P ↔ Q) : (if P then (1 : Int32) else 0) = if Q then 1 else 0 := by
  by_cases q : Q
  · rw [if_pos q, if_pos (h.mpr q)]
  · rw [if_neg q, if_neg (fun p => q (h.mp p))]
theorem n1_t : ∀ n, n ≤ 10 → (nI n - nI 1).toInt = (n : Int) - 1 := by decide +kernel
theorem lg_z {a b : Nat} (ha : a < 2 ^ 63) (hb : b < 2 ^ 63) : lg_cmp (lN a) (lN b) = 0 ↔ a = b := by
  rw [lg_cmp_eq]
  exact pk_lEQ ha hb
section CALLS
variable {p : Program} {l : Launch} {e : Env} {R : Room} {s : State} {m : MethodId} {args : Array Value} {below : List Frame} {meth : Method} {c : Code} {H : Heap} {locs : List Loc} {cells slots : Nat} {Q : State → Prop}
variable {cc : ByteArray} {pc nL : Nat} {ls : Array Slot} {rest : List Value} {own : String} {ret : Option FieldType} {G : GT} {A : Nat → Prop} {w w0 : va_W} {y : MethodName} {bytes : ByteArray} {maxL n index fr lo : Nat} {rt : Option FieldType} {av As st0 : List Value} {wc : va_W} {b : Nat} {S : Type} {w' : S → va_W}
theorem cs_i {post : Int32 → S → Prop} (C : Cx p s m args meth c cc nL own ret G) (hw : Wd G A s w H locs) (hM : Ct l y bytes maxL rt fr lo av G wc (QI G wc post w')) (hy : YS y bytes maxL rt n) (hl : Cond.methodLink own index y ∈ TB) (hn : av.length = n) (is : List Nat) (hC : is.map (fun i => w[i]?) = wc.map some) (hnd : va_nd is = true) (hf : ∀ u, (w' u).map Prod.fst = wc.map Prod.fst)
    (hR : fr + 1 ≤ R.frames ∧ 8 + (maxL + 11) + lo ≤ R.locals) (hcs : cells ≤ R.cells ∧ slots ≤ R.slots) (hls : ls.size = nL) (hst : st0 = av.reverse ++ rest) (hrm : (rest.map fun v => v.category).sum ≤ 8) (hdg : decode cc pc = .ok (.invokestatic index, 3))
    (kk : ∀ (r : Int32) (u : S) (H1 : Heap) (locs1 : List Loc), post r u → Wd G A s (mrg w is (w' u)) H1 locs1 → W p l e R s m args below meth c H1 locs1 cells slots Q (F0 m (pc + 3) ls (.int r :: rest))) : W p l e R s m args below meth c H locs cells slots Q (F0 m pc ls st0) := go_i hw is hC hf (run_s C hw hM hy hl hn is hC hnd hR hcs hls hst hrm hdg) kk
theorem cv_i {post : Int32 → S → Prop} (C : Cx p s m args meth c cc nL own ret G) (hw : Wd G A s w H locs) (hM : Ct l y bytes maxL rt fr lo (.ref b :: As) G wc (QI G wc post w')) (hy : YV y bytes maxL rt n) (hl : Cond.methodLink own index y ∈ TB) (q0 : Nat) {ci : Nat} {T : u_T} {N : Nat} {fs : List Value} (he : w[q0]? = some (b, .inr (ci, fs))) (hcl : vwCl[ci]? = some (y.cls, T, N)) (hn : As.length = n) (is : List Nat) (hC : is.map (fun i => w[i]?) = wc.map some) (hnd : va_nd is = true) (hf : ∀ u, (w' u).map Prod.fst = wc.map Prod.fst)
    (hR : fr + 1 ≤ R.frames ∧ 8 + (maxL + 11) + lo ≤ R.locals) (hcs : cells ≤ R.cells ∧ slots ≤ R.slots) (hls : ls.size = nL) (hst : st0 = As.reverse ++ .ref b :: rest) (hrm : (rest.map fun v => v.category).sum ≤ 8) (hdg : decode cc pc = .ok (.invokevirtual index, 3))
    (kk : ∀ (r : Int32) (u : S) (H1 : Heap) (locs1 : List Loc), post r u → Wd G A s (mrg w is (w' u)) H1 locs1 → W p l e R s m args below meth c H1 locs1 cells slots Q (F0 m (pc + 3) ls (.int r :: rest))) : W p l e R s m args below meth c H locs cells slots Q (F0 m pc ls st0) := go_i hw is hC hf (run_v C hw hM hy hl q0 he hcl hn is hC hnd hR hcs hls hst hrm hdg) kk
theorem cs_l {post : Int64 → S → Prop} (C : Cx p s m args meth c cc nL own ret G) (hw : Wd G A s w H locs) (hM : Ct l y bytes maxL rt fr lo av G wc (QL G wc post w')) (hy : YS y bytes maxL rt n) (hl : Cond.methodLink own index y ∈ TB) (hn : av.length = n) (is : List Nat) (hC : is.map (fun i => w[i]?) = wc.map some) (hnd : va_nd is = true) (hf : ∀ u, (w' u).map Prod.fst = wc.map Prod.fst)
    (hR : fr + 1 ≤ R.frames ∧ 8 + (maxL + 11) + lo ≤ R.locals) (hcs : cells ≤ R.cells ∧ slots ≤ R.slots) (hls : ls.size = nL) (hst : st0 = av.reverse ++ rest) (hrm : (rest.map fun v => v.category).sum ≤ 8) (hdg : decode cc pc = .ok (.invokestatic index, 3))
    (kk : ∀ (r : Int64) (u : S) (H1 : Heap) (locs1 : List Loc), post r u → Wd G A s (mrg w is (w' u)) H1 locs1 → W p l e R s m args below meth c H1 locs1 cells slots Q (F0 m (pc + 3) ls (.long r :: rest))) : W p l e R s m args below meth c H locs cells slots Q (F0 m pc ls st0) := go_l hw is hC hf (run_s C hw hM hy hl hn is hC hnd hR hcs hls hst hrm hdg) kk
theorem cv_l {post : Int64 → S → Prop} (C : Cx p s m args meth c cc nL own ret G) (hw : Wd G A s w H locs) (hM : Ct l y bytes maxL rt fr lo (.ref b :: As) G wc (QL G wc post w')) (hy : YV y bytes maxL rt n) (hl : Cond.methodLink own index y ∈ TB) (q0 : Nat) {ci : Nat} {T : u_T} {N : Nat} {fs : List Value} (he : w[q0]? = some (b, .inr (ci, fs))) (hcl : vwCl[ci]? = some (y.cls, T, N)) (hn : As.length = n) (is : List Nat) (hC : is.map (fun i => w[i]?) = wc.map some) (hnd : va_nd is = true) (hf : ∀ u, (w' u).map Prod.fst = wc.map Prod.fst)
    (hR : fr + 1 ≤ R.frames ∧ 8 + (maxL + 11) + lo ≤ R.locals) (hcs : cells ≤ R.cells ∧ slots ≤ R.slots) (hls : ls.size = nL) (hst : st0 = As.reverse ++ .ref b :: rest) (hrm : (rest.map fun v => v.category).sum ≤ 8) (hdg : decode cc pc = .ok (.invokevirtual index, 3))
    (kk : ∀ (r : Int64) (u : S) (H1 : Heap) (locs1 : List Loc), post r u → Wd G A s (mrg w is (w' u)) H1 locs1 → W p l e R s m args below meth c H1 locs1 cells slots Q (F0 m (pc + 3) ls (.long r :: rest))) : W p l e R s m args below meth c H locs cells slots Q (F0 m pc ls st0) := go_l hw is hC hf (run_v C hw hM hy hl q0 he hcl hn is hC hnd hR hcs hls hst hrm hdg) kk
theorem cs_v {post : S → Prop} (C : Cx p s m args meth c cc nL own ret G) (hw : Wd G A s w H locs) (hM : Ct l y bytes maxL rt fr lo av G wc (QV G wc post w')) (hy : YS y bytes maxL rt n) (hl : Cond.methodLink own index y ∈ TB) (hn : av.length = n) (is : List Nat) (hC : is.map (fun i => w[i]?) = wc.map some) (hnd : va_nd is = true) (hf : ∀ u, (w' u).map Prod.fst = wc.map Prod.fst)
    (hR : fr + 1 ≤ R.frames ∧ 8 + (maxL + 11) + lo ≤ R.locals) (hcs : cells ≤ R.cells ∧ slots ≤ R.slots) (hls : ls.size = nL) (hst : st0 = av.reverse ++ rest) (hrm : (rest.map fun v => v.category).sum ≤ 8) (hdg : decode cc pc = .ok (.invokestatic index, 3))
    (kk : ∀ (u : S) (H1 : Heap) (locs1 : List Loc), post u → Wd G A s (mrg w is (w' u)) H1 locs1 → W p l e R s m args below meth c H1 locs1 cells slots Q (F0 m (pc + 3) ls rest)) : W p l e R s m args below meth c H locs cells slots Q (F0 m pc ls st0) := go_v hw is hC hf (run_s C hw hM hy hl hn is hC hnd hR hcs hls hst hrm hdg) kk
theorem cv_v {post : S → Prop} (C : Cx p s m args meth c cc nL own ret G) (hw : Wd G A s w H locs) (hM : Ct l y bytes maxL rt fr lo (.ref b :: As) G wc (QV G wc post w')) (hy : YV y bytes maxL rt n) (hl : Cond.methodLink own index y ∈ TB) (q0 : Nat) {ci : Nat} {T : u_T} {N : Nat} {fs : List Value} (he : w[q0]? = some (b, .inr (ci, fs))) (hcl : vwCl[ci]? = some (y.cls, T, N)) (hn : As.length = n) (is : List Nat) (hC : is.map (fun i => w[i]?) = wc.map some) (hnd : va_nd is = true) (hf : ∀ u, (w' u).map Prod.fst = wc.map Prod.fst)
    (hR : fr + 1 ≤ R.frames ∧ 8 + (maxL + 11) + lo ≤ R.locals) (hcs : cells ≤ R.cells ∧ slots ≤ R.slots) (hls : ls.size = nL) (hst : st0 = As.reverse ++ .ref b :: rest) (hrm : (rest.map fun v => v.category).sum ≤ 8) (hdg : decode cc pc = .ok (.invokevirtual index, 3))
    (kk : ∀ (u : S) (H1 : Heap) (locs1 : List Loc), post u → Wd G A s (mrg w is (w' u)) H1 locs1 → W p l e R s m args below meth c H1 locs1 cells slots Q (F0 m (pc + 3) ls rest)) : W p l e R s m args below meth c H locs cells slots Q (F0 m pc ls st0) := go_v hw is hC hf (run_v C hw hM hy hl q0 he hcl hn is hC hnd hR hcs hls hst hrm hdg) kk
end CALLS
