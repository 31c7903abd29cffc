theorem st_i0 : Cond.instantiable RX0 9 ∈ TB := tbm 65 (by decide +kernel) (by decide +kernel)
theorem st_i1 : Cond.instantiable RX1 11 ∈ TB := tbm 57 (by decide +kernel) (by decide +kernel)
theorem st_i2 : Cond.instantiable RX2 13 ∈ TB := tbm 602 (by decide +kernel) (by decide +kernel)
/-- the classes and the ints' arrays, as the machine has them -/
theorem st_K {args : Array Value} {s : State} (hts : ∀ w ∈ TB, w.before args s = true) : ∃ G : GT, va_K G.1 vwCl [(G.2, .int)] s := by
  obtain ⟨c0, iS0, hKn0⟩ := u_known (C := RX0) (T := TX0) (N := 9) (n := 9) hts us_X0 (hts _ st_i0)
  obtain ⟨c1, iS1, hKn1⟩ := u_known (C := RX1) (T := TX1) (N := 11) (n := 11) hts us_X1 (hts _ st_i1)
  obtain ⟨c2, iS2, hKn2⟩ := u_known (C := RX2) (T := TX2) (N := 13) (n := 13) hts us_X2 (hts _ st_i2)
  have ha : (Cond.arrayClass (newarray.typeOf .int)).before args s = true := hts _ oi_ac
  obtain ⟨cA, kA, comp, h1, h2, h3⟩ := Cond.arrayClass_spec ha
  refine ⟨((fun k => if k = 0 then c0 else if k = 1 then c1 else c2, fun k => if k = 0 then iS0 else if k = 1 then iS1 else iS2), cA), ?_, ?_⟩
  · intro k q hq
    match k, hq with
    | 0, hq => cases hq; exact hKn0
    | 1, hq => cases hq; exact hKn1
    | 2, hq => cases hq; exact hKn2
    | k + 3, hq => simp [vwCl] at hq
  · intro k q hq
    match k, hq with
    | 0, hq => cases hq; exact ⟨fun n z => ⟨fun k h => (by cases h), kA, h2, comp, h3⟩, h1⟩
    | k + 1, hq => simp at hq
