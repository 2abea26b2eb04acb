/-! MORE of numbers. -/
theorem nI_nn {n : Nat} (h : n < 2 ^ 31) {x : Int32} (hx : x.toInt < 0) : ¬ nI n = x := by
  intro e
  have h1 := nI_toInt h
  rw [e] at h1
  omega
