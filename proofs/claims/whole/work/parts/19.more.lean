theorem nI_nm1 {b : Nat} (h : b < 2147483648) : ¬ nI b = (-1 : Int32) := by
  intro e
  have h1 : (nI b).toInt = (b : Int) := nI_toInt h
  rw [e] at h1
  have h2 : ((-1 : Int32)).toInt = -1 := by decide
  omega
theorem sw_out {x : Int32} {hi : Nat} (h : ∀ v : Nat, v ≤ hi → ¬ x = nI v) : x.toInt < 0 ∨ (hi : Int) < x.toInt := by
  by_cases h0 : x.toInt < 0
  · exact Or.inl h0
  · right
    have h1 : ¬ x < 0 := fun z => h0 (by have := Int32.lt_iff_toInt_lt.mp z; simpa using this)
    obtain ⟨j, hj, e⟩ := nI_of h1
    rw [e, nI_toInt hj]
    have : ¬ j ≤ hi := fun z => h j z e
    omega
