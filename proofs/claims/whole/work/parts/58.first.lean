/-! the first TEXT, and what it says -/
def txL : List Nat := [110, 53, 59, 108, 48, 44, 49, 44, 49, 48, 44, 50, 59, 108, 49, 44, 52, 44, 56, 44, 50, 59, 108, 48, 44, 50, 44, 57, 44, 49, 59, 108, 50, 44, 52, 44, 54, 44, 51, 59, 108, 48, 44, 51, 44, 50, 48, 44, 52, 59, 108, 51, 44, 52, 44, 50, 48, 44, 52, 59, 108, 50, 44, 49, 44, 53, 44, 49, 59, 100, 48, 44, 52, 44, 49, 50, 59, 100, 50, 44, 52, 44, 53, 59]
def tx0 : Nat → Int32 := fun k => nI (txL.getD k 0)
def ndC : ND := (rdT tx0 84 84 0 0 (nd0 ndZ)).2
def nR0 : ND := ndN (nd0 ndZ) 5
def nR1 : ND := ndL nR0 0 1 10 2
def nR2 : ND := ndL nR1 1 4 8 2
def nR3 : ND := ndL nR2 0 2 9 1
def nR4 : ND := ndL nR3 2 4 6 3
def nR5 : ND := ndL nR4 0 3 20 4
def nR6 : ND := ndL nR5 3 4 20 4
def nR7 : ND := ndL nR6 2 1 5 1
def nR8 : ND := ndD nR7 0 4 12
def nR9 : ND := ndD nR8 2 4 5
theorem ndC_1 : (rdT tx0 84 84 0 0 (nd0 ndZ)).1 = -4 := by decide +kernel
theorem ndC_n : nN ndC = 5 ∧ nM ndC = 7 ∧ nD ndC = 2 := by decide +kernel
theorem ndC_l : ∀ l, l < 7 → nFr ndC l = nFr nR9 l ∧ nTo ndC l = nTo nR9 l ∧ nRm ndC l = nRm nR9 l ∧ nTw ndC l = nTw nR9 l := by decide +kernel
theorem ndC_d : ∀ d, d < 2 → nSt ndC d = nSt nR9 d ∧ nGo ndC d = nGo nR9 d ∧ nSz ndC d = nSz nR9 d := by decide +kernel
theorem ndC_ok : NOk ndC := rdT_ok _ _ _ _ nd0_ok
theorem nR9_C {σ : Sg} (h : RdI σ nR9) : RdI σ ndC := by
  obtain ⟨⟨h1, h2, h3⟩, h4, h5⟩ := h
  obtain ⟨n1, n2, n3⟩ := ndC_n
  refine ⟨⟨h1.trans (by rw [n1]; rfl), h2.trans (by rw [n2]; rfl), h3.trans (by rw [n3]; rfl)⟩, fun l hl => ?_, fun d hd => ?_⟩
  · rw [n2] at hl
    obtain ⟨e1, e2, e3, e4⟩ := ndC_l l hl
    obtain ⟨q1, q2, q3, q4⟩ := h4 l hl
    rw [e1, e2, e3, e4]
    exact ⟨q1, q2, q3, q4⟩
  · rw [n3] at hd
    obtain ⟨e1, e2, e3⟩ := ndC_d d hd
    obtain ⟨q1, q2, q3⟩ := h5 d hd
    rw [e1, e2, e3]
    exact ⟨q1, q2, q3⟩
