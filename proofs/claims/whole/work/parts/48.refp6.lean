section ITM
variable {tx : Nat → Int32} {s e : Nat} {a : ND} {vs : List Nat}
theorem itN_begun (h1 : tx s = nI 110) (hb : bgn a = true) : item tx s e a = none := by
  have hx : ¬ (nM a = 0 ∧ nD a = 0) := fun q => by
    unfold bgn at hb
    rw [decide_eq_true q.1, decide_eq_true q.2] at hb
    cases hb
  unfold item
  split
  · split
    · rfl
    · skip
      split
      · exact if_neg (fun q => hx ⟨q.1, q.2.1⟩)
      · rfl
  · rfl
theorem itL_full (h1 : tx s = nI 108) (hb : ¬ nM a < 12) : item tx s e a = none := by
  unfold item
  split
  · split
    · rfl
    · rw [if_neg (by rw [h1]; decide)]
      split
      · exact if_neg (fun q => hb q.1)
      · rfl
  · rfl
theorem itD_full (h1 : tx s = nI 100) (hb : ¬ nD a < 6) : item tx s e a = none := by
  unfold item
  split
  · split
    · rfl
    · rw [if_neg (by rw [h1]; decide), if_neg (by rw [h1]; decide)]
      split
      · exact if_neg (fun q => hb q.1)
      · rfl
  · rfl
theorem itN (hse : s < e) (h : scan tx e (e + 1 - (s + 1)) (s + 1) 0 0 [] = some vs) (hl : vs.length = 1) (h1 : tx s = nI 110) : item tx s e a = if nM a = 0 ∧ nD a = 0 ∧ 2 ≤ vs.getD 0 0 ∧ vs.getD 0 0 ≤ 7 then some (ndN a (vs.getD 0 0)) else none := by
  rw [list1 hl] at h
  exact item_n hse h h1
theorem itL (hse : s < e) (h : scan tx e (e + 1 - (s + 1)) (s + 1) 0 0 [] = some vs) (hl : vs.length = 4) (h1 : tx s = nI 108) : item tx s e a = if nM a < 12 ∧ vs.getD 0 0 < nN a ∧ vs.getD 1 0 < nN a ∧ vs.getD 0 0 ≠ vs.getD 1 0 ∧ 1 ≤ vs.getD 2 0 ∧ vs.getD 2 0 ≤ 99 ∧ 1 ≤ vs.getD 3 0 ∧ vs.getD 3 0 ≤ 20 then some (ndL a (vs.getD 0 0) (vs.getD 1 0) (vs.getD 2 0) (vs.getD 3 0)) else none := by
  rw [list4 hl] at h
  exact item_l hse h h1
theorem itD (hse : s < e) (h : scan tx e (e + 1 - (s + 1)) (s + 1) 0 0 [] = some vs) (hl : vs.length = 3) (h1 : tx s = nI 100) : item tx s e a = if nD a < 6 ∧ vs.getD 0 0 < nN a ∧ vs.getD 1 0 < nN a ∧ vs.getD 0 0 ≠ vs.getD 1 0 ∧ 1 ≤ vs.getD 2 0 ∧ vs.getD 2 0 ≤ 99 then some (ndD a (vs.getD 0 0) (vs.getD 1 0) (vs.getD 2 0)) else none := by
  rw [list3 hl] at h
  exact item_d hse h h1
theorem bgn_f (h : bgn a = false) : nM a = 0 ∧ nD a = 0 := by
  unfold bgn at h
  rw [Bool.not_eq_false', Bool.and_eq_true, decide_eq_true_iff, decide_eq_true_iff] at h
  exact h
theorem bgn_N (v : Nat) : bgn (ndN a v) = bgn a := rfl
theorem bgn_L (p q r w : Nat) : bgn (ndL a p q r w) = true := by
  unfold bgn
  rw [show decide (nM (ndL a p q r w) = 0) = false from decide_eq_false (fun q => by have : nM a + 1 = 0 := q; omega)]
  rfl
theorem bgn_D (p q r : Nat) : bgn (ndD a p q r) = true := by
  unfold bgn
  rw [show decide (nD (ndD a p q r) = 0) = false from decide_eq_false (fun q => by have : nD a + 1 = 0 := q; omega), Bool.and_false]
  rfl
end ITM
