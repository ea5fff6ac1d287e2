/-! bits: a set of small numbers as a number -/
def ub (u : Nat → Bool) (m : Nat) : Nat := sumN (fun l => if u l = true then 2 ^ l else 0) m
theorem ub_lt (u : Nat → Bool) : ∀ m, ub u m < 2 ^ m
  | 0 => by show 0 < 1; decide
  | m + 1 => by
    have := ub_lt u m
    show ub u m + (if u m = true then 2 ^ m else 0) < 2 ^ (m + 1)
    rw [Nat.pow_succ]
    split <;> omega
theorem ub_test (u : Nat → Bool) : ∀ m l, (ub u m).testBit l = (decide (l < m) && u l)
  | 0, l => by simp [ub, sumN]
  | m + 1, l => by
    have hlt := ub_lt u m
    show (ub u m + (if u m = true then 2 ^ m else 0)).testBit l = _
    by_cases h1 : l < m
    · have e : decide (l < m + 1) = decide (l < m) := by simp [h1]; omega
      rw [e, ← ub_test u m l]
      split
      · rw [Nat.add_comm, Nat.testBit_two_pow_add_gt h1]
      · rfl
    · by_cases h2 : l = m
      · subst h2
        rw [decide_eq_true (by omega), Bool.true_and]
        have h3 : (ub u l).testBit l = false := Nat.testBit_lt_two_pow hlt
        cases e : u l with
        | true => rw [if_pos rfl, Nat.add_comm, Nat.testBit_two_pow_add_eq, h3]; rfl
        | false => rw [if_neg (by decide)]; exact h3
      · rw [decide_eq_false (by omega), Bool.false_and]
        refine Nat.testBit_lt_two_pow ?_
        have h3 := ub_lt u (m + 1)
        have h4 : 2 ^ (m + 1) ≤ 2 ^ l := Nat.pow_le_pow_right (by decide) (by omega)
        have h5 : ub u m + (if u m = true then 2 ^ m else 0) < 2 ^ (m + 1) := h3
        omega
theorem ub_bit (u : Nat → Bool) (m l : Nat) : ub u m / 2 ^ l % 2 = if l < m ∧ u l = true then 1 else 0 := by
  have h := ub_test u m l
  rw [Nat.testBit_eq_decide_div_mod_eq] at h
  by_cases e : l < m ∧ u l = true
  · rw [if_pos e]
    rw [decide_eq_true e.1, e.2] at h
    exact of_decide_eq_true h
  · rw [if_neg e]
    have h2 : (decide (l < m) && u l) = false := by
      cases q : (decide (l < m) && u l) with
      | false => rfl
      | true =>
        rw [Bool.and_eq_true] at q
        exact absurd ⟨of_decide_eq_true q.1, q.2⟩ e
    rw [h2] at h
    have := of_decide_eq_false h
    omega
theorem s_l : ∀ n, n < 32 → ((nI n &&& 31).toBitVec.smod 32).toNat = n := by decide +kernel
theorem bit_rd {B l : Nat} (hB : B < 2 ^ 31) (hl : l < 31) : (nI B >>> (nI l &&& 31)) &&& nI 1 = nI (B / 2 ^ l % 2) := by
  rw [pk_shrN hB (nI l &&& 31) l (s_l l (by omega))]
  have h : B / 2 ^ l < 2 ^ 32 := Nat.lt_of_le_of_lt (Nat.div_le_self _ _) (by omega)
  rw [pk_andN h (m := nI 1) 1 rfl]
theorem bit_sh {l : Nat} (hl : l < 31) : nI 1 <<< (nI l &&& 31) = nI (2 ^ l) := by
  have h : 1 * 2 ^ l < 2 ^ 32 := by
    have := Nat.pow_lt_pow_right (a := 2) (by decide) (show l < 31 by omega)
    omega
  rw [pk_shlN (nI l &&& 31) l (s_l l (by omega)) h, Nat.one_mul]
theorem bit_xor (a b : Nat) : nI a ^^^ nI b = nI (a ^^^ b) := by
  apply Int32.toBitVec_inj.mp
  rw [Int32.toBitVec_xor]
  show BitVec.ofNat 32 a ^^^ BitVec.ofNat 32 b = BitVec.ofNat 32 (a ^^^ b)
  rw [BitVec.ofNat_xor]
theorem bit_or (a b : Nat) : nI a ||| nI b = nI (a ||| b) := by
  apply Int32.toBitVec_inj.mp
  rw [Int32.toBitVec_or]
  show BitVec.ofNat 32 a ||| BitVec.ofNat 32 b = BitVec.ofNat 32 (a ||| b)
  rw [BitVec.ofNat_or]
def fl1 (u : Nat → Bool) (l : Nat) : Nat → Bool := fun k => if k = l then !u k else u k
def on1 (u : Nat → Bool) (l : Nat) : Nat → Bool := fun k => if k = l then true else u k
theorem ub_xor {u : Nat → Bool} {m l : Nat} (hl : l < m) : ub u m ^^^ 2 ^ l = ub (fl1 u l) m := by
  apply Nat.eq_of_testBit_eq
  intro i
  rw [Nat.testBit_xor, ub_test, ub_test, Nat.testBit_two_pow]
  unfold fl1
  by_cases e : i = l
  · subst e
    rw [if_pos rfl, decide_eq_true hl, decide_eq_true rfl]
    cases u i <;> rfl
  · rw [if_neg e, decide_eq_false (show ¬ l = i from fun q => e q.symm), Bool.xor_false]
theorem ub_or {u : Nat → Bool} {m l : Nat} (hl : l < m) : ub u m ||| 2 ^ l = ub (on1 u l) m := by
  apply Nat.eq_of_testBit_eq
  intro i
  rw [Nat.testBit_or, ub_test, ub_test, Nat.testBit_two_pow]
  unfold on1
  by_cases e : i = l
  · subst e
    rw [if_pos rfl, decide_eq_true hl, decide_eq_true rfl]
    cases u i <;> rfl
  · rw [if_neg e, decide_eq_false (show ¬ l = i from fun q => e q.symm), Bool.or_false]
theorem ub_true : ∀ m, ub (fun _ => true) m + 1 = 2 ^ m
  | 0 => rfl
  | m + 1 => by
    have := ub_true m
    show ub (fun _ => true) m + (if true = true then 2 ^ m else 0) + 1 = 2 ^ (m + 1)
    rw [if_pos rfl, Nat.pow_succ]
    omega
theorem ub_congr {u v : Nat → Bool} {m : Nat} (h : ∀ l, l < m → u l = v l) : ub u m = ub v m := sum_congr (fun l hl => by rw [h l hl])
theorem ub_ones {u : Nat → Bool} {m : Nat} : ∀ b, sumN (fun k => ub u m / 2 ^ k % 2) b = cnt u (min b m)
  | 0 => by rw [Nat.zero_min]; rfl
  | b + 1 => by
    rw [sumN, ub_ones b, ub_bit]
    by_cases h : b < m
    · rw [show min (b + 1) m = b + 1 by omega, show min b m = b by omega, cnt]
      cases e : u b with
      | true => rw [if_pos ⟨h, rfl⟩, if_pos rfl]
      | false => rw [if_neg (by simp), if_neg (by decide)]
    · rw [show min (b + 1) m = m by omega, show min b m = m by omega, if_neg (fun q => h q.1)]
      rfl
