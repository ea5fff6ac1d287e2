/-! pure words: the order of the nodes; a demand's run -/
def bfr (k : Nat → Nat) (x y : Nat) : Prop := k y < k x ∨ (k x = k y ∧ x < y)
def Ord (k : Nat → Nat) (n : Nat) (L : Nat → Nat) : Prop := (∀ i, i < n → L i < n) ∧ (∀ i j, i < j → j < n → bfr k (L i) (L j)) ∧ ∀ y, y < n → ∃ i, i < n ∧ L i = y
def insF (L : Nat → Nat) (p x : Nat) : Nat → Nat := fun i => if i < p then L i else if i = p then x else L (i - 1)
theorem ord_ins {k : Nat → Nat} {x p : Nat} {L : Nat → Nat} (h : Ord k x L) (hp : p ≤ x) (h1 : ∀ j, p ≤ j → j < x → k (L j) < k x) (h2 : p = 0 ∨ k x ≤ k (L (p - 1))) : Ord k (x + 1) (insF L p x) := by
  obtain ⟨o1, o2, o3⟩ := h
  have lo : ∀ i, i < p → k x ≤ k (L i) := by
    intro i hi
    rcases h2 with h2 | h2
    · omega
    · by_cases e : i = p - 1
      · rw [e]; exact h2
      · rcases o2 i (p - 1) (by omega) (by omega) with q | q <;> omega
  refine ⟨fun i hi => ?_, fun i j hij hj => ?_, fun y hy => ?_⟩
  · unfold insF
    split
    · have := o1 i (by omega); omega
    · split
      · omega
      · have := o1 (i - 1) (by omega); omega
  · unfold insF
    by_cases hi : i < p
    · rw [if_pos hi]
      by_cases hj1 : j < p
      · rw [if_pos hj1]; exact o2 i j hij (by omega)
      · rw [if_neg hj1]
        by_cases hj2 : j = p
        · rw [if_pos hj2]
          have e1 := lo i hi
          have e2 := o1 i (by omega)
          unfold bfr
          omega
        · rw [if_neg hj2]; exact o2 i (j - 1) (by omega) (by omega)
    · rw [if_neg hi, if_neg (show ¬ j < p by omega), if_neg (show ¬ j = p by omega)]
      by_cases hi2 : i = p
      · rw [if_pos hi2]
        exact Or.inl (h1 (j - 1) (by omega) (by omega))
      · rw [if_neg hi2]; exact o2 (i - 1) (j - 1) (by omega) (by omega)
  · by_cases e : y = x
    · refine ⟨p, by omega, ?_⟩
      unfold insF
      rw [if_neg (Nat.lt_irrefl _), if_pos rfl, e]
    · obtain ⟨i, i1, i2⟩ := o3 y (by omega)
      by_cases hi : i < p
      · refine ⟨i, by omega, ?_⟩
        unfold insF
        rw [if_pos hi, i2]
      · refine ⟨i + 1, by omega, ?_⟩
        unfold insF
        rw [if_neg (by omega), if_neg (by omega), Nat.add_sub_cancel, i2]
theorem ord_uniq {k : Nat → Nat} {n : Nat} {L L' : Nat → Nat} (h : Ord k n L) (h' : Ord k n L') : ∀ i, i < n → L i = L' i := by
  intro i
  induction i using Nat.strongRecOn with
  | _ i ih =>
    intro hi
    obtain ⟨o1, o2, o3⟩ := h
    obtain ⟨p1, p2, p3⟩ := h'
    obtain ⟨x, x1, x2⟩ := p3 (L i) (o1 i hi)
    obtain ⟨y, y1, y2⟩ := o3 (L' i) (p1 i hi)
    have irr : ∀ z, ¬ bfr k z z := fun z q => by unfold bfr at q; omega
    by_cases ex : x = i
    · rw [← x2, ex]
    · by_cases ey : y = i
      · rw [← y2, ey]
      · have hx : ¬ x < i := fun q => by
          have e1 := ih x q (by omega)
          rw [x2] at e1
          exact irr (L i) (by have := o2 x i q hi; rwa [e1] at this)
        have hy : ¬ y < i := fun q => by
          have e1 := ih y q (by omega)
          rw [y2] at e1
          exact irr (L' i) (by have := p2 y i q hi; rwa [← e1] at this)
        have b1 := p2 i x (by omega) x1
        have b2 := o2 i y (by omega) y1
        rw [x2] at b1
        rw [y2] at b2
        unfold bfr at b1 b2
        omega
theorem sum_pt {p : Nat → Bool} {c k : Nat} : ∀ b, sumN (fun l => if p l = true then ptN p c k l else 0) b = cnt p b * (c / k) + min (cnt p b) (c % k)
  | 0 => by simp [sumN, cnt]
  | b + 1 => by
    rw [sumN, sum_pt b]
    cases e : p b with
    | false =>
      rw [cnt_miss e]
      simp
    | true =>
      rw [cnt_hit e]
      simp only [if_true, ptN]
      rw [Nat.add_mul, Nat.one_mul]
      split <;> omega
theorem sum_le {f h : Nat → Nat} (e : ∀ l, f l ≤ h l) : ∀ b, sumN f b ≤ sumN h b
  | 0 => Nat.le_refl _
  | b + 1 => Nat.add_le_add (sum_le e b) (e b)
theorem sum_pt_le {p : Nat → Bool} {c m : Nat} : sumN (fun l => if p l = true then ptN p c (cnt p m) l else 0) m ≤ c := by
  rw [sum_pt]
  by_cases h : cnt p m = 0
  · rw [h]; simp
  · have h1 := Nat.mod_lt c (show cnt p m > 0 by omega)
    have h2 := Nat.div_add_mod c (cnt p m)
    have h3 : min (cnt p m) (c % cnt p m) ≤ c % cnt p m := Nat.min_le_right _ _
    omega
theorem cmB_bd {a : ND} {p : Nat → Bool} {c m : Nat} {cm : Nat → Nat} (y : Nat) : cmB a p c (cnt p m) cm m y ≤ cm y + c := by
  unfold cmB
  have h1 := sum_le (f := fun l => if p l = true ∧ nTo a l = y then ptN p c (cnt p m) l else 0) (h := fun l => if p l = true then ptN p c (cnt p m) l else 0) (fun l => by
    split
    · next q => rw [if_pos q.1]; exact Nat.le_refl _
    · exact Nat.zero_le _) m
  have h2 := sum_pt_le (p := p) (c := c) (m := m)
  omega
/-- a run's standing: what has come, shares, loads -/
abbrev RS : Type := (Nat → Nat) × (Nat → Nat) × (Nat → Nat)
def stp3 (a : ND) (w : Nat → Nat) (u : Nat → Bool) (f : Nat → Option Nat) (x : Nat) (s : RS) : RS :=
  (cmB a (prd a w u f x) (s.1 x) (cnt (prd a w u f x) (nM a)) s.1 (nM a), shB (prd a w u f x) (s.1 x) (cnt (prd a w u f x) (nM a)) s.2.1 (nM a), ldB (prd a w u f x) (s.1 x) (cnt (prd a w u f x) (nM a)) s.2.2 (nM a))
def runS (a : ND) (w : Nat → Nat) (u : Nat → Bool) (f : Nat → Option Nat) (L : Nat → Nat) (s : RS) : Nat → RS
  | 0 => s
  | i + 1 => if 0 < (runS a w u f L s i).1 (L i) then stp3 a w u f (L i) (runS a w u f L s i) else runS a w u f L s i
theorem stp3_bd {a : ND} {w : Nat → Nat} {u : Nat → Bool} {f : Nat → Option Nat} {x B : Nat} {s : RS} (h : ∀ y, s.1 y ≤ B) (y : Nat) : (stp3 a w u f x s).1 y ≤ 2 * B := by
  have h1 := cmB_bd (a := a) (p := prd a w u f x) (c := s.1 x) (m := nM a) (cm := s.1) y
  have h2 := h y
  have h3 := h x
  show cmB a (prd a w u f x) (s.1 x) (cnt (prd a w u f x) (nM a)) s.1 (nM a) y ≤ 2 * B
  omega
theorem runS_bd {a : ND} {w : Nat → Nat} {u : Nat → Bool} {f : Nat → Option Nat} {L : Nat → Nat} {B : Nat} {s : RS} (h : ∀ y, s.1 y ≤ B) : ∀ i y, (runS a w u f L s i).1 y ≤ B * 2 ^ i
  | 0, y => by rw [Nat.pow_zero, Nat.mul_one]; exact h y
  | i + 1, y => by
    rw [runS, Nat.pow_succ, ← Nat.mul_assoc]
    split
    · have := stp3_bd (a := a) (w := w) (u := u) (f := f) (x := L i) (runS_bd (a := a) (w := w) (u := u) (f := f) (L := L) h i) y
      omega
    · have := runS_bd (a := a) (w := w) (u := u) (f := f) (L := L) h i y
      omega
def cm0 (s z : Nat) : Nat → Nat := fun y => if y = s then 12 * z else 0
