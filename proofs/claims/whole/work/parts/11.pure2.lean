/-! pure words for the reader -/
theorem J_clr {g : jG} {κ : jC} {nL pc : Nat} {L L' : List (Option Value)} {S : List Value} {σ : Sg} (i : Nat) (h : L.set i none = L') (k : J g κ nL pc L' S σ) : J g κ nL pc L S σ := fun ls H locs hl hP hD hS => by
  subst h
  have key : ∀ (j : Nat) (v : Value), (L.set i none)[j]? = some (some v) → L[j]? = some (some v) := by
    intro j v hj
    by_cases hji : i = j
    · subst hji
      by_cases hlt : i < L.length
      · rw [List.getElem?_set_self hlt] at hj
        cases hj
      · rw [List.getElem?_eq_none (by simp; omega)] at hj
        cases hj
    · rw [List.getElem?_set_ne hji] at hj
      exact hj
  refine k ls H locs ⟨⟨hl.1.1, hl.1.2.1, ?_⟩, fun j v hj => hl.2 j v (key j v hj)⟩ hP hD hS
  rintro ⟨j, v⟩ hq
  obtain ⟨j', e1, e2⟩ := (jlv_mem _ 0 j v).mp hq
  have e3 : j' = j := by omega
  subst e3
  exact jl_at hl (key _ _ e2)
theorem dig_val {c : Int32} {a : Nat} (h1 : nI 48 ≤ c) (h2 : c ≤ nI 57) : nI a + c - nI 48 = nI (a + (c.toInt - 48).toNat) := by
  obtain ⟨k, k1, k2, rfl⟩ := (nI_rng (by decide) (by decide)).mp ⟨h1, h2⟩
  rw [nI_add, pk_sub (by omega), nI_toInt (by omega)]
  congr 1
  omega
theorem dig_lt {c : Int32} (h1 : nI 48 ≤ c) (h2 : c ≤ nI 57) : (c.toInt - 48).toNat ≤ 9 := by
  obtain ⟨k, k1, k2, rfl⟩ := (nI_rng (by decide) (by decide)).mp ⟨h1, h2⟩
  rw [nI_toInt (by omega)]
  omega
theorem scan_bad1 {tx : Nat → Int32} {e k at_ fg v : Nat} {acc : List Nat} (hc : at_ < e → tx at_ = nI 44) (h : fg = 0 ∨ 4 ≤ acc.length) : scan tx e (k + 1) at_ fg v acc = none := by
  have : (if at_ < e then tx at_ else nI 44) = nI 44 := by
    split
    · exact hc (by assumption)
    · rfl
  simp only [scan, this, if_true, h]
theorem scan_num {tx : Nat → Int32} {e k at_ fg v : Nat} {acc : List Nat} (hc : at_ < e → tx at_ = nI 44) (h1 : ¬ fg = 0) (h2 : acc.length < 4) : scan tx e (k + 1) at_ fg v acc = scan tx e k (at_ + 1) 0 0 (acc ++ [v]) := by
  have : (if at_ < e then tx at_ else nI 44) = nI 44 := by
    split
    · exact hc (by assumption)
    · rfl
  rw [scan, if_pos this, if_neg (by omega)]
theorem scan_dig {tx : Nat → Int32} {e k at_ fg v : Nat} {acc : List Nat} (ha : at_ < e) (hc : ¬ tx at_ = nI 44) (h1 : nI 48 ≤ tx at_) (h2 : tx at_ ≤ nI 57) (h3 : fg < 2) : scan tx e (k + 1) at_ fg v acc = scan tx e k (at_ + 1) (fg + 1) (10 * v + ((tx at_).toInt - 48).toNat) acc := by
  rw [scan, if_neg (by rw [if_pos ha]; exact hc), if_pos ⟨h1, h2, h3⟩]
theorem scan_bad2 {tx : Nat → Int32} {e k at_ fg v : Nat} {acc : List Nat} (ha : at_ < e) (hc : ¬ tx at_ = nI 44) (h : ¬ (nI 48 ≤ tx at_ ∧ tx at_ ≤ nI 57 ∧ fg < 2)) : scan tx e (k + 1) at_ fg v acc = none := by
  rw [scan, if_neg (by rw [if_pos ha]; exact hc), if_neg h]
theorem getD_snoc {acc : List Nat} {v : Nat} : (acc ++ [v]).getD acc.length 0 = v := by
  rw [List.getD_eq_getElem?_getD, List.getElem?_append_right (Nat.le_refl _), Nat.sub_self]
  rfl
theorem getD_app {acc : List Nat} {v i : Nat} (h : i < acc.length) : (acc ++ [v]).getD i 0 = acc.getD i 0 := by
  rw [List.getD_eq_getElem?_getD, List.getD_eq_getElem?_getD, List.getElem?_append_left h]
