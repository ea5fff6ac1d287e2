/-! pure words: the reference's picking of the farthest node -/
def dnF (L : Nat → Nat) (t : Nat) : Nat → (Nat → Bool)
  | 0 => on1 (fun _ => false) t
  | c + 1 => on1 (dnF L t c) (L c)
theorem dnF_iff {L : Nat → Nat} {t y : Nat} : ∀ {c : Nat}, dnF L t c y = true ↔ y = t ∨ ∃ j, j < c ∧ L j = y
  | 0 => by
    show (if y = t then true else false) = true ↔ _
    constructor
    · intro h
      by_cases e : y = t
      · exact Or.inl e
      · rw [if_neg e] at h; cases h
    · rintro (e | ⟨j, h, _⟩)
      · rw [if_pos e]
      · omega
  | c + 1 => by
    show (if y = L c then true else dnF L t c y) = true ↔ _
    by_cases e : y = L c
    · rw [if_pos e]
      exact ⟨fun _ => Or.inr ⟨c, by omega, e.symm⟩, fun _ => rfl⟩
    · rw [if_neg e, dnF_iff (c := c)]
      constructor
      · rintro (h | ⟨j, h1, h2⟩)
        · exact Or.inl h
        · exact Or.inr ⟨j, by omega, h2⟩
      · rintro (h | ⟨j, h1, h2⟩)
        · exact Or.inl h
        · refine Or.inr ⟨j, ?_, h2⟩
          by_cases e2 : j = c
          · subst e2; exact absurd h2.symm e
          · omega
theorem dn_0 {L : Nat → Nat} {t : Nat} (ht : t < 7) : 2 ^ t = ub (dnF L t 0) 7 := by
  have h := ub_or (u := fun _ => false) ht
  have h2 : ub (fun _ => false) 7 = 0 := rfl
  rw [h2, Nat.zero_or] at h
  exact h
def bst (dn : Nat → Bool) (f : Nat → Option Nat) : Nat → Option Nat
  | 0 => none
  | x + 1 => if dn x = true ∨ f x = none then bst dn f x else match bst dn f x with
    | none => some x
    | some b => if key (f b) < key (f x) then some x else some b
section BST
variable {dn : Nat → Bool} {f : Nat → Option Nat} {x v b z : Nat}
theorem bst_skip (h : dn x = true ∨ f x = none) : bst dn f (x + 1) = bst dn f x := by rw [bst, if_pos h]
theorem bst_new (h1 : dn x = false) (h2 : f x = some v) (h3 : bst dn f x = none) : bst dn f (x + 1) = some x := by
  rw [bst, if_neg (by rw [h1, h2]; simp), h3]
theorem bst_up (h1 : dn x = false) (h2 : f x = some v) (h3 : bst dn f x = some b) (h4 : f b = some z) (h5 : z < v) : bst dn f (x + 1) = some x := by
  rw [bst, if_neg (by rw [h1, h2]; simp), h3]
  show (if key (f b) < key (f x) then some x else some b) = _
  rw [h4, h2]; exact if_pos (show z + 1 < v + 1 by omega)
theorem bst_no (h1 : dn x = false) (h2 : f x = some v) (h3 : bst dn f x = some b) (h4 : f b = some z) (h5 : ¬ z < v) : bst dn f (x + 1) = some b := by
  rw [bst, if_neg (by rw [h1, h2]; simp), h3]
  show (if key (f b) < key (f x) then some x else some b) = _
  rw [h4, h2]; exact if_neg (show ¬ z + 1 < v + 1 by omega)
end BST
theorem bst_spec {dn : Nat → Bool} {f : Nat → Option Nat} : ∀ x, match bst dn f x with
    | none => ∀ y, y < x → dn y = true ∨ f y = none
    | some b => b < x ∧ (dn b = false ∧ ∃ z, f b = some z) ∧ ∀ y, y < x → (dn y = true ∨ f y = none) ∨ y = b ∨ bfr (fun y => key (f y)) b y
  | 0 => fun y hy => by omega
  | x + 1 => by
    have ih := bst_spec (dn := dn) (f := f) x
    by_cases h : dn x = true ∨ f x = none
    · rw [bst_skip h]
      cases e : bst dn f x with
      | none =>
        rw [e] at ih
        intro y hy
        by_cases q : y = x
        · rw [q]; exact h
        · exact ih y (by omega)
      | some b =>
        rw [e] at ih
        refine ⟨by have := ih.1; omega, ih.2.1, fun y hy => ?_⟩
        by_cases q : y = x
        · rw [q]; exact Or.inl h
        · exact ih.2.2 y (by omega)
    · have h1 : dn x = false := by
        cases q : dn x with
        | false => rfl
        | true => exact absurd (Or.inl q) h
      obtain ⟨v, hv⟩ : ∃ v, f x = some v := by
        cases q : f x with
        | none => exact absurd (Or.inr q) h
        | some v => exact ⟨v, rfl⟩
      cases e : bst dn f x with
      | none =>
        rw [bst_new h1 hv e]
        rw [e] at ih
        refine ⟨by omega, ⟨h1, v, hv⟩, fun y hy => ?_⟩
        by_cases q : y = x
        · exact Or.inr (Or.inl q)
        · exact Or.inl (ih y (by omega))
      | some b =>
        rw [e] at ih
        obtain ⟨i1, ⟨i2, z, i3⟩, i4⟩ := ih
        by_cases hz : z < v
        · rw [bst_up h1 hv e i3 hz]
          refine ⟨by omega, ⟨h1, v, hv⟩, fun y hy => ?_⟩
          by_cases q : y = x
          · exact Or.inr (Or.inl q)
          · have kx : key (f x) = v + 1 := by rw [hv]; rfl
            have kb : key (f b) = z + 1 := by rw [i3]; rfl
            rcases i4 y (by omega) with w | w | w
            · exact Or.inl w
            · refine Or.inr (Or.inr (Or.inl ?_))
              dsimp only
              rw [w]; omega
            · refine Or.inr (Or.inr (Or.inl ?_))
              unfold bfr at w
              dsimp only at w ⊢
              omega
        · rw [bst_no h1 hv e i3 hz]
          refine ⟨by omega, ⟨i2, z, i3⟩, fun y hy => ?_⟩
          by_cases q : y = x
          · have kx : key (f x) = v + 1 := by rw [hv]; rfl
            have kb : key (f b) = z + 1 := by rw [i3]; rfl
            refine Or.inr (Or.inr ?_)
            unfold bfr
            dsimp only
            subst q
            omega
          · exact i4 y (by omega)
theorem bst_cand {dn : Nat → Bool} {f : Nat → Option Nat} {x b : Nat} (h : bst dn f x = some b) : b < x ∧ ∃ z, f b = some z := by
  have := bst_spec (dn := dn) (f := f) x
  rw [h] at this
  exact ⟨this.1, this.2.1.2⟩
section PK
variable {f : Nat → Option Nat} {n t q : Nat} {L : Nat → Nat}
theorem ord_inj {k : Nat → Nat} (hL : Ord k n L) {i j : Nat} (hi : i < n) (hj : j < n) (e : L i = L j) : i = j := by
  have irr : ∀ z, ¬ bfr k z z := fun z q => by unfold bfr at q; omega
  by_cases h1 : i < j
  · have := hL.2.1 i j h1 hj
    rw [e] at this
    exact absurd this (irr _)
  · by_cases h2 : j < i
    · have := hL.2.1 j i h2 hi
      rw [e] at this
      exact absurd this (irr _)
    · omega
theorem pick_lt (hL : Ord (fun y => key (f y)) n L) (hq : q < n) (hqt : L q = t) (hre : ∀ i, i < q → ∃ v, f (L i) = some v) {c : Nat} (hc : c < q) : bst (dnF L t c) f n = some (L c) := by
  have hcand : ¬ (dnF L t c (L c) = true ∨ f (L c) = none) := by
    rintro (h | h)
    · rcases dnF_iff.mp h with e | ⟨j, h1, h2⟩
      · rw [← hqt] at e
        have := ord_inj hL (by omega) hq e
        omega
      · have := ord_inj hL (by omega) (by omega) h2
        omega
    · obtain ⟨v, hv⟩ := hre c hc
      rw [h] at hv; cases hv
  have hs := bst_spec (dn := dnF L t c) (f := f) n
  cases e : bst (dnF L t c) f n with
  | none =>
    rw [e] at hs
    exact absurd (hs (L c) (hL.1 c (by omega))) hcand
  | some b =>
    rw [e] at hs
    obtain ⟨h1, ⟨h2, h3⟩, h4⟩ := hs
    congr 1
    obtain ⟨j, j1, j2⟩ := hL.2.2 b h1
    rcases h4 (L c) (hL.1 c (by omega)) with w | w | w
    · exact absurd w hcand
    · exact w.symm
    · have hj : ¬ j < c := fun z => by
        have : dnF L t c b = true := dnF_iff.mpr (Or.inr ⟨j, z, j2⟩)
        rw [h2] at this; cases this
      by_cases ej : j = c
      · rw [← j2, ej]
      · have := hL.2.1 c j (by omega) j1
        rw [j2] at this
        unfold bfr at this w
        dsimp only at this w
        omega
theorem pick_end (hL : Ord (fun y => key (f y)) n L) (hqt : L q = t) (hno : ∀ i, q < i → i < n → f (L i) = none) : bst (dnF L t q) f n = none := by
  have hs := bst_spec (dn := dnF L t q) (f := f) n
  cases e : bst (dnF L t q) f n with
  | none => rfl
  | some b =>
    exfalso
    rw [e] at hs
    obtain ⟨h1, ⟨h2, z, h3⟩, _⟩ := hs
    obtain ⟨j, j1, j2⟩ := hL.2.2 b h1
    by_cases w : j < q
    · have : dnF L t q b = true := dnF_iff.mpr (Or.inr ⟨j, w, j2⟩)
      rw [h2] at this; cases this
    · by_cases w2 : j = q
      · have : dnF L t q b = true := dnF_iff.mpr (Or.inl (by rw [← j2, w2, hqt]))
        rw [h2] at this; cases this
      · have := hno j (by omega) j1
        rw [j2, h3] at this; cases this
end PK
