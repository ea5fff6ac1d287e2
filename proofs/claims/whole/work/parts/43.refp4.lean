/-! what is kept; steps -/
theorem RS1.move {σ σ' : Sg} {P o P' o' m : Nat} {s : SD} (h : RS1 σ P o m s) (hm : m ≤ 12) (hl : s.2.2.1.length ≤ 6) (hk : ∀ n, n < 21 → σ' P' (o' + n) = σ P (o + n)) : RS1 σ' P' o' m s := by
  obtain ⟨h1, h2, h3, h4, h5⟩ := h
  exact ⟨fun l q => (hk _ (by omega)).trans (h1 l q), (hk _ (by omega)).trans h2, (hk _ (by omega)).trans h3, (hk _ (by omega)).trans h4, fun k q => by
    have := h5 k q
    rw [Nat.add_assoc] at this ⊢
    exact (hk _ (by omega)).trans this⟩
theorem RI_chg {σ σ' : Sg} {A : AB} {s' : SD} (hC : RI σ A) (hA : AOk A) (hfr : ∀ j n, (j = 84 ∧ (n = 1 ∨ 10 ≤ n ∧ n ≤ 12) ∨ j = 85 ∨ j = 88 ∨ j = 89) → σ' j n = σ j n) (h15 : σ' 84 15 = nI (min (A.2.2.2.2.length + 1) 6)) (hk : ∀ k, k < 21 → σ' 91 (21 * min A.2.2.2.2.length 5 + k) = σ 90 k) (hb : ∀ n, n < 21 * min A.2.2.2.2.length 5 → σ' 91 n = if A.2.2.2.2.length = 6 then σ 91 (n + 21) else σ 91 n) (hS : RS1 σ' 90 0 (nM A.2.2.1) s') : RI σ' (chg A s') := by
  obtain ⟨⟨h1, h2, h3⟩, h4, h5, h6, h7⟩ := hC
  have hp6 := hA.2.2.2.1
  have hm := hA.1.2.2.1
  refine ⟨⟨(hfr _ _ (by omega)).trans h1, h2, fun k q => (hfr _ _ (by omega)).trans (h3 k q)⟩, h4.kept (fun j n q => hfr j n (by omega)), hS, ?_, ?_⟩
  · show σ' 84 15 = nI (push6 A.2.2.2.2 A.2.2.2.1).length
    rw [push6_len hp6]; exact h15
  · intro k s hs
    have hs' : (push6 A.2.2.2.2 A.2.2.2.1)[k]? = some s := hs
    have hlt : k < (push6 A.2.2.2.2 A.2.2.2.1).length := by
      by_cases e : k < (push6 A.2.2.2.2 A.2.2.2.1).length
      · exact e
      · rw [List.getElem?_eq_none (by omega)] at hs'; cases hs'
    rw [push6_len hp6] at hlt
    have hg := push6_getD (s := A.2.2.2.1) (d := A.2.2.2.1) hp6 hlt
    rw [List.getD_eq_getElem?_getD, hs', Option.getD_some] at hg
    have old : ∀ j, j < A.2.2.2.2.length → ∃ z, A.2.2.2.2[j]? = some z ∧ A.2.2.2.2.getD j A.2.2.2.1 = z := fun j hj => ⟨A.2.2.2.2[j], List.getElem?_eq_getElem hj, by rw [List.getD_eq_getElem?_getD, List.getElem?_eq_getElem hj]; rfl⟩
    by_cases e6 : A.2.2.2.2.length = 6
    · rw [if_pos e6] at hg
      by_cases e5 : k < 5
      · rw [if_pos e5] at hg
        obtain ⟨z, z1, z2⟩ := old (k + 1) (by omega)
        rw [z2] at hg
        subst hg
        have hz := h7 (k + 1) s z1
        refine hz.move hm (hA.2.2.2.2 s (List.mem_of_getElem? z1)).2.1 (fun n hn => ?_)
        rw [hb (21 * k + n) (by omega), if_pos e6, show 21 * k + n + 21 = 21 * (k + 1) + n by omega]
      · rw [if_neg e5] at hg
        subst hg
        refine h5.move hm hA.2.1.2.1 (fun n hn => ?_)
        have := hk n hn
        rw [show min A.2.2.2.2.length 5 = k by omega] at this
        rw [this, Nat.zero_add]
    · rw [if_neg e6] at hg
      by_cases e5 : k < A.2.2.2.2.length
      · rw [if_pos e5] at hg
        obtain ⟨z, z1, z2⟩ := old k e5
        rw [z2] at hg
        subst hg
        have hz := h7 k s z1
        refine hz.move hm (hA.2.2.2.2 s (List.mem_of_getElem? z1)).2.1 (fun n hn => ?_)
        rw [hb (21 * k + n) (by omega), if_neg e6]
      · rw [if_neg e5] at hg
        subst hg
        refine h5.move hm hA.2.1.2.1 (fun n hn => ?_)
        have := hk n hn
        rw [show min A.2.2.2.2.length 5 = k by omega] at this
        rw [this, Nat.zero_add]
theorem sok_upd {m l x c : Nat} {s : SD} (h : SOk m s) (h1 : 1 ≤ x) (h2 : x ≤ 20) {tl : List Int32} (ht : tl.length ≤ 6) : SOk m (updN s.1 l x, s.2.1, tl, min s.2.2.2 c) := by
  refine ⟨wok_upd h.1 h1 h2, ht, ?_⟩
  have := h.2.2
  show min s.2.2.2 c < 2 ^ 31
  omega
theorem stp1_ok {a : ND} {s : SD} {y : SD × Nat} (h : SOk (nM a) s) (hy : stp1 a s = some y) : SOk (nM a) y.1 ∧ y.2 = costN a y.1.1 y.1.2.1 := by
  unfold stp1 at hy
  cases e : fnd a s true (-1) with
  | none => rw [e] at hy; cases hy
  | some b =>
    rw [e] at hy
    obtain ⟨l, x, c⟩ := b
    cases hy
    have hk := fnd_ok e
    refine ⟨sok_upd h hk.2.1 hk.2.2.1 ?_, hk.2.2.2.2.2⟩
    rw [push6_len h.2.1]
    omega
noncomputable def stR (a : ND) : Nat → SD → SD
  | 0, s => s
  | k + 1, s => match stp1 a s with
    | none => s
    | some y => stR a k y.1
theorem stR_none {a : ND} {s : SD} (h : stp1 a s = none) : ∀ k, stR a k s = s
  | 0 => rfl
  | k + 1 => by rw [stR, h]
theorem stR_some {a : ND} {s : SD} {y : SD × Nat} (h : stp1 a s = some y) (k : Nat) : stR a (k + 1) s = stR a k y.1 := by rw [stR, h]
theorem stpN_eq {a : ND} : ∀ (k : Nat) (z : SD × Nat), SOk (nM a) z.1 → z.2 = costN a z.1.1 z.1.2.1 → (stpN a k z).1 = stR a k z.1 ∧ (stpN a k z).2 = costN a (stpN a k z).1.1 (stpN a k z).1.2.1 ∧ SOk (nM a) (stpN a k z).1
  | 0, z, h0, h => ⟨rfl, h, h0⟩
  | k + 1, z, h0, h => by
    cases e : stp1 a z.1 with
    | none =>
      rw [stR_none e]
      rw [show stpN a (k + 1) z = z by rw [stpN, e]]
      exact ⟨rfl, h, h0⟩
    | some y =>
      rw [stR_some e, show stpN a (k + 1) z = stpN a k y by rw [stpN, e]]
      exact stpN_eq k y (stp1_ok h0 e).1 (stp1_ok h0 e).2
theorem RS1_mk {σ : Sg} {m : Nat} {w : Nat → Nat} {u : Nat → Bool} {tl : List Int32} {le : Nat} (h1 : RW σ m w u) (h2 : σ 90 13 = nI le) (h3 : RT σ tl) : RS1 σ 90 0 m (w, u, tl, le) := ⟨fun l hl => by rw [Nat.zero_add]; exact h1.1 l hl, h1.2, h2, h3.1, fun k hk => h3.2 k hk⟩
