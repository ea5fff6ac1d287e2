/-! pure words of the search; a LINK that is not SHORT may grow heavier -/
theorem WW_le {a : ND} {w w' : Nat → Nat} {u : Nat → Bool} {t : Nat} (h : ∀ l, w l ≤ w' l) : ∀ (e x k : Nat), WW a w' u t e x k → ∃ k', k' ≤ k ∧ WW a w u t e x k'
  | 0, x, k, hk => ⟨k, Nat.le_refl _, hk⟩
  | e + 1, x, k, ⟨l, h1, h2, h3, k', h4, h5⟩ => by
    obtain ⟨j, j1, j2⟩ := WW_le h e (nTo a l) k' h5
    exact ⟨w l + j, by have := h l; omega, l, h1, h2, h3, j, rfl, j2⟩
theorem shb_iff {a : ND} {w : Nat → Nat} {u : Nat → Bool} {f : Nat → Option Nat} {l : Nat} : shb a w u f l = true ↔ u l = true ∧ ∃ v, f (nTo a l) = some v ∧ f (nFr a l) = some (w l + v) := by
  unfold shb
  cases h : f (nTo a l) with
  | none => simp
  | some v => simp
theorem FAR_some {a : ND} {w : Nat → Nat} {u : Nat → Bool} {t x k : Nat} (hO : NOk a) (hw : WOk (nM a) w) (ht : t < nN a) : FAR a w u t x = some k ↔ Dst a w u t x k := by
  rcases FAR_is (u := u) hO hw ht x with ⟨j, h1, h2⟩ | ⟨h1, h2⟩
  · rw [h2]
    exact ⟨fun q => by cases q; exact h1, fun q => by rw [h1.uniq q]⟩
  · rw [h2]
    exact ⟨(fun q => by cases q), fun q => absurd ⟨k, q⟩ h1⟩
section SET
variable {a : ND} {w w' : Nat → Nat} {u : Nat → Bool} {l0 : Nat}
theorem set_far (hO : NOk a) (hw : WOk (nM a) w) (hw' : WOk (nM a) w') (hle : ∀ l, w l ≤ w' l) (hne : ∀ l, l ≠ l0 → w' l = w l) {t : Nat} (ht : t < nN a) (hs : shb a w u (FAR a w u t) l0 = false) : FAR a w' u t = FAR a w u t := by
  have key : ∀ (k x : Nat), Dst a w u t x k → ∃ e, WW a w' u t e x k := by
    intro k
    induction k using Nat.strongRecOn with
    | _ k ih =>
      intro x hD
      rcases hD.step with ⟨h1, h2⟩ | ⟨l, h1, h2, h3, k', h4, h5⟩
      · exact ⟨0, h1, h2⟩
      · have hwl := hw l h1
        by_cases e : l = l0
        · exfalso
          subst e
          have : shb a w u (FAR a w u t) l = true := shb_iff.mpr ⟨h2, k', (FAR_some hO hw ht).mpr h5, (FAR_some hO hw ht).mpr (by rw [h3, ← h4]; exact hD)⟩
          rw [hs] at this
          cases this
        · obtain ⟨e', he⟩ := ih k' (by omega) (nTo a l) h5
          exact ⟨e' + 1, l, h1, h2, h3, k', by rw [hne l e]; exact h4, he⟩
  have to' : ∀ x k, Dst a w u t x k → Dst a w' u t x k := fun x k hD => ⟨key k x hD, fun j hj => by
    obtain ⟨e, he⟩ := hj
    obtain ⟨j', j1, j2⟩ := WW_le hle e x j he
    have := hD.2 j' ⟨e, j2⟩
    omega⟩
  funext x
  rcases FAR_is (u := u) hO hw ht x with ⟨k, h1, h2⟩ | ⟨h1, h2⟩
  · rw [h2, (FAR_some hO hw' ht).mpr (to' x k h1)]
  · rcases FAR_is (u := u) hO hw' ht x with ⟨k, h3, h4⟩ | ⟨h3, h4⟩
    · exfalso
      obtain ⟨e, he⟩ := h3.1
      obtain ⟨j', j1, j2⟩ := WW_le hle e x k he
      exact h1 (Dst.ex ⟨e, j2⟩)
    · rw [h2, h4]
theorem set_shb (hO : NOk a) (hw : WOk (nM a) w) (hw' : WOk (nM a) w') (hle : ∀ l, w l ≤ w' l) (hne : ∀ l, l ≠ l0 → w' l = w l) (hl0 : l0 < nM a) {t : Nat} (ht : t < nN a) (hs : shb a w u (FAR a w u t) l0 = false) : shb a w' u (FAR a w' u t) = shb a w u (FAR a w u t) := by
  rw [set_far hO hw hw' hle hne ht hs]
  funext l
  by_cases e : l = l0
  · subst e
    rw [hs]
    cases h : shb a w' u (FAR a w u t) l with
    | false => rfl
    | true =>
      exfalso
      obtain ⟨h1, v, h2, h3⟩ := shb_iff.mp h
      have d1 := (FAR_some hO hw ht).mp h2
      have d2 := (FAR_some hO hw ht).mp h3
      have h4 := Dst.edge hl0 h1 d2 d1
      have h5 := hle l
      have e1 : w' l = w l := by omega
      rw [e1] at h3
      have : shb a w u (FAR a w u t) l = true := shb_iff.mpr ⟨h1, v, h2, h3⟩
      rw [hs] at this
      cases this
  · unfold shb
    rw [hne l e]
theorem runS_prd {f : Nat → Option Nat} (h : shb a w' u f = shb a w u f) {L : Nat → Nat} {s : RS} : ∀ i, runS a w' u f L s i = runS a w u f L s i
  | 0 => rfl
  | i + 1 => by
    have hp : ∀ x, prd a w' u f x = prd a w u f x := fun x => by funext l; unfold prd; rw [h]
    have hs : ∀ x (s : RS), stp3 a w' u f x s = stp3 a w u f x s := fun x s => by unfold stp3; rw [hp]
    rw [runS, runS, runS_prd h i, hs]
theorem set_cost (hO : NOk a) (hw : WOk (nM a) w) (hw' : WOk (nM a) w') (hle : ∀ l, w l ≤ w' l) (hne : ∀ l, l ≠ l0 → w' l = w l) (hl0 : l0 < nM a) (hs : sgA a w u l0 (nN a) = false) : costN a w' u = costN a w u := by
  have hg : ∀ b, sgA a w u l0 b = false → ∀ t, t < b → isGo (nGo a) (nD a) t = true → shb a w u (FAR a w u t) l0 = false := by
    intro b
    induction b with
    | zero => intro _ t ht; omega
    | succ b ih =>
      intro hb t ht hgo
      rw [sgA, Bool.or_eq_false_iff] at hb
      by_cases e : t = b
      · subst e
        have := hb.2
        rw [hgo, Bool.true_and] at this
        exact this
      · exact ih hb.1 t (by omega) hgo
  have hd : ∀ d, d < nD a → shb a w u (FAR a w u (nGo a d)) l0 = false := fun d hd => hg _ hs _ (hO.2.2.2.2.2 d hd).2.1 (isGo_mem hd)
  have hF : ∀ d, d < nD a → FAR a w' u (nGo a d) = FAR a w u (nGo a d) := fun d h => set_far hO hw hw' hle hne (hO.2.2.2.2.2 d h).2.1 (hd d h)
  have hS : ∀ d l, d < nD a → SHR a w' u d l = SHR a w u d l := by
    intro d l h
    have e := set_shb hO hw hw' hle hne hl0 (hO.2.2.2.2.2 d h).2.1 (hd d h)
    unfold SHR
    rw [hF d h] at e ⊢
    split
    · rfl
    · rw [runS_prd e]
  have hL : ∀ l, LDD a w' u (nD a) l = LDD a w u (nD a) l := fun l => sum_congr (fun d h => hS d l h)
  have hB : lstN a w' u (nD a) = lstN a w u (nD a) := sum_congr (fun d h => by unfold lostB; rw [hF d h])
  unfold costN
  rw [hB]
  congr 1
  exact sum_congr (fun l _ => by rw [hL l])
end SET
/-- MARK of the WEIGHTS w of m LINKS -/
def mkW (w : Nat → Nat) (m : Nat) : Int32 := mkL (fun k => nI (w k)) m
abbrev BS : Type := Option (Nat × Nat × Nat)
def okT (hd : Bool) (le : Nat) (tl : List Int32) (m : Nat) (w : Nat → Nat) (l x c : Nat) : Bool := !hd || (decide (c < le) || !decide (mkW (updN w l x) m ∈ tl))
def lessB (b : BS) (c : Nat) : Bool := match b with
  | none => true
  | some (_, _, c0) => decide (c < c0)
noncomputable def tryF (a : ND) (w : Nat → Nat) (u : Nat → Bool) (hd : Bool) (le : Nat) (tl : List Int32) (l : Nat) : Nat → BS → BS
  | 0, b => b
  | k + 1, b => if k + 1 = w l then tryF a w u hd le tl l k b else if (lessB (tryF a w u hd le tl l k b) (costN a (updN w l (k + 1)) u) && okT hd le tl (nM a) w l (k + 1) (costN a (updN w l (k + 1)) u)) = true then some (l, k + 1, costN a (updN w l (k + 1)) u) else tryF a w u hd le tl l k b
noncomputable def fndF (a : ND) (w : Nat → Nat) (u : Nat → Bool) (hd : Bool) (le : Nat) (tl : List Int32) (ps : Int32) : Nat → BS
  | 0 => none
  | l + 1 => if nI l = ps then fndF a w u hd le tl ps l else tryF a w u hd le tl l 20 (fndF a w u hd le tl ps l)
def bsI (σ : Sg) (b : BS) : Prop := match b with
  | none => σ 44 3 = -1
  | some (l, x, c) => (σ 44 3 = nI l ∧ σ 44 4 = nI x ∧ σ 44 5 = nI c) ∧ l < 12 ∧ x ≤ 20 ∧ c < 2 ^ 31
theorem bsI.kept {σ σ' : Sg} {b : BS} (h : bsI σ b) (hk : ∀ n, 3 ≤ n → n ≤ 5 → σ' 44 n = σ 44 n) : bsI σ' b := by
  cases b with
  | none => exact (hk 3 (by omega) (by omega)).trans h
  | some z =>
    obtain ⟨l, x, c⟩ := z
    obtain ⟨⟨h1, h2, h3⟩, h4⟩ := h
    exact ⟨⟨(hk _ (by omega) (by omega)).trans h1, (hk _ (by omega) (by omega)).trans h2, (hk _ (by omega) (by omega)).trans h3⟩, h4⟩
