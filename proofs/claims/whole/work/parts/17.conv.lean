/-! FAR is the least sum: walks, and that as many rounds as nodes less one are enough -/
def WW (a : ND) (w : Nat → Nat) (u : Nat → Bool) (t : Nat) : Nat → Nat → Nat → Prop
  | 0, x, k => x = t ∧ k = 0
  | e + 1, x, k => ∃ l, l < nM a ∧ u l = true ∧ nFr a l = x ∧ ∃ k', k = w l + k' ∧ WW a w u t e (nTo a l) k'
def Dst (a : ND) (w : Nat → Nat) (u : Nat → Bool) (t x k : Nat) : Prop := (∃ e, WW a w u t e x k) ∧ ∀ j, (∃ e, WW a w u t e x j) → k ≤ j
theorem Dst.uniq {a : ND} {w : Nat → Nat} {u : Nat → Bool} {t x k j : Nat} (h : Dst a w u t x k) (h' : Dst a w u t x j) : k = j := Nat.le_antisymm (h.2 j h'.1) (h'.2 k h.1)
theorem Dst.ex {a : ND} {w : Nat → Nat} {u : Nat → Bool} {t x j : Nat} (h : ∃ e, WW a w u t e x j) : ∃ k, Dst a w u t x k := by
  obtain ⟨k, h1, h2⟩ := pk_least (fun k => ∃ e, WW a w u t e x k) ⟨j, h⟩
  exact ⟨k, h1, fun j hj => Nat.not_lt.mp fun q => h2 j q hj⟩
/-- the first LINK of a least way -/
theorem Dst.step {a : ND} {w : Nat → Nat} {u : Nat → Bool} {t x k : Nat} (h : Dst a w u t x k) : (x = t ∧ k = 0) ∨ ∃ l, l < nM a ∧ u l = true ∧ nFr a l = x ∧ ∃ k', k = w l + k' ∧ Dst a w u t (nTo a l) k' := by
  obtain ⟨⟨e, he⟩, hm⟩ := h
  cases e with
  | zero => exact Or.inl he
  | succ e =>
    obtain ⟨l, h1, h2, h3, k', h4, h5⟩ := he
    refine Or.inr ⟨l, h1, h2, h3, k', h4, ⟨e, h5⟩, fun j hj => ?_⟩
    obtain ⟨e', hj⟩ := hj
    have := hm (w l + j) ⟨e' + 1, l, h1, h2, h3, j, rfl, hj⟩
    omega
theorem Dst.edge {a : ND} {w : Nat → Nat} {u : Nat → Bool} {t l k k' : Nat} (hl : l < nM a) (hu : u l = true) (h : Dst a w u t (nFr a l) k) (h' : Dst a w u t (nTo a l) k') : k ≤ w l + k' := by
  obtain ⟨e, he⟩ := h'.1
  exact h.2 _ ⟨e + 1, l, hl, hu, rfl, k', rfl, he⟩
theorem Dst.pred {a : ND} {w : Nat → Nat} {u : Nat → Bool} {t l k' : Nat} (hl : l < nM a) (hu : u l = true) (h' : Dst a w u t (nTo a l) k') : ∃ k, Dst a w u t (nFr a l) k := by
  obtain ⟨e, he⟩ := h'.1
  exact Dst.ex ⟨e + 1, l, hl, hu, rfl, k', rfl, he⟩
theorem Dst.zero {a : ND} {w : Nat → Nat} {u : Nat → Bool} {t : Nat} : Dst a w u t t 0 := ⟨⟨0, rfl, rfl⟩, fun _ _ => Nat.zero_le _⟩
section CV
variable {a : ND} {w : Nat → Nat} {u : Nat → Bool} {t : Nat}
def snd_ (a : ND) (w : Nat → Nat) (u : Nat → Bool) (t : Nat) (f : Nat → Option Nat) : Prop := ∀ x v, f x = some v → ∃ e, WW a w u t e x v
theorem snd_0 : snd_ a w u t (far0 t) := by
  intro x v h
  unfold far0 at h
  split at h
  · next e => cases h; exact ⟨0, e, rfl⟩
  · cases h
theorem rlq_spec {f : Nat → Option Nat} {l z : Nat} (h : rlq a w u f l = some z) : u l = true ∧ ∃ v, f (nTo a l) = some v ∧ z = w l + v ∧ ∀ b, f (nFr a l) = some b → w l + v < b := by
  unfold rlq at h
  split at h
  · next hu =>
    split at h
    · cases h
    · next v hv =>
      split at h
      · next hn => cases h; exact ⟨hu, v, hv, rfl, fun b hb => by rw [hn] at hb; cases hb⟩
      · next b hb =>
        split at h
        · next hlt => cases h; exact ⟨hu, v, hv, rfl, fun b' hb' => by rw [hb] at hb'; cases hb'; exact hlt⟩
        · cases h
  · cases h
theorem rlq_no {f : Nat → Option Nat} {l : Nat} (h : rlq a w u f l = none) (hu : u l = true) {v : Nat} (hv : f (nTo a l) = some v) : ∃ b, f (nFr a l) = some b ∧ b ≤ w l + v := by
  unfold rlq at h
  rw [if_pos hu, hv] at h
  dsimp only at h
  split at h
  · cases h
  · next b hb =>
    split at h
    · cases h
    · next hlt => exact ⟨b, hb, by omega⟩
theorem snd_rlx {f : Nat → Option Nat} {l : Nat} (hl : l < nM a) (hf : snd_ a w u t f) : snd_ a w u t (rlx a w u f l) := by
  intro x v h
  cases hq : rlq a w u f l with
  | none => rw [rlx_none hq] at h; exact hf x v h
  | some z =>
    rw [rlx_some hq] at h
    split at h
    · next e =>
      cases h
      obtain ⟨h1, k', h2, h3, -⟩ := rlq_spec hq
      obtain ⟨e', he'⟩ := hf _ _ h2
      exact ⟨e' + 1, l, hl, h1, e.symm, k', h3, he'⟩
    · exact hf x v h
theorem snd_rnd {f : Nat → Option Nat} (hf : snd_ a w u t f) : ∀ l, l ≤ nM a → snd_ a w u t (rnd a w u f l)
  | 0, _ => hf
  | l + 1, h => snd_rlx (by omega) (snd_rnd hf l (by omega))
theorem snd_itr : ∀ r, snd_ a w u t (itr a w u (far0 t) r)
  | 0 => snd_0
  | r + 1 => snd_rnd (snd_itr r) (nM a) (Nat.le_refl _)
/-- p is no farther than q -/
def leO (p q : Option Nat) : Prop := ∀ v, q = some v → ∃ z, p = some z ∧ z ≤ v
theorem leO.rf (p : Option Nat) : leO p p := fun v h => ⟨v, h, Nat.le_refl _⟩
theorem leO.tr {p q r : Option Nat} (h : leO p q) (h' : leO q r) : leO p r := fun v hv => by
  obtain ⟨z, h1, h2⟩ := h' v hv
  obtain ⟨y, h3, h4⟩ := h z h1
  exact ⟨y, h3, by omega⟩
theorem leO_rlx {f : Nat → Option Nat} {l : Nat} (x : Nat) : leO (rlx a w u f l x) (f x) := by
  cases hq : rlq a w u f l with
  | none => rw [rlx_none hq]; exact leO.rf _
  | some z =>
    rw [rlx_some hq]
    split
    · next e =>
      intro v hv
      obtain ⟨-, k', h2, h3, h4⟩ := rlq_spec hq
      subst e
      have := h4 v hv
      exact ⟨z, rfl, by omega⟩
    · exact leO.rf _
theorem leO_rnd {f : Nat → Option Nat} (x : Nat) {l : Nat} : ∀ {k : Nat}, l ≤ k → leO (rnd a w u f k x) (rnd a w u f l x) := by
  intro k h
  induction k with
  | zero => rw [Nat.le_zero.mp h]; exact leO.rf _
  | succ k ih =>
    by_cases e : l = k + 1
    · rw [e]; exact leO.rf _
    · exact (leO_rlx x).tr (ih (by omega))
theorem rlx_edge {f : Nat → Option Nat} {l v : Nat} (hu : u l = true) (hv : f (nTo a l) = some v) : ∃ z, rlx a w u f l (nFr a l) = some z ∧ z ≤ w l + v := by
  cases hq : rlq a w u f l with
  | none =>
    rw [rlx_none hq]
    exact rlq_no hq hu hv
  | some z =>
    rw [rlx_some hq, if_pos rfl]
    obtain ⟨-, k', h2, h3, -⟩ := rlq_spec hq
    rw [hv] at h2
    cases h2
    exact ⟨z, rfl, by omega⟩
theorem rnd_edge {f : Nat → Option Nat} {l v : Nat} (hl : l < nM a) (hu : u l = true) (hv : f (nTo a l) = some v) : ∃ z, rnd a w u f (nM a) (nFr a l) = some z ∧ z ≤ w l + v := by
  obtain ⟨v', h1, h2⟩ := leO_rnd (a := a) (w := w) (u := u) (f := f) (nTo a l) (Nat.zero_le l) v hv
  obtain ⟨z, h3, h4⟩ := rlx_edge (w := w) hu h1
  obtain ⟨y, h5, h6⟩ := leO_rnd (a := a) (w := w) (u := u) (f := f) (nFr a l) (show l + 1 ≤ nM a from hl) z h3
  exact ⟨y, h5, by omega⟩
theorem itr_t : ∀ r, ∃ z, itr a w u (far0 t) r t = some z ∧ z ≤ 0
  | 0 => ⟨0, by show far0 t t = some 0; unfold far0; rw [if_pos rfl], Nat.le_refl _⟩
  | r + 1 => by
    obtain ⟨z, h1, h2⟩ := itr_t r
    obtain ⟨y, h3, h4⟩ := leO_rnd (a := a) (w := w) (u := u) (f := itr a w u (far0 t) r) t (Nat.zero_le (nM a)) z h1
    exact ⟨y, h3, by omega⟩
theorem cnt_lt {p : Nat → Bool} {x : Nat} (hp : p x = false) : ∀ {n : Nat}, x < n → cnt p n ≤ n - 1 := by
  intro n h
  induction n with
  | zero => omega
  | succ n ih =>
    by_cases e : x = n
    · subst e
      rw [cnt_miss hp]
      have := cnt_le p x
      omega
    · have := ih (by omega)
      simp only [cnt]
      split <;> omega
theorem cnt_sub {p q : Nat → Bool} (h : ∀ x, p x = true → q x = true) : ∀ n, cnt p n ≤ cnt q n
  | 0 => Nat.le_refl _
  | n + 1 => by
    have := cnt_sub h n
    simp only [cnt]
    cases e : p n with
    | false => simp; omega
    | true => rw [h n e]; simp; omega
theorem cnt_ssub {p q : Nat → Bool} (h : ∀ x, p x = true → q x = true) {y : Nat} (hp : p y = false) (hq : q y = true) : ∀ {n : Nat}, y < n → cnt p n < cnt q n := by
  intro n hn
  induction n with
  | zero => omega
  | succ n ih =>
    by_cases e : y = n
    · subst e
      rw [cnt_miss hp, cnt_hit hq]
      have := cnt_sub h y
      omega
    · have := ih (by omega)
      simp only [cnt]
      cases e2 : p n with
      | false => simp; omega
      | true => rw [h n e2]; simp; omega
noncomputable def nearer (a : ND) (w : Nat → Nat) (u : Nat → Bool) (t k : Nat) : Nat → Bool := fun y => @decide (∃ j, Dst a w u t y j ∧ j < k) (Classical.propDecidable _)
theorem nearer_iff {k y : Nat} : nearer a w u t k y = true ↔ ∃ j, Dst a w u t y j ∧ j < k := by
  unfold nearer
  exact @decide_eq_true_iff _ (Classical.propDecidable _)
theorem itr_reach (hO : NOk a) (hw : WOk (nM a) w) (ht : t < nN a) : ∀ (r x k : Nat), Dst a w u t x k → cnt (nearer a w u t k) (nN a) ≤ r → ∃ z, itr a w u (far0 t) r x = some z ∧ z ≤ k := by
  intro r
  induction r with
  | zero =>
    intro x k hD hr
    rcases hD.step with ⟨rfl, rfl⟩ | ⟨l, h1, h2, h3, k', h4, h5⟩
    · exact itr_t 0
    · exfalso
      have hwl := hw l h1
      have := cnt_ssub (p := fun _ => false) (q := nearer a w u t k) (fun x h => by cases h) (y := nTo a l) rfl (nearer_iff.mpr ⟨k', h5, by omega⟩) (n := nN a) (hO.2.2.2.2.1 l h1).2.1
      omega
  | succ r ih =>
    intro x k hD hr
    rcases hD.step with ⟨rfl, rfl⟩ | ⟨l, h1, h2, h3, k', h4, h5⟩
    · exact itr_t _
    · have hwl := hw l h1
      have hlt : cnt (nearer a w u t k') (nN a) < cnt (nearer a w u t k) (nN a) := by
        refine cnt_ssub (y := nTo a l) (fun x hx => ?_) ?_ (nearer_iff.mpr ⟨k', h5, by omega⟩) (hO.2.2.2.2.1 l h1).2.1
        · obtain ⟨j, q1, q2⟩ := nearer_iff.mp hx
          exact nearer_iff.mpr ⟨j, q1, by omega⟩
        · cases e : nearer a w u t k' (nTo a l) with
          | false => rfl
          | true =>
            obtain ⟨j, q1, q2⟩ := nearer_iff.mp e
            have := q1.uniq h5
            omega
      obtain ⟨z, h6, h7⟩ := ih (nTo a l) k' h5 (by omega)
      obtain ⟨y, h8, h9⟩ := rnd_edge (w := w) h1 h2 h6
      rw [h3] at h8
      exact ⟨y, h8, by omega⟩
theorem itr_out (hO : NOk a) (ht : t < nN a) {x : Nat} (hx : ¬ x < nN a) : ∀ r, itr a w u (far0 t) r x = none := by
  have key : ∀ (f : Nat → Option Nat), f x = none → ∀ l, l ≤ nM a → rnd a w u f l x = none := by
    intro f hf l
    induction l with
    | zero => exact fun _ => hf
    | succ l ih =>
      intro hl
      have := ih (by omega)
      rw [rnd]
      cases hq : rlq a w u (rnd a w u f l) l with
      | none => rw [rlx_none hq]; exact this
      | some z =>
        rw [rlx_some hq, if_neg]
        · exact this
        · intro e
          have := (hO.2.2.2.2.1 l (by omega)).1
          omega
  intro r
  induction r with
  | zero =>
    show far0 t x = none
    unfold far0
    rw [if_neg (by omega)]
  | succ r ih => exact key _ ih _ (Nat.le_refl _)
/-- after enough rounds: the least sum, or none -/
theorem itr_is (hO : NOk a) (hw : WOk (nM a) w) (ht : t < nN a) {r : Nat} (hr : nN a - 1 ≤ r) (x : Nat) : (∃ k, Dst a w u t x k ∧ itr a w u (far0 t) r x = some k) ∨ ((¬ ∃ k, Dst a w u t x k) ∧ itr a w u (far0 t) r x = none) := by
  cases hv : itr a w u (far0 t) r x with
  | none =>
    refine Or.inr ⟨fun q => ?_, rfl⟩
    obtain ⟨k, hk⟩ := q
    have hx : x < nN a := by
      rcases hk.step with ⟨rfl, -⟩ | ⟨l, h1, -, h3, -⟩
      · exact ht
      · have := (hO.2.2.2.2.1 l h1).1
        omega
    have hc : cnt (nearer a w u t k) (nN a) ≤ nN a - 1 := by
      refine cnt_lt (x := x) ?_ hx
      cases e : nearer a w u t k x with
      | false => rfl
      | true =>
        obtain ⟨j, q1, q2⟩ := nearer_iff.mp e
        have := q1.uniq hk
        omega
    obtain ⟨z, h1, -⟩ := itr_reach hO hw ht r x k hk (by omega)
    rw [hv] at h1
    cases h1
  | some v =>
    refine Or.inl ?_
    have hs := snd_itr (a := a) (w := w) (u := u) (t := t) r x v hv
    obtain ⟨k, hk⟩ := Dst.ex hs
    have hx : x < nN a := by
      rcases hk.step with ⟨rfl, -⟩ | ⟨l, h1, -, h3, -⟩
      · exact ht
      · have := (hO.2.2.2.2.1 l h1).1
        omega
    have hc : cnt (nearer a w u t k) (nN a) ≤ nN a - 1 := by
      refine cnt_lt (x := x) ?_ hx
      cases e : nearer a w u t k x with
      | false => rfl
      | true =>
        obtain ⟨j, q1, q2⟩ := nearer_iff.mp e
        have := q1.uniq hk
        omega
    obtain ⟨z, h1, h2⟩ := itr_reach hO hw ht r x k hk (by omega)
    rw [hv] at h1
    cases h1
    have := hk.2 v hs
    have e : v = k := by omega
    subst e
    exact ⟨v, hk, rfl⟩
theorem FAR_is (hO : NOk a) (hw : WOk (nM a) w) (ht : t < nN a) (x : Nat) : (∃ k, Dst a w u t x k ∧ FAR a w u t x = some k) ∨ ((¬ ∃ k, Dst a w u t x k) ∧ FAR a w u t x = none) := itr_is hO hw ht (Nat.le_refl _) x
theorem itr_far (hO : NOk a) (hw : WOk (nM a) w) (ht : t < nN a) {r : Nat} (hr : nN a - 1 ≤ r) : itr a w u (far0 t) r = FAR a w u t := by
  funext x
  rcases itr_is (u := u) hO hw ht hr x with ⟨k, h1, h2⟩ | ⟨h1, h2⟩ <;> rcases FAR_is (u := u) hO hw ht x with ⟨j, h3, h4⟩ | ⟨h3, h4⟩
  · rw [h2, h4, h1.uniq h3]
  · exact absurd ⟨k, h1⟩ h3
  · exact absurd ⟨j, h3⟩ h1
  · rw [h2, h4]
theorem far_conv (hO : NOk a) (hw : WOk (nM a) w) (ht : t < nN a) {r : Nat} (hr : r ≤ nN a) (h : r = nN a ∨ rnd a w u (itr a w u (far0 t) r) (nM a) = itr a w u (far0 t) r) : itr a w u (far0 t) r = FAR a w u t := by
  rcases h with h | h
  · exact itr_far hO hw ht (by omega)
  · have key : ∀ j, itr a w u (far0 t) (r + j) = itr a w u (far0 t) r := by
      intro j
      induction j with
      | zero => rfl
      | succ j ih =>
        show rnd a w u (itr a w u (far0 t) (r + j)) (nM a) = _
        rw [ih, h]
    rw [← key (nN a), itr_far hO hw ht (by omega)]
end CV
