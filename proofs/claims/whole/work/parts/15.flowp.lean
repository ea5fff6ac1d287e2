/-! pure words of the flow: FAR, SHORT, what goes where -/
/-- the standing at 48 + 4 i: weights and which are up -/
def StW (σ : Sg) (i m : Nat) (w : Nat → Nat) (u : Nat → Bool) : Prop := ∀ l, l < m → σ (48 + 4 * i + 1) l = nI (w l) ∧ σ (48 + 4 * i + 2) l = bI (u l)
def WOk (m : Nat) (w : Nat → Nat) : Prop := ∀ l, l < m → 1 ≤ w l ∧ w l ≤ 20
def c1 (o : Option Nat) : Int32 := match o with
  | none => -1
  | some v => nI v
def c4 (o : Option Nat) : Int32 := match o with
  | none => -4
  | some v => nI v
/-- does LINK l make its beginning nearer -/
def rlq (a : ND) (w : Nat → Nat) (u : Nat → Bool) (f : Nat → Option Nat) (l : Nat) : Option Nat :=
  if u l = true then match f (nTo a l) with
    | none => none
    | some v => match f (nFr a l) with
      | none => some (w l + v)
      | some b => if w l + v < b then some (w l + v) else none
  else none
def rlx (a : ND) (w : Nat → Nat) (u : Nat → Bool) (f : Nat → Option Nat) (l : Nat) : Nat → Option Nat := match rlq a w u f l with
  | none => f
  | some v => fun x => if x = nFr a l then some v else f x
def rnd (a : ND) (w : Nat → Nat) (u : Nat → Bool) (f : Nat → Option Nat) : Nat → (Nat → Option Nat)
  | 0 => f
  | l + 1 => rlx a w u (rnd a w u f l) l
def itr (a : ND) (w : Nat → Nat) (u : Nat → Bool) (f : Nat → Option Nat) : Nat → (Nat → Option Nat)
  | 0 => f
  | r + 1 => rnd a w u (itr a w u f r) (nM a)
def far0 (t : Nat) : Nat → Option Nat := fun x => if x = t then some 0 else none
def FAR (a : ND) (w : Nat → Nat) (u : Nat → Bool) (t : Nat) : Nat → Option Nat := itr a w u (far0 t) (nN a - 1)
def fBd (f : Nat → Option Nat) (b : Nat) : Prop := ∀ x v, f x = some v → v ≤ b
theorem far0_bd (t b : Nat) : fBd (far0 t) b := by
  intro x v h
  unfold far0 at h
  split at h
  · cases h; exact Nat.zero_le _
  · cases h
theorem rlq_bd {a : ND} {w : Nat → Nat} {u : Nat → Bool} {f : Nat → Option Nat} {l b v : Nat} (hf : fBd f b) (hw : w l ≤ 20) (h : rlq a w u f l = some v) : v ≤ b + 20 := by
  unfold rlq at h
  split at h
  · split at h
    · cases h
    · next z hz =>
      have := hf _ _ hz
      split at h
      · cases h; omega
      · split at h
        · cases h; omega
        · cases h
  · cases h
theorem rlx_bd {a : ND} {w : Nat → Nat} {u : Nat → Bool} {f : Nat → Option Nat} {l b : Nat} (hf : fBd f b) (hw : w l ≤ 20) : fBd (rlx a w u f l) (b + 20) := by
  intro x v h
  cases hz : rlq a w u f l with
  | none =>
    simp only [rlx, hz] at h
    have := hf x v h
    omega
  | some z =>
    have h1 := rlq_bd hf hw hz
    simp only [rlx, hz] at h
    split at h
    · cases h; exact h1
    · have := hf x v h; omega
theorem rnd_bd {a : ND} {w : Nat → Nat} {u : Nat → Bool} {f : Nat → Option Nat} {b : Nat} (hf : fBd f b) (hw : WOk (nM a) w) : ∀ l, l ≤ nM a → fBd (rnd a w u f l) (b + 20 * l)
  | 0, _ => hf
  | l + 1, h => by
    have := rlx_bd (a := a) (u := u) (l := l) (rnd_bd (u := u) hf hw l (by omega)) (hw l (by omega)).2
    exact fun x v hx => by have := this x v hx; omega
theorem itr_bd {a : ND} {w : Nat → Nat} {u : Nat → Bool} {t : Nat} (hm : nM a ≤ 12) (hw : WOk (nM a) w) : ∀ r, fBd (itr a w u (far0 t) r) (240 * r)
  | 0 => far0_bd t _
  | r + 1 => by
    have := rnd_bd (u := u) (itr_bd (u := u) (t := t) hm hw r) hw (nM a) (Nat.le_refl _)
    exact fun x v hx => by have := this x v hx; omega
theorem FAR_bd {a : ND} {w : Nat → Nat} {u : Nat → Bool} {t : Nat} (hN : NOk a) (hw : WOk (nM a) w) : fBd (FAR a w u t) 1440 := by
  have := itr_bd (a := a) (u := u) (t := t) hN.2.2.1 hw (nN a - 1)
  have h7 := hN.2.1
  exact fun x v hx => by have := this x v hx; omega
theorem c1_m1 {o : Option Nat} {b : Nat} (hb : b < 2 ^ 31) (h : ∀ v, o = some v → v ≤ b) : c1 o = -1 ↔ o = none := by
  cases o with
  | none => exact ⟨fun _ => rfl, fun _ => rfl⟩
  | some v =>
    refine ⟨fun q => absurd q (nI_neg (by have := h v rfl; omega) (by decide)), fun q => by cases q⟩
def key (o : Option Nat) : Nat := match o with
  | none => 0
  | some v => v + 1
theorem c1_lt {p q : Option Nat} {b : Nat} (hb : b < 2 ^ 30) (hp : ∀ v, p = some v → v ≤ b) (hq : ∀ v, q = some v → v ≤ b) : c1 p < c1 q ↔ key p < key q := by
  cases p with
  | none =>
    cases q with
    | none => exact ⟨fun h => absurd h (by decide), fun h => absurd h (by decide)⟩
    | some v =>
      have := hq v rfl
      refine ⟨fun _ => by simp [key], fun _ => ?_⟩
      show (-1 : Int32) < nI v
      apply Int32.lt_iff_toInt_lt.mpr
      rw [nI_toInt (by omega)]
      have : (-1 : Int32).toInt = -1 := rfl
      omega
  | some z =>
    have hz := hp z rfl
    cases q with
    | none =>
      refine ⟨fun h => ?_, fun h => by simp [key] at h⟩
      have h1 := Int32.lt_iff_toInt_lt.mp h
      change (nI z).toInt < (-1 : Int32).toInt at h1
      rw [nI_toInt (by omega)] at h1
      have : (-1 : Int32).toInt = -1 := rfl
      omega
    | some v =>
      have hv := hq v rfl
      show nI z < nI v ↔ z + 1 < v + 1
      rw [nI_ltI (by omega) (by omega)]
      omega
/-- SHORT by the FAR f -/
def shb (a : ND) (w : Nat → Nat) (u : Nat → Bool) (f : Nat → Option Nat) (l : Nat) : Bool := u l && (match f (nTo a l) with
  | none => false
  | some v => f (nFr a l) == some (w l + v))
def sumN (f : Nat → Nat) : Nat → Nat
  | 0 => 0
  | l + 1 => sumN f l + f l
/-- which LINKS what has come to x goes by; what goes by one -/
def prd (a : ND) (w : Nat → Nat) (u : Nat → Bool) (f : Nat → Option Nat) (x l : Nat) : Bool := nFr a l == x && shb a w u f l
def ptN (p : Nat → Bool) (c k l : Nat) : Nat := c / k + (if cnt p l < c % k then 1 else 0)
/-- what has come, and the shares, behind the first b LINKS -/
def cmB (a : ND) (p : Nat → Bool) (c k : Nat) (cm : Nat → Nat) (b : Nat) : Nat → Nat := fun y => cm y + sumN (fun l => if p l = true ∧ nTo a l = y then ptN p c k l else 0) b
def shB (p : Nat → Bool) (c k : Nat) (sh : Nat → Nat) (b : Nat) : Nat → Nat := fun l => if l < b ∧ p l = true then ptN p c k l else sh l
def ldB (p : Nat → Bool) (c k : Nat) (ld : Nat → Nat) (b : Nat) : Nat → Nat := fun l => if l < b ∧ p l = true then ld l + ptN p c k l else ld l
theorem cnt_mono (p : Nat → Bool) : ∀ {b c : Nat}, b ≤ c → cnt p b ≤ cnt p c := by
  intro b c h
  induction c with
  | zero => rw [Nat.le_zero.mp h]; exact Nat.le_refl _
  | succ c ih =>
    by_cases e : b = c + 1
    · rw [e]; exact Nat.le_refl _
    · have := ih (by omega)
      simp only [cnt]
      omega
theorem cnt_hit {p : Nat → Bool} {l : Nat} (h : p l = true) : cnt p (l + 1) = cnt p l + 1 := by simp only [cnt, h, if_true]
theorem cnt_miss {p : Nat → Bool} {l : Nat} (h : p l = false) : cnt p (l + 1) = cnt p l := by simp [cnt, h]
/-- no LINK of p between two places of the same count -/
theorem cnt_gap {p : Nat → Bool} {b c : Nat} (h : cnt p b = cnt p c) {l : Nat} (h1 : b ≤ l) (h2 : l < c) : p l = false := by
  cases e : p l with
  | false => rfl
  | true =>
    have e1 := cnt_mono p h1
    have e2 := cnt_mono p (show l + 1 ≤ c from h2)
    have e3 := cnt_hit e
    omega
theorem sumN_gap {f : Nat → Nat} {b : Nat} : ∀ {c : Nat}, b ≤ c → (∀ l, b ≤ l → l < c → f l = 0) → sumN f c = sumN f b := by
  intro c h hz
  induction c with
  | zero => rw [Nat.le_zero.mp h]
  | succ c ih =>
    by_cases e : b = c + 1
    · rw [e]
    · rw [sumN, hz c (by omega) (by omega), ih (by omega) (fun l h1 h2 => hz l h1 (by omega))]
      rfl
theorem cmB_gap {a : ND} {p : Nat → Bool} {c k : Nat} {cm : Nat → Nat} {b d : Nat} (hbd : b ≤ d) (h : cnt p b = cnt p d) : cmB a p c k cm d = cmB a p c k cm b := by
  funext y
  unfold cmB
  rw [sumN_gap hbd (fun l h1 h2 => by rw [if_neg]; intro q; rw [cnt_gap h h1 h2] at q; cases q.1)]
theorem shB_gap {p : Nat → Bool} {c k : Nat} {sh : Nat → Nat} {b d : Nat} (hbd : b ≤ d) (h : cnt p b = cnt p d) : shB p c k sh d = shB p c k sh b := by
  funext l
  unfold shB
  by_cases h1 : l < b ∧ p l = true
  · rw [if_pos h1, if_pos ⟨by omega, h1.2⟩]
  · rw [if_neg h1, if_neg]
    intro q
    by_cases h2 : l < b
    · exact h1 ⟨h2, q.2⟩
    · have := cnt_gap h (show b ≤ l by omega) q.1
      rw [q.2] at this
      cases this
theorem ldB_gap {p : Nat → Bool} {c k : Nat} {sh : Nat → Nat} {b d : Nat} (hbd : b ≤ d) (h : cnt p b = cnt p d) : ldB p c k sh d = ldB p c k sh b := by
  funext l
  unfold ldB
  by_cases h1 : l < b ∧ p l = true
  · rw [if_pos h1, if_pos ⟨by omega, h1.2⟩]
  · rw [if_neg h1, if_neg]
    intro q
    by_cases h2 : l < b
    · exact h1 ⟨h2, q.2⟩
    · have := cnt_gap h (show b ≤ l by omega) q.1
      rw [q.2] at this
      cases this
theorem cmB_hit {a : ND} {p : Nat → Bool} {c k : Nat} {cm : Nat → Nat} {l : Nat} (h : p l = true) (y : Nat) : cmB a p c k cm (l + 1) y = if y = nTo a l then cmB a p c k cm l y + ptN p c k l else cmB a p c k cm l y := by
  unfold cmB
  rw [sumN]
  by_cases e : y = nTo a l
  · rw [if_pos e, if_pos ⟨h, e.symm⟩, Nat.add_assoc]
  · rw [if_neg e, if_neg (fun q => e q.2.symm)]
    rfl
theorem shB_hit {p : Nat → Bool} {c k : Nat} {sh : Nat → Nat} {l : Nat} (h : p l = true) (y : Nat) : shB p c k sh (l + 1) y = if y = l then ptN p c k l else shB p c k sh l y := by
  unfold shB
  by_cases e : y = l
  · subst e
    rw [if_pos rfl, if_pos ⟨by omega, h⟩]
  · rw [if_neg e]
    by_cases h1 : y < l ∧ p y = true
    · rw [if_pos h1, if_pos ⟨by omega, h1.2⟩]
    · rw [if_neg h1, if_neg (fun q => h1 ⟨by omega, q.2⟩)]
theorem ldB_hit {p : Nat → Bool} {c k : Nat} {sh : Nat → Nat} {l : Nat} (h : p l = true) (y : Nat) : ldB p c k sh (l + 1) y = if y = l then sh l + ptN p c k l else ldB p c k sh l y := by
  unfold ldB
  by_cases e : y = l
  · subst e
    rw [if_pos rfl, if_pos ⟨by omega, h⟩]
  · rw [if_neg e]
    by_cases h1 : y < l ∧ p y = true
    · rw [if_pos h1, if_pos ⟨by omega, h1.2⟩]
    · rw [if_neg h1, if_neg (fun q => h1 ⟨by omega, q.2⟩)]
theorem ldB_self {p : Nat → Bool} {c k : Nat} {sh : Nat → Nat} {l : Nat} : ldB p c k sh l l = sh l := by
  unfold ldB
  rw [if_neg (by omega)]
