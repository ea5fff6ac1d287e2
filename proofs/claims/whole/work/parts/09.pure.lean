/-! pure words: numbers -/
theorem J_loc {g : jG} {κ : jC} {nL pc : Nat} {L L' : List (Option Value)} {S : List Value} {σ : Sg} (h : L = L') (k : J g κ nL pc L' S σ) : J g κ nL pc L S σ := h ▸ k
theorem J_sg {g : jG} {κ : jC} {nL pc : Nat} {L : List (Option Value)} {S : List Value} {σ σ' : Sg} (h : σ = σ') (k : J g κ nL pc L S σ') : J g κ nL pc L S σ := h ▸ k
theorem nI_neg {a : Nat} {c : Int32} (ha : a < 2 ^ 31) (hc : c < 0) : ¬ nI a = c := fun h => nI_pos ha (h ▸ hc)
theorem nI_min {a b : Nat} (ha : a < 2 ^ 31) (hb : b < 2 ^ 31) : (if nI b < nI a then nI b else nI a) = nI (min a b) := by
  by_cases h : b < a
  · rw [if_pos ((nI_ltI hb ha).mpr h), Nat.min_eq_right (Nat.le_of_lt h)]
  · rw [if_neg (fun q => h ((nI_ltI hb ha).mp q)), Nat.min_eq_left (Nat.le_of_not_lt h)]
theorem nI_max {a b : Nat} (ha : a < 2 ^ 31) (hb : b < 2 ^ 31) : (if nI a < nI b then nI b else nI a) = nI (max a b) := by
  by_cases h : a < b
  · rw [if_pos ((nI_ltI ha hb).mpr h), Nat.max_eq_right (Nat.le_of_lt h)]
  · rw [if_neg (fun q => h ((nI_ltI ha hb).mp q)), Nat.max_eq_left (Nat.le_of_not_lt h)]
theorem nI_lt_iff {x : Int32} {n : Nat} (hn : n < 2 ^ 31) : (0 ≤ x ∧ x < nI n) ↔ ∃ k : Nat, k < n ∧ x = nI k := by
  constructor
  · rintro ⟨h1, h2⟩
    have e1 : (0 : Int32).toInt ≤ x.toInt := Int32.le_iff_toInt_le.mp h1
    have e2 : x.toInt < (nI n).toInt := Int32.lt_iff_toInt_lt.mp h2
    rw [nI_toInt hn] at e2
    have e3 : (0 : Int32).toInt = 0 := rfl
    refine ⟨x.toInt.toNat, by omega, ?_⟩
    apply Int32.toInt_inj.mp
    rw [nI_toInt (by omega)]
    omega
  · rintro ⟨k, hk, rfl⟩
    exact ⟨nI_pos' (by omega), (nI_ltI (by omega) hn).mpr hk⟩
theorem nI_rng {x : Int32} {a b : Nat} (ha : a < 2 ^ 31) (hb : b < 2 ^ 31) : (nI a ≤ x ∧ x ≤ nI b) ↔ ∃ k : Nat, a ≤ k ∧ k ≤ b ∧ x = nI k := by
  constructor
  · rintro ⟨h1, h2⟩
    have e1 : (nI a).toInt ≤ x.toInt := Int32.le_iff_toInt_le.mp h1
    have e2 : x.toInt ≤ (nI b).toInt := Int32.le_iff_toInt_le.mp h2
    rw [nI_toInt hb] at e2
    rw [nI_toInt ha] at e1
    refine ⟨x.toInt.toNat, by omega, by omega, ?_⟩
    apply Int32.toInt_inj.mp
    rw [nI_toInt (by omega)]
    omega
  · rintro ⟨k, h1, h2, rfl⟩
    exact ⟨(nI_leI ha (by omega)).mpr h1, (nI_leI (by omega) hb).mpr h2⟩
/-- MARK of the WEIGHTS f of the first l LINKS -/
def mkL (f : Nat → Int32) : Nat → Int32
  | 0 => nI 7
  | l + 1 => (nI 31 * mkL f l + f l) - (nI 31 * mkL f l + f l) / nI 997 * nI 997
theorem mkL_congr {f h : Nat → Int32} : ∀ {m : Nat}, (∀ l, l < m → f l = h l) → mkL f m = mkL h m
  | 0, _ => rfl
  | m + 1, e => by
    have e1 := mkL_congr (m := m) (fun l hl => e l (by omega))
    simp only [mkL, e1, e m (by omega)]
def cnt (p : Nat → Bool) : Nat → Nat
  | 0 => 0
  | l + 1 => cnt p l + (if p l then 1 else 0)
theorem cnt_le (p : Nat → Bool) : ∀ m, cnt p m ≤ m
  | 0 => Nat.le_refl _
  | m + 1 => by
    have := cnt_le p m
    simp only [cnt]
    split <;> omega
/-- a truth as a number -/
def bI (b : Bool) : Int32 := if b then nI 1 else nI 0
theorem bI_nar (b : Bool) : vp_nar .boolean (bI b) = bI b := by cases b <;> rfl
theorem ex_nI {a b : Nat} (ha : a < 2 ^ 31) (hb : b ≤ 2 ^ 31) : (∃ k : Nat, k < b ∧ nI a = nI k) ↔ a < b := by
  constructor
  · rintro ⟨k, h1, h2⟩
    have := (nI_eq ha (by omega)).mp h2
    omega
  · intro h
    exact ⟨a, h, rfl⟩
theorem ex_rng {a lo hi : Nat} (ha : a < 2 ^ 31) (hb : hi < 2 ^ 31) : (∃ k : Nat, lo ≤ k ∧ k ≤ hi ∧ nI a = nI k) ↔ (lo ≤ a ∧ a ≤ hi) := by
  constructor
  · rintro ⟨k, h1, h2, h3⟩
    have := (nI_eq ha (by omega)).mp h3
    omega
  · rintro ⟨h1, h2⟩
    exact ⟨a, h1, h2, rfl⟩
def updN (f : Nat → Nat) (k x : Nat) : Nat → Nat := fun j => if j = k then x else f j
theorem updN_s {f : Nat → Nat} {k x : Nat} : updN f k x k = x := if_pos rfl
theorem updN_n {f : Nat → Nat} {k x j : Nat} (h : j ≠ k) : updN f k x j = f j := if_neg h
/-- a net: how many nodes, links, demands; from, to, room, told weight of links; from, to, size of demands -/
abbrev ND : Type := Nat × Nat × Nat × (Nat → Nat) × (Nat → Nat) × (Nat → Nat) × (Nat → Nat) × (Nat → Nat) × (Nat → Nat) × (Nat → Nat)
abbrev nN (a : ND) : Nat := a.1
abbrev nM (a : ND) : Nat := a.2.1
abbrev nD (a : ND) : Nat := a.2.2.1
abbrev nFr (a : ND) : Nat → Nat := a.2.2.2.1
abbrev nTo (a : ND) : Nat → Nat := a.2.2.2.2.1
abbrev nRm (a : ND) : Nat → Nat := a.2.2.2.2.2.1
abbrev nTw (a : ND) : Nat → Nat := a.2.2.2.2.2.2.1
abbrev nSt (a : ND) : Nat → Nat := a.2.2.2.2.2.2.2.1
abbrev nGo (a : ND) : Nat → Nat := a.2.2.2.2.2.2.2.2.1
abbrev nSz (a : ND) : Nat → Nat := a.2.2.2.2.2.2.2.2.2
def isGo (go : Nat → Nat) : Nat → Nat → Bool
  | 0, _ => false
  | d + 1, x => isGo go d x || (go d == x)
/-- the cells at b .. b + 8 hold the net -/
def NetI (σ : Sg) (b : Nat) (a : ND) : Prop :=
  (σ b 0 = nI (nN a) ∧ σ b 1 = nI (nM a) ∧ σ b 2 = nI (nD a)) ∧ (∀ l, l < nM a → σ (b + 1) l = nI (nFr a l) ∧ σ (b + 2) l = nI (nTo a l) ∧ σ (b + 3) l = nI (nRm a l) ∧ σ (b + 4) l = nI (nTw a l)) ∧ (∀ d, d < nD a → σ (b + 5) d = nI (nSt a d) ∧ σ (b + 6) d = nI (nGo a d) ∧ σ (b + 7) d = nI (nSz a d)) ∧ ∀ x, x < 7 → σ (b + 8) x = bI (isGo (nGo a) (nD a) x)
/-- it is one -/
def NOk (a : ND) : Prop :=
  2 ≤ nN a ∧ nN a ≤ 7 ∧ nM a ≤ 12 ∧ nD a ≤ 6 ∧ (∀ l, l < nM a → nFr a l < nN a ∧ nTo a l < nN a ∧ nFr a l ≠ nTo a l ∧ 1 ≤ nRm a l ∧ nRm a l ≤ 99 ∧ 1 ≤ nTw a l ∧ nTw a l ≤ 20) ∧ ∀ d, d < nD a → nSt a d < nN a ∧ nGo a d < nN a ∧ nSt a d ≠ nGo a d ∧ 1 ≤ nSz a d ∧ nSz a d ≤ 99
theorem NetI.n {σ : Sg} {b : Nat} {a : ND} (h : NetI σ b a) : σ b 0 = nI (nN a) := h.1.1
theorem NetI.m {σ : Sg} {b : Nat} {a : ND} (h : NetI σ b a) : σ b 1 = nI (nM a) := h.1.2.1
theorem NetI.d {σ : Sg} {b : Nat} {a : ND} (h : NetI σ b a) : σ b 2 = nI (nD a) := h.1.2.2
theorem NetI.fr {σ : Sg} {b : Nat} {a : ND} (h : NetI σ b a) {l : Nat} (hl : l < nM a) : σ (b + 1) l = nI (nFr a l) := (h.2.1 l hl).1
theorem NetI.to {σ : Sg} {b : Nat} {a : ND} (h : NetI σ b a) {l : Nat} (hl : l < nM a) : σ (b + 2) l = nI (nTo a l) := (h.2.1 l hl).2.1
theorem NetI.rm {σ : Sg} {b : Nat} {a : ND} (h : NetI σ b a) {l : Nat} (hl : l < nM a) : σ (b + 3) l = nI (nRm a l) := (h.2.1 l hl).2.2.1
theorem NetI.tw {σ : Sg} {b : Nat} {a : ND} (h : NetI σ b a) {l : Nat} (hl : l < nM a) : σ (b + 4) l = nI (nTw a l) := (h.2.1 l hl).2.2.2
theorem NetI.st {σ : Sg} {b : Nat} {a : ND} (h : NetI σ b a) {l : Nat} (hl : l < nD a) : σ (b + 5) l = nI (nSt a l) := (h.2.2.1 l hl).1
theorem NetI.go {σ : Sg} {b : Nat} {a : ND} (h : NetI σ b a) {l : Nat} (hl : l < nD a) : σ (b + 6) l = nI (nGo a l) := (h.2.2.1 l hl).2.1
theorem NetI.sz {σ : Sg} {b : Nat} {a : ND} (h : NetI σ b a) {l : Nat} (hl : l < nD a) : σ (b + 7) l = nI (nSz a l) := (h.2.2.1 l hl).2.2
theorem NetI.gl {σ : Sg} {b : Nat} {a : ND} (h : NetI σ b a) {x : Nat} (hx : x < 7) : σ (b + 8) x = bI (isGo (nGo a) (nD a) x) := h.2.2.2 x hx
theorem NetI.kept {σ σ' : Sg} {b : Nat} {a : ND} (h : NetI σ b a) (hk : ∀ j n, b ≤ j → j ≤ b + 8 → σ' j n = σ j n) : NetI σ' b a := by
  obtain ⟨⟨h1, h2, h3⟩, h4, h5, h6⟩ := h
  refine ⟨⟨(hk _ _ (by omega) (by omega)).trans h1, (hk _ _ (by omega) (by omega)).trans h2, (hk _ _ (by omega) (by omega)).trans h3⟩, fun l hl => ?_, fun d hd => ?_, fun x hx => (hk _ _ (by omega) (by omega)).trans (h6 x hx)⟩
  · obtain ⟨q1, q2, q3, q4⟩ := h4 l hl
    exact ⟨(hk _ _ (by omega) (by omega)).trans q1, (hk _ _ (by omega) (by omega)).trans q2, (hk _ _ (by omega) (by omega)).trans q3, (hk _ _ (by omega) (by omega)).trans q4⟩
  · obtain ⟨q1, q2, q3⟩ := h5 d hd
    exact ⟨(hk _ _ (by omega) (by omega)).trans q1, (hk _ _ (by omega) (by omega)).trans q2, (hk _ _ (by omega) (by omega)).trans q3⟩
def nd0 (a : ND) : ND := (4, 0, 0, nFr a, nTo a, nRm a, nTw a, nSt a, nGo a, nSz a)
def ndN (a : ND) (v : Nat) : ND := (v, nM a, nD a, nFr a, nTo a, nRm a, nTw a, nSt a, nGo a, nSz a)
def ndL (a : ND) (p q r w : Nat) : ND := (nN a, nM a + 1, nD a, updN (nFr a) (nM a) p, updN (nTo a) (nM a) q, updN (nRm a) (nM a) r, updN (nTw a) (nM a) w, nSt a, nGo a, nSz a)
def ndD (a : ND) (p q s : Nat) : ND := (nN a, nM a, nD a + 1, nFr a, nTo a, nRm a, nTw a, updN (nSt a) (nD a) p, updN (nGo a) (nD a) q, updN (nSz a) (nD a) s)
def okN (a : ND) (v : Nat) : Prop := nM a = 0 ∧ nD a = 0 ∧ 2 ≤ v ∧ v ≤ 7
def okL (a : ND) (p q r w : Nat) : Prop := nM a < 12 ∧ p < nN a ∧ q < nN a ∧ p ≠ q ∧ 1 ≤ r ∧ r ≤ 99 ∧ 1 ≤ w ∧ w ≤ 20
def okD (a : ND) (p q s : Nat) : Prop := nD a < 6 ∧ p < nN a ∧ q < nN a ∧ p ≠ q ∧ 1 ≤ s ∧ s ≤ 99
/-- numbers read by a scan: at, figures so far, value so far, numbers so far -/
def scan (tx : Nat → Int32) (e : Nat) : Nat → Nat → Nat → Nat → List Nat → Option (List Nat)
  | 0, _, _, _, acc => some acc
  | k + 1, at_, fg, v, acc =>
    if (if at_ < e then tx at_ else nI 44) = nI 44 then (if fg = 0 ∨ 4 ≤ acc.length then none else scan tx e k (at_ + 1) 0 0 (acc ++ [v]))
    else if nI 48 ≤ tx at_ ∧ tx at_ ≤ nI 57 ∧ fg < 2 then scan tx e k (at_ + 1) (fg + 1) (10 * v + ((tx at_).toInt - 48).toNat) acc else none
