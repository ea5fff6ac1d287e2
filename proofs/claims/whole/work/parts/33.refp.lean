/-! the reference's cells -/
def RNet (σ : Sg) (a : ND) : Prop := (σ 84 10 = nI (nN a) ∧ σ 84 11 = nI (nM a) ∧ σ 84 12 = nI (nD a)) ∧ (∀ l, l < nM a → σ 88 (4 * l) = nI (nFr a l) ∧ σ 88 (4 * l + 1) = nI (nTo a l) ∧ σ 88 (4 * l + 2) = nI (nRm a l)) ∧ ∀ d, d < nD a → σ 89 (3 * d) = nI (nSt a d) ∧ σ 89 (3 * d + 1) = nI (nGo a d) ∧ σ 89 (3 * d + 2) = nI (nSz a d)
theorem RNet.kept {σ σ' : Sg} {a : ND} (h : RNet σ a) (hk : ∀ j n, (j = 84 ∧ 10 ≤ n ∧ n ≤ 12 ∨ j = 88 ∨ j = 89) → σ' j n = σ j n) : RNet σ' a := by
  obtain ⟨⟨h1, h2, h3⟩, h4, h5⟩ := h
  exact ⟨⟨(hk _ _ (by omega)).trans h1, (hk _ _ (by omega)).trans h2, (hk _ _ (by omega)).trans h3⟩, fun l hl => ⟨(hk _ _ (by omega)).trans (h4 l hl).1, (hk _ _ (by omega)).trans (h4 l hl).2.1, (hk _ _ (by omega)).trans (h4 l hl).2.2⟩, fun d hd => ⟨(hk _ _ (by omega)).trans (h5 d hd).1, (hk _ _ (by omega)).trans (h5 d hd).2.1, (hk _ _ (by omega)).trans (h5 d hd).2.2⟩⟩
/-- the weights and which are up, in the row now -/
def RW (σ : Sg) (m : Nat) (w : Nat → Nat) (u : Nat → Bool) : Prop := (∀ l, l < m → σ 90 l = nI (w l)) ∧ σ 90 12 = nI (ub u m)
theorem RW.kept {σ σ' : Sg} {m : Nat} {w : Nat → Nat} {u : Nat → Bool} (h : RW σ m w u) (hm : m ≤ 12) (hk : ∀ n, n ≤ 12 → σ' 90 n = σ 90 n) : RW σ' m w u := ⟨fun l hl => (hk _ (by omega)).trans (h.1 l hl), (hk _ (by omega)).trans h.2⟩
/-- a standing as a row of 21 from o on at P -/
def RS1 (σ : Sg) (P o m : Nat) (s : SD) : Prop := (∀ l, l < m → σ P (o + l) = nI (s.1 l)) ∧ σ P (o + 12) = nI (ub s.2.1 m) ∧ σ P (o + 13) = nI s.2.2.2 ∧ σ P (o + 14) = nI s.2.2.1.length ∧ ∀ k, k < s.2.2.1.length → σ P (o + 15 + k) = s.2.2.1.getD k 0
def RI (σ : Sg) (A : AB) : Prop := (σ 84 1 = nI A.2.1 ∧ A.2.1 ≤ 200 ∧ ∀ k, k < A.2.1 → σ 85 k = A.1 k) ∧ RNet σ A.2.2.1 ∧ RS1 σ 90 0 (nM A.2.2.1) A.2.2.2.1 ∧ σ 84 15 = nI A.2.2.2.2.length ∧ ∀ k s, A.2.2.2.2[k]? = some s → RS1 σ 91 (21 * k) (nM A.2.2.1) s
theorem RS1.kept {σ σ' : Sg} {P o m : Nat} {s : SD} (h : RS1 σ P o m s) (hm : m ≤ 12) (hl : s.2.2.1.length ≤ 6) (hk : ∀ n, o ≤ n → n < o + 21 → σ' P n = σ P n) : RS1 σ' P o m s := by
  obtain ⟨h1, h2, h3, h4, h5⟩ := h
  exact ⟨fun l q => (hk _ (by omega) (by omega)).trans (h1 l q), (hk _ (by omega) (by omega)).trans h2, (hk _ (by omega) (by omega)).trans h3, (hk _ (by omega) (by omega)).trans h4, fun k q => (hk _ (by omega) (by omega)).trans (h5 k q)⟩
theorem RS1.w {σ : Sg} {m : Nat} {s : SD} (h : RS1 σ 90 0 m s) : RW σ m s.1 s.2.1 := ⟨fun l hl => by have := h.1 l hl; rwa [Nat.zero_add] at this, h.2.1⟩
theorem RI.kept {σ σ' : Sg} {A : AB} (h : RI σ A) (hA : AOk A) (hk : ∀ j n, (j = 84 ∧ (n = 1 ∨ 10 ≤ n ∧ n ≤ 12 ∨ n = 15) ∨ j = 85 ∨ j = 88 ∨ j = 89 ∨ j = 90 ∨ j = 91) → σ' j n = σ j n) : RI σ' A := by
  obtain ⟨⟨h1, h2, h3⟩, h4, h5, h6, h7⟩ := h
  exact ⟨⟨(hk _ _ (by omega)).trans h1, h2, fun k q => (hk _ _ (by omega)).trans (h3 k q)⟩, h4.kept (fun j n q => hk j n (by omega)), h5.kept hA.1.2.2.1 hA.2.1.2.1 (fun n _ _ => hk _ _ (by omega)), (hk _ _ (by omega)).trans h6, fun k s hs => (h7 k s hs).kept hA.1.2.2.1 (hA.2.2.2.2 s (List.mem_of_getElem? hs)).2.1 (fun n _ _ => hk _ _ (by omega))⟩
