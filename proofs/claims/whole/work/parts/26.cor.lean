/-! contracts of Past and Standing in the words of the state; the reader's text -/
theorem StI.chg0 {σ σ' : Sg} {m : Nat} {w w' : Nat → Nat} {u u' : Nat → Bool} {tl : List Int32} {le le' : Nat} (h : StI σ 0 m (w, u, tl, le)) (hk : ∀ j n, (j = 48 ∧ n ≠ 6 ∨ j = 51) → σ' j n = σ j n) (hW : StW σ' 0 m w' u') (hle : σ' 48 6 = nI le') : StI σ' 0 m (w', u', tl, le') := by
  obtain ⟨h1, -, ⟨nt, h3, h4, h5, h6, h7⟩, -⟩ := h
  exact ⟨(hk _ _ (by omega)).trans h1, hW, ⟨nt, h3, h4, (hk _ _ (by omega)).trans h5, (hk _ _ (by omega)).trans h6, fun k q => (hk _ _ (by omega)).trans (h7 k q)⟩, hle⟩
theorem StW.kept' {σ σ' : Sg} {i m : Nat} {w : Nat → Nat} {u : Nat → Bool} (h : StW σ i m w u) (hk : ∀ j n, (j = 48 + 4 * i + 1 ∨ j = 48 + 4 * i + 2) → σ' j n = σ j n) : StW σ' i m w u := fun l hl => ⟨(hk _ _ (by omega)).trans (h l hl).1, (hk _ _ (by omega)).trans (h l hl).2⟩
theorem tX4_keepA {g : jG} (hN : 84 ≤ gN g) {σ : Sg} {m : Nat} {p : List SD} {s : SD} (hP : PastI σ m p) (hS : StI σ 0 m s) (hm : m ≤ 12) (hl6 : s.2.2.1.length ≤ 6) : MS g yX4_keep cX4_keep 2 none rmX4_keep [.ref (gad g (45)), .ref (gad g (48))] σ (fun _ σ' => (∀ j n, ¬ (j = 45 ∨ 60 ≤ j ∧ j ≤ 83) → σ' j n = σ j n) ∧ PastI σ' m (push6 p s)) := by
  obtain ⟨nx, h1, h2, h3, h4, h5⟩ := hP
  refine MS_post (tX4_keep hN h3 h1 h4 h2) (fun r σ' h => ?_)
  obtain ⟨hf, k1, k2, c0, c4, c5, c6, cw, ct⟩ := h
  refine ⟨fun j n q => hf j n (by omega), (nx + 1) % 6, by omega, ?_, k1, by rw [push6_len h2]; exact k2, fun k z hz => ?_⟩
  · rw [push6_len h2]; omega
  · have hk := (List.getElem?_eq_some_iff.mp hz).1
    rw [push6_len h2] at hk ⊢
    have hz' : (push6 p s).getD k s = z := by rw [List.getD_eq_getElem?_getD, hz]; rfl
    rw [push6_getD h2 hk] at hz'
    have new : StI σ' (3 + nx) m s := hS.copy (i := 3 + nx) (c := 0) hm hl6 c0 c4 c5 c6 cw ct
    have old : ∀ i, i < p.length → (nx + 6 - p.length + i) % 6 ≠ nx → StI σ' (3 + (nx + 6 - p.length + i) % 6) m (p.getD i s) := fun i hi hne => by
      have e : p[i]? = some (p.getD i s) := by rw [List.getD_eq_getElem?_getD, List.getElem?_eq_getElem hi]; rfl
      exact (h5 i _ e).kept (fun j n q1 q2 => hf j n (by omega))
    by_cases e6 : p.length = 6
    · rw [if_pos e6] at hz'
      by_cases e5 : k < 5
      · rw [if_pos e5] at hz'
        have := old (k + 1) (by omega) (by omega)
        rw [hz'] at this
        rwa [show ((nx + 1) % 6 + 6 - min (p.length + 1) 6 + k) % 6 = (nx + 6 - p.length + (k + 1)) % 6 by omega]
      · rw [if_neg e5] at hz'
        rw [← hz', show ((nx + 1) % 6 + 6 - min (p.length + 1) 6 + k) % 6 = nx by omega]
        exact new
    · rw [if_neg e6] at hz'
      by_cases e5 : k < p.length
      · rw [if_pos e5] at hz'
        have := old k e5 (by omega)
        rw [hz'] at this
        rwa [show ((nx + 1) % 6 + 6 - min (p.length + 1) 6 + k) % 6 = (nx + 6 - p.length + k) % 6 by omega]
      · rw [if_neg e5] at hz'
        rw [← hz', show ((nx + 1) % 6 + 6 - min (p.length + 1) 6 + k) % 6 = nx by omega]
        exact new
theorem tX4_giveBackA {g : jG} (hN : 84 ≤ gN g) {σ : Sg} {m : Nat} {p : List SD} (hP : PastI σ m p) (hm : m ≤ 12) (hl6 : ∀ s ∈ p, s.2.2.1.length ≤ 6) : MS g yX4_giveBack cX4_giveBack 2 (some .boolean) rmX4_giveBack [.ref (gad g (45)), .ref (gad g (48))] σ (fun r σ' => (p = [] ∧ r = nI 0 ∧ σ' = σ) ∨ ∃ s, p.getLast? = some s ∧ r = nI 1 ∧ (∀ j n, ¬ (j = 45 ∨ 48 ≤ j ∧ j ≤ 51) → σ' j n = σ j n) ∧ σ' 45 2 = nI (p.length - 1) ∧ PastI σ' m p.dropLast ∧ StI σ' 0 m s) := by
  obtain ⟨nx, h1, h2, h3, h4, h5⟩ := hP
  refine MS_post (tX4_giveBack hN h3 h1 h4 h2) (fun r σ' h => ?_)
  rcases h with ⟨e1, e2, e3⟩ | ⟨e0, e1, hf, k1, k2, c0, c4, c5, c6, cw, ct⟩
  · exact Or.inl ⟨List.length_eq_zero_iff.mp e1, e2, e3⟩
  · have hlast : p[p.length - 1]? = some (p[p.length - 1]'(by omega)) := List.getElem?_eq_getElem (by omega)
    refine Or.inr ⟨p[p.length - 1]'(by omega), by rw [List.getLast?_eq_getElem?]; exact hlast, e1, fun j n q => hf j n (by omega), k2, ?_, ?_⟩
    · refine ⟨(nx + 6 - 1) % 6, by omega, by rw [List.length_dropLast]; omega, k1, by rw [List.length_dropLast]; exact k2, fun k z hz => ?_⟩
      have hk := (List.getElem?_eq_some_iff.mp hz).1
      rw [List.length_dropLast] at hk ⊢
      have hz' : p[k]? = some z := by
        rw [List.getElem?_dropLast] at hz
        rw [if_pos hk] at hz
        exact hz
      have := h5 k z hz'
      rw [show ((nx + 6 - 1) % 6 + 6 - (p.length - 1) + k) % 6 = (nx + 6 - p.length + k) % 6 by omega]
      exact this.kept (fun j n q1 q2 => hf j n (by omega))
    · have hs := h5 (p.length - 1) _ hlast
      rw [show (nx + 6 - p.length + (p.length - 1)) % 6 = (nx + 6 - 1) % 6 by omega] at hs
      exact hs.copy (i := 0) hm (hl6 _ (List.getElem_mem _)) c0 c4 c5 c6 cw ct
theorem tX6_addTabuA {g : jG} (hN : 84 ≤ gN g) {σ : Sg} {m : Nat} {w : Nat → Nat} {u : Nat → Bool} {tl : List Int32} {le : Nat} (hS : StI σ 0 m (w, u, tl, le)) (hl6 : tl.length ≤ 6) (x : Int32) : MS g yX6_addTabu cX6_addTabu 2 none rmX6_addTabu [.ref (gad g (48)), .int (x)] σ (fun _ σ' => (∀ j n, ¬ (j = 48 ∧ (n = 4 ∨ n = 5) ∨ j = 51) → σ' j n = σ j n) ∧ StI σ' 0 m (w, u, push6 tl x, le)) := by
  obtain ⟨h1, h2, ⟨nt, h3, h4, h5, h6, h7⟩, h8⟩ := hS
  dsimp only at h2 h4 h5 h7 h8
  refine MS_post (tX6_addTabu hN h6 h3 h5 hl6 x) (fun r σ' h => ?_)
  obtain ⟨hf, k1, k2, k3⟩ := h
  refine ⟨fun j n q => hf j n (by omega), (hf _ _ (by omega)).trans h1, h2.kept' (fun j n q => hf j n (by omega)), ⟨(nt + 1) % 6, by omega, ?_, ?_, k2, fun k hk => ?_⟩, (hf _ _ (by omega)).trans h8⟩
  · dsimp only; rw [push6_len hl6]; intro q; have := h4 (by omega); omega
  · dsimp only; rw [push6_len hl6]; exact k3
  · dsimp only at hk ⊢
    rw [push6_len hl6] at hk ⊢
    rw [push6_getD hl6 hk]
    by_cases e6 : tl.length = 6
    · rw [if_pos e6]
      by_cases e5 : k < 5
      · rw [if_pos e5, hf _ _ (by omega)]
        have := h7 (k + 1) (by omega)
        rwa [show (nt + 6 - tl.length + (k + 1)) % 6 = ((nt + 1) % 6 + 6 - min (tl.length + 1) 6 + k) % 6 by omega] at this
      · rw [if_neg e5, show ((nt + 1) % 6 + 6 - min (tl.length + 1) 6 + k) % 6 = nt by omega]
        exact k1
    · rw [if_neg e6]
      have hn := h4 (by omega)
      by_cases e5 : k < tl.length
      · rw [if_pos e5, hf _ _ (by omega)]
        have := h7 k e5
        rwa [show (nt + 6 - tl.length + k) % 6 = ((nt + 1) % 6 + 6 - min (tl.length + 1) 6 + k) % 6 by omega] at this
      · rw [if_neg e5, show ((nt + 1) % 6 + 6 - min (tl.length + 1) 6 + k) % 6 = nt by omega]
        exact k1
theorem scan_congr {tx tx' : Nat → Int32} {e : Nat} (h : ∀ k, k < e → tx k = tx' k) : ∀ (k at_ fg v : Nat) (acc : List Nat), scan tx e k at_ fg v acc = scan tx' e k at_ fg v acc
  | 0, _, _, _, _ => rfl
  | k + 1, at_, fg, v, acc => by
    by_cases ha : at_ < e
    · rw [scan, scan, h at_ ha, scan_congr h, scan_congr h]
    · rw [scan, scan, if_neg ha, if_neg ha, if_pos rfl, if_pos rfl, scan_congr h]
theorem item_congr {tx tx' : Nat → Int32} {s e : Nat} {a : ND} (h : ∀ k, k < e → tx k = tx' k) : item tx s e a = item tx' s e a := by
  unfold item
  split
  · next hs => rw [scan_congr h, h s hs]
  · rfl
theorem rdT_congr {tx tx' : Nat → Int32} {len : Nat} (h : ∀ k, k < len → tx k = tx' k) : ∀ (k at_ s : Nat) (a : ND), at_ + k ≤ len → rdT tx len k at_ s a = rdT tx' len k at_ s a
  | 0, _, _, _, _ => rfl
  | k + 1, at_, s, a, hl => by
    rw [rdT, rdT, h at_ (by omega), item_congr (fun j hj => h j (by omega))]
    split
    · split
      · rfl
      · exact rdT_congr h k _ _ _ (by omega)
    · exact rdT_congr h k _ _ _ (by omega)
theorem item_ok {tx : Nat → Int32} {s e : Nat} {a b : ND} (h : item tx s e a = some b) (ho : NOk a) : NOk b := by
  obtain ⟨o1, o2, o3, o4, o5, o6⟩ := ho
  unfold item at h
  split at h
  · split at h
    · cases h
    · split at h
      · split at h
        · split at h
          · next h1 =>
            cases h
            refine ⟨h1.2.2.1, h1.2.2.2, o3, o4, fun l hl => ?_, fun d hd => ?_⟩
            · have : l < nM a := hl
              omega
            · have : d < nD a := hd
              omega
          · cases h
        · cases h
      · split at h
        · split at h
          · split at h
            · next p q r w h1 =>
              cases h
              obtain ⟨i1, i2, i3, i4, i5, i6, i7, i8⟩ := h1
              refine ⟨o1, o2, i1, o4, fun l hl => ?_, o6⟩
              have hl' : l < nM a + 1 := hl
              show updN _ _ _ l < _ ∧ updN _ _ _ l < _ ∧ updN _ _ _ l ≠ updN _ _ _ l ∧ 1 ≤ updN _ _ _ l ∧ updN _ _ _ l ≤ 99 ∧ 1 ≤ updN _ _ _ l ∧ updN _ _ _ l ≤ 20
              by_cases e : l = nM a
              · subst e
                simp only [updN_s]
                exact ⟨i2, i3, i4, i5, i6, i7, i8⟩
              · simp only [updN_n e]
                exact o5 l (by omega)
            · cases h
          · cases h
        · split at h
          · split at h
            · split at h
              · next p q z h1 =>
                cases h
                obtain ⟨i1, i2, i3, i4, i5, i6⟩ := h1
                refine ⟨o1, o2, o3, i1, o5, fun d hd => ?_⟩
                have hd' : d < nD a + 1 := hd
                show updN _ _ _ d < _ ∧ updN _ _ _ d < _ ∧ updN _ _ _ d ≠ updN _ _ _ d ∧ 1 ≤ updN _ _ _ d ∧ updN _ _ _ d ≤ 99
                by_cases e : d = nD a
                · subst e
                  simp only [updN_s]
                  exact ⟨i2, i3, i4, i5, i6⟩
                · simp only [updN_n e]
                  exact o6 d (by omega)
              · cases h
            · cases h
          · cases h
  · cases h
theorem rdT_ok {tx : Nat → Int32} {len : Nat} : ∀ (k at_ s : Nat) (a : ND), NOk a → NOk (rdT tx len k at_ s a).2
  | 0, _, _, _, h => h
  | k + 1, at_, s, a, h => by
    rw [rdT]
    split
    · split
      · exact h
      · next b hb => exact rdT_ok k _ _ b (item_ok hb h)
    · exact rdT_ok k _ _ a h
theorem nd0_ok : NOk (nd0 ndZ) := ⟨by decide, by decide, by decide, by decide, fun l hl => absurd hl (Nat.not_lt_zero _), fun d hd => absurd hd (Nat.not_lt_zero _)⟩
