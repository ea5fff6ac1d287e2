/-! pure words for the reference's reading -/
/-- e is where the ITEM ends that goes on at p: the first ; from p on, or the TEXT's end -/
def Sem (tx : Nat → Int32) (len p e : Nat) : Prop := p ≤ e ∧ e ≤ len ∧ (e < len → tx e = nI 59) ∧ ∀ k, p ≤ k → k < e → ¬ tx k = nI 59
theorem sem_ex (tx : Nat → Int32) (len : Nat) {p : Nat} (hp : p ≤ len) : ∃ e, Sem tx len p e := by
  obtain ⟨e, h1, h2⟩ := pk_least (fun e => p ≤ e ∧ (e = len ∨ (e < len ∧ tx e = nI 59))) ⟨len, hp, Or.inl rfl⟩
  refine ⟨e, h1.1, by omega, fun h => ?_, fun k hk1 hk2 hk3 => h2 k hk2 ⟨hk1, Or.inr ⟨by omega, hk3⟩⟩⟩
  rcases h1.2 with q | q
  · omega
  · exact q.2
theorem scan_len {tx : Nat → Int32} {e : Nat} : ∀ (k at_ fg v : Nat) (acc vs : List Nat), at_ + k = e + 1 → scan tx e k at_ fg v acc = some vs → acc.length + (if k = 0 then 0 else 1) ≤ vs.length
  | 0, _, _, _, acc, vs, _, h => by
    cases h
    simp
  | k + 1, at_, fg, v, acc, vs, hk, h => by
    rw [if_neg (by omega)]
    by_cases hc : at_ < e → tx at_ = nI 44
    · by_cases hb : fg = 0 ∨ 4 ≤ acc.length
      · rw [scan_bad1 hc hb] at h; cases h
      · rw [scan_num hc (by omega) (by omega)] at h
        have := scan_len k _ _ _ _ _ (by omega) h
        rw [List.length_append] at this
        have h1 : [v].length = 1 := rfl
        split at this <;> omega
    · have ha : at_ < e := by
        by_cases q : at_ < e
        · exact q
        · exact absurd (fun z => absurd z q) hc
      have hc2 : ¬ tx at_ = nI 44 := fun z => hc (fun _ => z)
      by_cases hd : nI 48 ≤ tx at_ ∧ tx at_ ≤ nI 57 ∧ fg < 2
      · rw [scan_dig ha hc2 hd.1 hd.2.1 hd.2.2] at h
        have := scan_len k _ _ _ _ _ (by omega) h
        rw [if_neg (by omega)] at this
        omega
      · rw [scan_bad2 ha hc2 hd] at h; cases h
/-- where no more figures stand: what the scan says -/
theorem scan_stop0 {tx : Nat → Int32} {e at_ v : Nat} {acc : List Nat} (hat : at_ ≤ e) (hnd : at_ < e → ¬ (nI 48 ≤ tx at_ ∧ tx at_ ≤ nI 57)) : scan tx e (e + 1 - at_) at_ 0 v acc = none := by
  rw [show e + 1 - at_ = (e - at_) + 1 by omega]
  by_cases h : at_ < e
  · by_cases hc : tx at_ = nI 44
    · exact scan_bad1 (fun _ => hc) (Or.inl rfl)
    · exact scan_bad2 h hc (fun q => hnd h ⟨q.1, q.2.1⟩)
  · exact scan_bad1 (fun q => absurd q h) (Or.inl rfl)
theorem scan_bad3 {tx : Nat → Int32} {e at_ fg v : Nat} {acc : List Nat} (ha : at_ < e) (hc : ¬ tx at_ = nI 44) (hnd : ¬ (nI 48 ≤ tx at_ ∧ tx at_ ≤ nI 57) ∨ 2 ≤ fg) : scan tx e (e + 1 - at_) at_ fg v acc = none := by
  rw [show e + 1 - at_ = (e - at_) + 1 by omega]
  refine scan_bad2 ha hc (fun q => ?_)
  rcases hnd with z | z
  · exact z ⟨q.1, q.2.1⟩
  · omega
theorem scan_comma {tx : Nat → Int32} {e at_ fg v : Nat} {acc : List Nat} (ha : at_ < e) (hc : tx at_ = nI 44) (h1 : fg ≠ 0) (h2 : acc.length < 4) : scan tx e (e + 1 - at_) at_ fg v acc = scan tx e (e + 1 - (at_ + 1)) (at_ + 1) 0 0 (acc ++ [v]) := by
  rw [show e + 1 - at_ = (e - at_) + 1 by omega, scan_num (fun _ => hc) h1 h2, show e + 1 - (at_ + 1) = e - at_ by omega]
theorem scan_fin {tx : Nat → Int32} {e fg v : Nat} {acc : List Nat} (h1 : fg ≠ 0) (h2 : acc.length < 4) : scan tx e (e + 1 - e) e fg v acc = some (acc ++ [v]) := by
  rw [show e + 1 - e = 0 + 1 by omega, scan_num (fun q => absurd q (Nat.lt_irrefl _)) h1 h2]
  rfl
theorem scan_fig {tx : Nat → Int32} {e at_ fg v : Nat} {acc : List Nat} (ha : at_ < e) (h1 : nI 48 ≤ tx at_) (h2 : tx at_ ≤ nI 57) (h3 : fg < 2) : scan tx e (e + 1 - at_) at_ fg v acc = scan tx e (e + 1 - (at_ + 1)) (at_ + 1) (fg + 1) (10 * v + ((tx at_).toInt - 48).toNat) acc := by
  have hc : ¬ tx at_ = nI 44 := fun q => by
    rw [q] at h1
    exact absurd h1 (by decide)
  rw [show e + 1 - at_ = (e - at_) + 1 by omega, scan_dig ha hc h1 h2 h3, show e + 1 - (at_ + 1) = e - at_ by omega]
/-- the scan says no list of r numbers, or no ; stands -/
def Bad (tx : Nat → Int32) (len p e r : Nat) : Prop := e = len ∨ ∀ vs, scan tx e (e + 1 - p) p 0 0 [] = some vs → vs.length ≠ r
theorem item_bad {tx : Nat → Int32} {len s e r : Nat} {a : ND} (h : Bad tx len (s + 1) e r) (hn : (tx s = nI 110 ∧ r = 1) ∨ (tx s = nI 108 ∧ r = 4) ∨ (tx s = nI 100 ∧ r = 3)) : e = len ∨ item tx s e a = none := by
  rcases h with h | h
  · exact Or.inl h
  · refine Or.inr ?_
    cases q : scan tx e (e + 1 - (s + 1)) (s + 1) 0 0 [] with
    | none => exact item_none q
    | some vs => exact item_len q (h vs q) hn
theorem rdT_skip {tx : Nat → Int32} {len s e : Nat} {a : ND} (h1 : s ≤ e) (h2 : e ≤ len) (h3 : ∀ k, s ≤ k → k < e → ¬ tx k = nI 59) : rdT tx len (len - s) s s a = rdT tx len (len - e) e s a := by
  have : ∀ d at_, at_ + d = e → s ≤ at_ → rdT tx len (len - at_) at_ s a = rdT tx len (len - e) e s a := by
    intro d
    induction d with
    | zero => intro at_ h _; rw [show at_ = e by omega]
    | succ d ih =>
      intro at_ h hs
      rw [show len - at_ = (len - (at_ + 1)) + 1 by omega, rdT, if_neg (h3 at_ hs (by omega))]
      exact ih (at_ + 1) (by omega) (by omega)
  exact this (e - s) s (by omega) (Nat.le_refl _)
theorem rdT_semi {tx : Nat → Int32} {len s : Nat} {a : ND} (hs : s < len) (h : tx s = nI 59) : rdT tx len (len - s) s s a = (nI s, a) := by
  rw [show len - s = (len - (s + 1)) + 1 by omega, rdT, if_pos h]
  have : item tx s s a = none := if_neg (Nat.lt_irrefl _)
  rw [this]
theorem rdT_stop {tx : Nat → Int32} {len s e : Nat} {a : ND} (hs : s < len) (h0 : ¬ tx s = nI 59) (h : Sem tx len (s + 1) e) (hb : e = len ∨ item tx s e a = none) : rdT tx len (len - s) s s a = (nI s, a) := by
  rw [rdT_skip (e := e) (by have := h.1; omega) h.2.1 (fun k h1 h2 => by
    by_cases q : k = s
    · rw [q]; exact h0
    · exact h.2.2.2 k (by omega) h2)]
  by_cases q : e = len
  · rw [q, Nat.sub_self, rdT, if_pos hs]
  · have he : e < len := by have := h.2.1; omega
    rw [show len - e = (len - (e + 1)) + 1 by omega, rdT, if_pos (h.2.2.1 he)]
    rcases hb with z | z
    · exact absurd z q
    · rw [z]
theorem rdT_on {tx : Nat → Int32} {len s e : Nat} {a b : ND} (hs : s < len) (h0 : ¬ tx s = nI 59) (h : Sem tx len (s + 1) e) (he : e < len) (hb : item tx s e a = some b) : rdT tx len (len - s) s s a = rdT tx len (len - (e + 1)) (e + 1) (e + 1) b := by
  rw [rdT_skip (e := e) (by have := h.1; omega) h.2.1 (fun k h1 h2 => by
    by_cases q : k = s
    · rw [q]; exact h0
    · exact h.2.2.2 k (by omega) h2)]
  rw [show len - e = (len - (e + 1)) + 1 by omega, rdT, if_pos (h.2.2.1 he), hb]
/-- what has been read, in the reference -/
def RdI (σ : Sg) (a : ND) : Prop := (σ 84 5 = nI (nN a) ∧ σ 84 6 = nI (nM a) ∧ σ 84 7 = nI (nD a)) ∧ (∀ l, l < nM a → σ 86 (4 * l) = nI (nFr a l) ∧ σ 86 (4 * l + 1) = nI (nTo a l) ∧ σ 86 (4 * l + 2) = nI (nRm a l) ∧ σ 86 (4 * l + 3) = nI (nTw a l)) ∧ ∀ d, d < nD a → σ 87 (3 * d) = nI (nSt a d) ∧ σ 87 (3 * d + 1) = nI (nGo a d) ∧ σ 87 (3 * d + 2) = nI (nSz a d)
theorem RdI.kept {σ σ' : Sg} {a : ND} (h : RdI σ a) (hk : ∀ j n, (j = 84 ∧ 5 ≤ n ∧ n ≤ 7 ∨ j = 86 ∨ j = 87) → σ' j n = σ j n) : RdI σ' a := by
  obtain ⟨⟨h1, h2, h3⟩, h4, h5⟩ := h
  exact ⟨⟨(hk _ _ (by omega)).trans h1, (hk _ _ (by omega)).trans h2, (hk _ _ (by omega)).trans h3⟩, fun l hl => ⟨(hk _ _ (by omega)).trans (h4 l hl).1, (hk _ _ (by omega)).trans (h4 l hl).2.1, (hk _ _ (by omega)).trans (h4 l hl).2.2.1, (hk _ _ (by omega)).trans (h4 l hl).2.2.2⟩, fun d hd => ⟨(hk _ _ (by omega)).trans (h5 d hd).1, (hk _ _ (by omega)).trans (h5 d hd).2.1, (hk _ _ (by omega)).trans (h5 d hd).2.2⟩⟩
def bgn (a : ND) : Bool := !(decide (nM a = 0) && decide (nD a = 0))
theorem list1 {vs : List Nat} (h : vs.length = 1) : vs = [vs.getD 0 0] := by
  match vs, h with
  | [a], _ => rfl
theorem list3 {vs : List Nat} (h : vs.length = 3) : vs = [vs.getD 0 0, vs.getD 1 0, vs.getD 2 0] := by
  match vs, h with
  | [a, b, c], _ => rfl
theorem list4 {vs : List Nat} (h : vs.length = 4) : vs = [vs.getD 0 0, vs.getD 1 0, vs.getD 2 0, vs.getD 3 0] := by
  match vs, h with
  | [a, b, c, d], _ => rfl
theorem getD_lt {vs : List Nat} {b : Nat} (h : ∀ v ∈ vs, v < b) (hb : 0 < b) (i : Nat) : vs.getD i 0 < b := by
  rw [List.getD_eq_getElem?_getD]
  cases e : vs[i]? with
  | none => exact hb
  | some v => exact h v (List.mem_of_getElem? e)
