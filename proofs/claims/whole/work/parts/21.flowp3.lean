/-! pure words: shares, loads, cost -/
theorem ord_ex (k : Nat → Nat) : ∀ n, ∃ L, Ord k n L
  | 0 => ⟨fun _ => 0, fun i hi => by omega, fun i j h1 h2 => by omega, fun y hy => by omega⟩
  | x + 1 => by
    obtain ⟨L, hL⟩ := ord_ex k x
    obtain ⟨p, h1, h2⟩ := pk_least (fun p => p ≤ x ∧ ∀ j, p ≤ j → j < x → k (L j) < k x) ⟨x, Nat.le_refl _, fun j h1 h2 => by omega⟩
    refine ⟨_, ord_ins hL h1.1 h1.2 ?_⟩
    by_cases e : p = 0
    · exact Or.inl e
    · refine Or.inr (Nat.not_lt.mp fun q => h2 (p - 1) (by omega) ⟨by omega, fun j h3 h4 => ?_⟩)
      by_cases e2 : j = p - 1
      · rw [e2]; exact q
      · exact h1.2 j (by omega) h4
noncomputable def Lc (k : Nat → Nat) (n : Nat) : Nat → Nat := Classical.choose (ord_ex k n)
theorem Lc_ord (k : Nat → Nat) (n : Nat) : Ord k n (Lc k n) := Classical.choose_spec (ord_ex k n)
theorem runS_congr {a : ND} {w : Nat → Nat} {u : Nat → Bool} {f : Nat → Option Nat} {L L' : Nat → Nat} {s : RS} : ∀ {i : Nat}, (∀ j, j < i → L j = L' j) → runS a w u f L s i = runS a w u f L' s i
  | 0, _ => rfl
  | i + 1, h => by rw [runS, runS, runS_congr (i := i) (fun j hj => h j (by omega)), h i (by omega)]
theorem run_ld {a : ND} {w : Nat → Nat} {u : Nat → Bool} {f : Nat → Option Nat} {k : Nat → Nat} {n : Nat} {L : Nat → Nat} {cm ld : Nat → Nat} (hL : Ord k n L) : ∀ i, i ≤ n → (∀ l, (∀ j, j < i → L j ≠ nFr a l) → (runS a w u f L (cm, (fun _ => 0), ld) i).2.1 l = 0) ∧ ∀ l, (runS a w u f L (cm, (fun _ => 0), ld) i).2.2 l = ld l + (runS a w u f L (cm, (fun _ => 0), ld) i).2.1 l
  | 0, _ => ⟨fun _ _ => rfl, fun _ => rfl⟩
  | i + 1, hi => by
    obtain ⟨h1, h2⟩ := run_ld (a := a) (w := w) (u := u) (f := f) (cm := cm) (ld := ld) hL i (by omega)
    rw [runS]
    split
    · constructor
      · intro l hl
        show shB _ _ _ _ _ l = 0
        unfold shB
        rw [if_neg]
        · exact h1 l (fun j hj => hl j (by omega))
        · intro q
          have := q.2
          unfold prd at this
          rw [Bool.and_eq_true] at this
          exact hl i (by omega) (beq_iff_eq.mp this.1).symm
      · intro l
        show ldB _ _ _ _ _ l = ld l + shB _ _ _ _ _ l
        unfold ldB shB
        split
        · next q =>
          have h3 := q.2
          unfold prd at h3
          rw [Bool.and_eq_true] at h3
          have h4 := beq_iff_eq.mp h3.1
          have h5 := h1 l (fun j hj e => by
            have h6 := hL.2.1 j i hj (by omega)
            rw [e, h4] at h6
            unfold bfr at h6
            omega)
          have h7 := h2 l
          rw [h5] at h7
          omega
        · exact h2 l
    · exact ⟨fun l hl => h1 l (fun j hj => hl j (by omega)), h2⟩
/-- cm and shares do not hang on the loads -/
theorem run_sh {a : ND} {w : Nat → Nat} {u : Nat → Bool} {f : Nat → Option Nat} {L : Nat → Nat} {cm sh ld ld' : Nat → Nat} : ∀ i, (runS a w u f L (cm, sh, ld) i).1 = (runS a w u f L (cm, sh, ld') i).1 ∧ (runS a w u f L (cm, sh, ld) i).2.1 = (runS a w u f L (cm, sh, ld') i).2.1
  | 0 => ⟨rfl, rfl⟩
  | i + 1 => by
    obtain ⟨h1, h2⟩ := run_sh (a := a) (w := w) (u := u) (f := f) (L := L) (cm := cm) (sh := sh) (ld := ld) (ld' := ld') i
    rw [runS, runS, h1]
    split
    · refine ⟨?_, ?_⟩
      · show cmB _ _ _ _ _ _ = cmB _ _ _ _ _ _
        rw [h1]
      · show shB _ _ _ _ _ = shB _ _ _ _ _
        rw [h1, h2]
    · exact ⟨h1, h2⟩
theorem sum_term {f : Nat → Nat} {l : Nat} : ∀ {b : Nat}, l < b → f l ≤ sumN f b
  | 0, h => by omega
  | b + 1, h => by
    rw [sumN]
    by_cases e : l = b
    · subst e; omega
    · have := sum_term (f := f) (l := l) (b := b) (by omega)
      omega
theorem sum_add {f h : Nat → Nat} : ∀ b, sumN (fun l => f l + h l) b = sumN f b + sumN h b
  | 0 => rfl
  | b + 1 => by simp only [sumN, sum_add b]; omega
theorem sum_congr {f h : Nat → Nat} : ∀ {b : Nat}, (∀ l, l < b → f l = h l) → sumN f b = sumN h b
  | 0, _ => rfl
  | b + 1, e => by rw [sumN, sumN, sum_congr (b := b) (fun l hl => e l (by omega)), e b (by omega)]
theorem sum_leB {f h : Nat → Nat} : ∀ {b : Nat}, (∀ l, l < b → f l ≤ h l) → sumN f b ≤ sumN h b
  | 0, _ => Nat.le_refl _
  | b + 1, e => Nat.add_le_add (sum_leB (fun l hl => e l (by omega))) (e b (by omega))
theorem sum_mul {f : Nat → Nat} {c : Nat} : ∀ b, sumN (fun l => c * f l) b = c * sumN f b
  | 0 => rfl
  | b + 1 => by simp only [sumN, sum_mul b, Nat.mul_add]
theorem run_tot {a : ND} {w : Nat → Nat} {u : Nat → Bool} {f : Nat → Option Nat} {L : Nat → Nat} {cm ld : Nat → Nat} {B : Nat} (hB : ∀ y, cm y ≤ B) : ∀ i, sumN (runS a w u f L (cm, (fun _ => 0), ld) i).2.1 (nM a) + B ≤ B * 2 ^ i
  | 0 => by
    show sumN (fun _ => 0) (nM a) + B ≤ B * 2 ^ 0
    rw [show sumN (fun _ => 0) (nM a) = 0 from by
      have : ∀ b, sumN (fun _ => 0) b = 0 := fun b => by induction b with | zero => rfl | succ b ih => rw [sumN, ih]
      exact this _]
    omega
  | i + 1 => by
    have ih := run_tot (a := a) (w := w) (u := u) (f := f) (L := L) (ld := ld) hB i
    have hb := runS_bd (a := a) (w := w) (u := u) (f := f) (L := L) (s := (cm, (fun _ => 0), ld)) hB i (L i)
    rw [runS, Nat.pow_succ, ← Nat.mul_assoc]
    split
    · have h1 : sumN (stp3 a w u f (L i) (runS a w u f L (cm, (fun _ => 0), ld) i)).2.1 (nM a) ≤ sumN (fun l => (runS a w u f L (cm, (fun _ => 0), ld) i).2.1 l + (if prd a w u f (L i) l = true then ptN (prd a w u f (L i)) ((runS a w u f L (cm, (fun _ => 0), ld) i).1 (L i)) (cnt (prd a w u f (L i)) (nM a)) l else 0)) (nM a) := by
        refine sum_leB (fun l hl => ?_)
        show shB _ _ _ _ _ l ≤ _
        unfold shB
        split
        · next q => rw [if_pos q.2]; omega
        · omega
      rw [sum_add] at h1
      have h2 := sum_pt_le (p := prd a w u f (L i)) (c := (runS a w u f L (cm, (fun _ => 0), ld) i).1 (L i)) (m := nM a)
      omega
    · omega
/-- TWELFTHS of a DEMAND that go by a LINK -/
noncomputable def SHR (a : ND) (w : Nat → Nat) (u : Nat → Bool) (d l : Nat) : Nat :=
  if FAR a w u (nGo a d) (nSt a d) = none then 0 else (runS a w u (FAR a w u (nGo a d)) (Lc (fun y => key (FAR a w u (nGo a d) y)) (nN a)) (cm0 (nSt a d) (nSz a d), (fun _ => 0), (fun _ => 0)) (nN a)).2.1 l
def lostB (a : ND) (w : Nat → Nat) (u : Nat → Bool) (d : Nat) : Bool := (FAR a w u (nGo a d) (nSt a d)).isNone
noncomputable def LDD (a : ND) (w : Nat → Nat) (u : Nat → Bool) (b l : Nat) : Nat := sumN (fun d => SHR a w u d l) b
def lstN (a : ND) (w : Nat → Nat) (u : Nat → Bool) (b : Nat) : Nat := sumN (fun d => if lostB a w u d = true then 12000 * nSz a d else 0) b
noncomputable def costN (a : ND) (w : Nat → Nat) (u : Nat → Bool) : Nat := lstN a w u (nD a) + sumN (fun l => lcN (nRm a l) (LDD a w u (nD a) l)) (nM a)
theorem cm0_bd {s z : Nat} (hz : z ≤ 99) (y : Nat) : cm0 s z y ≤ 1188 := by unfold cm0; split <;> omega
theorem SHR_tot {a : ND} {w : Nat → Nat} {u : Nat → Bool} {d : Nat} (hO : NOk a) (hd : d < nD a) : sumN (SHR a w u d) (nM a) ≤ 150876 := by
  by_cases h : FAR a w u (nGo a d) (nSt a d) = none
  · have : sumN (SHR a w u d) (nM a) = sumN (fun _ => 0) (nM a) := sum_congr (fun l _ => by unfold SHR; rw [if_pos h])
    have h0 : ∀ b, sumN (fun _ => 0) b = 0 := fun b => by induction b with | zero => rfl | succ b ih => rw [sumN, ih]
    rw [this, h0]
    omega
  · have : sumN (SHR a w u d) (nM a) = sumN _ (nM a) := sum_congr (fun l _ => by unfold SHR; rw [if_neg h])
    rw [this]
    have h1 := run_tot (a := a) (w := w) (u := u) (f := FAR a w u (nGo a d)) (L := Lc (fun y => key (FAR a w u (nGo a d) y)) (nN a)) (ld := fun _ => 0) (cm0_bd (s := nSt a d) (hO.2.2.2.2.2 d hd).2.2.2.2) (nN a)
    have h2 : 2 ^ nN a ≤ 2 ^ 7 := Nat.pow_le_pow_right (by decide) hO.2.1
    have h3 : 1188 * 2 ^ nN a ≤ 1188 * 2 ^ 7 := Nat.mul_le_mul_left _ h2
    omega
theorem LDD_tot {a : ND} {w : Nat → Nat} {u : Nat → Bool} (hO : NOk a) : ∀ b, b ≤ nD a → sumN (LDD a w u b) (nM a) ≤ 150876 * b
  | 0, _ => by
    have h0 : ∀ b, sumN (LDD a w u 0) b = 0 := fun b => by induction b with | zero => rfl | succ b ih => rw [sumN, ih]; rfl
    rw [h0]
    omega
  | b + 1, hb => by
    have h1 := LDD_tot (w := w) (u := u) hO b (by omega)
    have h2 := SHR_tot (w := w) (u := u) hO (show b < nD a by omega)
    have h3 : sumN (LDD a w u (b + 1)) (nM a) = sumN (LDD a w u b) (nM a) + sumN (SHR a w u b) (nM a) := sum_add (nM a)
    omega
theorem LDD_bd {a : ND} {w : Nat → Nat} {u : Nat → Bool} (hO : NOk a) {b l : Nat} (hb : b ≤ nD a) (hl : l < nM a) : LDD a w u b l ≤ 905256 := by
  have h1 := LDD_tot (w := w) (u := u) hO b hb
  have h2 := sum_term (f := LDD a w u b) hl
  have h3 := hO.2.2.2.1
  omega
theorem lcN_bd (R L : Nat) : lcN R L ≤ 500 * L := by unfold lcN; dsimp only; omega
theorem lstN_bd {a : ND} {w : Nat → Nat} {u : Nat → Bool} (hO : NOk a) : ∀ b, b ≤ nD a → lstN a w u b ≤ 1188000 * b
  | 0, _ => Nat.le_refl _
  | b + 1, hb => by
    have h1 := lstN_bd (w := w) (u := u) hO b (by omega)
    have h2 := (hO.2.2.2.2.2 b (by omega)).2.2.2.2
    show lstN a w u b + (if lostB a w u b = true then 12000 * nSz a b else 0) ≤ _
    split <;> omega
theorem lcs_bd {a : ND} {w : Nat → Nat} {u : Nat → Bool} (hO : NOk a) {b : Nat} (hb : b ≤ nM a) : sumN (fun l => lcN (nRm a l) (LDD a w u (nD a) l)) b ≤ 452628000 := by
  have h1 : sumN (fun l => lcN (nRm a l) (LDD a w u (nD a) l)) b ≤ sumN (fun l => 500 * LDD a w u (nD a) l) b := sum_le (fun l => lcN_bd _ _) b
  rw [sum_mul] at h1
  have h2 := LDD_tot (w := w) (u := u) hO (nD a) (Nat.le_refl _)
  have h3 := hO.2.2.2.1
  have h4 : ∀ c, b ≤ c → sumN (LDD a w u (nD a)) b ≤ sumN (LDD a w u (nD a)) c := by
    intro c hc
    induction c with
    | zero => rw [Nat.le_zero.mp hc]; exact Nat.le_refl _
    | succ c ih =>
      by_cases e : b = c + 1
      · rw [e]; exact Nat.le_refl _
      · have := ih (by omega); rw [sumN]; omega
  have h5 := h4 (nM a) hb
  omega
theorem costN_bd {a : ND} {w : Nat → Nat} {u : Nat → Bool} (hO : NOk a) : costN a w u ≤ 459756000 := by
  have h1 := lcs_bd (w := w) (u := u) hO (Nat.le_refl (nM a))
  have h2 := lstN_bd (w := w) (u := u) hO (nD a) (Nat.le_refl _)
  have h3 := hO.2.2.2.1
  unfold costN
  omega
/-- what send tells, by SHR -/
theorem run_SHR {a : ND} {w : Nat → Nat} {u : Nat → Bool} {d : Nat} {L ld : Nat → Nat} (hn : ¬ FAR a w u (nGo a d) (nSt a d) = none) (hL : Ord (fun y => key (FAR a w u (nGo a d) y)) (nN a) L) (l : Nat) :
    (runS a w u (FAR a w u (nGo a d)) L (cm0 (nSt a d) (nSz a d), (fun _ => 0), ld) (nN a)).2.1 l = SHR a w u d l ∧ (runS a w u (FAR a w u (nGo a d)) L (cm0 (nSt a d) (nSz a d), (fun _ => 0), ld) (nN a)).2.2 l = ld l + SHR a w u d l := by
  have e1 : (runS a w u (FAR a w u (nGo a d)) L (cm0 (nSt a d) (nSz a d), (fun _ => 0), ld) (nN a)).2.1 l = SHR a w u d l := by
    unfold SHR
    rw [if_neg hn, runS_congr (ord_uniq hL (Lc_ord _ _)), (run_sh (ld := ld) (ld' := fun _ => 0) _).2]
  exact ⟨e1, by rw [(run_ld hL (nN a) (Nat.le_refl _)).2 l, e1]⟩
