/-! pure words for the reference's flow -/
theorem sub_le0 {r i : Nat} (hr : r < 2 ^ 30) (hi : i < 2 ^ 30) : nI r - nI i ≤ 0 ↔ r ≤ i := by
  rw [Int32.le_iff_toInt_le, pk_sub_toInt hr hi]
  have : (0 : Int32).toInt = 0 := rfl
  omega
theorem dec_sub (r i : Nat) : nI r - nI i + Int32.ofInt (-1) = nI r - nI (i + 1) := by
  rw [← nI_1]
  have : Int32.ofInt (-1) = -(1 : Int32) := rfl
  rw [this, Int32.sub_eq_add_neg, Int32.sub_eq_add_neg, Int32.neg_add, Int32.add_assoc, Int32.sub_eq_add_neg]
theorem sub_z (r : Nat) : nI r - nI 0 = nI r := pk_sub (Nat.zero_le _)
theorem cnt_pos {p : Nat → Bool} {l m : Nat} (h : p l = true) (hl : l < m) : 0 < cnt p m := by
  have h1 := cnt_hit h
  have h2 := cnt_mono p (show l + 1 ≤ m from hl)
  omega
theorem prd_fr {a : ND} {w : Nat → Nat} {u : Nat → Bool} {f : Nat → Option Nat} {x l : Nat} (h : prd a w u f x l = true) : nFr a l = x := by
  unfold prd at h
  rw [Bool.and_eq_true] at h
  exact beq_iff_eq.mp h.1
theorem sum_zero {f : Nat → Nat} : ∀ {b : Nat}, (∀ l, l < b → f l = 0) → sumN f b = 0
  | 0, _ => rfl
  | b + 1, h => by rw [sumN, sum_zero (fun l hl => h l (by omega)), h b (by omega)]
theorem cmB_self {a : ND} {w : Nat → Nat} {u : Nat → Bool} {f : Nat → Option Nat} {x c k b : Nat} {cm : Nat → Nat} (hO : NOk a) (hb : b ≤ nM a) : cmB a (prd a w u f x) c k cm b x = cm x := by
  unfold cmB
  rw [sum_zero]
  · rfl
  · intro l hl
    rw [if_neg]
    intro q
    have h1 := prd_fr q.1
    have h2 := (hO.2.2.2.2.1 l (by omega)).2.2.1
    omega
/-- a run without passing over -/
def runG (a : ND) (w : Nat → Nat) (u : Nat → Bool) (f : Nat → Option Nat) (L : Nat → Nat) (s : RS) : Nat → RS
  | 0 => s
  | i + 1 => stp3 a w u f (L i) (runG a w u f L s i)
theorem runG_bd {a : ND} {w : Nat → Nat} {u : Nat → Bool} {f : Nat → Option Nat} {L : Nat → Nat} {B : Nat} {s : RS} (h : ∀ y, s.1 y ≤ B) : ∀ i y, (runG a w u f L s i).1 y ≤ B * 2 ^ i
  | 0, y => by rw [Nat.pow_zero, Nat.mul_one]; exact h y
  | i + 1, y => by
    rw [runG, Nat.pow_succ, ← Nat.mul_assoc]
    have := stp3_bd (a := a) (w := w) (u := u) (f := f) (x := L i) (runG_bd (a := a) (w := w) (u := u) (f := f) (L := L) h i) y
    omega
theorem runG_sh0 {a : ND} {w : Nat → Nat} {u : Nat → Bool} {f : Nat → Option Nat} {L cm ld : Nat → Nat} : ∀ i l, (∀ j, j < i → L j ≠ nFr a l) → (runG a w u f L (cm, (fun _ => 0), ld) i).2.1 l = 0
  | 0, _, _ => rfl
  | i + 1, l, h => by
    show shB _ _ _ _ _ l = 0
    unfold shB
    rw [if_neg]
    · exact runG_sh0 i l (fun j hj => h j (by omega))
    · intro q
      exact h i (by omega) (prd_fr q.2).symm
theorem run_SG {a : ND} {w : Nat → Nat} {u : Nat → Bool} {f : Nat → Option Nat} {k : Nat → Nat} {n : Nat} {L cm ld : Nat → Nat} (hL : Ord k n L) : ∀ i, i ≤ n → (runS a w u f L (cm, (fun _ => 0), ld) i).1 = (runG a w u f L (cm, (fun _ => 0), ld) i).1 ∧ (runS a w u f L (cm, (fun _ => 0), ld) i).2.1 = (runG a w u f L (cm, (fun _ => 0), ld) i).2.1
  | 0, _ => ⟨rfl, rfl⟩
  | i + 1, hi => by
    obtain ⟨h1, h2⟩ := run_SG (a := a) (w := w) (u := u) (f := f) (cm := cm) (ld := ld) hL i (by omega)
    rw [runS, runG]
    by_cases hc : 0 < (runS a w u f L (cm, (fun _ => 0), ld) i).1 (L i)
    · rw [if_pos hc]
      refine ⟨?_, ?_⟩
      · show cmB _ _ _ _ _ _ = cmB _ _ _ _ _ _
        rw [h1]
      · show shB _ _ _ _ _ = shB _ _ _ _ _
        rw [h1, h2]
    · rw [if_neg hc]
      have hz : (runG a w u f L (cm, (fun _ => 0), ld) i).1 (L i) = 0 := by rw [← h1]; omega
      have hp : ∀ (p : Nat → Bool) (k l : Nat), ptN p 0 k l = 0 := fun p k l => by unfold ptN; simp
      refine ⟨?_, ?_⟩
      · rw [h1]
        funext y
        show _ = cmB _ _ _ _ _ _ y
        unfold cmB
        rw [hz, sum_zero (fun l _ => by rw [hp]; split <;> rfl)]
        rfl
      · rw [h2]
        funext l
        show _ = shB _ _ _ _ _ l
        unfold shB
        rw [hz]
        split
        · next q =>
          rw [hp]
          refine runG_sh0 i l (fun j hj e => ?_)
          have h6 := hL.2.1 j i hj (by omega)
          rw [e, prd_fr q.2] at h6
          unfold bfr at h6
          omega
        · rfl
section TP
variable {a : ND} {w : Nat → Nat} {u : Nat → Bool} {t : Nat}
theorem FAR_t (hO : NOk a) (hw : WOk (nM a) w) (ht : t < nN a) : FAR a w u t t = some 0 := (FAR_some hO hw ht).mpr Dst.zero
theorem FAR_0 (hO : NOk a) (hw : WOk (nM a) w) (ht : t < nN a) {x : Nat} (h : FAR a w u t x = some 0) : x = t := by
  rcases ((FAR_some hO hw ht).mp h).step with q | ⟨l, h1, h2, h3, k', h4, h5⟩
  · exact q.1
  · have := hw l h1
    omega
theorem stp3_id (hO : NOk a) (hw : WOk (nM a) w) (ht : t < nN a) {x : Nat} (hx : x = t ∨ FAR a w u t x = none) (s : RS) : (stp3 a w u (FAR a w u t) x s).1 = s.1 ∧ (stp3 a w u (FAR a w u t) x s).2.1 = s.2.1 := by
  have hp : ∀ l, l < nM a → prd a w u (FAR a w u t) x l = false := by
    intro l hl
    cases e : prd a w u (FAR a w u t) x l with
    | false => rfl
    | true =>
      exfalso
      have h1 := prd_fr e
      unfold prd at e
      rw [Bool.and_eq_true] at e
      obtain ⟨h2, v, h3, h4⟩ := shb_iff.mp e.2
      rw [h1] at h4
      rcases hx with rfl | hx
      · rw [FAR_t hO hw ht] at h4
        have h5 := (hw l hl).1
        have := Option.some.inj h4
        omega
      · rw [hx] at h4
        cases h4
  refine ⟨?_, ?_⟩
  · funext y
    show cmB _ _ _ _ _ _ y = _
    unfold cmB
    rw [sum_zero (fun l hl => by rw [if_neg]; intro q; rw [hp l hl] at q; cases q.1)]
    rfl
  · funext l
    show shB _ _ _ _ _ l = _
    unfold shB
    rw [if_neg]
    intro q
    rw [hp l q.1] at q
    cases q.2
/-- where the goal stands in the order: all ahead of it are reached, all behind it are not -/
theorem ord_t (hO : NOk a) (hw : WOk (nM a) w) (ht : t < nN a) {L : Nat → Nat} (hL : Ord (fun y => key (FAR a w u t y)) (nN a) L) : ∃ q, q < nN a ∧ L q = t ∧ (∀ i, i < q → ∃ v, FAR a w u t (L i) = some v) ∧ ∀ i, q < i → i < nN a → FAR a w u t (L i) = none := by
  obtain ⟨q, q1, q2⟩ := hL.2.2 t ht
  have kt : key (FAR a w u t t) = 1 := by rw [FAR_t hO hw ht]; rfl
  refine ⟨q, q1, q2, fun i hi => ?_, fun i hi hi2 => ?_⟩
  · have h1 := hL.2.1 i q hi q1
    rw [q2] at h1
    cases e : FAR a w u t (L i) with
    | some v => exact ⟨v, rfl⟩
    | none =>
      exfalso
      unfold bfr at h1
      dsimp only at h1
      rw [kt, e] at h1
      simp [key] at h1
  · have h1 := hL.2.1 q i hi hi2
    rw [q2] at h1
    cases e : FAR a w u t (L i) with
    | none => rfl
    | some v =>
      exfalso
      unfold bfr at h1
      dsimp only at h1
      rw [kt, e] at h1
      simp [key] at h1
      have hv : v = 0 := by omega
      subst hv
      have := FAR_0 hO hw ht e
      have h2 := hL.2.1 q i hi hi2
      rw [q2, this] at h2
      unfold bfr at h2
      omega
theorem runG_end (hO : NOk a) (hw : WOk (nM a) w) (ht : t < nN a) {L : Nat → Nat} {s : RS} {q : Nat} (hq : L q = t) (hno : ∀ i, q < i → i < nN a → FAR a w u t (L i) = none) : ∀ i, q ≤ i → i ≤ nN a → (runG a w u (FAR a w u t) L s i).2.1 = (runG a w u (FAR a w u t) L s q).2.1 := by
  intro i
  induction i with
  | zero => intro h1 _; rw [Nat.le_zero.mp h1]
  | succ i ih =>
    intro h1 h2
    by_cases e : q = i + 1
    · rw [e]
    · rw [runG, (stp3_id hO hw ht (by
        by_cases e2 : i = q
        · exact Or.inl (by rw [e2, hq])
        · exact Or.inr (hno i (by omega) (by omega))) _).2]
      exact ih (by omega) (by omega)
end TP
theorem lcN_eq {R L : Nat} (h : L ≤ 2000000000) : (min L (4 * R) - 0) + 3 * (min L (8 * R) - 4 * R) + 10 * (min L (11 * R) - 8 * R) + 70 * (min L (12 * R) - 11 * R) + 500 * (min L 2000000000 - 12 * R) = lcN R L := by
  unfold lcN
  dsimp only
  omega
