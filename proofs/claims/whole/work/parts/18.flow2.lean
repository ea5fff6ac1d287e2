theorem tX0_measureF {g : jG} (hN : 84 ≤ gN g) {σ : Sg} {i : Nat} {a : ND} {w : Nat → Nat} {u : Nat → Bool} (hi : i < 9) (hI : NetI σ 3 a) (hO : NOk a) (hW : StW σ i (nM a) w u) (hw : WOk (nM a) w) {t : Nat} (ht : t < nN a) : MS g yX0_measure cX0_measure 9 none rmX0_measure [.ref (gad g (23)), .ref (gad g (48 + 4 * i)), .int (nI (t))] σ (fun _ σ' => (∀ j n, ¬ (j = 25 + 1 * t) → σ' j n = σ j n) ∧ ∀ x, x < nN a → σ' (25 + 1 * t) x = c1 (FAR a w u t x)) :=
  MS_post (tX0_measure hN hi hI hO hW hw ht) (fun x σ' h => by
    obtain ⟨h1, R, h2, h3, h4⟩ := h
    refine ⟨h1, fun x hx => ?_⟩
    rw [h4 x hx, far_conv hO hw ht h2 h3])
