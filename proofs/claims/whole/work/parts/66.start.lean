/-! what the tables give at the start -/
theorem st_K {s : State} {args : Array Value} (hts : ∀ w ∈ lw_gd, w.before args s = true) (hao : va_AO "LoadWeights$Standing" s) (haa : va_AOA .int s) : ∃ (D : va_G) (cA : Nat → ClassId), va_K D vwCl [(cA 0, .int), (cA 1, .boolean), (cA 2, .array .int), (cA 3, .object "LoadWeights$Standing")] s := by
  obtain ⟨c0, i0, h0⟩ := u_known (T := TX0) (N := 8) hts inX0 (hts (Cond.instantiable RX0 8) (gd_t 111 (by decide +kernel) (by decide +kernel)))
  obtain ⟨c1, i1, h1⟩ := u_known (T := TX1) (N := 2) hts inX1 (hts (Cond.instantiable RX1 2) (gd_t 24 (by decide +kernel) (by decide +kernel)))
  obtain ⟨c2, i2, h2⟩ := u_known (T := TX2) (N := 6) hts inX2 (hts (Cond.instantiable RX2 6) (gd_t 147 (by decide +kernel) (by decide +kernel)))
  obtain ⟨c3, i3, h3⟩ := u_known (T := TX3) (N := 11) hts inX3 (hts (Cond.instantiable RX3 11) (gd_t 41 (by decide +kernel) (by decide +kernel)))
  obtain ⟨c4, i4, h4⟩ := u_known (T := TX4) (N := 3) hts inX4 (hts (Cond.instantiable RX4 3) (gd_t 213 (by decide +kernel) (by decide +kernel)))
  obtain ⟨c5, i5, h5⟩ := u_known (T := TX5) (N := 1) hts inX5 (hts (Cond.instantiable RX5 1) (gd_t 101 (by decide +kernel) (by decide +kernel)))
  obtain ⟨c6, i6, h6⟩ := u_known (T := TX6) (N := 7) hts inX6 (hts (Cond.instantiable RX6 7) (gd_t 153 (by decide +kernel) (by decide +kernel)))
  obtain ⟨c7, i7, h7⟩ := u_known (T := TX7) (N := 10) hts inX7 (hts (Cond.instantiable RX7 10) (gd_t 16 (by decide +kernel) (by decide +kernel)))
  obtain ⟨c8, i8, h8⟩ := u_known (T := TX8) (N := 26) hts inX8 (hts (Cond.instantiable RX8 26) (gd_t 577 (by decide +kernel) (by decide +kernel)))
  obtain ⟨a0, b0⟩ : ∃ c, ArrOfT s c .int ∧ va_RA s c .int := by
    obtain ⟨c, k, comp, q1, q2, q3⟩ := Cond.arrayClass_spec (hts _ ac_int)
    exact ⟨c, fun n z => ⟨fun k h => (by cases h), k, q2, comp, q3⟩, q1⟩
  obtain ⟨a1, b1⟩ : ∃ c, ArrOfT s c .boolean ∧ va_RA s c .boolean := by
    obtain ⟨c, k, comp, q1, q2, q3⟩ := Cond.arrayClass_spec (hts _ ac_bool)
    exact ⟨c, fun n z => ⟨fun k h => (by cases h), k, q2, comp, q3⟩, q1⟩
  obtain ⟨a2, b2⟩ : ∃ c, ArrOfT s c (.array .int) ∧ va_RA s c (.array .int) := by
    unfold va_AOA Cond.before Cond.holds at haa
    simp only [Cond.value, beq_iff_eq, Option.bind_eq_some_iff, Option.map_eq_some_iff] at haa
    obtain ⟨comp, h1, c, h2, k, h3, h4⟩ := haa
    cases hk : k.kind with
    | array cm ty =>
      rw [hk] at h4
      simp only [Bool.and_eq_true, decide_eq_true_eq] at h4
      obtain ⟨e1, e2⟩ := h4
      subst e1
      exact ⟨c, fun n z => ⟨fun k h => (by cases h), k, h3, cm, hk⟩, e2⟩
    | _ => rw [hk] at h4; simp at h4
  obtain ⟨a3, b3⟩ : ∃ c, ArrOfT s c (.object "LoadWeights$Standing") ∧ va_RA s c (.object "LoadWeights$Standing") := by
    obtain ⟨comp, c, k, h1, h2, h3, h4, h5⟩ := Cond.arrayOver_spec hao
    exact ⟨c, fun n z => ⟨fun k h => (by cases h), k, h3, comp, h4⟩, k, comp, h3, h4, h1, h5⟩
  refine ⟨((fun c => match c with | 0 => c0 | 1 => c1 | 2 => c2 | 3 => c3 | 4 => c4 | 5 => c5 | 6 => c6 | 7 => c7 | _ => c8), (fun c => match c with | 0 => i0 | 1 => i1 | 2 => i2 | 3 => i3 | 4 => i4 | 5 => i5 | 6 => i6 | 7 => i7 | _ => i8)), (fun k => match k with | 0 => a0 | 1 => a1 | 2 => a2 | _ => a3), ⟨fun c q hq => ?_, fun k q hq => ?_⟩⟩
  · have hl : c < 9 := (List.getElem?_eq_some_iff.mp hq).1
    rcases (by omega : c = 0 ∨ c = 1 ∨ c = 2 ∨ c = 3 ∨ c = 4 ∨ c = 5 ∨ c = 6 ∨ c = 7 ∨ c = 8) with rfl | rfl | rfl | rfl | rfl | rfl | rfl | rfl | rfl <;> cases hq
    · exact h0
    · exact h1
    · exact h2
    · exact h3
    · exact h4
    · exact h5
    · exact h6
    · exact h7
    · exact h8
  · have hl : k < 4 := (List.getElem?_eq_some_iff.mp hq).1
    rcases (by omega : k = 0 ∨ k = 1 ∨ k = 2 ∨ k = 3) with rfl | rfl | rfl | rfl <;> cases hq
    · exact b0
    · exact b1
    · exact b2
    · exact b3
