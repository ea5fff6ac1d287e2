/-! each call keeps a state a state -/
def AOk1 (A : AB) : Prop := AOk A ∧ 1 ≤ nM A.2.2.1 ∧ 1 ≤ nD A.2.2.1
theorem pIf_c {α : Type} {p : Prop} {x y : α} {P : α → Prop} (h1 : p → P x) (h2 : ¬ p → P y) : P (pIf p x y) := by
  by_cases h : p
  · rw [pIf_t h]; exact h1 h
  · rw [pIf_f h]; exact h2 h
theorem ok_chg {A : AB} {s : SD} (h : AOk1 A) (hs : SOk (nM A.2.2.1) s) : AOk1 (chg A s) := by
  obtain ⟨⟨h1, h2, h3, h4, h5⟩, h6, h7⟩ := h
  refine ⟨⟨h1, hs, h3, ?_, fun z hz => ?_⟩, h6, h7⟩
  · show (push6 A.2.2.2.2 A.2.2.2.1).length ≤ 6
    rw [push6_len h4]; omega
  · rcases push6_mem hz with q | q
    · exact h5 z q
    · rw [q]; exact h2
theorem ok_write {x : Int32} {A : AB} (h : AOk1 A) : AOk1 (abWrite x A).2 := by
  unfold abWrite
  refine pIf_c (P := fun z : Int32 × AB => AOk1 z.2) (fun _ => ?_) (fun _ => h)
  obtain ⟨⟨h1, h2, h3, h4, h5⟩, h6, h7⟩ := h
  by_cases q : A.2.1 < 200
  · rw [if_pos q]; exact ⟨⟨h1, h2, q, h4, h5⟩, h6, h7⟩
  · rw [if_neg q]; exact ⟨⟨h1, h2, h3, h4, h5⟩, h6, h7⟩
theorem ok_wipe {A : AB} (h : AOk1 A) : AOk1 (abWipe A).2 := by
  obtain ⟨⟨h1, h2, h3, h4, h5⟩, h6, h7⟩ := h
  exact ⟨⟨h1, h2, Nat.zero_le _, h4, h5⟩, h6, h7⟩
theorem newS_ok {a : ND} (ho : NOk a) : SOk (nM a) (newS a) := by
  refine ⟨fun l hl => ?_, Nat.zero_le _, ?_⟩
  · have := (ho.2.2.2.2.1 l hl).2.2.2.2.2
    exact this
  · have := costN_bd (w := nTw a) (u := fun _ => true) ho
    show costN a (nTw a) (fun _ => true) < 2 ^ 31
    omega
theorem ok_lay {A : AB} (h : AOk1 A) : AOk1 (abLay A).2 := by
  unfold abLay
  by_cases q : (abRead A).1 = -4 ∧ nM (abRead A).2 ≠ 0 ∧ nD (abRead A).2 ≠ 0
  · rw [if_pos q]
    have hO : NOk (abRead A).2 := rdT_ok _ _ _ _ nd0_ok
    refine ⟨⟨hO, newS_ok hO, h.1.2.2.1, Nat.zero_le _, fun s hs => absurd hs List.not_mem_nil⟩, ?_, ?_⟩
    · have := q.2.1; show 1 ≤ nM (abRead A).2; omega
    · have := q.2.2; show 1 ≤ nD (abRead A).2; omega
  · rw [if_neg q]; exact h
theorem ok_wts {a : ND} {s : SD} {w : Nat → Nat} (h : SOk (nM a) s) (hw : WOk (nM a) w) : SOk (nM a) (wtS a s w) := by
  refine ⟨hw, h.2.1, ?_⟩
  have := h.2.2
  show min s.2.2.2 _ < 2 ^ 31
  omega
theorem ok_move {l x : Int32} {A : AB} (h : AOk1 A) : AOk1 (abMove l x A).2 := by
  unfold abMove
  refine pIf_c (P := fun z : Int32 × AB => AOk1 z.2) (fun hp => ?_) (fun _ => h)
  obtain ⟨-, k, k1, k2, rfl⟩ := hp
  rw [idx_nI (by omega)]
  by_cases q : A.2.2.2.1.1 (idx l) = k
  · rw [if_pos q]; exact h
  · rw [if_neg q]; exact ok_chg h (ok_wts h.1.2.1 (wok_upd h.1.2.1.1 k1 k2))
theorem ok_turn {l x : Int32} {A : AB} (h : AOk1 A) : AOk1 (abTurn l x A).2 := by
  unfold abTurn
  refine pIf_c (P := fun z : Int32 × AB => AOk1 z.2) (fun hp => ?_) (fun _ => h)
  by_cases q : A.2.2.2.1.2.1 (idx l) = decide (idx x = 1)
  · rw [if_pos q]; exact h
  · rw [if_neg q]; exact ok_chg h ⟨h.1.2.1.1, h.1.2.1.2⟩
theorem ok_undo {A : AB} (h : AOk1 A) : AOk1 (abUndo A).2 := by
  unfold abUndo
  cases e : A.2.2.2.2.getLast? with
  | none => exact h
  | some s =>
    obtain ⟨⟨h1, h2, h3, h4, h5⟩, h6, h7⟩ := h
    refine ⟨⟨h1, h5 s (List.mem_of_getLast? e), h3, ?_, fun z hz => h5 z (List.dropLast_subset _ hz)⟩, h6, h7⟩
    show A.2.2.2.2.dropLast.length ≤ 6
    rw [List.length_dropLast]
    omega
theorem ok_id {p : Prop} {x y : Int32} {A : AB} (h : AOk1 A) : AOk1 (pIf p (x, A) (y, A)).2 := pIf_c (P := fun z : Int32 × AB => AOk1 z.2) (fun _ => h) (fun _ => h)
theorem ok_rescue {l x : Int32} {A : AB} (h : AOk1 A) : AOk1 (abRescue l x A).2 := by
  unfold abRescue
  refine pIf_c (P := fun z : Int32 × AB => AOk1 z.2) (fun _ => ?_) (fun _ => h)
  split <;> exact h
theorem ok_step {x : Int32} {A : AB} (h : AOk1 A) : AOk1 (abStep x A).2 := by
  unfold abStep
  refine pIf_c (P := fun z : Int32 × AB => AOk1 z.2) (fun _ => ?_) (fun _ => h)
  cases e : stp1 A.2.2.1 A.2.2.2.1 with
  | none => exact h
  | some y =>
    obtain ⟨y1, y2⟩ := stp1_ok h.1.2.1 e
    exact ok_chg h (stpN_eq (idx x - 1) y y1 y2).2.2
theorem ok_even {x t : Int32} {A : AB} (h : AOk1 A) : AOk1 (abEven x t A).2 := by
  unfold abEven
  refine pIf_c (P := fun z : Int32 × AB => AOk1 z.2) (fun _ => ?_) (fun _ => h)
  refine pIf_c (P := fun z : Int32 × AB => AOk1 z.2) (fun hp => ?_) (fun _ => h)
  exact ok_chg h (ok_wts h.1.2.1 (fun l hl => ⟨evW_ge h.1.2.1.1 hl, hp.2.2.1 l hl⟩))
