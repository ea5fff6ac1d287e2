set_option maxHeartbeats 4000000 in
set_option maxRecDepth 100000 in
theorem tX7_leadsOn {g : jG} (hN : 84 ≤ gN g) {σ : Sg} {a : ND} {wt : Nat → Nat} {u : Nat → Bool} (hI : NetI σ 3 a) (hO : NOk a) (hW : StW σ 0 (nM a) wt u) {x t l : Nat} {f : Nat → Option Nat} (hx : x < 7) (ht : t < 7) (hl : l < nM a) (hF : ∀ y, y < nN a → σ (25 + 1 * t) y = c1 (f y)) (hB : fBd f 1680) : MS g yX7_leadsOn cX7_leadsOn 4 (some .boolean) rmX7_leadsOn [.ref (gad g (0)), .int (nI (x)), .int (nI (t)), .int (nI (l))] σ (fun r σ' => σ' = σ ∧ r = bI (ldOn a u f x l)) := by
  refine MJ_of (by decide) (Nat.le_of_ble_eq_true rfl) (List.forall_mem_cons.mpr ⟨rfl, List.forall_mem_cons.mpr ⟨rfl, List.forall_mem_cons.mpr ⟨rfl, List.forall_mem_cons.mpr ⟨rfl, fun _ h => absurd h List.not_mem_nil⟩⟩⟩⟩) ?_
  intro κ M
  have C := M.1
  show J g κ 4 0 [some (.ref (gad g (0))), some (.int (nI (x))), some (.int (nI (t))), some (.int (nI (l)))] [] σ
  have hn7 := hO.2.1
  have hm12 := hO.2.2.1
  have hd6 := hO.2.2.2.1
  obtain ⟨hb1, hb2, hb3, hb4⟩ := hO.2.2.2.2.1 l hl
  rcases hu : u l with _ | _ <;> rcases hto : f (nTo a l) with _ | v
  · refine j_aload_n C dX7_leadsOn_0 rfl rfl ?_
    refine j_get C flX7_19 dX7_leadsOn_1 (Nat.lt_of_lt_of_le (by decide) hN) rfl rfl ?_
    refine j_get C flX7_159 dX7_leadsOn_4 (Nat.lt_of_lt_of_le (by decide) hN) rfl rfl ?_
    refine j_iload_n C dX7_leadsOn_7 rfl rfl ?_
    refine j_iald C dX7_leadsOn_8 (Nat.lt_of_lt_of_le (by decide) hN) (fun _ => rfl) (by decide) (by omega) ?_
    refine j_top (hI.fr (l := l) (by omega)) ?_
    refine j_iload_n C dX7_leadsOn_9 rfl rfl ?_
    refine j_icmpn_ne (tgt := 52) C dX7_leadsOn_10 rfl (by omega) (by omega) (fun h10 => ?_) (fun h10 => ?_)
    · refine j_iconst (v := nI 0) C dX7_leadsOn_52 rfl ?_
      refine j_retz M dX7_leadsOn_53 rfl ?_
      refine ⟨rfl, ?_⟩
      unfold ldOn
      rw [hu, hto]
      first | (rw [show (nFr a l == x) = false from beq_false_of_ne h10]; rfl) | (rw [show (nFr a l == x) = true from beq_iff_eq.mpr (by omega)]; rfl)
    · refine j_aload_n C dX7_leadsOn_13 rfl rfl ?_
      refine j_get C flX7_54 dX7_leadsOn_14 (Nat.lt_of_lt_of_le (by decide) hN) rfl rfl ?_
      refine j_get C flX7_148 dX7_leadsOn_17 (Nat.lt_of_lt_of_le (by decide) hN) rfl rfl ?_
      refine j_iload_n C dX7_leadsOn_20 rfl rfl ?_
      refine j_zald C dX7_leadsOn_21 (Nat.lt_of_lt_of_le (by decide) hN) (fun _ => rfl) (by decide) (by omega) ?_
      refine j_top ((hW l (by omega)).2.trans (by rw [hu])) ?_
      refine j_ifn_eq (tgt := 52) C dX7_leadsOn_22 rfl (by omega) (fun _ => ?_) (fun h => absurd h (by decide))
      refine j_iconst (v := nI 0) C dX7_leadsOn_52 rfl ?_
      refine j_retz M dX7_leadsOn_53 rfl ?_
      refine ⟨rfl, ?_⟩
      unfold ldOn
      rw [hu, hto]
      first | (rw [show (nFr a l == x) = false from beq_false_of_ne h10]; rfl) | (rw [show (nFr a l == x) = true from beq_iff_eq.mpr (by omega)]; rfl)
  · have hv := hB _ _ hto
    refine j_aload_n C dX7_leadsOn_0 rfl rfl ?_
    refine j_get C flX7_19 dX7_leadsOn_1 (Nat.lt_of_lt_of_le (by decide) hN) rfl rfl ?_
    refine j_get C flX7_159 dX7_leadsOn_4 (Nat.lt_of_lt_of_le (by decide) hN) rfl rfl ?_
    refine j_iload_n C dX7_leadsOn_7 rfl rfl ?_
    refine j_iald C dX7_leadsOn_8 (Nat.lt_of_lt_of_le (by decide) hN) (fun _ => rfl) (by decide) (by omega) ?_
    refine j_top (hI.fr (l := l) (by omega)) ?_
    refine j_iload_n C dX7_leadsOn_9 rfl rfl ?_
    refine j_icmpn_ne (tgt := 52) C dX7_leadsOn_10 rfl (by omega) (by omega) (fun h10 => ?_) (fun h10 => ?_)
    · refine j_iconst (v := nI 0) C dX7_leadsOn_52 rfl ?_
      refine j_retz M dX7_leadsOn_53 rfl ?_
      refine ⟨rfl, ?_⟩
      unfold ldOn
      rw [hu, hto]
      first | (rw [show (nFr a l == x) = false from beq_false_of_ne h10]; rfl) | (rw [show (nFr a l == x) = true from beq_iff_eq.mpr (by omega)]; rfl)
    · refine j_aload_n C dX7_leadsOn_13 rfl rfl ?_
      refine j_get C flX7_54 dX7_leadsOn_14 (Nat.lt_of_lt_of_le (by decide) hN) rfl rfl ?_
      refine j_get C flX7_148 dX7_leadsOn_17 (Nat.lt_of_lt_of_le (by decide) hN) rfl rfl ?_
      refine j_iload_n C dX7_leadsOn_20 rfl rfl ?_
      refine j_zald C dX7_leadsOn_21 (Nat.lt_of_lt_of_le (by decide) hN) (fun _ => rfl) (by decide) (by omega) ?_
      refine j_top ((hW l (by omega)).2.trans (by rw [hu])) ?_
      refine j_ifn_eq (tgt := 52) C dX7_leadsOn_22 rfl (by omega) (fun _ => ?_) (fun h => absurd h (by decide))
      refine j_iconst (v := nI 0) C dX7_leadsOn_52 rfl ?_
      refine j_retz M dX7_leadsOn_53 rfl ?_
      refine ⟨rfl, ?_⟩
      unfold ldOn
      rw [hu, hto]
      first | (rw [show (nFr a l == x) = false from beq_false_of_ne h10]; rfl) | (rw [show (nFr a l == x) = true from beq_iff_eq.mpr (by omega)]; rfl)
  · refine j_aload_n C dX7_leadsOn_0 rfl rfl ?_
    refine j_get C flX7_19 dX7_leadsOn_1 (Nat.lt_of_lt_of_le (by decide) hN) rfl rfl ?_
    refine j_get C flX7_159 dX7_leadsOn_4 (Nat.lt_of_lt_of_le (by decide) hN) rfl rfl ?_
    refine j_iload_n C dX7_leadsOn_7 rfl rfl ?_
    refine j_iald C dX7_leadsOn_8 (Nat.lt_of_lt_of_le (by decide) hN) (fun _ => rfl) (by decide) (by omega) ?_
    refine j_top (hI.fr (l := l) (by omega)) ?_
    refine j_iload_n C dX7_leadsOn_9 rfl rfl ?_
    refine j_icmpn_ne (tgt := 52) C dX7_leadsOn_10 rfl (by omega) (by omega) (fun h10 => ?_) (fun h10 => ?_)
    · refine j_iconst (v := nI 0) C dX7_leadsOn_52 rfl ?_
      refine j_retz M dX7_leadsOn_53 rfl ?_
      refine ⟨rfl, ?_⟩
      unfold ldOn
      rw [hu, hto]
      first | (rw [show (nFr a l == x) = false from beq_false_of_ne h10]; rfl) | (rw [show (nFr a l == x) = true from beq_iff_eq.mpr (by omega)]; rfl)
    · refine j_aload_n C dX7_leadsOn_13 rfl rfl ?_
      refine j_get C flX7_54 dX7_leadsOn_14 (Nat.lt_of_lt_of_le (by decide) hN) rfl rfl ?_
      refine j_get C flX7_148 dX7_leadsOn_17 (Nat.lt_of_lt_of_le (by decide) hN) rfl rfl ?_
      refine j_iload_n C dX7_leadsOn_20 rfl rfl ?_
      refine j_zald C dX7_leadsOn_21 (Nat.lt_of_lt_of_le (by decide) hN) (fun _ => rfl) (by decide) (by omega) ?_
      refine j_top ((hW l (by omega)).2.trans (by rw [hu])) ?_
      refine j_ifn_eq (tgt := 52) C dX7_leadsOn_22 rfl (by omega) (fun h => absurd h (by decide)) (fun _ => ?_)
      refine j_aload_n C dX7_leadsOn_25 rfl rfl ?_
      refine j_get C flX7_38 dX7_leadsOn_26 (Nat.lt_of_lt_of_le (by decide) hN) rfl rfl ?_
      refine j_get C flX7_183 dX7_leadsOn_29 (Nat.lt_of_lt_of_le (by decide) hN) rfl rfl ?_
      refine j_iload_n C dX7_leadsOn_32 rfl rfl ?_
      refine j_aald C dX7_leadsOn_33 (Nat.lt_of_lt_of_le (by decide) hN) (fun _ => rfl) (by decide) (by omega) ?_
      refine j_aload_n C dX7_leadsOn_34 rfl rfl ?_
      refine j_get C flX7_19 dX7_leadsOn_35 (Nat.lt_of_lt_of_le (by decide) hN) rfl rfl ?_
      refine j_get C flX7_162 dX7_leadsOn_38 (Nat.lt_of_lt_of_le (by decide) hN) rfl rfl ?_
      refine j_iload_n C dX7_leadsOn_41 rfl rfl ?_
      refine j_iald C dX7_leadsOn_42 (Nat.lt_of_lt_of_le (by decide) hN) (fun _ => rfl) (by decide) (by omega) ?_
      refine j_top (hI.to (l := l) (by omega)) ?_
      refine j_iald C dX7_leadsOn_43 (by omega) (cf_far (by omega)) (by decide) (by omega) ?_
      refine j_top ((hF (nTo a l) (by omega)).trans (congrArg c1 hto)) ?_
      refine j_iconst (v := -1) C dX7_leadsOn_44 rfl ?_
      refine j_icmp_eq (tgt := 52) C dX7_leadsOn_45 rfl (fun _ => ?_) (fun h => absurd h (by decide))
      refine j_iconst (v := nI 0) C dX7_leadsOn_52 rfl ?_
      refine j_retz M dX7_leadsOn_53 rfl ?_
      refine ⟨rfl, ?_⟩
      unfold ldOn
      rw [hu, hto]
      first | (rw [show (nFr a l == x) = false from beq_false_of_ne h10]; rfl) | (rw [show (nFr a l == x) = true from beq_iff_eq.mpr (by omega)]; rfl)
  · have hv := hB _ _ hto
    refine j_aload_n C dX7_leadsOn_0 rfl rfl ?_
    refine j_get C flX7_19 dX7_leadsOn_1 (Nat.lt_of_lt_of_le (by decide) hN) rfl rfl ?_
    refine j_get C flX7_159 dX7_leadsOn_4 (Nat.lt_of_lt_of_le (by decide) hN) rfl rfl ?_
    refine j_iload_n C dX7_leadsOn_7 rfl rfl ?_
    refine j_iald C dX7_leadsOn_8 (Nat.lt_of_lt_of_le (by decide) hN) (fun _ => rfl) (by decide) (by omega) ?_
    refine j_top (hI.fr (l := l) (by omega)) ?_
    refine j_iload_n C dX7_leadsOn_9 rfl rfl ?_
    refine j_icmpn_ne (tgt := 52) C dX7_leadsOn_10 rfl (by omega) (by omega) (fun h10 => ?_) (fun h10 => ?_)
    · refine j_iconst (v := nI 0) C dX7_leadsOn_52 rfl ?_
      refine j_retz M dX7_leadsOn_53 rfl ?_
      refine ⟨rfl, ?_⟩
      unfold ldOn
      rw [hu, hto]
      first | (rw [show (nFr a l == x) = false from beq_false_of_ne h10]; rfl) | (rw [show (nFr a l == x) = true from beq_iff_eq.mpr (by omega)]; rfl)
    · refine j_aload_n C dX7_leadsOn_13 rfl rfl ?_
      refine j_get C flX7_54 dX7_leadsOn_14 (Nat.lt_of_lt_of_le (by decide) hN) rfl rfl ?_
      refine j_get C flX7_148 dX7_leadsOn_17 (Nat.lt_of_lt_of_le (by decide) hN) rfl rfl ?_
      refine j_iload_n C dX7_leadsOn_20 rfl rfl ?_
      refine j_zald C dX7_leadsOn_21 (Nat.lt_of_lt_of_le (by decide) hN) (fun _ => rfl) (by decide) (by omega) ?_
      refine j_top ((hW l (by omega)).2.trans (by rw [hu])) ?_
      refine j_ifn_eq (tgt := 52) C dX7_leadsOn_22 rfl (by omega) (fun h => absurd h (by decide)) (fun _ => ?_)
      refine j_aload_n C dX7_leadsOn_25 rfl rfl ?_
      refine j_get C flX7_38 dX7_leadsOn_26 (Nat.lt_of_lt_of_le (by decide) hN) rfl rfl ?_
      refine j_get C flX7_183 dX7_leadsOn_29 (Nat.lt_of_lt_of_le (by decide) hN) rfl rfl ?_
      refine j_iload_n C dX7_leadsOn_32 rfl rfl ?_
      refine j_aald C dX7_leadsOn_33 (Nat.lt_of_lt_of_le (by decide) hN) (fun _ => rfl) (by decide) (by omega) ?_
      refine j_aload_n C dX7_leadsOn_34 rfl rfl ?_
      refine j_get C flX7_19 dX7_leadsOn_35 (Nat.lt_of_lt_of_le (by decide) hN) rfl rfl ?_
      refine j_get C flX7_162 dX7_leadsOn_38 (Nat.lt_of_lt_of_le (by decide) hN) rfl rfl ?_
      refine j_iload_n C dX7_leadsOn_41 rfl rfl ?_
      refine j_iald C dX7_leadsOn_42 (Nat.lt_of_lt_of_le (by decide) hN) (fun _ => rfl) (by decide) (by omega) ?_
      refine j_top (hI.to (l := l) (by omega)) ?_
      refine j_iald C dX7_leadsOn_43 (by omega) (cf_far (by omega)) (by decide) (by omega) ?_
      refine j_top ((hF (nTo a l) (by omega)).trans (congrArg c1 hto)) ?_
      refine j_iconst (v := -1) C dX7_leadsOn_44 rfl ?_
      refine j_icmp_eq (tgt := 52) C dX7_leadsOn_45 rfl (fun h => absurd h (nI_neg (by omega) (by decide))) (fun _ => ?_)
      refine j_iconst (v := nI 1) C dX7_leadsOn_48 rfl ?_
      refine j_goto (tgt := 53) C dX7_leadsOn_49 rfl ?_
      refine j_retz M dX7_leadsOn_53 rfl ?_
      refine ⟨rfl, ?_⟩
      unfold ldOn
      rw [hu, hto]
      first | (rw [show (nFr a l == x) = false from beq_false_of_ne h10]; rfl) | (rw [show (nFr a l == x) = true from beq_iff_eq.mpr (by omega)]; rfl)
theorem gMx_ge {a : ND} {u : Nat → Bool} {f : Nat → Option Nat} {x l v : Nat} (h : ldOn a u f x l = true) (hv : f (nTo a l) = some v) : ∀ {m : Nat}, l < m → v ≤ gMx a u f x m
  | 0, hm => by omega
  | m + 1, hm => by
    rw [gMx]
    by_cases e : l = m
    · subst e
      rw [if_pos h, hv]
      exact Nat.le_max_right _ _
    · have := gMx_ge h hv (m := m) (by omega)
      split
      · exact Nat.le_trans this (Nat.le_max_left _ _)
      · exact this
theorem gMx_bd {a : ND} {u : Nat → Bool} {f : Nat → Option Nat} {x b : Nat} (hB : fBd f b) : ∀ m, gMx a u f x m ≤ b
  | 0 => Nat.zero_le _
  | m + 1 => by
    rw [gMx]
    have := gMx_bd (a := a) (u := u) (x := x) hB m
    split
    · refine Nat.max_le.mpr ⟨this, ?_⟩
      cases h : f (nTo a m) with
      | none => exact Nat.zero_le _
      | some v => exact hB _ _ h
    · exact this
theorem ldOn_ex {a : ND} {u : Nat → Bool} {f : Nat → Option Nat} {x l : Nat} (h : ldOn a u f x l = true) : ∃ v, f (nTo a l) = some v := by
  unfold ldOn at h
  rw [Bool.and_eq_true, Bool.and_eq_true] at h
  cases e : f (nTo a l) with
  | none => rw [e] at h; exact absurd h.2.2 (by decide)
  | some v => exact ⟨v, rfl⟩
set_option maxHeartbeats 4000000 in
set_option maxRecDepth 100000 in
theorem tX7_planEvening {g : jG} (hN : 84 ≤ gN g) {σ : Sg} {a : ND} {wt : Nat → Nat} {u : Nat → Bool} (hI : NetI σ 3 a) (hO : NOk a) (hW : StW σ 0 (nM a) wt u) (hw : WOk (nM a) wt) {x t : Nat} (hx : x < nN a) (ht : t < nN a) : MS g yX7_planEvening cX7_planEvening 8 (some .int) rmX7_planEvening [.ref (gad g (0)), .int (nI (x)), .int (nI (t))] σ (fun r σ' => (∀ j n, ¬ (25 ≤ j ∧ j ≤ 43 ∨ j = 47) → σ' j n = σ j n) ∧ ((2 ≤ cnt (ldOn a u (FAR a wt u t) x) (nM a) ∧ (∀ l, l < nM a → (evW a wt u (FAR a wt u t) x l) ≤ 20) ∧ r = nI (cnt (fun l => decide (evW a wt u (FAR a wt u t) x l ≠ wt l)) (nM a)) ∧ ∀ l, l < nM a → σ' 47 l = nI (evW a wt u (FAR a wt u t) x l)) ∨ (¬ (2 ≤ cnt (ldOn a u (FAR a wt u t) x) (nM a) ∧ ∀ l, l < nM a → (evW a wt u (FAR a wt u t) x l) ≤ 20) ∧ r = nI 0))) := by
  refine MJ_of (by decide) (Nat.le_of_ble_eq_true rfl) (List.forall_mem_cons.mpr ⟨rfl, List.forall_mem_cons.mpr ⟨rfl, List.forall_mem_cons.mpr ⟨rfl, fun _ h => absurd h List.not_mem_nil⟩⟩⟩) ?_
  intro κ M
  have C := M.1
  show J g κ 8 0 [some (.ref (gad g (0))), some (.int (nI (x))), some (.int (nI (t))), none, none, none, none, none] [] σ
  have hn7 := hO.2.1
  have hm12 := hO.2.2.1
  have hd6 := hO.2.2.2.1
  have hB : fBd (FAR a wt u t) 1680 := FAR_bd' hO hw
  have hGb := gMx_bd (a := a) (u := u) (x := x) hB (nM a)
  have hcm := cnt_le (ldOn a u (FAR a wt u t) x) (nM a)
  have lp2 : 2 ≤ cnt (ldOn a u (FAR a wt u t) x) (nM a) → ∀ (k l : Nat) (σ1 : Sg), nM a - l = k → l ≤ nM a → (∀ j n, ¬ (25 ≤ j ∧ j ≤ 43 ∨ j = 47) → σ1 j n = σ j n) → (∀ y, y < nN a → σ1 (25 + 1 * t) y = c1 ((FAR a wt u t) y)) → (∀ z, z < l → (evW a wt u (FAR a wt u t) x z) ≤ 20 ∧ σ1 47 z = nI (evW a wt u (FAR a wt u t) x z)) → J g κ 8 92 [some (.ref (gad g (0))), some (.int (nI (x))), some (.int (nI (t))), some (.int (nI (cnt (ldOn a u (FAR a wt u t) x) (nM a)))), some (.int (nI (gMx a u (FAR a wt u t) x (nM a)))), some (.int (nI (cnt (fun l => decide (evW a wt u (FAR a wt u t) x l ≠ wt l)) l))), some (.int (nI (l))), none] [] σ1 := by
    intro hways k
    induction k using Nat.strongRecOn with
    | _ k ih =>
      intro l σ1 hk hl hf hrow hz2
      refine j_iload C dX7_planEvening_92 rfl ?_
      refine j_aload_n C dX7_planEvening_94 rfl rfl ?_
      refine j_get C flX7_19 dX7_planEvening_95 (Nat.lt_of_lt_of_le (by decide) hN) rfl rfl ?_
      refine j_get C flX7_99 dX7_planEvening_98 (Nat.lt_of_lt_of_le (by decide) hN) rfl rfl ?_
      refine j_top ((hf _ _ (by omega)).trans (hI.m)) ?_
      refine j_icmpn_ge (tgt := 207) C dX7_planEvening_101 rfl (by omega) (by omega) (fun h101 => ?_) (fun h101 => ?_)
      · refine j_iload C dX7_planEvening_207 rfl ?_
        refine j_ret M dX7_planEvening_209 ?_
        have el : l = nM a := by omega
        rw [el]
        exact ⟨hf, Or.inl ⟨hways, fun z hz => (hz2 z (by omega)).1, rfl, fun z hz => (hz2 z (by omega)).2⟩⟩
      · have hcl := cnt_le (fun l => decide (evW a wt u (FAR a wt u t) x l ≠ wt l)) l
        obtain ⟨hb1, hb2, hb3, hb4⟩ := hO.2.2.2.2.1 l h101
        have hwl := hw l h101
        refine j_aload_n C dX7_planEvening_104 rfl rfl ?_
        refine j_iload_n C dX7_planEvening_105 rfl rfl ?_
        refine j_iload_n C dX7_planEvening_106 rfl rfl ?_
        refine j_iload C dX7_planEvening_107 rfl ?_
        refine j_calli (As := [.int (nI (x)), .int (nI (t)), .int (nI (l))]) (rest := []) C (tX7_leadsOn hN (wt := wt) (u := u) (hI.kept (fun j n h1 h2 => hf j n (by omega))) hO (hW.kept' (fun j n h1 => hf j n (by omega))) (x := x) (t := t) (l := l) (f := (FAR a wt u t)) (by omega) (by omega) (by omega) hrow hB) cdX7_leadsOn mlX7_229 dX7_planEvening_109 (by decide) (by decide) (Nat.lt_of_lt_of_le (by decide) hN) rfl rfl rfl rfl rfl (Nat.le_of_ble_eq_true rfl) (fun rr_2 τ1 hp_3 => ?_)
        obtain ⟨hs, hr⟩ := hp_3
        replace hs := hs.symm
        subst hs
        rcases hld : (ldOn a u (FAR a wt u t) x) l with _ | _ <;> rw [hld] at hr <;> subst hr
        · refine j_istore (L' := [some (.ref (gad g (0))), some (.int (nI (x))), some (.int (nI (t))), some (.int (nI (cnt (ldOn a u (FAR a wt u t) x) (nM a)))), some (.int (nI (gMx a u (FAR a wt u t) x (nM a)))), some (.int (nI (cnt (fun l => decide (evW a wt u (FAR a wt u t) x l ≠ wt l)) l))), some (.int (nI (l))), some (.int (nI (0)))]) C dX7_planEvening_112 (by decide) rfl ?_
          refine j_aload_n C dX7_planEvening_114 rfl rfl ?_
          refine j_get C flX7_68 dX7_planEvening_115 (Nat.lt_of_lt_of_le (by decide) hN) rfl rfl ?_
          refine j_iload C dX7_planEvening_118 rfl ?_
          refine j_iload C dX7_planEvening_120 rfl ?_
          refine j_ifn_eq (tgt := 153) C dX7_planEvening_122 rfl (by omega) (fun _ => ?_) (fun h => absurd h (by decide))
          refine j_aload_n C dX7_planEvening_153 rfl rfl ?_
          refine j_get C flX7_54 dX7_planEvening_154 (Nat.lt_of_lt_of_le (by decide) hN) rfl rfl ?_
          refine j_get C flX7_108 dX7_planEvening_157 (Nat.lt_of_lt_of_le (by decide) hN) rfl rfl ?_
          refine j_iload C dX7_planEvening_160 rfl ?_
          refine j_iald C dX7_planEvening_162 (Nat.lt_of_lt_of_le (by decide) hN) (fun _ => rfl) (by decide) (by omega) ?_
          refine j_top ((hf _ _ (by omega)).trans ((hW (l) (by omega)).1)) ?_
          refine j_iast' C dX7_planEvening_163 (Nat.lt_of_lt_of_le (by decide) hN) (fun _ => rfl) (by decide) (by omega) (fun τ4 hz_5 hw_6 => ?_)
          have hev : (evW a wt u (FAR a wt u t) x l) = wt (l) := by
            unfold evW
            first | (rw [if_pos hld, hv]; rfl) | (rw [if_neg (by rw [hld]; decide)])
          refine j_aload_n C dX7_planEvening_164 rfl rfl ?_
          refine j_get C flX7_68 dX7_planEvening_165 (Nat.lt_of_lt_of_le (by decide) hN) rfl rfl ?_
          refine j_iload C dX7_planEvening_168 rfl ?_
          refine j_iald C dX7_planEvening_170 (Nat.lt_of_lt_of_le (by decide) hN) (fun _ => rfl) (by decide) (by omega) ?_
          refine j_top (hw_6) ?_
          refine j_bipush (v := nI 20) C dX7_planEvening_171 rfl ?_
          refine j_icmpn_le (tgt := 178) C dX7_planEvening_173 rfl (by omega) (by omega) (fun h173 => ?_) (fun h173 => ?_)
          · refine j_aload_n C dX7_planEvening_178 rfl rfl ?_
            refine j_get C flX7_68 dX7_planEvening_179 (Nat.lt_of_lt_of_le (by decide) hN) rfl rfl ?_
            refine j_iload C dX7_planEvening_182 rfl ?_
            refine j_iald C dX7_planEvening_184 (Nat.lt_of_lt_of_le (by decide) hN) (fun _ => rfl) (by decide) (by omega) ?_
            refine j_top (hw_6) ?_
            refine j_aload_n C dX7_planEvening_185 rfl rfl ?_
            refine j_get C flX7_54 dX7_planEvening_186 (Nat.lt_of_lt_of_le (by decide) hN) rfl rfl ?_
            refine j_get C flX7_108 dX7_planEvening_189 (Nat.lt_of_lt_of_le (by decide) hN) rfl rfl ?_
            refine j_iload C dX7_planEvening_192 rfl ?_
            refine j_iald C dX7_planEvening_194 (Nat.lt_of_lt_of_le (by decide) hN) (fun _ => rfl) (by decide) (by omega) ?_
            refine j_top ((hz_5 _ _ (by omega)).trans ((hf _ _ (by omega)).trans ((hW (l) (by omega)).1))) ?_
            refine j_icmpn_eq (tgt := 201) C dX7_planEvening_195 rfl (by omega) (by omega) (fun h195 => ?_) (fun h195 => ?_)
            · refine j_iinc (L' := [some (.ref (gad g (0))), some (.int (nI (x))), some (.int (nI (t))), some (.int (nI (cnt (ldOn a u (FAR a wt u t) x) (nM a)))), some (.int (nI (gMx a u (FAR a wt u t) x (nM a)))), some (.int (nI (cnt (fun l => decide (evW a wt u (FAR a wt u t) x l ≠ wt l)) l))), some (.int (nI (l + 1))), some (.int (nI (0)))]) C dX7_planEvening_201 rfl (nI_inc _) (by decide) rfl ?_
              refine j_goto (tgt := 92) C dX7_planEvening_204 rfl ?_
              refine J_clr 7 (L' := [some (.ref (gad g (0))), some (.int (nI (x))), some (.int (nI (t))), some (.int (nI (cnt (ldOn a u (FAR a wt u t) x) (nM a)))), some (.int (nI (gMx a u (FAR a wt u t) x (nM a)))), some (.int (nI (cnt (fun l => decide (evW a wt u (FAR a wt u t) x l ≠ wt l)) l))), some (.int (nI (l + 1))), none]) rfl ?_
              refine J_loc (L' := [some (.ref (gad g (0))), some (.int (nI (x))), some (.int (nI (t))), some (.int (nI (cnt (ldOn a u (FAR a wt u t) x) (nM a)))), some (.int (nI (gMx a u (FAR a wt u t) x (nM a)))), some (.int (nI (cnt (fun l => decide (evW a wt u (FAR a wt u t) x l ≠ wt l)) (l + 1)))), some (.int (nI (l + 1))), none]) ?_ (ih (nM a - (l + 1)) (by omega) (l + 1) τ4 rfl (by omega) (fun j n h => by rw [hz_5 _ _ (by omega)]; exact hf j n h) (fun y hy => by rw [hz_5 _ _ (by omega)]; exact hrow y hy) (fun z hz => ?_))
              · first | rw [cnt_hit (by rw [decide_eq_true_iff, hev]; omega)] | rw [cnt_miss (by rw [decide_eq_false_iff_not, hev]; omega)]
              · by_cases e : z = l
                · subst e; rw [hev]; exact ⟨by omega, by assumption⟩
                · rw [hz_5 _ _ (by omega)]; exact hz2 z (by omega)
            · refine j_iinc (L' := [some (.ref (gad g (0))), some (.int (nI (x))), some (.int (nI (t))), some (.int (nI (cnt (ldOn a u (FAR a wt u t) x) (nM a)))), some (.int (nI (gMx a u (FAR a wt u t) x (nM a)))), some (.int (nI (cnt (fun l => decide (evW a wt u (FAR a wt u t) x l ≠ wt l)) l + 1))), some (.int (nI (l))), some (.int (nI (0)))]) C dX7_planEvening_198 rfl (nI_inc _) (by decide) rfl ?_
              refine j_iinc (L' := [some (.ref (gad g (0))), some (.int (nI (x))), some (.int (nI (t))), some (.int (nI (cnt (ldOn a u (FAR a wt u t) x) (nM a)))), some (.int (nI (gMx a u (FAR a wt u t) x (nM a)))), some (.int (nI (cnt (fun l => decide (evW a wt u (FAR a wt u t) x l ≠ wt l)) l + 1))), some (.int (nI (l + 1))), some (.int (nI (0)))]) C dX7_planEvening_201 rfl (nI_inc _) (by decide) rfl ?_
              refine j_goto (tgt := 92) C dX7_planEvening_204 rfl ?_
              refine J_clr 7 (L' := [some (.ref (gad g (0))), some (.int (nI (x))), some (.int (nI (t))), some (.int (nI (cnt (ldOn a u (FAR a wt u t) x) (nM a)))), some (.int (nI (gMx a u (FAR a wt u t) x (nM a)))), some (.int (nI (cnt (fun l => decide (evW a wt u (FAR a wt u t) x l ≠ wt l)) l + 1))), some (.int (nI (l + 1))), none]) rfl ?_
              refine J_loc (L' := [some (.ref (gad g (0))), some (.int (nI (x))), some (.int (nI (t))), some (.int (nI (cnt (ldOn a u (FAR a wt u t) x) (nM a)))), some (.int (nI (gMx a u (FAR a wt u t) x (nM a)))), some (.int (nI (cnt (fun l => decide (evW a wt u (FAR a wt u t) x l ≠ wt l)) (l + 1)))), some (.int (nI (l + 1))), none]) ?_ (ih (nM a - (l + 1)) (by omega) (l + 1) τ4 rfl (by omega) (fun j n h => by rw [hz_5 _ _ (by omega)]; exact hf j n h) (fun y hy => by rw [hz_5 _ _ (by omega)]; exact hrow y hy) (fun z hz => ?_))
              · first | rw [cnt_hit (by rw [decide_eq_true_iff, hev]; omega)] | rw [cnt_miss (by rw [decide_eq_false_iff_not, hev]; omega)]
              · by_cases e : z = l
                · subst e; rw [hev]; exact ⟨by omega, by assumption⟩
                · rw [hz_5 _ _ (by omega)]; exact hz2 z (by omega)
          · refine j_iconst (v := nI 0) C dX7_planEvening_176 rfl ?_
            refine j_ret M dX7_planEvening_177 ?_
            refine ⟨fun j n h => by rw [hz_5 _ _ (by omega)]; exact hf j n h, Or.inr ⟨fun q => ?_, rfl⟩⟩
            have := q.2 l (by omega)
            omega
        · obtain ⟨v, hv⟩ := ldOn_ex hld
          have hvb := hB _ _ hv
          have hvg := gMx_ge hld hv (m := nM a) (by omega)
          refine j_istore (L' := [some (.ref (gad g (0))), some (.int (nI (x))), some (.int (nI (t))), some (.int (nI (cnt (ldOn a u (FAR a wt u t) x) (nM a)))), some (.int (nI (gMx a u (FAR a wt u t) x (nM a)))), some (.int (nI (cnt (fun l => decide (evW a wt u (FAR a wt u t) x l ≠ wt l)) l))), some (.int (nI (l))), some (.int (nI (1)))]) C dX7_planEvening_112 (by decide) rfl ?_
          refine j_aload_n C dX7_planEvening_114 rfl rfl ?_
          refine j_get C flX7_68 dX7_planEvening_115 (Nat.lt_of_lt_of_le (by decide) hN) rfl rfl ?_
          refine j_iload C dX7_planEvening_118 rfl ?_
          refine j_iload C dX7_planEvening_120 rfl ?_
          refine j_ifn_eq (tgt := 153) C dX7_planEvening_122 rfl (by omega) (fun h => absurd h (by decide)) (fun _ => ?_)
          refine j_iload C dX7_planEvening_125 rfl ?_
          refine j_iconst (v := nI 1) C dX7_planEvening_127 rfl ?_
          refine j_iadd C dX7_planEvening_128 ?_
          refine j_top (nI_add _ _) ?_
          refine j_aload_n C dX7_planEvening_129 rfl rfl ?_
          refine j_get C flX7_38 dX7_planEvening_130 (Nat.lt_of_lt_of_le (by decide) hN) rfl rfl ?_
          refine j_get C flX7_183 dX7_planEvening_133 (Nat.lt_of_lt_of_le (by decide) hN) rfl rfl ?_
          refine j_iload_n C dX7_planEvening_136 rfl rfl ?_
          refine j_aald C dX7_planEvening_137 (Nat.lt_of_lt_of_le (by decide) hN) (fun _ => rfl) (by decide) (by omega) ?_
          refine j_aload_n C dX7_planEvening_138 rfl rfl ?_
          refine j_get C flX7_19 dX7_planEvening_139 (Nat.lt_of_lt_of_le (by decide) hN) rfl rfl ?_
          refine j_get C flX7_162 dX7_planEvening_142 (Nat.lt_of_lt_of_le (by decide) hN) rfl rfl ?_
          refine j_iload C dX7_planEvening_145 rfl ?_
          refine j_iald C dX7_planEvening_147 (Nat.lt_of_lt_of_le (by decide) hN) (fun _ => rfl) (by decide) (by omega) ?_
          refine j_top ((hf _ _ (by omega)).trans (hI.to (l := l) (by omega))) ?_
          refine j_iald C dX7_planEvening_148 (by omega) (cf_far (by omega)) (by decide) (by omega) ?_
          refine j_top ((hrow (nTo a l) (by omega)).trans (congrArg c1 hv)) ?_
          refine j_isub C dX7_planEvening_149 ?_
          refine j_top (pk_sub (by omega)) ?_
          refine j_goto (tgt := 163) C dX7_planEvening_150 rfl ?_
          refine j_iast' C dX7_planEvening_163 (Nat.lt_of_lt_of_le (by decide) hN) (fun _ => rfl) (by decide) (by omega) (fun τ7 hz_8 hw_9 => ?_)
          have hev : (evW a wt u (FAR a wt u t) x l) = (gMx a u (FAR a wt u t) x (nM a)) + 1 - v := by
            unfold evW
            first | (rw [if_pos hld, hv]; rfl) | (rw [if_neg (by rw [hld]; decide)])
          refine j_aload_n C dX7_planEvening_164 rfl rfl ?_
          refine j_get C flX7_68 dX7_planEvening_165 (Nat.lt_of_lt_of_le (by decide) hN) rfl rfl ?_
          refine j_iload C dX7_planEvening_168 rfl ?_
          refine j_iald C dX7_planEvening_170 (Nat.lt_of_lt_of_le (by decide) hN) (fun _ => rfl) (by decide) (by omega) ?_
          refine j_top (hw_9) ?_
          refine j_bipush (v := nI 20) C dX7_planEvening_171 rfl ?_
          refine j_icmpn_le (tgt := 178) C dX7_planEvening_173 rfl (by omega) (by omega) (fun h173 => ?_) (fun h173 => ?_)
          · refine j_aload_n C dX7_planEvening_178 rfl rfl ?_
            refine j_get C flX7_68 dX7_planEvening_179 (Nat.lt_of_lt_of_le (by decide) hN) rfl rfl ?_
            refine j_iload C dX7_planEvening_182 rfl ?_
            refine j_iald C dX7_planEvening_184 (Nat.lt_of_lt_of_le (by decide) hN) (fun _ => rfl) (by decide) (by omega) ?_
            refine j_top (hw_9) ?_
            refine j_aload_n C dX7_planEvening_185 rfl rfl ?_
            refine j_get C flX7_54 dX7_planEvening_186 (Nat.lt_of_lt_of_le (by decide) hN) rfl rfl ?_
            refine j_get C flX7_108 dX7_planEvening_189 (Nat.lt_of_lt_of_le (by decide) hN) rfl rfl ?_
            refine j_iload C dX7_planEvening_192 rfl ?_
            refine j_iald C dX7_planEvening_194 (Nat.lt_of_lt_of_le (by decide) hN) (fun _ => rfl) (by decide) (by omega) ?_
            refine j_top ((hz_8 _ _ (by omega)).trans ((hf _ _ (by omega)).trans ((hW (l) (by omega)).1))) ?_
            refine j_icmpn_eq (tgt := 201) C dX7_planEvening_195 rfl (by omega) (by omega) (fun h195 => ?_) (fun h195 => ?_)
            · refine j_iinc (L' := [some (.ref (gad g (0))), some (.int (nI (x))), some (.int (nI (t))), some (.int (nI (cnt (ldOn a u (FAR a wt u t) x) (nM a)))), some (.int (nI (gMx a u (FAR a wt u t) x (nM a)))), some (.int (nI (cnt (fun l => decide (evW a wt u (FAR a wt u t) x l ≠ wt l)) l))), some (.int (nI (l + 1))), some (.int (nI (1)))]) C dX7_planEvening_201 rfl (nI_inc _) (by decide) rfl ?_
              refine j_goto (tgt := 92) C dX7_planEvening_204 rfl ?_
              refine J_clr 7 (L' := [some (.ref (gad g (0))), some (.int (nI (x))), some (.int (nI (t))), some (.int (nI (cnt (ldOn a u (FAR a wt u t) x) (nM a)))), some (.int (nI (gMx a u (FAR a wt u t) x (nM a)))), some (.int (nI (cnt (fun l => decide (evW a wt u (FAR a wt u t) x l ≠ wt l)) l))), some (.int (nI (l + 1))), none]) rfl ?_
              refine J_loc (L' := [some (.ref (gad g (0))), some (.int (nI (x))), some (.int (nI (t))), some (.int (nI (cnt (ldOn a u (FAR a wt u t) x) (nM a)))), some (.int (nI (gMx a u (FAR a wt u t) x (nM a)))), some (.int (nI (cnt (fun l => decide (evW a wt u (FAR a wt u t) x l ≠ wt l)) (l + 1)))), some (.int (nI (l + 1))), none]) ?_ (ih (nM a - (l + 1)) (by omega) (l + 1) τ7 rfl (by omega) (fun j n h => by rw [hz_8 _ _ (by omega)]; exact hf j n h) (fun y hy => by rw [hz_8 _ _ (by omega)]; exact hrow y hy) (fun z hz => ?_))
              · first | rw [cnt_hit (by rw [decide_eq_true_iff, hev]; omega)] | rw [cnt_miss (by rw [decide_eq_false_iff_not, hev]; omega)]
              · by_cases e : z = l
                · subst e; rw [hev]; exact ⟨by omega, by assumption⟩
                · rw [hz_8 _ _ (by omega)]; exact hz2 z (by omega)
            · refine j_iinc (L' := [some (.ref (gad g (0))), some (.int (nI (x))), some (.int (nI (t))), some (.int (nI (cnt (ldOn a u (FAR a wt u t) x) (nM a)))), some (.int (nI (gMx a u (FAR a wt u t) x (nM a)))), some (.int (nI (cnt (fun l => decide (evW a wt u (FAR a wt u t) x l ≠ wt l)) l + 1))), some (.int (nI (l))), some (.int (nI (1)))]) C dX7_planEvening_198 rfl (nI_inc _) (by decide) rfl ?_
              refine j_iinc (L' := [some (.ref (gad g (0))), some (.int (nI (x))), some (.int (nI (t))), some (.int (nI (cnt (ldOn a u (FAR a wt u t) x) (nM a)))), some (.int (nI (gMx a u (FAR a wt u t) x (nM a)))), some (.int (nI (cnt (fun l => decide (evW a wt u (FAR a wt u t) x l ≠ wt l)) l + 1))), some (.int (nI (l + 1))), some (.int (nI (1)))]) C dX7_planEvening_201 rfl (nI_inc _) (by decide) rfl ?_
              refine j_goto (tgt := 92) C dX7_planEvening_204 rfl ?_
              refine J_clr 7 (L' := [some (.ref (gad g (0))), some (.int (nI (x))), some (.int (nI (t))), some (.int (nI (cnt (ldOn a u (FAR a wt u t) x) (nM a)))), some (.int (nI (gMx a u (FAR a wt u t) x (nM a)))), some (.int (nI (cnt (fun l => decide (evW a wt u (FAR a wt u t) x l ≠ wt l)) l + 1))), some (.int (nI (l + 1))), none]) rfl ?_
              refine J_loc (L' := [some (.ref (gad g (0))), some (.int (nI (x))), some (.int (nI (t))), some (.int (nI (cnt (ldOn a u (FAR a wt u t) x) (nM a)))), some (.int (nI (gMx a u (FAR a wt u t) x (nM a)))), some (.int (nI (cnt (fun l => decide (evW a wt u (FAR a wt u t) x l ≠ wt l)) (l + 1)))), some (.int (nI (l + 1))), none]) ?_ (ih (nM a - (l + 1)) (by omega) (l + 1) τ7 rfl (by omega) (fun j n h => by rw [hz_8 _ _ (by omega)]; exact hf j n h) (fun y hy => by rw [hz_8 _ _ (by omega)]; exact hrow y hy) (fun z hz => ?_))
              · first | rw [cnt_hit (by rw [decide_eq_true_iff, hev]; omega)] | rw [cnt_miss (by rw [decide_eq_false_iff_not, hev]; omega)]
              · by_cases e : z = l
                · subst e; rw [hev]; exact ⟨by omega, by assumption⟩
                · rw [hz_8 _ _ (by omega)]; exact hz2 z (by omega)
          · refine j_iconst (v := nI 0) C dX7_planEvening_176 rfl ?_
            refine j_ret M dX7_planEvening_177 ?_
            refine ⟨fun j n h => by rw [hz_8 _ _ (by omega)]; exact hf j n h, Or.inr ⟨fun q => ?_, rfl⟩⟩
            have := q.2 l (by omega)
            omega
  have lp1 : ∀ (k : Nat) (l : Nat) (σ1 : Sg), nM a - l = k → l ≤ nM a → (∀ j n, ¬ (25 ≤ j ∧ j ≤ 43 ∨ j = 47) → σ1 j n = σ j n) → (∀ y, y < nN a → σ1 (25 + 1 * t) y = c1 ((FAR a wt u t) y)) → J g κ 8 20 [some (.ref (gad g (0))), some (.int (nI (x))), some (.int (nI (t))), some (.int (nI (cnt (ldOn a u (FAR a wt u t) x) l))), some (.int (nI (gMx a u (FAR a wt u t) x l))), some (.int (nI (l))), none, none] [] σ1 := by
    intro k
    induction k using Nat.strongRecOn with
    | _ k ih =>
      intro l σ1 hk hl hf hrow
      refine j_iload C dX7_planEvening_20 rfl ?_
      refine j_aload_n C dX7_planEvening_22 rfl rfl ?_
      refine j_get C flX7_19 dX7_planEvening_23 (Nat.lt_of_lt_of_le (by decide) hN) rfl rfl ?_
      refine j_get C flX7_99 dX7_planEvening_26 (Nat.lt_of_lt_of_le (by decide) hN) rfl rfl ?_
      refine j_top ((hf _ _ (by omega)).trans (hI.m)) ?_
      refine j_icmpn_ge (tgt := 79) C dX7_planEvening_29 rfl (by omega) (by omega) (fun h29 => ?_) (fun h29 => ?_)
      · have el : l = nM a := by omega
        refine J_loc (L' := [some (.ref (gad g (0))), some (.int (nI (x))), some (.int (nI (t))), some (.int (nI (cnt (ldOn a u (FAR a wt u t) x) (nM a)))), some (.int (nI (gMx a u (FAR a wt u t) x (nM a)))), some (.int (nI (nM a))), none, none]) (by rw [el]) ?_
        refine j_iload_n C dX7_planEvening_79 rfl rfl ?_
        refine j_iconst (v := nI 2) C dX7_planEvening_80 rfl ?_
        refine j_icmpn_ge (tgt := 86) C dX7_planEvening_81 rfl (by omega) (by omega) (fun h81 => ?_) (fun h81 => ?_)
        · refine j_iconst (v := nI 0) C dX7_planEvening_86 rfl ?_
          refine j_istore (L' := [some (.ref (gad g (0))), some (.int (nI (x))), some (.int (nI (t))), some (.int (nI (cnt (ldOn a u (FAR a wt u t) x) (nM a)))), some (.int (nI (gMx a u (FAR a wt u t) x (nM a)))), some (.int (nI (0))), none, none]) C dX7_planEvening_87 (by decide) rfl ?_
          refine j_iconst (v := nI 0) C dX7_planEvening_89 rfl ?_
          refine j_istore (L' := [some (.ref (gad g (0))), some (.int (nI (x))), some (.int (nI (t))), some (.int (nI (cnt (ldOn a u (FAR a wt u t) x) (nM a)))), some (.int (nI (gMx a u (FAR a wt u t) x (nM a)))), some (.int (nI (0))), some (.int (nI (0))), none]) C dX7_planEvening_90 (by decide) rfl ?_
          exact lp2 (by omega) (nM a - 0) 0 σ1 rfl (by omega) hf hrow (fun z hz => by omega)
        · refine j_iconst (v := nI 0) C dX7_planEvening_84 rfl ?_
          refine j_ret M dX7_planEvening_85 ?_
          exact ⟨hf, Or.inr ⟨fun q => by have := q.1; omega, rfl⟩⟩
      · have hcl := cnt_le (ldOn a u (FAR a wt u t) x) l
        have hgl := gMx_bd (a := a) (u := u) (x := x) hB l
        obtain ⟨hb1, hb2, hb3, hb4⟩ := hO.2.2.2.2.1 l h29
        refine j_aload_n C dX7_planEvening_32 rfl rfl ?_
        refine j_iload_n C dX7_planEvening_33 rfl rfl ?_
        refine j_iload_n C dX7_planEvening_34 rfl rfl ?_
        refine j_iload C dX7_planEvening_35 rfl ?_
        refine j_calli (As := [.int (nI (x)), .int (nI (t)), .int (nI (l))]) (rest := []) C (tX7_leadsOn hN (wt := wt) (u := u) (hI.kept (fun j n h1 h2 => hf j n (by omega))) hO (hW.kept' (fun j n h1 => hf j n (by omega))) (x := x) (t := t) (l := l) (f := (FAR a wt u t)) (by omega) (by omega) (by omega) hrow hB) cdX7_leadsOn mlX7_229 dX7_planEvening_37 (by decide) (by decide) (Nat.lt_of_lt_of_le (by decide) hN) rfl rfl rfl rfl rfl (Nat.le_of_ble_eq_true rfl) (fun rr_2 τ1 hp_3 => ?_)
        obtain ⟨hs, hr⟩ := hp_3
        replace hs := hs.symm
        subst hs
        rcases hld : (ldOn a u (FAR a wt u t) x) l with _ | _ <;> rw [hld] at hr <;> subst hr
        · refine j_ifn_eq (tgt := 73) C dX7_planEvening_40 rfl (by omega) (fun _ => ?_) (fun h => absurd h (by decide))
          refine j_iinc (L' := [some (.ref (gad g (0))), some (.int (nI (x))), some (.int (nI (t))), some (.int (nI (cnt (ldOn a u (FAR a wt u t) x) l))), some (.int (nI (gMx a u (FAR a wt u t) x l))), some (.int (nI (l + 1))), none, none]) C dX7_planEvening_73 rfl (nI_inc _) (by decide) rfl ?_
          refine j_goto (tgt := 20) C dX7_planEvening_76 rfl ?_
          refine J_loc (L' := [some (.ref (gad g (0))), some (.int (nI (x))), some (.int (nI (t))), some (.int (nI (cnt (ldOn a u (FAR a wt u t) x) (l + 1)))), some (.int (nI (gMx a u (FAR a wt u t) x (l + 1)))), some (.int (nI (l + 1))), none, none]) ?_ (ih (nM a - (l + 1)) (by omega) (l + 1) σ1 rfl (by omega) hf hrow)
          first | (rw [cnt_hit hld, gMx, if_pos hld, hv]; rfl) | (rw [cnt_miss hld, gMx, if_neg (by rw [hld]; decide)])
        · obtain ⟨v, hv⟩ := ldOn_ex hld
          have hvb := hB _ _ hv
          have hvg := gMx_ge hld hv (m := nM a) (by omega)
          refine j_ifn_eq (tgt := 73) C dX7_planEvening_40 rfl (by omega) (fun h => absurd h (by decide)) (fun _ => ?_)
          refine j_iinc (L' := [some (.ref (gad g (0))), some (.int (nI (x))), some (.int (nI (t))), some (.int (nI (cnt (ldOn a u (FAR a wt u t) x) l + 1))), some (.int (nI (gMx a u (FAR a wt u t) x l))), some (.int (nI (l))), none, none]) C dX7_planEvening_43 rfl (nI_inc _) (by decide) rfl ?_
          refine j_iload C dX7_planEvening_46 rfl ?_
          refine j_aload_n C dX7_planEvening_48 rfl rfl ?_
          refine j_get C flX7_38 dX7_planEvening_49 (Nat.lt_of_lt_of_le (by decide) hN) rfl rfl ?_
          refine j_get C flX7_183 dX7_planEvening_52 (Nat.lt_of_lt_of_le (by decide) hN) rfl rfl ?_
          refine j_iload_n C dX7_planEvening_55 rfl rfl ?_
          refine j_aald C dX7_planEvening_56 (Nat.lt_of_lt_of_le (by decide) hN) (fun _ => rfl) (by decide) (by omega) ?_
          refine j_aload_n C dX7_planEvening_57 rfl rfl ?_
          refine j_get C flX7_19 dX7_planEvening_58 (Nat.lt_of_lt_of_le (by decide) hN) rfl rfl ?_
          refine j_get C flX7_162 dX7_planEvening_61 (Nat.lt_of_lt_of_le (by decide) hN) rfl rfl ?_
          refine j_iload C dX7_planEvening_64 rfl ?_
          refine j_iald C dX7_planEvening_66 (Nat.lt_of_lt_of_le (by decide) hN) (fun _ => rfl) (by decide) (by omega) ?_
          refine j_top ((hf _ _ (by omega)).trans (hI.to (l := l) (by omega))) ?_
          refine j_iald C dX7_planEvening_67 (by omega) (cf_far (by omega)) (by decide) (by omega) ?_
          refine j_top ((hrow (nTo a l) (by omega)).trans (congrArg c1 hv)) ?_
          refine j_max C mmX7_233 dX7_planEvening_68 (by decide) (Nat.le_of_ble_eq_true rfl) ?_
          refine j_top (nI_max (by omega) (by omega)) ?_
          refine j_istore (L' := [some (.ref (gad g (0))), some (.int (nI (x))), some (.int (nI (t))), some (.int (nI (cnt (ldOn a u (FAR a wt u t) x) l + 1))), some (.int (nI (max (gMx a u (FAR a wt u t) x l) v))), some (.int (nI (l))), none, none]) C dX7_planEvening_71 (by decide) rfl ?_
          refine j_iinc (L' := [some (.ref (gad g (0))), some (.int (nI (x))), some (.int (nI (t))), some (.int (nI (cnt (ldOn a u (FAR a wt u t) x) l + 1))), some (.int (nI (max (gMx a u (FAR a wt u t) x l) v))), some (.int (nI (l + 1))), none, none]) C dX7_planEvening_73 rfl (nI_inc _) (by decide) rfl ?_
          refine j_goto (tgt := 20) C dX7_planEvening_76 rfl ?_
          refine J_loc (L' := [some (.ref (gad g (0))), some (.int (nI (x))), some (.int (nI (t))), some (.int (nI (cnt (ldOn a u (FAR a wt u t) x) (l + 1)))), some (.int (nI (gMx a u (FAR a wt u t) x (l + 1)))), some (.int (nI (l + 1))), none, none]) ?_ (ih (nM a - (l + 1)) (by omega) (l + 1) σ1 rfl (by omega) hf hrow)
          first | (rw [cnt_hit hld, gMx, if_pos hld, hv]; rfl) | (rw [cnt_miss hld, gMx, if_neg (by rw [hld]; decide)])
  refine j_aload_n C dX7_planEvening_0 rfl rfl ?_
  refine j_get C flX7_38 dX7_planEvening_1 (Nat.lt_of_lt_of_le (by decide) hN) rfl rfl ?_
  refine j_aload_n C dX7_planEvening_4 rfl rfl ?_
  refine j_get C flX7_54 dX7_planEvening_5 (Nat.lt_of_lt_of_le (by decide) hN) rfl rfl ?_
  refine j_iload_n C dX7_planEvening_8 rfl rfl ?_
  refine j_callv (As := [.ref (gad g (48)), .int (nI (t))]) (rest := []) C (tX0_measureF (i := 0) (t := t) hN (by omega) hI hO hW hw ht) cdX0_measure mlX7_179 dX7_planEvening_9 (by decide) (by decide) (Nat.lt_of_lt_of_le (by decide) hN) rfl rfl rfl rfl rfl (Nat.le_of_ble_eq_true rfl) (fun τ1 hp_3 => ?_)
  obtain ⟨hfm, hrow⟩ := hp_3
  refine j_iconst (v := nI 0) C dX7_planEvening_12 rfl ?_
  refine j_istore_n (L' := [some (.ref (gad g (0))), some (.int (nI (x))), some (.int (nI (t))), some (.int (nI (0))), none, none, none, none]) C dX7_planEvening_13 rfl (by decide) rfl ?_
  refine j_iconst (v := nI 0) C dX7_planEvening_14 rfl ?_
  refine j_istore (L' := [some (.ref (gad g (0))), some (.int (nI (x))), some (.int (nI (t))), some (.int (nI (0))), some (.int (nI (0))), none, none, none]) C dX7_planEvening_15 (by decide) rfl ?_
  refine j_iconst (v := nI 0) C dX7_planEvening_17 rfl ?_
  refine j_istore (L' := [some (.ref (gad g (0))), some (.int (nI (x))), some (.int (nI (t))), some (.int (nI (0))), some (.int (nI (0))), some (.int (nI (0))), none, none]) C dX7_planEvening_18 (by decide) rfl ?_
  exact lp1 (nM a - 0) 0 τ1 rfl (by omega) (fun j n h => hfm j n (by omega)) hrow
set_option maxHeartbeats 4000000 in
set_option maxRecDepth 100000 in
theorem tX7_even {g : jG} (hN : 84 ≤ gN g) {σ : Sg} {tx : Nat → Int32} {len : Nat} {a : ND} {wt : Nat → Nat} {u : Nat → Bool} {tl : List Int32} {le : Nat} {p : List SD} (hC : CI σ (tx, len, a, (wt, u, tl, le), p)) (hA : AOk (tx, len, a, (wt, u, tl, le), p)) (x0 t0 : Int32) : MS g yX7_even cX7_even 5 (some .int) rmX7_even [.ref (gad g (0)), .int (x0), .int (t0)] σ (fun r σ' => r = (abEven x0 t0 (tx, len, a, (wt, u, tl, le), p)).1 ∧ CI σ' (abEven x0 t0 (tx, len, a, (wt, u, tl, le), p)).2 ∧ ∀ j n, 84 ≤ j → σ' j n = σ j n) := by
  refine MJ_of (by decide) (Nat.le_of_ble_eq_true rfl) (List.forall_mem_cons.mpr ⟨rfl, List.forall_mem_cons.mpr ⟨rfl, List.forall_mem_cons.mpr ⟨rfl, fun _ h => absurd h List.not_mem_nil⟩⟩⟩) ?_
  intro κ M
  have C := M.1
  show J g κ 5 0 [some (.ref (gad g (0))), some (.int (x0)), some (.int (t0)), none, none] [] σ
  have hI : NetI σ 3 a := hC.2.1
  have hO : NOk a := hA.1
  have hS : StI σ 0 (nM a) (wt, u, tl, le) := hC.2.2.1
  have hW : StW σ 0 (nM a) wt u := hS.2.1
  have hw : WOk (nM a) wt := hA.2.1.1
  have htl6 : tl.length ≤ 6 := hA.2.1.2.1
  have hle31 : le < 2 ^ 31 := hA.2.1.2.2
  have hlen : len ≤ 200 := hC.1.2.1
  have hn7 := hO.2.1
  have hm12 := hO.2.2.1
  have hd6 := hO.2.2.2.1
  have hCl : σ 1 1 = nI len := hC.1.1
  have hCt : ∀ k, k < len → σ 2 k = tx k := hC.1.2.2
  refine j_aload_n C dX7_even_0 rfl rfl ?_
  refine j_get C flX7_19 dX7_even_1 (Nat.lt_of_lt_of_le (by decide) hN) rfl rfl ?_
  refine j_iload_n C dX7_even_4 rfl rfl ?_
  refine j_calli (As := [.int (x0)]) (rest := []) C (tX3_hasNode (i := 0) hN (by omega) hI.n (by omega) _) cdX3_hasNode mlX7_123 dX7_even_5 (by decide) (by decide) (Nat.lt_of_lt_of_le (by decide) hN) rfl rfl rfl rfl rfl (Nat.le_of_ble_eq_true rfl) (fun rr_2 τ1 hp_3 => ?_)
  obtain ⟨hs, hc⟩ := hp_3
  replace hs := hs.symm
  subst hs
  rcases hc with ⟨rfl, x, hx, rfl⟩ | ⟨rfl, hno⟩
  · refine j_ifn_eq (tgt := 22) C dX7_even_8 rfl (by omega) (fun h => absurd h (by decide)) (fun _ => ?_)
    refine j_aload_n C dX7_even_11 rfl rfl ?_
    refine j_get C flX7_19 dX7_even_12 (Nat.lt_of_lt_of_le (by decide) hN) rfl rfl ?_
    refine j_iload_n C dX7_even_15 rfl rfl ?_
    refine j_calli (As := [.int (t0)]) (rest := []) C (tX3_hasNode (i := 0) hN (by omega) hI.n (by omega) _) cdX3_hasNode mlX7_123 dX7_even_16 (by decide) (by decide) (Nat.lt_of_lt_of_le (by decide) hN) rfl rfl rfl rfl rfl (Nat.le_of_ble_eq_true rfl) (fun rr_5 τ4 hp_6 => ?_)
    obtain ⟨hs, hc⟩ := hp_6
    replace hs := hs.symm
    subst hs
    rcases hc with ⟨rfl, t, ht, rfl⟩ | ⟨rfl, hno2⟩
    · refine j_ifn_ne (tgt := 24) C dX7_even_19 rfl (by omega) (fun _ => ?_) (fun h => absurd h (by decide))
      refine j_iload_n C dX7_even_24 rfl rfl ?_
      refine j_iload_n C dX7_even_25 rfl rfl ?_
      refine j_icmpn_ne (tgt := 33) C dX7_even_26 rfl (by omega) (by omega) (fun h26 => ?_) (fun h26 => ?_)
      · refine j_aload_n C dX7_even_33 rfl rfl ?_
        refine j_iload_n C dX7_even_34 rfl rfl ?_
        refine j_iload_n C dX7_even_35 rfl rfl ?_
        refine j_calli (As := [.int (nI (x)), .int (nI (t))]) (rest := []) C (tX7_planEvening hN hI hO hW hw (x := x) (t := t) hx ht) cdX7_planEvening mlX7_126 dX7_even_36 (by decide) (by decide) (Nat.lt_of_lt_of_le (by decide) hN) rfl rfl rfl rfl rfl (Nat.le_of_ble_eq_true rfl) (fun rr_8 τ7 hp_9 => ?_)
        obtain ⟨hfp, hpc⟩ := hp_9
        have hcnt := cnt_le (fun l => decide (evW a wt u (FAR a wt u t) x l ≠ wt l)) (nM a)
        rcases hpc with ⟨hp1, hp2, rfl, hp4⟩ | ⟨hp1, rfl⟩
        · refine j_istore_n (L' := [some (.ref (gad g (0))), some (.int (nI (x))), some (.int (nI (t))), some (.int (nI (cnt (fun l => decide (evW a wt u (FAR a wt u t) x l ≠ wt l)) (nM a)))), none]) C dX7_even_39 rfl (by decide) rfl ?_
          refine j_iload_n C dX7_even_40 rfl rfl ?_
          refine j_ifn_ne (tgt := 47) C dX7_even_41 rfl (by omega) (fun h41 => ?_) (fun h41 => ?_)
          · refine j_aload_n C dX7_even_47 rfl rfl ?_
            refine j_get C flX7_64 dX7_even_48 (Nat.lt_of_lt_of_le (by decide) hN) rfl rfl ?_
            refine j_aload_n C dX7_even_51 rfl rfl ?_
            refine j_get C flX7_54 dX7_even_52 (Nat.lt_of_lt_of_le (by decide) hN) rfl rfl ?_
            refine j_callv (As := [.ref (gad g (48))]) (rest := []) C (tX4_keepA hN (hC.2.2.2.kept (fun j n h => by rw [hfp _ _ (by omega)])) (hS.kept (fun j n h1 h2 => by rw [hfp _ _ (by omega)])) hm12 htl6) cdX4_keep mlX7_111 dX7_even_55 (by decide) (by decide) (Nat.lt_of_lt_of_le (by decide) hN) rfl rfl rfl rfl rfl (Nat.le_of_ble_eq_true rfl) (fun τ10 hp_12 => ?_)
            obtain ⟨hfk, hPk⟩ := hp_12
            refine j_iconst (v := nI 0) C dX7_even_58 rfl ?_
            refine j_istore (L' := [some (.ref (gad g (0))), some (.int (nI (x))), some (.int (nI (t))), some (.int (nI (cnt (fun l => decide (evW a wt u (FAR a wt u t) x l ≠ wt l)) (nM a)))), some (.int (nI (0)))]) C dX7_even_59 (by decide) rfl ?_
            have hxt : x ≠ t := h26
            have hpos : 0 < cnt (fun l => decide (evW a wt u (FAR a wt u t) x l ≠ wt l)) (nM a) := by omega
            have lpE : ∀ (k l : Nat) (σ1 : Sg), nM a - l = k → l ≤ nM a → (∀ j n, ¬ (25 ≤ j ∧ j ≤ 43 ∨ j = 47 ∨ j = 49 ∨ j = 45 ∨ 60 ≤ j ∧ j ≤ 83) → σ1 j n = σ j n) → PastI σ1 (nM a) (push6 p (wt, u, tl, le)) → (∀ z, z < nM a → σ1 47 z = nI ((evW a wt u (FAR a wt u t) x) z)) → (∀ z, z < l → σ1 49 z = nI ((evW a wt u (FAR a wt u t) x) z)) → J g κ 5 61 [some (.ref (gad g (0))), some (.int (nI (x))), some (.int (nI (t))), some (.int (nI (cnt (fun l => decide (evW a wt u (FAR a wt u t) x l ≠ wt l)) (nM a)))), some (.int (nI (l)))] [] σ1 := by
              intro k
              induction k using Nat.strongRecOn with
              | _ k ih =>
                intro l σ1 hk hl hf hPk h47 h49
                refine j_iload C dX7_even_61 rfl ?_
                refine j_aload_n C dX7_even_63 rfl rfl ?_
                refine j_get C flX7_19 dX7_even_64 (Nat.lt_of_lt_of_le (by decide) hN) rfl rfl ?_
                refine j_get C flX7_99 dX7_even_67 (Nat.lt_of_lt_of_le (by decide) hN) rfl rfl ?_
                refine j_top ((hf _ _ (by omega)).trans (hI.m)) ?_
                refine j_icmpn_ge (tgt := 96) C dX7_even_70 rfl (by omega) (by omega) (fun h70 => ?_) (fun h70 => ?_)
                · have hWx : StW σ1 0 (nM a) (evW a wt u (FAR a wt u t) x) u := fun k hk => ⟨h49 k (by omega), (hf _ _ (by omega)).trans (hW k hk).2⟩
                  have hwx : WOk (nM a) (evW a wt u (FAR a wt u t) x) := fun k hk => by
                    refine ⟨?_, hp2 k hk⟩
                    unfold evW
                    split
                    · next q =>
                      obtain ⟨v, hv⟩ := ldOn_ex q
                      have h1 := gMx_ge q hv (m := nM a) hk
                      rw [hv]
                      show 1 ≤ _ + 1 - v
                      omega
                    · exact (hw k hk).1
                  have hcb := costN_bd (w := (evW a wt u (FAR a wt u t) x)) (u := u) hO
                  refine j_aload_n C dX7_even_96 rfl rfl ?_
                  refine j_get C flX7_54 dX7_even_97 (Nat.lt_of_lt_of_le (by decide) hN) rfl rfl ?_
                  refine j_aload_n C dX7_even_100 rfl rfl ?_
                  refine j_get C flX7_38 dX7_even_101 (Nat.lt_of_lt_of_le (by decide) hN) rfl rfl ?_
                  refine j_aload_n C dX7_even_104 rfl rfl ?_
                  refine j_get C flX7_54 dX7_even_105 (Nat.lt_of_lt_of_le (by decide) hN) rfl rfl ?_
                  refine j_calli (As := [.ref (gad g (48))]) (rest := [.ref (gad g (48))]) C (tX0_costOf (i := 0) (w := (evW a wt u (FAR a wt u t) x)) (u := u) hN (by omega) (hI.kept (fun j n h1 h2 => hf j n (by omega))) hO hWx hwx) cdX0_costOf mlX7_115 dX7_even_108 (by decide) (by decide) (Nat.lt_of_lt_of_le (by decide) hN) rfl rfl rfl rfl rfl (Nat.le_of_ble_eq_true rfl) (fun rr_2 τ1 hp_3 => ?_)
                  obtain ⟨hfc, hFl, hrc⟩ := hp_3
                  subst hrc
                  refine j_callv (As := [.int (nI (costN a (evW a wt u (FAR a wt u t) x) u))]) (rest := []) C (tX6_noteCost hN (nI (costN a (evW a wt u (FAR a wt u t) x) u))) cdX6_noteCost mlX7_119 dX7_even_111 (by decide) (by decide) (Nat.lt_of_lt_of_le (by decide) hN) rfl rfl rfl rfl rfl (Nat.le_of_ble_eq_true rfl) (fun τ4 hp_6 => ?_)
                  obtain ⟨hfn, hvn⟩ := hp_6
                  refine j_iload_n C dX7_even_114 rfl rfl ?_
                  refine j_ret M dX7_even_115 ?_
                  rw [abEven, pIf_t ⟨⟨x, hx, rfl⟩, ⟨t, ht, rfl⟩⟩, idx_nI (by omega), idx_nI (by omega)]
                  dsimp only
                  rw [pIf_t ⟨hxt, hp1, hp2, hpos⟩]
                  refine ⟨rfl, ⟨⟨by rw [hfn _ _ (by omega), hfc _ _ (by omega), hf _ _ (by omega)]; exact hCl, hlen, fun k hk => by rw [hfn _ _ (by omega), hfc _ _ (by omega), hf _ _ (by omega)]; exact hCt k hk⟩, hI.kept (fun j n h1 h2 => by rw [hfn _ _ (by omega), hfc _ _ (by omega), hf _ _ (by omega)]), ?_, hPk.kept (fun j n h => by rw [hfn _ _ (by omega), hfc _ _ (by omega)])⟩, fun j n h => by rw [hfn _ _ (by omega), hfc _ _ (by omega), hf _ _ (by omega)]⟩
                  refine hS.chg0 (fun j n h => by rw [hfn _ _ (by omega), hfc _ _ (by omega), hf _ _ (by omega)]) (hWx.kept' (fun j n h => by rw [hfn _ _ (by omega), hfc _ _ (by omega)])) ?_
                  rw [hvn, hfc _ _ (by omega), hf _ _ (by omega), hS.2.2.2]
                  show _ = nI (min le _)
                  rw [nI_min (by omega) (by omega)]
                · refine j_aload_n C dX7_even_73 rfl rfl ?_
                  refine j_get C flX7_54 dX7_even_74 (Nat.lt_of_lt_of_le (by decide) hN) rfl rfl ?_
                  refine j_get C flX7_108 dX7_even_77 (Nat.lt_of_lt_of_le (by decide) hN) rfl rfl ?_
                  refine j_iload C dX7_even_80 rfl ?_
                  refine j_aload_n C dX7_even_82 rfl rfl ?_
                  refine j_get C flX7_68 dX7_even_83 (Nat.lt_of_lt_of_le (by decide) hN) rfl rfl ?_
                  refine j_iload C dX7_even_86 rfl ?_
                  refine j_iald C dX7_even_88 (Nat.lt_of_lt_of_le (by decide) hN) (fun _ => rfl) (by decide) (by omega) ?_
                  refine j_top (h47 (l) (by omega)) ?_
                  refine j_iast' C dX7_even_89 (Nat.lt_of_lt_of_le (by decide) hN) (fun _ => rfl) (by decide) (by omega) (fun τ7 hz_8 hw_9 => ?_)
                  refine j_iinc (L' := [some (.ref (gad g (0))), some (.int (nI (x))), some (.int (nI (t))), some (.int (nI (cnt (fun l => decide (evW a wt u (FAR a wt u t) x l ≠ wt l)) (nM a)))), some (.int (nI (l + 1)))]) C dX7_even_90 rfl (nI_inc _) (by decide) rfl ?_
                  refine j_goto (tgt := 61) C dX7_even_93 rfl ?_
                  refine ih (nM a - (l + 1)) (by omega) (l + 1) τ7 rfl (by omega) (fun j n h => by rw [hz_8 _ _ (by omega)]; exact hf j n h) (hPk.kept (fun j n h => by rw [hz_8 _ _ (by omega)])) (fun z hz => by rw [hz_8 _ _ (by omega)]; exact h47 z hz) (fun z hz => ?_)
                  by_cases e : z = l
                  · subst e; assumption
                  · rw [hz_8 _ _ (by omega)]; exact h49 z (by omega)
            exact lpE (nM a - 0) 0 τ10 rfl (by omega) (fun j n h => by rw [hfk _ _ (by omega), hfp _ _ (by omega)]) hPk (fun z hz => by rw [hfk _ _ (by omega)]; exact hp4 z hz) (fun z hz => by omega)
          · refine j_bipush (v := -2) C dX7_even_44 rfl ?_
            refine j_ret M dX7_even_46 ?_
            rw [abEven, pIf_t ⟨⟨x, hx, rfl⟩, ⟨t, ht, rfl⟩⟩, idx_nI (by omega), idx_nI (by omega)]
            dsimp only
            rw [pIf_f (fun q => by
              first | exact absurd h26 q.1 | exact hp1 ⟨q.2.1, q.2.2.1⟩ | (have := q.2.2.2; omega))]
            exact ⟨rfl, hC.kept (fun j n h => by rw [hfp _ _ (by omega)]), fun j n h => by rw [hfp _ _ (by omega)]⟩
        · refine j_istore_n (L' := [some (.ref (gad g (0))), some (.int (nI (x))), some (.int (nI (t))), some (.int (nI (0))), none]) C dX7_even_39 rfl (by decide) rfl ?_
          refine j_iload_n C dX7_even_40 rfl rfl ?_
          refine j_ifn_ne (tgt := 47) C dX7_even_41 rfl (by omega) (fun h => absurd h (by decide)) (fun _ => ?_)
          refine j_bipush (v := -2) C dX7_even_44 rfl ?_
          refine j_ret M dX7_even_46 ?_
          rw [abEven, pIf_t ⟨⟨x, hx, rfl⟩, ⟨t, ht, rfl⟩⟩, idx_nI (by omega), idx_nI (by omega)]
          dsimp only
          rw [pIf_f (fun q => by
            first | exact absurd h26 q.1 | exact hp1 ⟨q.2.1, q.2.2.1⟩ | (have := q.2.2.2; omega))]
          exact ⟨rfl, hC.kept (fun j n h => by rw [hfp _ _ (by omega)]), fun j n h => by rw [hfp _ _ (by omega)]⟩
      · refine j_iconst (v := nI 0) C dX7_even_29 rfl ?_
        refine j_goto (tgt := 39) C dX7_even_30 rfl ?_
        refine j_istore_n (L' := [some (.ref (gad g (0))), some (.int (nI (x))), some (.int (nI (t))), some (.int (nI (0))), none]) C dX7_even_39 rfl (by decide) rfl ?_
        refine j_iload_n C dX7_even_40 rfl rfl ?_
        refine j_ifn_ne (tgt := 47) C dX7_even_41 rfl (by omega) (fun h => absurd h (by decide)) (fun _ => ?_)
        refine j_bipush (v := -2) C dX7_even_44 rfl ?_
        refine j_ret M dX7_even_46 ?_
        rw [abEven, pIf_t ⟨⟨x, hx, rfl⟩, ⟨t, ht, rfl⟩⟩, idx_nI (by omega), idx_nI (by omega)]
        dsimp only
        rw [pIf_f (fun q => by
          first | exact absurd h26 q.1 | exact hp1 ⟨q.2.1, q.2.2.1⟩ | (have := q.2.2.2; omega))]
        exact ⟨rfl, hC, fun _ _ _ => rfl⟩
    · refine j_ifn_ne (tgt := 24) C dX7_even_19 rfl (by omega) (fun h => absurd h (by decide)) (fun _ => ?_)
      refine j_iconst (v := -1) C dX7_even_22 rfl ?_
      refine j_ret M dX7_even_23 ?_
      rw [abEven, pIf_f (by first | exact fun q => hno q.1 | exact fun q => hno2 q.2)]
      exact ⟨rfl, hC, fun _ _ _ => rfl⟩
  · refine j_ifn_eq (tgt := 22) C dX7_even_8 rfl (by omega) (fun _ => ?_) (fun h => absurd h (by decide))
    refine j_iconst (v := -1) C dX7_even_22 rfl ?_
    refine j_ret M dX7_even_23 ?_
    rw [abEven, pIf_f (by first | exact fun q => hno q.1 | exact fun q => hno2 q.2)]
    exact ⟨rfl, hC, fun _ _ _ => rfl⟩
