set_option maxHeartbeats 4000000 in
set_option maxRecDepth 100000 in
theorem tX0_isShort {g : jG} (hN : 84 ≤ gN g) {σ : Sg} {i : Nat} {a : ND} {w : Nat → Nat} {u : Nat → Bool} (hi : i < 9) (hI : NetI σ 3 a) (hO : NOk a) (hW : StW σ i (nM a) w u) (hw : WOk (nM a) w) {l t : Nat} {f : Nat → Option Nat} (hl : l < nM a) (ht : t < 7) (hF : ∀ x, x < nN a → σ (25 + 1 * t) x = c1 (f x)) (hB : fBd f 1680) : MS g yX0_isShort cX0_isShort 5 (some .boolean) rmX0_isShort [.ref (gad g (23)), .ref (gad g (48 + 4 * i)), .int (nI (l)), .int (nI (t))] σ (fun r σ' => σ' = σ ∧ r = bI (shb a w u f l)) := by
  refine MJ_of (by decide) (Nat.le_of_ble_eq_true rfl) (List.forall_mem_cons.mpr ⟨rfl, List.forall_mem_cons.mpr ⟨rfl, List.forall_mem_cons.mpr ⟨rfl, List.forall_mem_cons.mpr ⟨rfl, fun _ h => absurd h List.not_mem_nil⟩⟩⟩⟩) ?_
  intro κ M
  have C := M.1
  show J g κ 5 0 [some (.ref (gad g (23))), some (.ref (gad g (48 + 4 * i))), some (.int (nI (l))), some (.int (nI (t))), none] [] σ
  have hn7 := hO.2.1
  have hm12 := hO.2.2.1
  have hd6 := hO.2.2.2.1
  obtain ⟨hb1, hb2, hb3, hb4⟩ := hO.2.2.2.2.1 l hl
  have hw1 := hw l hl
  rcases hu : u l with _ | _ <;> rcases hto : f (nTo a l) with _ | v <;> rcases hfr : f (nFr a l) with _ | z
  · refine j_aload_n C dX0_isShort_0 rfl rfl ?_
    refine j_get C flX0_11 dX0_isShort_1 (Nat.lt_of_lt_of_le (by decide) hN) rfl rfl ?_
    refine j_iload_n C dX0_isShort_4 rfl rfl ?_
    refine j_aald C dX0_isShort_5 (Nat.lt_of_lt_of_le (by decide) hN) (fun _ => rfl) (by decide) (by omega) ?_
    refine j_aload_n C dX0_isShort_6 rfl rfl ?_
    refine j_get C flX0_36 dX0_isShort_7 (Nat.lt_of_lt_of_le (by decide) hN) rfl rfl ?_
    refine j_get C flX0_74 dX0_isShort_10 (Nat.lt_of_lt_of_le (by decide) hN) rfl rfl ?_
    refine j_iload_n C dX0_isShort_13 rfl rfl ?_
    refine j_iald C dX0_isShort_14 (Nat.lt_of_lt_of_le (by decide) hN) (fun _ => rfl) (by decide) (by omega) ?_
    refine j_top (hI.to (l := l) (by omega)) ?_
    refine j_iald C dX0_isShort_15 (by omega) (cf_far (by omega)) (by decide) (by omega) ?_
    refine j_top ((hF (nTo a l) (by omega)).trans (congrArg c1 hto)) ?_
    refine j_istore (L' := [some (.ref (gad g (23))), some (.ref (gad g (48 + 4 * i))), some (.int (nI (l))), some (.int (nI (t))), some (.int (-1))]) C dX0_isShort_16 (by decide) rfl ?_
    refine j_aload_n C dX0_isShort_18 rfl rfl ?_
    refine j_get C flX0_69 dX0_isShort_19 (by omega) (cf_st (by omega) _) rfl ?_
    refine j_iload_n C dX0_isShort_22 rfl rfl ?_
    refine j_zald C dX0_isShort_23 (by omega) (cf_st2 (by omega)) (by decide) (by omega) ?_
    refine j_top ((hW l (by omega)).2.trans (by rw [hu])) ?_
    refine j_ifn_eq (tgt := 65) C dX0_isShort_24 rfl (by omega) (fun _ => ?_) (fun h => absurd h (by decide))
    refine j_iconst (v := nI 0) C dX0_isShort_65 rfl ?_
    refine j_retz M dX0_isShort_66 rfl ?_
    refine ⟨rfl, ?_⟩
    unfold shb
    rw [hu, hto]
    try rw [hfr]
    first | rfl | (simp [bI]; done) | (simp [bI]; omega)
  · have hz := hB _ _ hfr
    refine j_aload_n C dX0_isShort_0 rfl rfl ?_
    refine j_get C flX0_11 dX0_isShort_1 (Nat.lt_of_lt_of_le (by decide) hN) rfl rfl ?_
    refine j_iload_n C dX0_isShort_4 rfl rfl ?_
    refine j_aald C dX0_isShort_5 (Nat.lt_of_lt_of_le (by decide) hN) (fun _ => rfl) (by decide) (by omega) ?_
    refine j_aload_n C dX0_isShort_6 rfl rfl ?_
    refine j_get C flX0_36 dX0_isShort_7 (Nat.lt_of_lt_of_le (by decide) hN) rfl rfl ?_
    refine j_get C flX0_74 dX0_isShort_10 (Nat.lt_of_lt_of_le (by decide) hN) rfl rfl ?_
    refine j_iload_n C dX0_isShort_13 rfl rfl ?_
    refine j_iald C dX0_isShort_14 (Nat.lt_of_lt_of_le (by decide) hN) (fun _ => rfl) (by decide) (by omega) ?_
    refine j_top (hI.to (l := l) (by omega)) ?_
    refine j_iald C dX0_isShort_15 (by omega) (cf_far (by omega)) (by decide) (by omega) ?_
    refine j_top ((hF (nTo a l) (by omega)).trans (congrArg c1 hto)) ?_
    refine j_istore (L' := [some (.ref (gad g (23))), some (.ref (gad g (48 + 4 * i))), some (.int (nI (l))), some (.int (nI (t))), some (.int (-1))]) C dX0_isShort_16 (by decide) rfl ?_
    refine j_aload_n C dX0_isShort_18 rfl rfl ?_
    refine j_get C flX0_69 dX0_isShort_19 (by omega) (cf_st (by omega) _) rfl ?_
    refine j_iload_n C dX0_isShort_22 rfl rfl ?_
    refine j_zald C dX0_isShort_23 (by omega) (cf_st2 (by omega)) (by decide) (by omega) ?_
    refine j_top ((hW l (by omega)).2.trans (by rw [hu])) ?_
    refine j_ifn_eq (tgt := 65) C dX0_isShort_24 rfl (by omega) (fun _ => ?_) (fun h => absurd h (by decide))
    refine j_iconst (v := nI 0) C dX0_isShort_65 rfl ?_
    refine j_retz M dX0_isShort_66 rfl ?_
    refine ⟨rfl, ?_⟩
    unfold shb
    rw [hu, hto]
    try rw [hfr]
    first | rfl | (simp [bI]; done) | (simp [bI]; omega)
  · have hv := hB _ _ hto
    refine j_aload_n C dX0_isShort_0 rfl rfl ?_
    refine j_get C flX0_11 dX0_isShort_1 (Nat.lt_of_lt_of_le (by decide) hN) rfl rfl ?_
    refine j_iload_n C dX0_isShort_4 rfl rfl ?_
    refine j_aald C dX0_isShort_5 (Nat.lt_of_lt_of_le (by decide) hN) (fun _ => rfl) (by decide) (by omega) ?_
    refine j_aload_n C dX0_isShort_6 rfl rfl ?_
    refine j_get C flX0_36 dX0_isShort_7 (Nat.lt_of_lt_of_le (by decide) hN) rfl rfl ?_
    refine j_get C flX0_74 dX0_isShort_10 (Nat.lt_of_lt_of_le (by decide) hN) rfl rfl ?_
    refine j_iload_n C dX0_isShort_13 rfl rfl ?_
    refine j_iald C dX0_isShort_14 (Nat.lt_of_lt_of_le (by decide) hN) (fun _ => rfl) (by decide) (by omega) ?_
    refine j_top (hI.to (l := l) (by omega)) ?_
    refine j_iald C dX0_isShort_15 (by omega) (cf_far (by omega)) (by decide) (by omega) ?_
    refine j_top ((hF (nTo a l) (by omega)).trans (congrArg c1 hto)) ?_
    refine j_istore (L' := [some (.ref (gad g (23))), some (.ref (gad g (48 + 4 * i))), some (.int (nI (l))), some (.int (nI (t))), some (.int (nI (v)))]) C dX0_isShort_16 (by decide) rfl ?_
    refine j_aload_n C dX0_isShort_18 rfl rfl ?_
    refine j_get C flX0_69 dX0_isShort_19 (by omega) (cf_st (by omega) _) rfl ?_
    refine j_iload_n C dX0_isShort_22 rfl rfl ?_
    refine j_zald C dX0_isShort_23 (by omega) (cf_st2 (by omega)) (by decide) (by omega) ?_
    refine j_top ((hW l (by omega)).2.trans (by rw [hu])) ?_
    refine j_ifn_eq (tgt := 65) C dX0_isShort_24 rfl (by omega) (fun _ => ?_) (fun h => absurd h (by decide))
    refine j_iconst (v := nI 0) C dX0_isShort_65 rfl ?_
    refine j_retz M dX0_isShort_66 rfl ?_
    refine ⟨rfl, ?_⟩
    unfold shb
    rw [hu, hto]
    try rw [hfr]
    first | rfl | (simp [bI]; done) | (simp [bI]; omega)
  · have hv := hB _ _ hto
    have hz := hB _ _ hfr
    refine j_aload_n C dX0_isShort_0 rfl rfl ?_
    refine j_get C flX0_11 dX0_isShort_1 (Nat.lt_of_lt_of_le (by decide) hN) rfl rfl ?_
    refine j_iload_n C dX0_isShort_4 rfl rfl ?_
    refine j_aald C dX0_isShort_5 (Nat.lt_of_lt_of_le (by decide) hN) (fun _ => rfl) (by decide) (by omega) ?_
    refine j_aload_n C dX0_isShort_6 rfl rfl ?_
    refine j_get C flX0_36 dX0_isShort_7 (Nat.lt_of_lt_of_le (by decide) hN) rfl rfl ?_
    refine j_get C flX0_74 dX0_isShort_10 (Nat.lt_of_lt_of_le (by decide) hN) rfl rfl ?_
    refine j_iload_n C dX0_isShort_13 rfl rfl ?_
    refine j_iald C dX0_isShort_14 (Nat.lt_of_lt_of_le (by decide) hN) (fun _ => rfl) (by decide) (by omega) ?_
    refine j_top (hI.to (l := l) (by omega)) ?_
    refine j_iald C dX0_isShort_15 (by omega) (cf_far (by omega)) (by decide) (by omega) ?_
    refine j_top ((hF (nTo a l) (by omega)).trans (congrArg c1 hto)) ?_
    refine j_istore (L' := [some (.ref (gad g (23))), some (.ref (gad g (48 + 4 * i))), some (.int (nI (l))), some (.int (nI (t))), some (.int (nI (v)))]) C dX0_isShort_16 (by decide) rfl ?_
    refine j_aload_n C dX0_isShort_18 rfl rfl ?_
    refine j_get C flX0_69 dX0_isShort_19 (by omega) (cf_st (by omega) _) rfl ?_
    refine j_iload_n C dX0_isShort_22 rfl rfl ?_
    refine j_zald C dX0_isShort_23 (by omega) (cf_st2 (by omega)) (by decide) (by omega) ?_
    refine j_top ((hW l (by omega)).2.trans (by rw [hu])) ?_
    refine j_ifn_eq (tgt := 65) C dX0_isShort_24 rfl (by omega) (fun _ => ?_) (fun h => absurd h (by decide))
    refine j_iconst (v := nI 0) C dX0_isShort_65 rfl ?_
    refine j_retz M dX0_isShort_66 rfl ?_
    refine ⟨rfl, ?_⟩
    unfold shb
    rw [hu, hto]
    try rw [hfr]
    first | rfl | (simp [bI]; done) | (simp [bI]; omega)
  · refine j_aload_n C dX0_isShort_0 rfl rfl ?_
    refine j_get C flX0_11 dX0_isShort_1 (Nat.lt_of_lt_of_le (by decide) hN) rfl rfl ?_
    refine j_iload_n C dX0_isShort_4 rfl rfl ?_
    refine j_aald C dX0_isShort_5 (Nat.lt_of_lt_of_le (by decide) hN) (fun _ => rfl) (by decide) (by omega) ?_
    refine j_aload_n C dX0_isShort_6 rfl rfl ?_
    refine j_get C flX0_36 dX0_isShort_7 (Nat.lt_of_lt_of_le (by decide) hN) rfl rfl ?_
    refine j_get C flX0_74 dX0_isShort_10 (Nat.lt_of_lt_of_le (by decide) hN) rfl rfl ?_
    refine j_iload_n C dX0_isShort_13 rfl rfl ?_
    refine j_iald C dX0_isShort_14 (Nat.lt_of_lt_of_le (by decide) hN) (fun _ => rfl) (by decide) (by omega) ?_
    refine j_top (hI.to (l := l) (by omega)) ?_
    refine j_iald C dX0_isShort_15 (by omega) (cf_far (by omega)) (by decide) (by omega) ?_
    refine j_top ((hF (nTo a l) (by omega)).trans (congrArg c1 hto)) ?_
    refine j_istore (L' := [some (.ref (gad g (23))), some (.ref (gad g (48 + 4 * i))), some (.int (nI (l))), some (.int (nI (t))), some (.int (-1))]) C dX0_isShort_16 (by decide) rfl ?_
    refine j_aload_n C dX0_isShort_18 rfl rfl ?_
    refine j_get C flX0_69 dX0_isShort_19 (by omega) (cf_st (by omega) _) rfl ?_
    refine j_iload_n C dX0_isShort_22 rfl rfl ?_
    refine j_zald C dX0_isShort_23 (by omega) (cf_st2 (by omega)) (by decide) (by omega) ?_
    refine j_top ((hW l (by omega)).2.trans (by rw [hu])) ?_
    refine j_ifn_eq (tgt := 65) C dX0_isShort_24 rfl (by omega) (fun h => absurd h (by decide)) (fun _ => ?_)
    refine j_iload C dX0_isShort_27 rfl ?_
    refine j_iconst (v := -1) C dX0_isShort_29 rfl ?_
    refine j_icmp_eq (tgt := 65) C dX0_isShort_30 rfl (fun _ => ?_) (fun h => absurd h (by decide))
    refine j_iconst (v := nI 0) C dX0_isShort_65 rfl ?_
    refine j_retz M dX0_isShort_66 rfl ?_
    refine ⟨rfl, ?_⟩
    unfold shb
    rw [hu, hto]
    try rw [hfr]
    first | rfl | (simp [bI]; done) | (simp [bI]; omega)
  · have hz := hB _ _ hfr
    refine j_aload_n C dX0_isShort_0 rfl rfl ?_
    refine j_get C flX0_11 dX0_isShort_1 (Nat.lt_of_lt_of_le (by decide) hN) rfl rfl ?_
    refine j_iload_n C dX0_isShort_4 rfl rfl ?_
    refine j_aald C dX0_isShort_5 (Nat.lt_of_lt_of_le (by decide) hN) (fun _ => rfl) (by decide) (by omega) ?_
    refine j_aload_n C dX0_isShort_6 rfl rfl ?_
    refine j_get C flX0_36 dX0_isShort_7 (Nat.lt_of_lt_of_le (by decide) hN) rfl rfl ?_
    refine j_get C flX0_74 dX0_isShort_10 (Nat.lt_of_lt_of_le (by decide) hN) rfl rfl ?_
    refine j_iload_n C dX0_isShort_13 rfl rfl ?_
    refine j_iald C dX0_isShort_14 (Nat.lt_of_lt_of_le (by decide) hN) (fun _ => rfl) (by decide) (by omega) ?_
    refine j_top (hI.to (l := l) (by omega)) ?_
    refine j_iald C dX0_isShort_15 (by omega) (cf_far (by omega)) (by decide) (by omega) ?_
    refine j_top ((hF (nTo a l) (by omega)).trans (congrArg c1 hto)) ?_
    refine j_istore (L' := [some (.ref (gad g (23))), some (.ref (gad g (48 + 4 * i))), some (.int (nI (l))), some (.int (nI (t))), some (.int (-1))]) C dX0_isShort_16 (by decide) rfl ?_
    refine j_aload_n C dX0_isShort_18 rfl rfl ?_
    refine j_get C flX0_69 dX0_isShort_19 (by omega) (cf_st (by omega) _) rfl ?_
    refine j_iload_n C dX0_isShort_22 rfl rfl ?_
    refine j_zald C dX0_isShort_23 (by omega) (cf_st2 (by omega)) (by decide) (by omega) ?_
    refine j_top ((hW l (by omega)).2.trans (by rw [hu])) ?_
    refine j_ifn_eq (tgt := 65) C dX0_isShort_24 rfl (by omega) (fun h => absurd h (by decide)) (fun _ => ?_)
    refine j_iload C dX0_isShort_27 rfl ?_
    refine j_iconst (v := -1) C dX0_isShort_29 rfl ?_
    refine j_icmp_eq (tgt := 65) C dX0_isShort_30 rfl (fun _ => ?_) (fun h => absurd h (by decide))
    refine j_iconst (v := nI 0) C dX0_isShort_65 rfl ?_
    refine j_retz M dX0_isShort_66 rfl ?_
    refine ⟨rfl, ?_⟩
    unfold shb
    rw [hu, hto]
    try rw [hfr]
    first | rfl | (simp [bI]; done) | (simp [bI]; omega)
  · have hv := hB _ _ hto
    refine j_aload_n C dX0_isShort_0 rfl rfl ?_
    refine j_get C flX0_11 dX0_isShort_1 (Nat.lt_of_lt_of_le (by decide) hN) rfl rfl ?_
    refine j_iload_n C dX0_isShort_4 rfl rfl ?_
    refine j_aald C dX0_isShort_5 (Nat.lt_of_lt_of_le (by decide) hN) (fun _ => rfl) (by decide) (by omega) ?_
    refine j_aload_n C dX0_isShort_6 rfl rfl ?_
    refine j_get C flX0_36 dX0_isShort_7 (Nat.lt_of_lt_of_le (by decide) hN) rfl rfl ?_
    refine j_get C flX0_74 dX0_isShort_10 (Nat.lt_of_lt_of_le (by decide) hN) rfl rfl ?_
    refine j_iload_n C dX0_isShort_13 rfl rfl ?_
    refine j_iald C dX0_isShort_14 (Nat.lt_of_lt_of_le (by decide) hN) (fun _ => rfl) (by decide) (by omega) ?_
    refine j_top (hI.to (l := l) (by omega)) ?_
    refine j_iald C dX0_isShort_15 (by omega) (cf_far (by omega)) (by decide) (by omega) ?_
    refine j_top ((hF (nTo a l) (by omega)).trans (congrArg c1 hto)) ?_
    refine j_istore (L' := [some (.ref (gad g (23))), some (.ref (gad g (48 + 4 * i))), some (.int (nI (l))), some (.int (nI (t))), some (.int (nI (v)))]) C dX0_isShort_16 (by decide) rfl ?_
    refine j_aload_n C dX0_isShort_18 rfl rfl ?_
    refine j_get C flX0_69 dX0_isShort_19 (by omega) (cf_st (by omega) _) rfl ?_
    refine j_iload_n C dX0_isShort_22 rfl rfl ?_
    refine j_zald C dX0_isShort_23 (by omega) (cf_st2 (by omega)) (by decide) (by omega) ?_
    refine j_top ((hW l (by omega)).2.trans (by rw [hu])) ?_
    refine j_ifn_eq (tgt := 65) C dX0_isShort_24 rfl (by omega) (fun h => absurd h (by decide)) (fun _ => ?_)
    refine j_iload C dX0_isShort_27 rfl ?_
    refine j_iconst (v := -1) C dX0_isShort_29 rfl ?_
    refine j_icmp_eq (tgt := 65) C dX0_isShort_30 rfl (fun h => absurd h (nI_neg (by omega) (by decide))) (fun _ => ?_)
    refine j_aload_n C dX0_isShort_33 rfl rfl ?_
    refine j_get C flX0_11 dX0_isShort_34 (Nat.lt_of_lt_of_le (by decide) hN) rfl rfl ?_
    refine j_iload_n C dX0_isShort_37 rfl rfl ?_
    refine j_aald C dX0_isShort_38 (Nat.lt_of_lt_of_le (by decide) hN) (fun _ => rfl) (by decide) (by omega) ?_
    refine j_aload_n C dX0_isShort_39 rfl rfl ?_
    refine j_get C flX0_36 dX0_isShort_40 (Nat.lt_of_lt_of_le (by decide) hN) rfl rfl ?_
    refine j_get C flX0_80 dX0_isShort_43 (Nat.lt_of_lt_of_le (by decide) hN) rfl rfl ?_
    refine j_iload_n C dX0_isShort_46 rfl rfl ?_
    refine j_iald C dX0_isShort_47 (Nat.lt_of_lt_of_le (by decide) hN) (fun _ => rfl) (by decide) (by omega) ?_
    refine j_top (hI.fr (l := l) (by omega)) ?_
    refine j_iald C dX0_isShort_48 (by omega) (cf_far (by omega)) (by decide) (by omega) ?_
    refine j_top ((hF (nFr a l) (by omega)).trans (congrArg c1 hfr)) ?_
    refine j_aload_n C dX0_isShort_49 rfl rfl ?_
    refine j_get C flX0_77 dX0_isShort_50 (by omega) (cf_st (by omega) _) rfl ?_
    refine j_iload_n C dX0_isShort_53 rfl rfl ?_
    refine j_iald C dX0_isShort_54 (by omega) (cf_st1 (by omega)) (by decide) (by omega) ?_
    refine j_top ((hW (l) (by omega)).1) ?_
    refine j_iload C dX0_isShort_55 rfl ?_
    refine j_iadd C dX0_isShort_57 ?_
    refine j_top (nI_add _ _) ?_
    refine j_icmp_ne (tgt := 65) C dX0_isShort_58 rfl (fun _ => ?_) (fun h => absurd h (fun h => nI_neg (by omega) (by decide) h.symm))
    refine j_iconst (v := nI 0) C dX0_isShort_65 rfl ?_
    refine j_retz M dX0_isShort_66 rfl ?_
    refine ⟨rfl, ?_⟩
    unfold shb
    rw [hu, hto]
    try rw [hfr]
    first | rfl | (simp [bI]; done) | (simp [bI]; omega)
  · have hv := hB _ _ hto
    have hz := hB _ _ hfr
    refine j_aload_n C dX0_isShort_0 rfl rfl ?_
    refine j_get C flX0_11 dX0_isShort_1 (Nat.lt_of_lt_of_le (by decide) hN) rfl rfl ?_
    refine j_iload_n C dX0_isShort_4 rfl rfl ?_
    refine j_aald C dX0_isShort_5 (Nat.lt_of_lt_of_le (by decide) hN) (fun _ => rfl) (by decide) (by omega) ?_
    refine j_aload_n C dX0_isShort_6 rfl rfl ?_
    refine j_get C flX0_36 dX0_isShort_7 (Nat.lt_of_lt_of_le (by decide) hN) rfl rfl ?_
    refine j_get C flX0_74 dX0_isShort_10 (Nat.lt_of_lt_of_le (by decide) hN) rfl rfl ?_
    refine j_iload_n C dX0_isShort_13 rfl rfl ?_
    refine j_iald C dX0_isShort_14 (Nat.lt_of_lt_of_le (by decide) hN) (fun _ => rfl) (by decide) (by omega) ?_
    refine j_top (hI.to (l := l) (by omega)) ?_
    refine j_iald C dX0_isShort_15 (by omega) (cf_far (by omega)) (by decide) (by omega) ?_
    refine j_top ((hF (nTo a l) (by omega)).trans (congrArg c1 hto)) ?_
    refine j_istore (L' := [some (.ref (gad g (23))), some (.ref (gad g (48 + 4 * i))), some (.int (nI (l))), some (.int (nI (t))), some (.int (nI (v)))]) C dX0_isShort_16 (by decide) rfl ?_
    refine j_aload_n C dX0_isShort_18 rfl rfl ?_
    refine j_get C flX0_69 dX0_isShort_19 (by omega) (cf_st (by omega) _) rfl ?_
    refine j_iload_n C dX0_isShort_22 rfl rfl ?_
    refine j_zald C dX0_isShort_23 (by omega) (cf_st2 (by omega)) (by decide) (by omega) ?_
    refine j_top ((hW l (by omega)).2.trans (by rw [hu])) ?_
    refine j_ifn_eq (tgt := 65) C dX0_isShort_24 rfl (by omega) (fun h => absurd h (by decide)) (fun _ => ?_)
    refine j_iload C dX0_isShort_27 rfl ?_
    refine j_iconst (v := -1) C dX0_isShort_29 rfl ?_
    refine j_icmp_eq (tgt := 65) C dX0_isShort_30 rfl (fun h => absurd h (nI_neg (by omega) (by decide))) (fun _ => ?_)
    refine j_aload_n C dX0_isShort_33 rfl rfl ?_
    refine j_get C flX0_11 dX0_isShort_34 (Nat.lt_of_lt_of_le (by decide) hN) rfl rfl ?_
    refine j_iload_n C dX0_isShort_37 rfl rfl ?_
    refine j_aald C dX0_isShort_38 (Nat.lt_of_lt_of_le (by decide) hN) (fun _ => rfl) (by decide) (by omega) ?_
    refine j_aload_n C dX0_isShort_39 rfl rfl ?_
    refine j_get C flX0_36 dX0_isShort_40 (Nat.lt_of_lt_of_le (by decide) hN) rfl rfl ?_
    refine j_get C flX0_80 dX0_isShort_43 (Nat.lt_of_lt_of_le (by decide) hN) rfl rfl ?_
    refine j_iload_n C dX0_isShort_46 rfl rfl ?_
    refine j_iald C dX0_isShort_47 (Nat.lt_of_lt_of_le (by decide) hN) (fun _ => rfl) (by decide) (by omega) ?_
    refine j_top (hI.fr (l := l) (by omega)) ?_
    refine j_iald C dX0_isShort_48 (by omega) (cf_far (by omega)) (by decide) (by omega) ?_
    refine j_top ((hF (nFr a l) (by omega)).trans (congrArg c1 hfr)) ?_
    refine j_aload_n C dX0_isShort_49 rfl rfl ?_
    refine j_get C flX0_77 dX0_isShort_50 (by omega) (cf_st (by omega) _) rfl ?_
    refine j_iload_n C dX0_isShort_53 rfl rfl ?_
    refine j_iald C dX0_isShort_54 (by omega) (cf_st1 (by omega)) (by decide) (by omega) ?_
    refine j_top ((hW (l) (by omega)).1) ?_
    refine j_iload C dX0_isShort_55 rfl ?_
    refine j_iadd C dX0_isShort_57 ?_
    refine j_top (nI_add _ _) ?_
    refine j_icmpn_ne (tgt := 65) C dX0_isShort_58 rfl (by omega) (by omega) (fun h58 => ?_) (fun h58 => ?_)
    · refine j_iconst (v := nI 0) C dX0_isShort_65 rfl ?_
      refine j_retz M dX0_isShort_66 rfl ?_
      refine ⟨rfl, ?_⟩
      unfold shb
      rw [hu, hto]
      try rw [hfr]
      first | rfl | (simp [bI]; done) | (simp [bI]; omega)
    · refine j_iconst (v := nI 1) C dX0_isShort_61 rfl ?_
      refine j_goto (tgt := 66) C dX0_isShort_62 rfl ?_
      refine j_retz M dX0_isShort_66 rfl ?_
      refine ⟨rfl, ?_⟩
      have e : z = w l + v := by omega
      subst e
      unfold shb
      rw [hu, hto, hfr]
      simp [bI]
theorem bI_0 {b : Bool} : bI b = 0 ↔ b = false := by cases b <;> decide
theorem rlx_none {a : ND} {w : Nat → Nat} {u : Nat → Bool} {f : Nat → Option Nat} {l : Nat} (h : rlq a w u f l = none) : rlx a w u f l = f := by simp only [rlx, h]
theorem rlx_some {a : ND} {w : Nat → Nat} {u : Nat → Bool} {f : Nat → Option Nat} {l v : Nat} (h : rlq a w u f l = some v) (x : Nat) : rlx a w u f l x = if x = nFr a l then some v else f x := by simp only [rlx, h]
set_option maxHeartbeats 4000000 in
set_option maxRecDepth 100000 in
theorem tX0_measure {g : jG} (hN : 84 ≤ gN g) {σ : Sg} {i : Nat} {a : ND} {w : Nat → Nat} {u : Nat → Bool} (hi : i < 9) (hI : NetI σ 3 a) (hO : NOk a) (hW : StW σ i (nM a) w u) (hw : WOk (nM a) w) {t : Nat} (ht : t < nN a) : MS g yX0_measure cX0_measure 9 none rmX0_measure [.ref (gad g (23)), .ref (gad g (48 + 4 * i)), .int (nI (t))] σ (fun r σ' => (∀ j n, ¬ (j = 25 + 1 * t) → σ' j n = σ j n) ∧ ∃ R : Nat, R ≤ nN a ∧ (R = nN a ∨ rnd a w u (itr a w u (far0 t) R) (nM a) = itr a w u (far0 t) R) ∧ ∀ x, x < nN a → σ' (25 + 1 * t) x = c1 (itr a w u (far0 t) R x)) := by
  refine MJ_of (by decide) (Nat.le_of_ble_eq_true rfl) (List.forall_mem_cons.mpr ⟨rfl, List.forall_mem_cons.mpr ⟨rfl, List.forall_mem_cons.mpr ⟨rfl, fun _ h => absurd h List.not_mem_nil⟩⟩⟩) ?_
  intro κ M
  have C := M.1
  show J g κ 9 0 [some (.ref (gad g (23))), some (.ref (gad g (48 + 4 * i))), some (.int (nI (t))), none, none, none, none, none, none] [] σ
  have hn7 := hO.2.1
  have hm12 := hO.2.2.1
  have hd6 := hO.2.2.2.1
  have lpC : ∀ (r : Nat), r < nN a → (∀ (ch : Bool) (σ1 : Sg), (∀ j n, ¬ (j = 25 + 1 * t) → σ1 j n = σ j n) → (∀ x, x < nN a → σ1 (25 + 1 * t) x = c1 (itr a w u (far0 t) (r + 1) x)) → (ch = false → rnd a w u (itr a w u (far0 t) r) (nM a) = (itr a w u (far0 t) r)) → J g κ 9 182 [some (.ref (gad g (23))), some (.ref (gad g (48 + 4 * i))), some (.int (nI (t))), some (.ref (gad g (25 + 1 * t))), some (.int (bI ch)), some (.int (nI (r))), none, none, none] [] σ1) → ∀ (k l : Nat) (ch : Bool) (σ1 : Sg), nM a - l = k → l ≤ nM a → (∀ j n, ¬ (j = 25 + 1 * t) → σ1 j n = σ j n) → (∀ x, x < nN a → σ1 (25 + 1 * t) x = c1 (rnd a w u (itr a w u (far0 t) r) l x)) → (ch = false → rnd a w u (itr a w u (far0 t) r) l = (itr a w u (far0 t) r)) → J g κ 9 72 [some (.ref (gad g (23))), some (.ref (gad g (48 + 4 * i))), some (.int (nI (t))), some (.ref (gad g (25 + 1 * t))), some (.int (bI ch)), some (.int (nI (r))), some (.int (nI (l))), none, none] [] σ1 := by
    intro r hr kB k
    induction k using Nat.strongRecOn with
    | _ k ih =>
      intro l ch σ1 hk hl hf hrow hflag
      refine j_iload C dX0_measure_72 rfl ?_
      refine j_aload_n C dX0_measure_74 rfl rfl ?_
      refine j_get C flX0_36 dX0_measure_75 (Nat.lt_of_lt_of_le (by decide) hN) rfl rfl ?_
      refine j_get C flX0_53 dX0_measure_78 (Nat.lt_of_lt_of_le (by decide) hN) rfl rfl ?_
      refine j_top ((hf _ _ (by omega)).trans (hI.m)) ?_
      refine j_icmpn_ge (tgt := 182) C dX0_measure_81 rfl (by omega) (by omega) (fun h81 => ?_) (fun h81 => ?_)
      · refine J_clr 6 (L' := [some (.ref (gad g (23))), some (.ref (gad g (48 + 4 * i))), some (.int (nI (t))), some (.ref (gad g (25 + 1 * t))), some (.int (bI ch)), some (.int (nI (r))), none, none, none]) rfl ?_
        exact kB ch σ1 hf (fun x hx => by rw [hrow x hx, show l = nM a by omega]; rfl) (fun hch => by have := hflag hch; rwa [show l = nM a by omega] at this)
      · obtain ⟨hb1, hb2, hb3, hb4⟩ := hO.2.2.2.2.1 l h81
        have hw1 := hw l h81
        have hbd : fBd (rnd a w u (itr a w u (far0 t) r) l) 2000 := by
          have := rnd_bd (u := u) (itr_bd (a := a) (u := u) (t := t) hm12 hw r) hw l hl
          exact fun x v hx => by have := this x v hx; omega
        rcases hu : u l with _ | _ <;> rcases hto : rnd a w u (itr a w u (far0 t) r) l (nTo a l) with _ | v <;> rcases hfr : rnd a w u (itr a w u (far0 t) r) l (nFr a l) with _ | z
        · refine j_aload_n C dX0_measure_84 rfl rfl ?_
          refine j_get C flX0_69 dX0_measure_85 (by omega) (cf_st (by omega) _) rfl ?_
          refine j_iload C dX0_measure_88 rfl ?_
          refine j_zald C dX0_measure_90 (by omega) (cf_st2 (by omega)) (by decide) (by omega) ?_
          refine j_top ((hf _ _ (by omega)).trans ((hW l (by omega)).2.trans (by rw [hu]))) ?_
          refine j_ifn_eq (tgt := 176) C dX0_measure_91 rfl (by omega) (fun _ => ?_) (fun h => absurd h (by decide))
          refine j_iinc (L' := [some (.ref (gad g (23))), some (.ref (gad g (48 + 4 * i))), some (.int (nI (t))), some (.ref (gad g (25 + 1 * t))), some (.int (bI ch)), some (.int (nI (r))), some (.int (nI (l + 1))), none, none]) C dX0_measure_176 rfl (nI_inc _) (by decide) rfl ?_
          refine j_goto (tgt := 72) C dX0_measure_179 rfl ?_
          have hq : rlq a w u (rnd a w u (itr a w u (far0 t) r) l) l = none := by
            unfold rlq
            rw [hu]
            simp only [hto, hfr]
            first | rfl | (simp; done) | (rw [if_pos trivial, if_neg (by omega)])
          refine ih (nM a - (l + 1)) (by omega) (l + 1) ch σ1 rfl (by omega) hf (fun x hx => ?_) (fun hch => ?_)
          · rw [rnd, rlx_none hq]; exact hrow x hx
          · rw [rnd, rlx_none hq]; exact hflag hch
        · have hz := hbd _ _ hfr
          refine j_aload_n C dX0_measure_84 rfl rfl ?_
          refine j_get C flX0_69 dX0_measure_85 (by omega) (cf_st (by omega) _) rfl ?_
          refine j_iload C dX0_measure_88 rfl ?_
          refine j_zald C dX0_measure_90 (by omega) (cf_st2 (by omega)) (by decide) (by omega) ?_
          refine j_top ((hf _ _ (by omega)).trans ((hW l (by omega)).2.trans (by rw [hu]))) ?_
          refine j_ifn_eq (tgt := 176) C dX0_measure_91 rfl (by omega) (fun _ => ?_) (fun h => absurd h (by decide))
          refine j_iinc (L' := [some (.ref (gad g (23))), some (.ref (gad g (48 + 4 * i))), some (.int (nI (t))), some (.ref (gad g (25 + 1 * t))), some (.int (bI ch)), some (.int (nI (r))), some (.int (nI (l + 1))), none, none]) C dX0_measure_176 rfl (nI_inc _) (by decide) rfl ?_
          refine j_goto (tgt := 72) C dX0_measure_179 rfl ?_
          have hq : rlq a w u (rnd a w u (itr a w u (far0 t) r) l) l = none := by
            unfold rlq
            rw [hu]
            simp only [hto, hfr]
            first | rfl | (simp; done) | (rw [if_pos trivial, if_neg (by omega)])
          refine ih (nM a - (l + 1)) (by omega) (l + 1) ch σ1 rfl (by omega) hf (fun x hx => ?_) (fun hch => ?_)
          · rw [rnd, rlx_none hq]; exact hrow x hx
          · rw [rnd, rlx_none hq]; exact hflag hch
        · have hv := hbd _ _ hto
          refine j_aload_n C dX0_measure_84 rfl rfl ?_
          refine j_get C flX0_69 dX0_measure_85 (by omega) (cf_st (by omega) _) rfl ?_
          refine j_iload C dX0_measure_88 rfl ?_
          refine j_zald C dX0_measure_90 (by omega) (cf_st2 (by omega)) (by decide) (by omega) ?_
          refine j_top ((hf _ _ (by omega)).trans ((hW l (by omega)).2.trans (by rw [hu]))) ?_
          refine j_ifn_eq (tgt := 176) C dX0_measure_91 rfl (by omega) (fun _ => ?_) (fun h => absurd h (by decide))
          refine j_iinc (L' := [some (.ref (gad g (23))), some (.ref (gad g (48 + 4 * i))), some (.int (nI (t))), some (.ref (gad g (25 + 1 * t))), some (.int (bI ch)), some (.int (nI (r))), some (.int (nI (l + 1))), none, none]) C dX0_measure_176 rfl (nI_inc _) (by decide) rfl ?_
          refine j_goto (tgt := 72) C dX0_measure_179 rfl ?_
          have hq : rlq a w u (rnd a w u (itr a w u (far0 t) r) l) l = none := by
            unfold rlq
            rw [hu]
            simp only [hto, hfr]
            first | rfl | (simp; done) | (rw [if_pos trivial, if_neg (by omega)])
          refine ih (nM a - (l + 1)) (by omega) (l + 1) ch σ1 rfl (by omega) hf (fun x hx => ?_) (fun hch => ?_)
          · rw [rnd, rlx_none hq]; exact hrow x hx
          · rw [rnd, rlx_none hq]; exact hflag hch
        · have hv := hbd _ _ hto
          have hz := hbd _ _ hfr
          refine j_aload_n C dX0_measure_84 rfl rfl ?_
          refine j_get C flX0_69 dX0_measure_85 (by omega) (cf_st (by omega) _) rfl ?_
          refine j_iload C dX0_measure_88 rfl ?_
          refine j_zald C dX0_measure_90 (by omega) (cf_st2 (by omega)) (by decide) (by omega) ?_
          refine j_top ((hf _ _ (by omega)).trans ((hW l (by omega)).2.trans (by rw [hu]))) ?_
          refine j_ifn_eq (tgt := 176) C dX0_measure_91 rfl (by omega) (fun _ => ?_) (fun h => absurd h (by decide))
          refine j_iinc (L' := [some (.ref (gad g (23))), some (.ref (gad g (48 + 4 * i))), some (.int (nI (t))), some (.ref (gad g (25 + 1 * t))), some (.int (bI ch)), some (.int (nI (r))), some (.int (nI (l + 1))), none, none]) C dX0_measure_176 rfl (nI_inc _) (by decide) rfl ?_
          refine j_goto (tgt := 72) C dX0_measure_179 rfl ?_
          have hq : rlq a w u (rnd a w u (itr a w u (far0 t) r) l) l = none := by
            unfold rlq
            rw [hu]
            simp only [hto, hfr]
            first | rfl | (simp; done) | (rw [if_pos trivial, if_neg (by omega)])
          refine ih (nM a - (l + 1)) (by omega) (l + 1) ch σ1 rfl (by omega) hf (fun x hx => ?_) (fun hch => ?_)
          · rw [rnd, rlx_none hq]; exact hrow x hx
          · rw [rnd, rlx_none hq]; exact hflag hch
        · refine j_aload_n C dX0_measure_84 rfl rfl ?_
          refine j_get C flX0_69 dX0_measure_85 (by omega) (cf_st (by omega) _) rfl ?_
          refine j_iload C dX0_measure_88 rfl ?_
          refine j_zald C dX0_measure_90 (by omega) (cf_st2 (by omega)) (by decide) (by omega) ?_
          refine j_top ((hf _ _ (by omega)).trans ((hW l (by omega)).2.trans (by rw [hu]))) ?_
          refine j_ifn_eq (tgt := 176) C dX0_measure_91 rfl (by omega) (fun h => absurd h (by decide)) (fun _ => ?_)
          refine j_aload_n C dX0_measure_94 rfl rfl ?_
          refine j_aload_n C dX0_measure_95 rfl rfl ?_
          refine j_get C flX0_36 dX0_measure_96 (Nat.lt_of_lt_of_le (by decide) hN) rfl rfl ?_
          refine j_get C flX0_74 dX0_measure_99 (Nat.lt_of_lt_of_le (by decide) hN) rfl rfl ?_
          refine j_iload C dX0_measure_102 rfl ?_
          refine j_iald C dX0_measure_104 (Nat.lt_of_lt_of_le (by decide) hN) (fun _ => rfl) (by decide) (by omega) ?_
          refine j_top ((hf _ _ (by omega)).trans (hI.to (l := l) (by omega))) ?_
          refine j_iald C dX0_measure_105 (by omega) (cf_far (by omega)) (by decide) (by omega) ?_
          refine j_top ((hrow (nTo a l) (by omega)).trans (congrArg c1 hto)) ?_
          refine j_iconst (v := -1) C dX0_measure_106 rfl ?_
          refine j_icmp_eq (tgt := 176) C dX0_measure_107 rfl (fun _ => ?_) (fun h => absurd h (by decide))
          refine j_iinc (L' := [some (.ref (gad g (23))), some (.ref (gad g (48 + 4 * i))), some (.int (nI (t))), some (.ref (gad g (25 + 1 * t))), some (.int (bI ch)), some (.int (nI (r))), some (.int (nI (l + 1))), none, none]) C dX0_measure_176 rfl (nI_inc _) (by decide) rfl ?_
          refine j_goto (tgt := 72) C dX0_measure_179 rfl ?_
          have hq : rlq a w u (rnd a w u (itr a w u (far0 t) r) l) l = none := by
            unfold rlq
            rw [hu]
            simp only [hto, hfr]
            first | rfl | (simp; done) | (rw [if_pos trivial, if_neg (by omega)])
          refine ih (nM a - (l + 1)) (by omega) (l + 1) ch σ1 rfl (by omega) hf (fun x hx => ?_) (fun hch => ?_)
          · rw [rnd, rlx_none hq]; exact hrow x hx
          · rw [rnd, rlx_none hq]; exact hflag hch
        · have hz := hbd _ _ hfr
          refine j_aload_n C dX0_measure_84 rfl rfl ?_
          refine j_get C flX0_69 dX0_measure_85 (by omega) (cf_st (by omega) _) rfl ?_
          refine j_iload C dX0_measure_88 rfl ?_
          refine j_zald C dX0_measure_90 (by omega) (cf_st2 (by omega)) (by decide) (by omega) ?_
          refine j_top ((hf _ _ (by omega)).trans ((hW l (by omega)).2.trans (by rw [hu]))) ?_
          refine j_ifn_eq (tgt := 176) C dX0_measure_91 rfl (by omega) (fun h => absurd h (by decide)) (fun _ => ?_)
          refine j_aload_n C dX0_measure_94 rfl rfl ?_
          refine j_aload_n C dX0_measure_95 rfl rfl ?_
          refine j_get C flX0_36 dX0_measure_96 (Nat.lt_of_lt_of_le (by decide) hN) rfl rfl ?_
          refine j_get C flX0_74 dX0_measure_99 (Nat.lt_of_lt_of_le (by decide) hN) rfl rfl ?_
          refine j_iload C dX0_measure_102 rfl ?_
          refine j_iald C dX0_measure_104 (Nat.lt_of_lt_of_le (by decide) hN) (fun _ => rfl) (by decide) (by omega) ?_
          refine j_top ((hf _ _ (by omega)).trans (hI.to (l := l) (by omega))) ?_
          refine j_iald C dX0_measure_105 (by omega) (cf_far (by omega)) (by decide) (by omega) ?_
          refine j_top ((hrow (nTo a l) (by omega)).trans (congrArg c1 hto)) ?_
          refine j_iconst (v := -1) C dX0_measure_106 rfl ?_
          refine j_icmp_eq (tgt := 176) C dX0_measure_107 rfl (fun _ => ?_) (fun h => absurd h (by decide))
          refine j_iinc (L' := [some (.ref (gad g (23))), some (.ref (gad g (48 + 4 * i))), some (.int (nI (t))), some (.ref (gad g (25 + 1 * t))), some (.int (bI ch)), some (.int (nI (r))), some (.int (nI (l + 1))), none, none]) C dX0_measure_176 rfl (nI_inc _) (by decide) rfl ?_
          refine j_goto (tgt := 72) C dX0_measure_179 rfl ?_
          have hq : rlq a w u (rnd a w u (itr a w u (far0 t) r) l) l = none := by
            unfold rlq
            rw [hu]
            simp only [hto, hfr]
            first | rfl | (simp; done) | (rw [if_pos trivial, if_neg (by omega)])
          refine ih (nM a - (l + 1)) (by omega) (l + 1) ch σ1 rfl (by omega) hf (fun x hx => ?_) (fun hch => ?_)
          · rw [rnd, rlx_none hq]; exact hrow x hx
          · rw [rnd, rlx_none hq]; exact hflag hch
        · have hv := hbd _ _ hto
          refine j_aload_n C dX0_measure_84 rfl rfl ?_
          refine j_get C flX0_69 dX0_measure_85 (by omega) (cf_st (by omega) _) rfl ?_
          refine j_iload C dX0_measure_88 rfl ?_
          refine j_zald C dX0_measure_90 (by omega) (cf_st2 (by omega)) (by decide) (by omega) ?_
          refine j_top ((hf _ _ (by omega)).trans ((hW l (by omega)).2.trans (by rw [hu]))) ?_
          refine j_ifn_eq (tgt := 176) C dX0_measure_91 rfl (by omega) (fun h => absurd h (by decide)) (fun _ => ?_)
          refine j_aload_n C dX0_measure_94 rfl rfl ?_
          refine j_aload_n C dX0_measure_95 rfl rfl ?_
          refine j_get C flX0_36 dX0_measure_96 (Nat.lt_of_lt_of_le (by decide) hN) rfl rfl ?_
          refine j_get C flX0_74 dX0_measure_99 (Nat.lt_of_lt_of_le (by decide) hN) rfl rfl ?_
          refine j_iload C dX0_measure_102 rfl ?_
          refine j_iald C dX0_measure_104 (Nat.lt_of_lt_of_le (by decide) hN) (fun _ => rfl) (by decide) (by omega) ?_
          refine j_top ((hf _ _ (by omega)).trans (hI.to (l := l) (by omega))) ?_
          refine j_iald C dX0_measure_105 (by omega) (cf_far (by omega)) (by decide) (by omega) ?_
          refine j_top ((hrow (nTo a l) (by omega)).trans (congrArg c1 hto)) ?_
          refine j_iconst (v := -1) C dX0_measure_106 rfl ?_
          refine j_icmp_eq (tgt := 176) C dX0_measure_107 rfl (fun h => absurd h (nI_neg (by omega) (by decide))) (fun _ => ?_)
          refine j_aload_n C dX0_measure_110 rfl rfl ?_
          refine j_get C flX0_77 dX0_measure_111 (by omega) (cf_st (by omega) _) rfl ?_
          refine j_iload C dX0_measure_114 rfl ?_
          refine j_iald C dX0_measure_116 (by omega) (cf_st1 (by omega)) (by decide) (by omega) ?_
          refine j_top ((hf _ _ (by omega)).trans ((hW (l) (by omega)).1)) ?_
          refine j_aload_n C dX0_measure_117 rfl rfl ?_
          refine j_aload_n C dX0_measure_118 rfl rfl ?_
          refine j_get C flX0_36 dX0_measure_119 (Nat.lt_of_lt_of_le (by decide) hN) rfl rfl ?_
          refine j_get C flX0_74 dX0_measure_122 (Nat.lt_of_lt_of_le (by decide) hN) rfl rfl ?_
          refine j_iload C dX0_measure_125 rfl ?_
          refine j_iald C dX0_measure_127 (Nat.lt_of_lt_of_le (by decide) hN) (fun _ => rfl) (by decide) (by omega) ?_
          refine j_top ((hf _ _ (by omega)).trans (hI.to (l := l) (by omega))) ?_
          refine j_iald C dX0_measure_128 (by omega) (cf_far (by omega)) (by decide) (by omega) ?_
          refine j_top ((hrow (nTo a l) (by omega)).trans (congrArg c1 hto)) ?_
          refine j_iadd C dX0_measure_129 ?_
          refine j_top (nI_add _ _) ?_
          refine j_istore (L' := [some (.ref (gad g (23))), some (.ref (gad g (48 + 4 * i))), some (.int (nI (t))), some (.ref (gad g (25 + 1 * t))), some (.int (bI ch)), some (.int (nI (r))), some (.int (nI (l))), some (.int (nI ((w (l) + v)))), none]) C dX0_measure_130 (by decide) rfl ?_
          refine j_aload_n C dX0_measure_132 rfl rfl ?_
          refine j_aload_n C dX0_measure_133 rfl rfl ?_
          refine j_get C flX0_36 dX0_measure_134 (Nat.lt_of_lt_of_le (by decide) hN) rfl rfl ?_
          refine j_get C flX0_80 dX0_measure_137 (Nat.lt_of_lt_of_le (by decide) hN) rfl rfl ?_
          refine j_iload C dX0_measure_140 rfl ?_
          refine j_iald C dX0_measure_142 (Nat.lt_of_lt_of_le (by decide) hN) (fun _ => rfl) (by decide) (by omega) ?_
          refine j_top ((hf _ _ (by omega)).trans (hI.fr (l := l) (by omega))) ?_
          refine j_iald C dX0_measure_143 (by omega) (cf_far (by omega)) (by decide) (by omega) ?_
          refine j_top ((hrow (nFr a l) (by omega)).trans (congrArg c1 hfr)) ?_
          refine j_istore (L' := [some (.ref (gad g (23))), some (.ref (gad g (48 + 4 * i))), some (.int (nI (t))), some (.ref (gad g (25 + 1 * t))), some (.int (bI ch)), some (.int (nI (r))), some (.int (nI (l))), some (.int (nI ((w (l) + v)))), some (.int (-1))]) C dX0_measure_144 (by decide) rfl ?_
          refine j_iload C dX0_measure_146 rfl ?_
          refine j_iconst (v := -1) C dX0_measure_148 rfl ?_
          refine j_icmp_eq (tgt := 159) C dX0_measure_149 rfl (fun _ => ?_) (fun h => absurd h (by decide))
          refine j_aload_n C dX0_measure_159 rfl rfl ?_
          refine j_aload_n C dX0_measure_160 rfl rfl ?_
          refine j_get C flX0_36 dX0_measure_161 (Nat.lt_of_lt_of_le (by decide) hN) rfl rfl ?_
          refine j_get C flX0_80 dX0_measure_164 (Nat.lt_of_lt_of_le (by decide) hN) rfl rfl ?_
          refine j_iload C dX0_measure_167 rfl ?_
          refine j_iald C dX0_measure_169 (Nat.lt_of_lt_of_le (by decide) hN) (fun _ => rfl) (by decide) (by omega) ?_
          refine j_top ((hf _ _ (by omega)).trans (hI.fr (l := l) (by omega))) ?_
          refine j_iload C dX0_measure_170 rfl ?_
          refine j_iast' C dX0_measure_172 (by omega) (cf_far (by omega)) (by decide) (by omega) (fun τ1 hz_2 hw_3 => ?_)
          refine j_iconst (v := nI 1) C dX0_measure_173 rfl ?_
          refine j_istore (L' := [some (.ref (gad g (23))), some (.ref (gad g (48 + 4 * i))), some (.int (nI (t))), some (.ref (gad g (25 + 1 * t))), some (.int (nI (1))), some (.int (nI (r))), some (.int (nI (l))), some (.int (nI ((w (l) + v)))), some (.int (-1))]) C dX0_measure_174 (by decide) rfl ?_
          refine j_iinc (L' := [some (.ref (gad g (23))), some (.ref (gad g (48 + 4 * i))), some (.int (nI (t))), some (.ref (gad g (25 + 1 * t))), some (.int (nI (1))), some (.int (nI (r))), some (.int (nI (l + 1))), some (.int (nI ((w (l) + v)))), some (.int (-1))]) C dX0_measure_176 rfl (nI_inc _) (by decide) rfl ?_
          refine j_goto (tgt := 72) C dX0_measure_179 rfl ?_
          refine J_clr 7 (L' := [some (.ref (gad g (23))), some (.ref (gad g (48 + 4 * i))), some (.int (nI (t))), some (.ref (gad g (25 + 1 * t))), some (.int (nI (1))), some (.int (nI (r))), some (.int (nI (l + 1))), none, some (.int (-1))]) rfl ?_
          refine J_clr 8 (L' := [some (.ref (gad g (23))), some (.ref (gad g (48 + 4 * i))), some (.int (nI (t))), some (.ref (gad g (25 + 1 * t))), some (.int (nI (1))), some (.int (nI (r))), some (.int (nI (l + 1))), none, none]) rfl ?_
          have hq : rlq a w u (rnd a w u (itr a w u (far0 t) r) l) l = some (w l + v) := by
            unfold rlq
            rw [hu]
            simp only [hto, hfr]
            first | rfl | (simp; done) | (rw [if_pos trivial, if_pos (by omega)])
          refine ih (nM a - (l + 1)) (by omega) (l + 1) true τ1 rfl (by omega) (fun j n h => by rw [hz_2 _ _ (by omega)]; exact hf j n h) (fun x hx => ?_) (fun hch => by cases hch)
          rw [rnd, rlx_some hq]
          by_cases e : x = nFr a l
          · subst e
            rw [if_pos rfl]
            assumption
          · rw [if_neg e, hz_2 _ _ (by omega)]
            exact hrow x hx
        · have hv := hbd _ _ hto
          have hz := hbd _ _ hfr
          refine j_aload_n C dX0_measure_84 rfl rfl ?_
          refine j_get C flX0_69 dX0_measure_85 (by omega) (cf_st (by omega) _) rfl ?_
          refine j_iload C dX0_measure_88 rfl ?_
          refine j_zald C dX0_measure_90 (by omega) (cf_st2 (by omega)) (by decide) (by omega) ?_
          refine j_top ((hf _ _ (by omega)).trans ((hW l (by omega)).2.trans (by rw [hu]))) ?_
          refine j_ifn_eq (tgt := 176) C dX0_measure_91 rfl (by omega) (fun h => absurd h (by decide)) (fun _ => ?_)
          refine j_aload_n C dX0_measure_94 rfl rfl ?_
          refine j_aload_n C dX0_measure_95 rfl rfl ?_
          refine j_get C flX0_36 dX0_measure_96 (Nat.lt_of_lt_of_le (by decide) hN) rfl rfl ?_
          refine j_get C flX0_74 dX0_measure_99 (Nat.lt_of_lt_of_le (by decide) hN) rfl rfl ?_
          refine j_iload C dX0_measure_102 rfl ?_
          refine j_iald C dX0_measure_104 (Nat.lt_of_lt_of_le (by decide) hN) (fun _ => rfl) (by decide) (by omega) ?_
          refine j_top ((hf _ _ (by omega)).trans (hI.to (l := l) (by omega))) ?_
          refine j_iald C dX0_measure_105 (by omega) (cf_far (by omega)) (by decide) (by omega) ?_
          refine j_top ((hrow (nTo a l) (by omega)).trans (congrArg c1 hto)) ?_
          refine j_iconst (v := -1) C dX0_measure_106 rfl ?_
          refine j_icmp_eq (tgt := 176) C dX0_measure_107 rfl (fun h => absurd h (nI_neg (by omega) (by decide))) (fun _ => ?_)
          refine j_aload_n C dX0_measure_110 rfl rfl ?_
          refine j_get C flX0_77 dX0_measure_111 (by omega) (cf_st (by omega) _) rfl ?_
          refine j_iload C dX0_measure_114 rfl ?_
          refine j_iald C dX0_measure_116 (by omega) (cf_st1 (by omega)) (by decide) (by omega) ?_
          refine j_top ((hf _ _ (by omega)).trans ((hW (l) (by omega)).1)) ?_
          refine j_aload_n C dX0_measure_117 rfl rfl ?_
          refine j_aload_n C dX0_measure_118 rfl rfl ?_
          refine j_get C flX0_36 dX0_measure_119 (Nat.lt_of_lt_of_le (by decide) hN) rfl rfl ?_
          refine j_get C flX0_74 dX0_measure_122 (Nat.lt_of_lt_of_le (by decide) hN) rfl rfl ?_
          refine j_iload C dX0_measure_125 rfl ?_
          refine j_iald C dX0_measure_127 (Nat.lt_of_lt_of_le (by decide) hN) (fun _ => rfl) (by decide) (by omega) ?_
          refine j_top ((hf _ _ (by omega)).trans (hI.to (l := l) (by omega))) ?_
          refine j_iald C dX0_measure_128 (by omega) (cf_far (by omega)) (by decide) (by omega) ?_
          refine j_top ((hrow (nTo a l) (by omega)).trans (congrArg c1 hto)) ?_
          refine j_iadd C dX0_measure_129 ?_
          refine j_top (nI_add _ _) ?_
          refine j_istore (L' := [some (.ref (gad g (23))), some (.ref (gad g (48 + 4 * i))), some (.int (nI (t))), some (.ref (gad g (25 + 1 * t))), some (.int (bI ch)), some (.int (nI (r))), some (.int (nI (l))), some (.int (nI ((w (l) + v)))), none]) C dX0_measure_130 (by decide) rfl ?_
          refine j_aload_n C dX0_measure_132 rfl rfl ?_
          refine j_aload_n C dX0_measure_133 rfl rfl ?_
          refine j_get C flX0_36 dX0_measure_134 (Nat.lt_of_lt_of_le (by decide) hN) rfl rfl ?_
          refine j_get C flX0_80 dX0_measure_137 (Nat.lt_of_lt_of_le (by decide) hN) rfl rfl ?_
          refine j_iload C dX0_measure_140 rfl ?_
          refine j_iald C dX0_measure_142 (Nat.lt_of_lt_of_le (by decide) hN) (fun _ => rfl) (by decide) (by omega) ?_
          refine j_top ((hf _ _ (by omega)).trans (hI.fr (l := l) (by omega))) ?_
          refine j_iald C dX0_measure_143 (by omega) (cf_far (by omega)) (by decide) (by omega) ?_
          refine j_top ((hrow (nFr a l) (by omega)).trans (congrArg c1 hfr)) ?_
          refine j_istore (L' := [some (.ref (gad g (23))), some (.ref (gad g (48 + 4 * i))), some (.int (nI (t))), some (.ref (gad g (25 + 1 * t))), some (.int (bI ch)), some (.int (nI (r))), some (.int (nI (l))), some (.int (nI ((w (l) + v)))), some (.int (nI (z)))]) C dX0_measure_144 (by decide) rfl ?_
          refine j_iload C dX0_measure_146 rfl ?_
          refine j_iconst (v := -1) C dX0_measure_148 rfl ?_
          refine j_icmp_eq (tgt := 159) C dX0_measure_149 rfl (fun h => absurd h (nI_neg (by omega) (by decide))) (fun _ => ?_)
          refine j_iload C dX0_measure_152 rfl ?_
          refine j_iload C dX0_measure_154 rfl ?_
          refine j_icmpn_ge (tgt := 176) C dX0_measure_156 rfl (by omega) (by omega) (fun h156 => ?_) (fun h156 => ?_)
          · refine j_iinc (L' := [some (.ref (gad g (23))), some (.ref (gad g (48 + 4 * i))), some (.int (nI (t))), some (.ref (gad g (25 + 1 * t))), some (.int (bI ch)), some (.int (nI (r))), some (.int (nI (l + 1))), some (.int (nI ((w (l) + v)))), some (.int (nI (z)))]) C dX0_measure_176 rfl (nI_inc _) (by decide) rfl ?_
            refine j_goto (tgt := 72) C dX0_measure_179 rfl ?_
            refine J_clr 7 (L' := [some (.ref (gad g (23))), some (.ref (gad g (48 + 4 * i))), some (.int (nI (t))), some (.ref (gad g (25 + 1 * t))), some (.int (bI ch)), some (.int (nI (r))), some (.int (nI (l + 1))), none, some (.int (nI (z)))]) rfl ?_
            refine J_clr 8 (L' := [some (.ref (gad g (23))), some (.ref (gad g (48 + 4 * i))), some (.int (nI (t))), some (.ref (gad g (25 + 1 * t))), some (.int (bI ch)), some (.int (nI (r))), some (.int (nI (l + 1))), none, none]) rfl ?_
            have hq : rlq a w u (rnd a w u (itr a w u (far0 t) r) l) l = none := by
              unfold rlq
              rw [hu]
              simp only [hto, hfr]
              first | rfl | (simp; done) | (rw [if_pos trivial, if_neg (by omega)])
            refine ih (nM a - (l + 1)) (by omega) (l + 1) ch σ1 rfl (by omega) hf (fun x hx => ?_) (fun hch => ?_)
            · rw [rnd, rlx_none hq]; exact hrow x hx
            · rw [rnd, rlx_none hq]; exact hflag hch
          · refine j_aload_n C dX0_measure_159 rfl rfl ?_
            refine j_aload_n C dX0_measure_160 rfl rfl ?_
            refine j_get C flX0_36 dX0_measure_161 (Nat.lt_of_lt_of_le (by decide) hN) rfl rfl ?_
            refine j_get C flX0_80 dX0_measure_164 (Nat.lt_of_lt_of_le (by decide) hN) rfl rfl ?_
            refine j_iload C dX0_measure_167 rfl ?_
            refine j_iald C dX0_measure_169 (Nat.lt_of_lt_of_le (by decide) hN) (fun _ => rfl) (by decide) (by omega) ?_
            refine j_top ((hf _ _ (by omega)).trans (hI.fr (l := l) (by omega))) ?_
            refine j_iload C dX0_measure_170 rfl ?_
            refine j_iast' C dX0_measure_172 (by omega) (cf_far (by omega)) (by decide) (by omega) (fun τ4 hz_5 hw_6 => ?_)
            refine j_iconst (v := nI 1) C dX0_measure_173 rfl ?_
            refine j_istore (L' := [some (.ref (gad g (23))), some (.ref (gad g (48 + 4 * i))), some (.int (nI (t))), some (.ref (gad g (25 + 1 * t))), some (.int (nI (1))), some (.int (nI (r))), some (.int (nI (l))), some (.int (nI ((w (l) + v)))), some (.int (nI (z)))]) C dX0_measure_174 (by decide) rfl ?_
            refine j_iinc (L' := [some (.ref (gad g (23))), some (.ref (gad g (48 + 4 * i))), some (.int (nI (t))), some (.ref (gad g (25 + 1 * t))), some (.int (nI (1))), some (.int (nI (r))), some (.int (nI (l + 1))), some (.int (nI ((w (l) + v)))), some (.int (nI (z)))]) C dX0_measure_176 rfl (nI_inc _) (by decide) rfl ?_
            refine j_goto (tgt := 72) C dX0_measure_179 rfl ?_
            refine J_clr 7 (L' := [some (.ref (gad g (23))), some (.ref (gad g (48 + 4 * i))), some (.int (nI (t))), some (.ref (gad g (25 + 1 * t))), some (.int (nI (1))), some (.int (nI (r))), some (.int (nI (l + 1))), none, some (.int (nI (z)))]) rfl ?_
            refine J_clr 8 (L' := [some (.ref (gad g (23))), some (.ref (gad g (48 + 4 * i))), some (.int (nI (t))), some (.ref (gad g (25 + 1 * t))), some (.int (nI (1))), some (.int (nI (r))), some (.int (nI (l + 1))), none, none]) rfl ?_
            have hq : rlq a w u (rnd a w u (itr a w u (far0 t) r) l) l = some (w l + v) := by
              unfold rlq
              rw [hu]
              simp only [hto, hfr]
              first | rfl | (simp; done) | (rw [if_pos trivial, if_pos (by omega)])
            refine ih (nM a - (l + 1)) (by omega) (l + 1) true τ4 rfl (by omega) (fun j n h => by rw [hz_5 _ _ (by omega)]; exact hf j n h) (fun x hx => ?_) (fun hch => by cases hch)
            rw [rnd, rlx_some hq]
            by_cases e : x = nFr a l
            · subst e
              rw [if_pos rfl]
              assumption
            · rw [if_neg e, hz_5 _ _ (by omega)]
              exact hrow x hx
  have lpB : ∀ (k : Nat) (r : Nat) (ch : Bool) (σ1 : Sg), nN a - r = k → r ≤ nN a → (∀ j n, ¬ (j = 25 + 1 * t) → σ1 j n = σ j n) → (∀ x, x < nN a → σ1 (25 + 1 * t) x = c1 (itr a w u (far0 t) r x)) → (ch = false → rnd a w u (itr a w u (far0 t) r) (nM a) = (itr a w u (far0 t) r)) → J g κ 9 49 [some (.ref (gad g (23))), some (.ref (gad g (48 + 4 * i))), some (.int (nI (t))), some (.ref (gad g (25 + 1 * t))), some (.int (bI ch)), some (.int (nI (r))), none, none, none] [] σ1 := by
    intro k
    induction k using Nat.strongRecOn with
    | _ k ih =>
      intro r ch σ1 hk hr hf hrow hfl
      refine j_iload C dX0_measure_49 rfl ?_
      refine j_aload_n C dX0_measure_51 rfl rfl ?_
      refine j_get C flX0_36 dX0_measure_52 (Nat.lt_of_lt_of_le (by decide) hN) rfl rfl ?_
      refine j_get C flX0_40 dX0_measure_55 (Nat.lt_of_lt_of_le (by decide) hN) rfl rfl ?_
      refine j_top ((hf _ _ (by omega)).trans (hI.n)) ?_
      refine j_icmpn_ge (tgt := 188) C dX0_measure_58 rfl (by omega) (by omega) (fun h58 => ?_) (fun h58 => ?_)
      · refine j_retv M dX0_measure_188 ?_
        first | exact ⟨hf, r, by omega, Or.inl (by omega), hrow⟩ | exact ⟨hf, r, by omega, Or.inr (hfl (bI_0.mp h63)), hrow⟩
      · refine j_iload C dX0_measure_61 rfl ?_
        refine j_if_eq (tgt := 188) C dX0_measure_63 rfl (fun h63 => ?_) (fun h63 => ?_)
        · refine j_retv M dX0_measure_188 ?_
          first | exact ⟨hf, r, by omega, Or.inl (by omega), hrow⟩ | exact ⟨hf, r, by omega, Or.inr (hfl (bI_0.mp h63)), hrow⟩
        · refine j_iconst (v := nI 0) C dX0_measure_66 rfl ?_
          refine j_istore (L' := [some (.ref (gad g (23))), some (.ref (gad g (48 + 4 * i))), some (.int (nI (t))), some (.ref (gad g (25 + 1 * t))), some (.int (nI (0))), some (.int (nI (r))), none, none, none]) C dX0_measure_67 (by decide) rfl ?_
          refine j_iconst (v := nI 0) C dX0_measure_69 rfl ?_
          refine j_istore (L' := [some (.ref (gad g (23))), some (.ref (gad g (48 + 4 * i))), some (.int (nI (t))), some (.ref (gad g (25 + 1 * t))), some (.int (nI (0))), some (.int (nI (r))), some (.int (nI (0))), none, none]) C dX0_measure_70 (by decide) rfl ?_
          refine lpC r (by omega) ?_ (nM a - 0) 0 false σ1 rfl (by omega) hf (fun x hx => hrow x hx) (fun _ => rfl)
          intro ch2 σ2 hf2 hrow2 hfl2
          refine j_iinc (L' := [some (.ref (gad g (23))), some (.ref (gad g (48 + 4 * i))), some (.int (nI (t))), some (.ref (gad g (25 + 1 * t))), some (.int (bI ch2)), some (.int (nI (r + 1))), none, none, none]) C dX0_measure_182 rfl (nI_inc _) (by decide) rfl ?_
          refine j_goto (tgt := 49) C dX0_measure_185 rfl ?_
          refine ih (nN a - (r + 1)) (by omega) (r + 1) ch2 σ2 rfl (by omega) hf2 hrow2 (fun hch => ?_)
          have e1 := hfl2 hch
          show rnd a w u (rnd a w u (itr a w u (far0 t) r) (nM a)) (nM a) = rnd a w u (itr a w u (far0 t) r) (nM a)
          rw [e1, e1]
  have lpA : ∀ (k : Nat) (x : Nat) (σ1 : Sg), nN a - x = k → x ≤ nN a → (∀ j n, ¬ (j = 25 + 1 * t) → σ1 j n = σ j n) → (∀ y, y < x → σ1 (25 + 1 * t) y = c1 (far0 t y)) → J g κ 9 10 [some (.ref (gad g (23))), some (.ref (gad g (48 + 4 * i))), some (.int (nI (t))), some (.ref (gad g (25 + 1 * t))), some (.int (nI (x))), none, none, none, none] [] σ1 := by
    intro k
    induction k using Nat.strongRecOn with
    | _ k ih =>
      intro x σ1 hk hx hf hrow
      refine j_iload C dX0_measure_10 rfl ?_
      refine j_aload_n C dX0_measure_12 rfl rfl ?_
      refine j_get C flX0_36 dX0_measure_13 (Nat.lt_of_lt_of_le (by decide) hN) rfl rfl ?_
      refine j_get C flX0_40 dX0_measure_16 (Nat.lt_of_lt_of_le (by decide) hN) rfl rfl ?_
      refine j_top ((hf _ _ (by omega)).trans (hI.n)) ?_
      refine j_icmpn_ge (tgt := 43) C dX0_measure_19 rfl (by omega) (by omega) (fun h19 => ?_) (fun h19 => ?_)
      · refine j_iconst (v := nI 1) C dX0_measure_43 rfl ?_
        refine j_istore (L' := [some (.ref (gad g (23))), some (.ref (gad g (48 + 4 * i))), some (.int (nI (t))), some (.ref (gad g (25 + 1 * t))), some (.int (nI (1))), none, none, none, none]) C dX0_measure_44 (by decide) rfl ?_
        refine j_iconst (v := nI 0) C dX0_measure_46 rfl ?_
        refine j_istore (L' := [some (.ref (gad g (23))), some (.ref (gad g (48 + 4 * i))), some (.int (nI (t))), some (.ref (gad g (25 + 1 * t))), some (.int (nI (1))), some (.int (nI (0))), none, none, none]) C dX0_measure_47 (by decide) rfl ?_
        exact lpB (nN a - 0) 0 true σ1 rfl (by omega) hf (fun y hy => hrow y (by omega)) (fun h => by cases h)
      · refine j_aload_n C dX0_measure_22 rfl rfl ?_
        refine j_iload C dX0_measure_23 rfl ?_
        refine j_iload C dX0_measure_25 rfl ?_
        refine j_iload_n C dX0_measure_27 rfl rfl ?_
        refine j_icmpn_ne (tgt := 35) C dX0_measure_28 rfl (by omega) (by omega) (fun h28 => ?_) (fun h28 => ?_)
        · refine j_iconst (v := -1) C dX0_measure_35 rfl ?_
          refine j_iast' C dX0_measure_36 (by omega) (cf_far (by omega)) (by decide) (by omega) (fun τ1 hz_2 hw_3 => ?_)
          refine j_iinc (L' := [some (.ref (gad g (23))), some (.ref (gad g (48 + 4 * i))), some (.int (nI (t))), some (.ref (gad g (25 + 1 * t))), some (.int (nI (x + 1))), none, none, none, none]) C dX0_measure_37 rfl (nI_inc _) (by decide) rfl ?_
          refine j_goto (tgt := 10) C dX0_measure_40 rfl ?_
          refine ih (nN a - (x + 1)) (by omega) (x + 1) τ1 rfl (by omega) (fun j n h => by rw [hz_2 _ _ (by omega)]; exact hf j n h) (fun y hy => ?_)
          by_cases e : y = x
          · subst e
            unfold far0
            first | (rw [if_pos (by omega)]; assumption) | (rw [if_neg (by omega)]; assumption)
          · rw [hz_2 _ _ (by omega)]; exact hrow y (by omega)
        · refine j_iconst (v := nI 0) C dX0_measure_31 rfl ?_
          refine j_goto (tgt := 36) C dX0_measure_32 rfl ?_
          refine j_iast' C dX0_measure_36 (by omega) (cf_far (by omega)) (by decide) (by omega) (fun τ4 hz_5 hw_6 => ?_)
          refine j_iinc (L' := [some (.ref (gad g (23))), some (.ref (gad g (48 + 4 * i))), some (.int (nI (t))), some (.ref (gad g (25 + 1 * t))), some (.int (nI (x + 1))), none, none, none, none]) C dX0_measure_37 rfl (nI_inc _) (by decide) rfl ?_
          refine j_goto (tgt := 10) C dX0_measure_40 rfl ?_
          refine ih (nN a - (x + 1)) (by omega) (x + 1) τ4 rfl (by omega) (fun j n h => by rw [hz_5 _ _ (by omega)]; exact hf j n h) (fun y hy => ?_)
          by_cases e : y = x
          · subst e
            unfold far0
            first | (rw [if_pos (by omega)]; assumption) | (rw [if_neg (by omega)]; assumption)
          · rw [hz_5 _ _ (by omega)]; exact hrow y (by omega)
  refine j_aload_n C dX0_measure_0 rfl rfl ?_
  refine j_get C flX0_11 dX0_measure_1 (Nat.lt_of_lt_of_le (by decide) hN) rfl rfl ?_
  refine j_iload_n C dX0_measure_4 rfl rfl ?_
  refine j_aald C dX0_measure_5 (Nat.lt_of_lt_of_le (by decide) hN) (fun _ => rfl) (by decide) (by omega) ?_
  refine j_astore_n (L' := [some (.ref (gad g (23))), some (.ref (gad g (48 + 4 * i))), some (.int (nI (t))), some (.ref (gad g (25 + 1 * t))), none, none, none, none, none]) C dX0_measure_6 rfl (by decide) rfl ?_
  refine j_iconst (v := nI 0) C dX0_measure_7 rfl ?_
  refine j_istore (L' := [some (.ref (gad g (23))), some (.ref (gad g (48 + 4 * i))), some (.int (nI (t))), some (.ref (gad g (25 + 1 * t))), some (.int (nI (0))), none, none, none, none]) C dX0_measure_8 (by decide) rfl ?_
  exact lpA (nN a - 0) 0 σ rfl (by omega) (fun _ _ _ => rfl) (fun y hy => by omega)
