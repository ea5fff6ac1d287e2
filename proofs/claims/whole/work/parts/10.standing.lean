set_option maxHeartbeats 4000000 in
set_option maxRecDepth 100000 in
theorem tX7_isWeight {g : jG} (hN : 84 ≤ gN g) {σ : Sg} (x : Int32) : MS g yX7_isWeight cX7_isWeight 1 (some .boolean) rmX7_isWeight [.int (x)] σ (fun r σ' => σ' = σ ∧ ((r = nI 1 ∧ ∃ k : Nat, 1 ≤ k ∧ k ≤ 20 ∧ x = nI k) ∨ (r = nI 0 ∧ ¬ ∃ k : Nat, 1 ≤ k ∧ k ≤ 20 ∧ x = nI k))) := by
  refine MJ_of (by decide) (Nat.le_of_ble_eq_true rfl) (List.forall_mem_cons.mpr ⟨rfl, fun _ h => absurd h List.not_mem_nil⟩) ?_
  intro κ M
  have C := M.1
  show J g κ 1 0 [some (.int (x))] [] σ
  refine j_iload_n C dX7_isWeight_0 rfl rfl ?_
  refine j_iconst (v := nI 1) C dX7_isWeight_1 rfl ?_
  refine j_icmp_lt (tgt := 15) C dX7_isWeight_2 rfl (fun h2 => ?_) (fun h2 => ?_)
  · refine j_iconst (v := nI 0) C dX7_isWeight_15 rfl ?_
    refine j_retz M dX7_isWeight_16 rfl ?_
    refine ⟨rfl, Or.inr ⟨rfl, fun q => ?_⟩⟩
    obtain ⟨q1, q2⟩ := (nI_rng (by decide) (by decide)).mpr q
    first | exact absurd q1 (Int32.not_le.mpr (by assumption)) | exact absurd q2 (Int32.not_le.mpr (by assumption))
  · refine j_iload_n C dX7_isWeight_5 rfl rfl ?_
    refine j_bipush (v := nI 20) C dX7_isWeight_6 rfl ?_
    refine j_icmp_gt (tgt := 15) C dX7_isWeight_8 rfl (fun h8 => ?_) (fun h8 => ?_)
    · refine j_iconst (v := nI 0) C dX7_isWeight_15 rfl ?_
      refine j_retz M dX7_isWeight_16 rfl ?_
      refine ⟨rfl, Or.inr ⟨rfl, fun q => ?_⟩⟩
      obtain ⟨q1, q2⟩ := (nI_rng (by decide) (by decide)).mpr q
      first | exact absurd q1 (Int32.not_le.mpr (by assumption)) | exact absurd q2 (Int32.not_le.mpr (by assumption))
    · refine j_iconst (v := nI 1) C dX7_isWeight_11 rfl ?_
      refine j_goto (tgt := 16) C dX7_isWeight_12 rfl ?_
      refine j_retz M dX7_isWeight_16 rfl ?_
      exact ⟨rfl, Or.inl ⟨rfl, (nI_rng (by decide) (by decide)).mp ⟨Int32.not_lt.mp h2, Int32.not_lt.mp h8⟩⟩⟩
set_option maxHeartbeats 4000000 in
set_option maxRecDepth 100000 in
theorem tX3_isSize {g : jG} (hN : 84 ≤ gN g) {σ : Sg} (x : Int32) : MS g yX3_isSize cX3_isSize 1 (some .boolean) rmX3_isSize [.int (x)] σ (fun r σ' => σ' = σ ∧ ((r = nI 1 ∧ ∃ k : Nat, 1 ≤ k ∧ k ≤ 99 ∧ x = nI k) ∨ (r = nI 0 ∧ ¬ ∃ k : Nat, 1 ≤ k ∧ k ≤ 99 ∧ x = nI k))) := by
  refine MJ_of (by decide) (Nat.le_of_ble_eq_true rfl) (List.forall_mem_cons.mpr ⟨rfl, fun _ h => absurd h List.not_mem_nil⟩) ?_
  intro κ M
  have C := M.1
  show J g κ 1 0 [some (.int (x))] [] σ
  refine j_iload_n C dX3_isSize_0 rfl rfl ?_
  refine j_iconst (v := nI 1) C dX3_isSize_1 rfl ?_
  refine j_icmp_lt (tgt := 15) C dX3_isSize_2 rfl (fun h2 => ?_) (fun h2 => ?_)
  · refine j_iconst (v := nI 0) C dX3_isSize_15 rfl ?_
    refine j_retz M dX3_isSize_16 rfl ?_
    refine ⟨rfl, Or.inr ⟨rfl, fun q => ?_⟩⟩
    obtain ⟨q1, q2⟩ := (nI_rng (by decide) (by decide)).mpr q
    first | exact absurd q1 (Int32.not_le.mpr (by assumption)) | exact absurd q2 (Int32.not_le.mpr (by assumption))
  · refine j_iload_n C dX3_isSize_5 rfl rfl ?_
    refine j_bipush (v := nI 99) C dX3_isSize_6 rfl ?_
    refine j_icmp_gt (tgt := 15) C dX3_isSize_8 rfl (fun h8 => ?_) (fun h8 => ?_)
    · refine j_iconst (v := nI 0) C dX3_isSize_15 rfl ?_
      refine j_retz M dX3_isSize_16 rfl ?_
      refine ⟨rfl, Or.inr ⟨rfl, fun q => ?_⟩⟩
      obtain ⟨q1, q2⟩ := (nI_rng (by decide) (by decide)).mpr q
      first | exact absurd q1 (Int32.not_le.mpr (by assumption)) | exact absurd q2 (Int32.not_le.mpr (by assumption))
    · refine j_iconst (v := nI 1) C dX3_isSize_11 rfl ?_
      refine j_goto (tgt := 16) C dX3_isSize_12 rfl ?_
      refine j_retz M dX3_isSize_16 rfl ?_
      exact ⟨rfl, Or.inl ⟨rfl, (nI_rng (by decide) (by decide)).mp ⟨Int32.not_lt.mp h2, Int32.not_lt.mp h8⟩⟩⟩
set_option maxHeartbeats 4000000 in
set_option maxRecDepth 100000 in
theorem tX1_put {g : jG} (hN : 84 ≤ gN g) {σ : Sg} {len : Nat} (hl : σ 1 1 = nI len) (hlen : len ≤ 200) (x : Int32) : MS g yX1_put cX1_put 2 (some .boolean) rmX1_put [.ref (gad g (1)), .int (x)] σ (fun r σ' => (len < 200 ∧ r = nI 1 ∧ (∀ j n, ¬ (j = 2 ∧ n = len ∨ j = 1 ∧ n = 1) → σ' j n = σ j n) ∧ σ' 2 len = x ∧ σ' 1 1 = nI (len + 1)) ∨ (len = 200 ∧ r = nI 0 ∧ σ' = σ)) := by
  refine MJ_of (by decide) (Nat.le_of_ble_eq_true rfl) (List.forall_mem_cons.mpr ⟨rfl, List.forall_mem_cons.mpr ⟨rfl, fun _ h => absurd h List.not_mem_nil⟩⟩) ?_
  intro κ M
  have C := M.1
  show J g κ 2 0 [some (.ref (gad g (1))), some (.int (x))] [] σ
  refine j_aload_n C dX1_put_0 rfl rfl ?_
  refine j_get C flX1_15 dX1_put_1 (Nat.lt_of_lt_of_le (by decide) hN) rfl rfl ?_
  refine j_top (hl) ?_
  refine j_sipush (v := nI 200) C dX1_put_4 rfl ?_
  refine j_icmpn_lt (tgt := 12) C dX1_put_7 rfl (by omega) (by omega) (fun h7 => ?_) (fun h7 => ?_)
  · refine j_aload_n C dX1_put_12 rfl rfl ?_
    refine j_get C flX1_9 dX1_put_13 (Nat.lt_of_lt_of_le (by decide) hN) rfl rfl ?_
    refine j_aload_n C dX1_put_16 rfl rfl ?_
    refine j_get C flX1_15 dX1_put_17 (Nat.lt_of_lt_of_le (by decide) hN) rfl rfl ?_
    refine j_top (hl) ?_
    refine j_iload_n C dX1_put_20 rfl rfl ?_
    refine j_iast' C dX1_put_21 (Nat.lt_of_lt_of_le (by decide) hN) (fun _ => rfl) (by decide) (by omega) (fun τ1 hz_2 hw_3 => ?_)
    refine j_aload_n C dX1_put_22 rfl rfl ?_
    refine j_dup C dX1_put_23 rfl ?_
    refine j_get C flX1_15 dX1_put_24 (Nat.lt_of_lt_of_le (by decide) hN) rfl rfl ?_
    refine j_top ((hz_2 _ _ (by omega)).trans (hl)) ?_
    refine j_iconst (v := nI 1) C dX1_put_27 rfl ?_
    refine j_iadd C dX1_put_28 ?_
    refine j_top (nI_add _ _) ?_
    refine j_put' C fpX1_15 dX1_put_29 (Nat.lt_of_lt_of_le (by decide) hN) (fun _ => rfl) rfl (Nat.le_of_ble_eq_true rfl) rfl rfl (fun τ4 hz_5 hw_6 => ?_)
    refine j_iconst (v := nI 1) C dX1_put_32 rfl ?_
    refine j_retz M dX1_put_33 rfl ?_
    refine Or.inl ⟨by omega, rfl, (fun j n h => by rw [hz_5 _ _ (by omega), hz_2 _ _ (by omega)]), ?_, by assumption⟩
    rw [hz_5 _ _ (by omega)]
    assumption
  · refine j_iconst (v := nI 0) C dX1_put_10 rfl ?_
    refine j_retz M dX1_put_11 rfl ?_
    exact Or.inr ⟨by omega, rfl, rfl⟩
set_option maxHeartbeats 4000000 in
set_option maxRecDepth 100000 in
theorem tX3_hasNode {g : jG} (hN : 84 ≤ gN g) {σ : Sg} {i b : Nat} (hi : i < 2) (hb : σ (3 + 9 * i) 0 = nI b) (hb1 : b < 2 ^ 31) (x : Int32) : MS g yX3_hasNode cX3_hasNode 2 (some .boolean) rmX3_hasNode [.ref (gad g (3 + 9 * i)), .int (x)] σ (fun r σ' => σ' = σ ∧ ((r = nI 1 ∧ ∃ k : Nat, k < b ∧ x = nI k) ∨ (r = nI 0 ∧ ¬ ∃ k : Nat, k < b ∧ x = nI k))) := by
  refine MJ_of (by decide) (Nat.le_of_ble_eq_true rfl) (List.forall_mem_cons.mpr ⟨rfl, List.forall_mem_cons.mpr ⟨rfl, fun _ h => absurd h List.not_mem_nil⟩⟩) ?_
  intro κ M
  have C := M.1
  show J g κ 2 0 [some (.ref (gad g (3 + 9 * i))), some (.int (x))] [] σ
  refine j_iload_n C dX3_hasNode_0 rfl rfl ?_
  refine j_if_lt (tgt := 16) C dX3_hasNode_1 rfl (fun h1 => ?_) (fun h1 => ?_)
  · refine j_iconst (v := nI 0) C dX3_hasNode_16 rfl ?_
    refine j_retz M dX3_hasNode_17 rfl ?_
    refine ⟨rfl, Or.inr ⟨rfl, fun q => ?_⟩⟩
    obtain ⟨q1, q2⟩ := (nI_lt_iff hb1).mpr q
    first | exact absurd q1 (Int32.not_le.mpr (by assumption)) | (exact absurd (show nI b ≤ x by assumption) (Int32.not_le.mpr q2))
  · refine j_iload_n C dX3_hasNode_4 rfl rfl ?_
    refine j_aload_n C dX3_hasNode_5 rfl rfl ?_
    refine j_get C flX3_37 dX3_hasNode_6 (by omega) (cf_net (by omega) _) rfl ?_
    refine j_top (hb) ?_
    refine j_icmp_ge (tgt := 16) C dX3_hasNode_9 rfl (fun h9 => ?_) (fun h9 => ?_)
    · refine j_iconst (v := nI 0) C dX3_hasNode_16 rfl ?_
      refine j_retz M dX3_hasNode_17 rfl ?_
      refine ⟨rfl, Or.inr ⟨rfl, fun q => ?_⟩⟩
      obtain ⟨q1, q2⟩ := (nI_lt_iff hb1).mpr q
      first | exact absurd q1 (Int32.not_le.mpr (by assumption)) | (exact absurd (show nI b ≤ x by assumption) (Int32.not_le.mpr q2))
    · refine j_iconst (v := nI 1) C dX3_hasNode_12 rfl ?_
      refine j_goto (tgt := 17) C dX3_hasNode_13 rfl ?_
      refine j_retz M dX3_hasNode_17 rfl ?_
      exact ⟨rfl, Or.inl ⟨rfl, (nI_lt_iff hb1).mp ⟨Int32.not_lt.mp h1, Int32.not_le.mp (by assumption)⟩⟩⟩
set_option maxHeartbeats 4000000 in
set_option maxRecDepth 100000 in
theorem tX3_hasLink {g : jG} (hN : 84 ≤ gN g) {σ : Sg} {i b : Nat} (hi : i < 2) (hb : σ (3 + 9 * i) 1 = nI b) (hb1 : b < 2 ^ 31) (x : Int32) : MS g yX3_hasLink cX3_hasLink 2 (some .boolean) rmX3_hasLink [.ref (gad g (3 + 9 * i)), .int (x)] σ (fun r σ' => σ' = σ ∧ ((r = nI 1 ∧ ∃ k : Nat, k < b ∧ x = nI k) ∨ (r = nI 0 ∧ ¬ ∃ k : Nat, k < b ∧ x = nI k))) := by
  refine MJ_of (by decide) (Nat.le_of_ble_eq_true rfl) (List.forall_mem_cons.mpr ⟨rfl, List.forall_mem_cons.mpr ⟨rfl, fun _ h => absurd h List.not_mem_nil⟩⟩) ?_
  intro κ M
  have C := M.1
  show J g κ 2 0 [some (.ref (gad g (3 + 9 * i))), some (.int (x))] [] σ
  refine j_iload_n C dX3_hasLink_0 rfl rfl ?_
  refine j_if_lt (tgt := 16) C dX3_hasLink_1 rfl (fun h1 => ?_) (fun h1 => ?_)
  · refine j_iconst (v := nI 0) C dX3_hasLink_16 rfl ?_
    refine j_retz M dX3_hasLink_17 rfl ?_
    refine ⟨rfl, Or.inr ⟨rfl, fun q => ?_⟩⟩
    obtain ⟨q1, q2⟩ := (nI_lt_iff hb1).mpr q
    first | exact absurd q1 (Int32.not_le.mpr (by assumption)) | (exact absurd (show nI b ≤ x by assumption) (Int32.not_le.mpr q2))
  · refine j_iload_n C dX3_hasLink_4 rfl rfl ?_
    refine j_aload_n C dX3_hasLink_5 rfl rfl ?_
    refine j_get C flX3_41 dX3_hasLink_6 (by omega) (cf_net (by omega) _) rfl ?_
    refine j_top (hb) ?_
    refine j_icmp_ge (tgt := 16) C dX3_hasLink_9 rfl (fun h9 => ?_) (fun h9 => ?_)
    · refine j_iconst (v := nI 0) C dX3_hasLink_16 rfl ?_
      refine j_retz M dX3_hasLink_17 rfl ?_
      refine ⟨rfl, Or.inr ⟨rfl, fun q => ?_⟩⟩
      obtain ⟨q1, q2⟩ := (nI_lt_iff hb1).mpr q
      first | exact absurd q1 (Int32.not_le.mpr (by assumption)) | (exact absurd (show nI b ≤ x by assumption) (Int32.not_le.mpr q2))
    · refine j_iconst (v := nI 1) C dX3_hasLink_12 rfl ?_
      refine j_goto (tgt := 17) C dX3_hasLink_13 rfl ?_
      refine j_retz M dX3_hasLink_17 rfl ?_
      exact ⟨rfl, Or.inl ⟨rfl, (nI_lt_iff hb1).mp ⟨Int32.not_lt.mp h1, Int32.not_le.mp (by assumption)⟩⟩⟩
set_option maxHeartbeats 4000000 in
set_option maxRecDepth 100000 in
theorem tX3_hasDemand {g : jG} (hN : 84 ≤ gN g) {σ : Sg} {i b : Nat} (hi : i < 2) (hb : σ (3 + 9 * i) 2 = nI b) (hb1 : b < 2 ^ 31) (x : Int32) : MS g yX3_hasDemand cX3_hasDemand 2 (some .boolean) rmX3_hasDemand [.ref (gad g (3 + 9 * i)), .int (x)] σ (fun r σ' => σ' = σ ∧ ((r = nI 1 ∧ ∃ k : Nat, k < b ∧ x = nI k) ∨ (r = nI 0 ∧ ¬ ∃ k : Nat, k < b ∧ x = nI k))) := by
  refine MJ_of (by decide) (Nat.le_of_ble_eq_true rfl) (List.forall_mem_cons.mpr ⟨rfl, List.forall_mem_cons.mpr ⟨rfl, fun _ h => absurd h List.not_mem_nil⟩⟩) ?_
  intro κ M
  have C := M.1
  show J g κ 2 0 [some (.ref (gad g (3 + 9 * i))), some (.int (x))] [] σ
  refine j_iload_n C dX3_hasDemand_0 rfl rfl ?_
  refine j_if_lt (tgt := 16) C dX3_hasDemand_1 rfl (fun h1 => ?_) (fun h1 => ?_)
  · refine j_iconst (v := nI 0) C dX3_hasDemand_16 rfl ?_
    refine j_retz M dX3_hasDemand_17 rfl ?_
    refine ⟨rfl, Or.inr ⟨rfl, fun q => ?_⟩⟩
    obtain ⟨q1, q2⟩ := (nI_lt_iff hb1).mpr q
    first | exact absurd q1 (Int32.not_le.mpr (by assumption)) | (exact absurd (show nI b ≤ x by assumption) (Int32.not_le.mpr q2))
  · refine j_iload_n C dX3_hasDemand_4 rfl rfl ?_
    refine j_aload_n C dX3_hasDemand_5 rfl rfl ?_
    refine j_get C flX3_44 dX3_hasDemand_6 (by omega) (cf_net (by omega) _) rfl ?_
    refine j_top (hb) ?_
    refine j_icmp_ge (tgt := 16) C dX3_hasDemand_9 rfl (fun h9 => ?_) (fun h9 => ?_)
    · refine j_iconst (v := nI 0) C dX3_hasDemand_16 rfl ?_
      refine j_retz M dX3_hasDemand_17 rfl ?_
      refine ⟨rfl, Or.inr ⟨rfl, fun q => ?_⟩⟩
      obtain ⟨q1, q2⟩ := (nI_lt_iff hb1).mpr q
      first | exact absurd q1 (Int32.not_le.mpr (by assumption)) | (exact absurd (show nI b ≤ x by assumption) (Int32.not_le.mpr q2))
    · refine j_iconst (v := nI 1) C dX3_hasDemand_12 rfl ?_
      refine j_goto (tgt := 17) C dX3_hasDemand_13 rfl ?_
      refine j_retz M dX3_hasDemand_17 rfl ?_
      exact ⟨rfl, Or.inl ⟨rfl, (nI_lt_iff hb1).mp ⟨Int32.not_lt.mp h1, Int32.not_le.mp (by assumption)⟩⟩⟩
set_option maxHeartbeats 4000000 in
set_option maxRecDepth 100000 in
theorem tX6_markWith {g : jG} (hN : 84 ≤ gN g) {σ : Sg} {i m : Nat} (hi : i < 9) (hm : σ (48 + 4 * i) 0 = nI m) (hm12 : m ≤ 12) (ch x : Int32) : MS g yX6_markWith cX6_markWith 5 (some .int) rmX6_markWith [.ref (gad g (48 + 4 * i)), .int (ch), .int (x)] σ (fun r σ' => σ' = σ ∧ r = mkL (fun l => if nI l = ch then x else σ (48 + 4 * i + 1) l) m) := by
  refine MJ_of (by decide) (Nat.le_of_ble_eq_true rfl) (List.forall_mem_cons.mpr ⟨rfl, List.forall_mem_cons.mpr ⟨rfl, List.forall_mem_cons.mpr ⟨rfl, fun _ h => absurd h List.not_mem_nil⟩⟩⟩) ?_
  intro κ M
  have C := M.1
  show J g κ 5 0 [some (.ref (gad g (48 + 4 * i))), some (.int (ch)), some (.int (x)), none, none] [] σ
  have lp : ∀ (k : Nat) (l : Nat), m - l = k → l ≤ m → J g κ 5 6 [some (.ref (gad g (48 + 4 * i))), some (.int (ch)), some (.int (x)), some (.int (mkL (fun l => if nI l = ch then x else σ (48 + 4 * i + 1) l) l)), some (.int (nI (l)))] [] σ := by
    intro k
    induction k using Nat.strongRecOn with
    | _ k ih =>
      intro l hk hl
      refine j_iload C dX6_markWith_6 rfl ?_
      refine j_aload_n C dX6_markWith_8 rfl rfl ?_
      refine j_get C flX6_28 dX6_markWith_9 (by omega) (cf_st (by omega) _) rfl ?_
      refine j_top (hm) ?_
      refine j_icmpn_ge (tgt := 48) C dX6_markWith_12 rfl (by omega) (by omega) (fun h12 => ?_) (fun h12 => ?_)
      · refine j_iload_n C dX6_markWith_48 rfl rfl ?_
        refine j_ret M dX6_markWith_49 ?_
        obtain rfl : l = m := by omega
        exact ⟨rfl, rfl⟩
      · refine j_bipush (v := nI 31) C dX6_markWith_15 rfl ?_
        refine j_iload_n C dX6_markWith_17 rfl rfl ?_
        refine j_imul C dX6_markWith_18 ?_
        refine j_iload C dX6_markWith_19 rfl ?_
        refine j_iload_n C dX6_markWith_21 rfl rfl ?_
        refine j_icmp_ne (tgt := 29) C dX6_markWith_22 rfl (fun h22 => ?_) (fun h22 => ?_)
        · refine j_aload_n C dX6_markWith_29 rfl rfl ?_
          refine j_get C flX6_9 dX6_markWith_30 (by omega) (cf_st (by omega) _) rfl ?_
          refine j_iload C dX6_markWith_33 rfl ?_
          refine j_iald C dX6_markWith_35 (by omega) (cf_st1 (by omega)) (by decide) (by omega) ?_
          refine j_iadd C dX6_markWith_36 ?_
          refine j_sipush (v := nI 997) C dX6_markWith_37 rfl ?_
          refine j_irem C dX6_markWith_40 (by decide) ?_
          refine j_istore_n (L' := [some (.ref (gad g (48 + 4 * i))), some (.int (ch)), some (.int (x)), some (.int ((((nI (31) * mkL (fun l => if nI l = ch then x else σ (48 + 4 * i + 1) l) l) + σ (48 + 4 * i + 1) (l)) - ((nI (31) * mkL (fun l => if nI l = ch then x else σ (48 + 4 * i + 1) l) l) + σ (48 + 4 * i + 1) (l)) / nI (997) * nI (997)))), some (.int (nI (l)))]) C dX6_markWith_41 rfl (by decide) rfl ?_
          refine j_iinc (L' := [some (.ref (gad g (48 + 4 * i))), some (.int (ch)), some (.int (x)), some (.int ((((nI (31) * mkL (fun l => if nI l = ch then x else σ (48 + 4 * i + 1) l) l) + σ (48 + 4 * i + 1) (l)) - ((nI (31) * mkL (fun l => if nI l = ch then x else σ (48 + 4 * i + 1) l) l) + σ (48 + 4 * i + 1) (l)) / nI (997) * nI (997)))), some (.int (nI (l + 1)))]) C dX6_markWith_42 rfl (nI_inc _) (by decide) rfl ?_
          refine j_goto (tgt := 6) C dX6_markWith_45 rfl ?_
          refine J_loc (L' := [some (.ref (gad g (48 + 4 * i))), some (.int (ch)), some (.int (x)), some (.int (mkL (fun l => if nI l = ch then x else σ (48 + 4 * i + 1) l) (l + 1))), some (.int (nI (l + 1)))]) ?_ (ih (m - (l + 1)) (by omega) (l + 1) rfl (by omega))
          simp only [mkL]
          first | rw [if_pos (by assumption)] | rw [if_neg (by assumption)]
        · refine j_iload_n C dX6_markWith_25 rfl rfl ?_
          refine j_goto (tgt := 36) C dX6_markWith_26 rfl ?_
          refine j_iadd C dX6_markWith_36 ?_
          refine j_sipush (v := nI 997) C dX6_markWith_37 rfl ?_
          refine j_irem C dX6_markWith_40 (by decide) ?_
          refine j_istore_n (L' := [some (.ref (gad g (48 + 4 * i))), some (.int (ch)), some (.int (x)), some (.int ((((nI (31) * mkL (fun l => if nI l = ch then x else σ (48 + 4 * i + 1) l) l) + x) - ((nI (31) * mkL (fun l => if nI l = ch then x else σ (48 + 4 * i + 1) l) l) + x) / nI (997) * nI (997)))), some (.int (nI (l)))]) C dX6_markWith_41 rfl (by decide) rfl ?_
          refine j_iinc (L' := [some (.ref (gad g (48 + 4 * i))), some (.int (ch)), some (.int (x)), some (.int ((((nI (31) * mkL (fun l => if nI l = ch then x else σ (48 + 4 * i + 1) l) l) + x) - ((nI (31) * mkL (fun l => if nI l = ch then x else σ (48 + 4 * i + 1) l) l) + x) / nI (997) * nI (997)))), some (.int (nI (l + 1)))]) C dX6_markWith_42 rfl (nI_inc _) (by decide) rfl ?_
          refine j_goto (tgt := 6) C dX6_markWith_45 rfl ?_
          refine J_loc (L' := [some (.ref (gad g (48 + 4 * i))), some (.int (ch)), some (.int (x)), some (.int (mkL (fun l => if nI l = ch then x else σ (48 + 4 * i + 1) l) (l + 1))), some (.int (nI (l + 1)))]) ?_ (ih (m - (l + 1)) (by omega) (l + 1) rfl (by omega))
          simp only [mkL]
          first | rw [if_pos (by assumption)] | rw [if_neg (by assumption)]
  refine j_bipush (v := nI 7) C dX6_markWith_0 rfl ?_
  refine j_istore_n (L' := [some (.ref (gad g (48 + 4 * i))), some (.int (ch)), some (.int (x)), some (.int (nI (7))), none]) C dX6_markWith_2 rfl (by decide) rfl ?_
  refine j_iconst (v := nI 0) C dX6_markWith_3 rfl ?_
  refine j_istore (L' := [some (.ref (gad g (48 + 4 * i))), some (.int (ch)), some (.int (x)), some (.int (nI (7))), some (.int (nI (0)))]) C dX6_markWith_4 (by decide) rfl ?_
  exact lp (m - 0) 0 rfl (by omega)
set_option maxHeartbeats 4000000 in
set_option maxRecDepth 100000 in
theorem tX6_mark {g : jG} (hN : 84 ≤ gN g) {σ : Sg} {m : Nat} (hm : σ 48 0 = nI m) (hm12 : m ≤ 12) : MS g yX6_mark cX6_mark 1 (some .int) rmX6_mark [.ref (gad g (48))] σ (fun r σ' => σ' = σ ∧ r = mkL (σ 49) m) := by
  refine MJ_of (by decide) (Nat.le_of_ble_eq_true rfl) (List.forall_mem_cons.mpr ⟨rfl, fun _ h => absurd h List.not_mem_nil⟩) ?_
  intro κ M
  have C := M.1
  show J g κ 1 0 [some (.ref (gad g (48)))] [] σ
  refine j_aload_n C dX6_mark_0 rfl rfl ?_
  refine j_iconst (v := -1) C dX6_mark_1 rfl ?_
  refine j_iconst (v := nI 0) C dX6_mark_2 rfl ?_
  refine j_calli (As := [.int (-1), .int (nI (0))]) (rest := []) C (tX6_markWith (i := 0) hN (by omega) hm hm12 (-1) (nI 0)) cdX6_markWith mlX6_47 dX6_mark_3 (by decide) (by decide) (Nat.lt_of_lt_of_le (by decide) hN) rfl rfl rfl rfl rfl (Nat.le_of_ble_eq_true rfl) (fun rr_2 τ1 hp_3 => ?_)
  obtain ⟨rfl, rfl⟩ := hp_3
  refine j_ret M dX6_mark_6 ?_
  refine ⟨rfl, mkL_congr (fun l hl => ?_)⟩
  rw [if_neg (nI_neg (by omega) (by decide))]
set_option maxHeartbeats 4000000 in
set_option maxRecDepth 100000 in
theorem tX6_noteCost {g : jG} (hN : 84 ≤ gN g) {σ : Sg} (x : Int32) : MS g yX6_noteCost cX6_noteCost 2 none rmX6_noteCost [.ref (gad g (48)), .int (x)] σ (fun r σ' => (∀ j n, ¬ (j = 48 ∧ n = 6) → σ' j n = σ j n) ∧ σ' 48 6 = if x < σ 48 6 then x else σ 48 6) := by
  refine MJ_of (by decide) (Nat.le_of_ble_eq_true rfl) (List.forall_mem_cons.mpr ⟨rfl, List.forall_mem_cons.mpr ⟨rfl, fun _ h => absurd h List.not_mem_nil⟩⟩) ?_
  intro κ M
  have C := M.1
  show J g κ 2 0 [some (.ref (gad g (48))), some (.int (x))] [] σ
  refine j_aload_n C dX6_noteCost_0 rfl rfl ?_
  refine j_aload_n C dX6_noteCost_1 rfl rfl ?_
  refine j_get C flX6_38 dX6_noteCost_2 (Nat.lt_of_lt_of_le (by decide) hN) rfl rfl ?_
  refine j_iload_n C dX6_noteCost_5 rfl rfl ?_
  refine j_min C mmX6_41 dX6_noteCost_6 (by decide) (Nat.le_of_ble_eq_true rfl) ?_
  refine j_put' C fpX6_38 dX6_noteCost_9 (Nat.lt_of_lt_of_le (by decide) hN) (fun _ => rfl) rfl (Nat.le_of_ble_eq_true rfl) rfl rfl (fun τ1 hz_2 hw_3 => ?_)
  refine j_retv M dX6_noteCost_12 ?_
  exact ⟨(fun j n h => by rw [hz_2 _ _ (by omega)]), by assumption⟩
set_option maxHeartbeats 4000000 in
set_option maxRecDepth 100000 in
theorem tX6_addTabu {g : jG} (hN : 84 ≤ gN g) {σ : Sg} {nt tc : Nat} (hnt : σ 48 5 = nI nt) (hn6 : nt < 6) (htc : σ 48 4 = nI tc) (ht6 : tc ≤ 6) (x : Int32) : MS g yX6_addTabu cX6_addTabu 2 none rmX6_addTabu [.ref (gad g (48)), .int (x)] σ (fun r σ' => (∀ j n, ¬ (j = 51 ∧ n = nt ∨ j = 48 ∧ (n = 4 ∨ n = 5)) → σ' j n = σ j n) ∧ σ' 51 nt = x ∧ σ' 48 5 = nI ((nt + 1) % 6) ∧ σ' 48 4 = nI (min (tc + 1) 6)) := by
  refine MJ_of (by decide) (Nat.le_of_ble_eq_true rfl) (List.forall_mem_cons.mpr ⟨rfl, List.forall_mem_cons.mpr ⟨rfl, fun _ h => absurd h List.not_mem_nil⟩⟩) ?_
  intro κ M
  have C := M.1
  show J g κ 2 0 [some (.ref (gad g (48))), some (.int (x))] [] σ
  refine j_aload_n C dX6_addTabu_0 rfl rfl ?_
  refine j_get C flX6_19 dX6_addTabu_1 (Nat.lt_of_lt_of_le (by decide) hN) rfl rfl ?_
  refine j_aload_n C dX6_addTabu_4 rfl rfl ?_
  refine j_get C flX6_35 dX6_addTabu_5 (Nat.lt_of_lt_of_le (by decide) hN) rfl rfl ?_
  refine j_top (hnt) ?_
  refine j_iload_n C dX6_addTabu_8 rfl rfl ?_
  refine j_iast' C dX6_addTabu_9 (Nat.lt_of_lt_of_le (by decide) hN) (fun _ => rfl) (by decide) (by omega) (fun τ1 hz_2 hw_3 => ?_)
  refine j_aload_n C dX6_addTabu_10 rfl rfl ?_
  refine j_aload_n C dX6_addTabu_11 rfl rfl ?_
  refine j_get C flX6_35 dX6_addTabu_12 (Nat.lt_of_lt_of_le (by decide) hN) rfl rfl ?_
  refine j_top ((hz_2 _ _ (by omega)).trans (hnt)) ?_
  refine j_iconst (v := nI 1) C dX6_addTabu_15 rfl ?_
  refine j_iadd C dX6_addTabu_16 ?_
  refine j_top (nI_add _ _) ?_
  refine j_bipush (v := nI 6) C dX6_addTabu_17 rfl ?_
  refine j_irem C dX6_addTabu_19 (by decide) ?_
  refine j_top (pk_rem (by omega) (by decide) (by decide)) ?_
  refine j_put' C fpX6_35 dX6_addTabu_20 (Nat.lt_of_lt_of_le (by decide) hN) (fun _ => rfl) rfl (Nat.le_of_ble_eq_true rfl) rfl rfl (fun τ4 hz_5 hw_6 => ?_)
  refine j_aload_n C dX6_addTabu_23 rfl rfl ?_
  refine j_aload_n C dX6_addTabu_24 rfl rfl ?_
  refine j_get C flX6_32 dX6_addTabu_25 (Nat.lt_of_lt_of_le (by decide) hN) rfl rfl ?_
  refine j_top ((hz_5 _ _ (by omega)).trans ((hz_2 _ _ (by omega)).trans (htc))) ?_
  refine j_iconst (v := nI 1) C dX6_addTabu_28 rfl ?_
  refine j_iadd C dX6_addTabu_29 ?_
  refine j_top (nI_add _ _) ?_
  refine j_bipush (v := nI 6) C dX6_addTabu_30 rfl ?_
  refine j_min C mmX6_41 dX6_addTabu_32 (by decide) (Nat.le_of_ble_eq_true rfl) ?_
  refine j_top (nI_min (by omega) (by decide)) ?_
  refine j_put' C fpX6_32 dX6_addTabu_35 (Nat.lt_of_lt_of_le (by decide) hN) (fun _ => rfl) rfl (Nat.le_of_ble_eq_true rfl) rfl rfl (fun τ7 hz_8 hw_9 => ?_)
  refine j_retv M dX6_addTabu_38 ?_
  refine ⟨(fun j n h => by rw [hz_8 _ _ (by omega), hz_5 _ _ (by omega), hz_2 _ _ (by omega)]), ?_, ?_, by assumption⟩
  · rw [hz_8 _ _ (by omega), hz_5 _ _ (by omega)]; assumption
  · rw [hz_8 _ _ (by omega)]; assumption
set_option maxHeartbeats 4000000 in
set_option maxRecDepth 100000 in
theorem tX6_isTabu {g : jG} (hN : 84 ≤ gN g) {σ : Sg} {tc : Nat} (htc : σ 48 4 = nI tc) (ht6 : tc ≤ 6) (x : Int32) : MS g yX6_isTabu cX6_isTabu 3 (some .boolean) rmX6_isTabu [.ref (gad g (48)), .int (x)] σ (fun r σ' => σ' = σ ∧ ((r = nI 1 ∧ ∃ k : Nat, k < tc ∧ σ 51 k = x) ∨ (r = nI 0 ∧ ∀ k : Nat, k < tc → ¬ σ 51 k = x))) := by
  refine MJ_of (by decide) (Nat.le_of_ble_eq_true rfl) (List.forall_mem_cons.mpr ⟨rfl, List.forall_mem_cons.mpr ⟨rfl, fun _ h => absurd h List.not_mem_nil⟩⟩) ?_
  intro κ M
  have C := M.1
  show J g κ 3 0 [some (.ref (gad g (48))), some (.int (x)), none] [] σ
  have lp : ∀ (k : Nat) (l : Nat), tc - l = k → l ≤ tc → (∀ q : Nat, q < l → ¬ σ 51 q = x) → J g κ 3 2 [some (.ref (gad g (48))), some (.int (x)), some (.int (nI (l)))] [] σ := by
    intro k
    induction k using Nat.strongRecOn with
    | _ k ih =>
      intro l hk hl hno
      refine j_iload_n C dX6_isTabu_2 rfl rfl ?_
      refine j_aload_n C dX6_isTabu_3 rfl rfl ?_
      refine j_get C flX6_32 dX6_isTabu_4 (Nat.lt_of_lt_of_le (by decide) hN) rfl rfl ?_
      refine j_top (htc) ?_
      refine j_icmpn_ge (tgt := 28) C dX6_isTabu_7 rfl (by omega) (by omega) (fun h7 => ?_) (fun h7 => ?_)
      · refine j_iconst (v := nI 0) C dX6_isTabu_28 rfl ?_
        refine j_retz M dX6_isTabu_29 rfl ?_
        exact ⟨rfl, Or.inr ⟨rfl, fun q hq => hno q (by omega)⟩⟩
      · refine j_aload_n C dX6_isTabu_10 rfl rfl ?_
        refine j_get C flX6_19 dX6_isTabu_11 (Nat.lt_of_lt_of_le (by decide) hN) rfl rfl ?_
        refine j_iload_n C dX6_isTabu_14 rfl rfl ?_
        refine j_iald C dX6_isTabu_15 (Nat.lt_of_lt_of_le (by decide) hN) (fun _ => rfl) (by decide) (by omega) ?_
        refine j_iload_n C dX6_isTabu_16 rfl rfl ?_
        refine j_icmp_ne (tgt := 22) C dX6_isTabu_17 rfl (fun h17 => ?_) (fun h17 => ?_)
        · refine j_iinc (L' := [some (.ref (gad g (48))), some (.int (x)), some (.int (nI (l + 1)))]) C dX6_isTabu_22 rfl (nI_inc _) (by decide) rfl ?_
          refine j_goto (tgt := 2) C dX6_isTabu_25 rfl ?_
          refine ih (tc - (l + 1)) (by omega) (l + 1) rfl (by omega) (fun q hq => ?_)
          by_cases e : q = l
          · subst e; exact h17
          · exact hno q (by omega)
        · refine j_iconst (v := nI 1) C dX6_isTabu_20 rfl ?_
          refine j_retz M dX6_isTabu_21 rfl ?_
          exact ⟨rfl, Or.inl ⟨rfl, l, by omega, h17⟩⟩
  refine j_iconst (v := nI 0) C dX6_isTabu_0 rfl ?_
  refine j_istore_n (L' := [some (.ref (gad g (48))), some (.int (x)), some (.int (nI (0)))]) C dX6_isTabu_1 rfl (by decide) rfl ?_
  exact lp (tc - 0) 0 rfl (by omega) (fun q hq => by omega)
set_option maxHeartbeats 4000000 in
set_option maxRecDepth 100000 in
theorem tX6_linksDown {g : jG} (hN : 84 ≤ gN g) {σ : Sg} {m : Nat} {u : Nat → Bool} (hm : σ 48 0 = nI m) (hm12 : m ≤ 12) (hu : ∀ l, l < m → σ 50 l = bI (u l)) : MS g yX6_linksDown cX6_linksDown 3 (some .int) rmX6_linksDown [.ref (gad g (48))] σ (fun r σ' => σ' = σ ∧ r = nI (cnt (fun l => !u l) m)) := by
  refine MJ_of (by decide) (Nat.le_of_ble_eq_true rfl) (List.forall_mem_cons.mpr ⟨rfl, fun _ h => absurd h List.not_mem_nil⟩) ?_
  intro κ M
  have C := M.1
  show J g κ 3 0 [some (.ref (gad g (48))), none, none] [] σ
  have lp : ∀ (k : Nat) (l : Nat), m - l = k → l ≤ m → J g κ 3 4 [some (.ref (gad g (48))), some (.int (nI (cnt (fun l => !u l) l))), some (.int (nI (l)))] [] σ := by
    intro k
    induction k using Nat.strongRecOn with
    | _ k ih =>
      intro l hk hl
      refine j_iload_n C dX6_linksDown_4 rfl rfl ?_
      refine j_aload_n C dX6_linksDown_5 rfl rfl ?_
      refine j_get C flX6_28 dX6_linksDown_6 (Nat.lt_of_lt_of_le (by decide) hN) rfl rfl ?_
      refine j_top (hm) ?_
      refine j_icmpn_ge (tgt := 30) C dX6_linksDown_9 rfl (by omega) (by omega) (fun h9 => ?_) (fun h9 => ?_)
      · refine j_iload_n C dX6_linksDown_30 rfl rfl ?_
        refine j_ret M dX6_linksDown_31 ?_
        obtain rfl : l = m := by omega
        exact ⟨rfl, rfl⟩
      · have hc := cnt_le (fun l => !u l) l
        rcases hul : u l with _ | _
        · refine j_aload_n C dX6_linksDown_12 rfl rfl ?_
          refine j_get C flX6_15 dX6_linksDown_13 (Nat.lt_of_lt_of_le (by decide) hN) rfl rfl ?_
          refine j_iload_n C dX6_linksDown_16 rfl rfl ?_
          refine j_zald C dX6_linksDown_17 (Nat.lt_of_lt_of_le (by decide) hN) (fun _ => rfl) (by decide) (by omega) ?_
          refine j_top ((hu l (by omega)).trans (by rw [hul])) ?_
          refine j_ifn_ne (tgt := 24) C dX6_linksDown_18 rfl (by omega) (fun h => absurd h (by decide)) (fun _ => ?_)
          refine j_iinc (L' := [some (.ref (gad g (48))), some (.int (nI (cnt (fun l => !u l) l + 1))), some (.int (nI (l)))]) C dX6_linksDown_21 rfl (nI_inc _) (by decide) rfl ?_
          refine j_iinc (L' := [some (.ref (gad g (48))), some (.int (nI (cnt (fun l => !u l) l + 1))), some (.int (nI (l + 1)))]) C dX6_linksDown_24 rfl (nI_inc _) (by decide) rfl ?_
          refine j_goto (tgt := 4) C dX6_linksDown_27 rfl ?_
          refine J_loc (L' := [some (.ref (gad g (48))), some (.int (nI (cnt (fun l => !u l) (l + 1)))), some (.int (nI (l + 1)))]) (by simp only [cnt, hul]; rfl) (ih (m - (l + 1)) (by omega) (l + 1) rfl (by omega))
        · refine j_aload_n C dX6_linksDown_12 rfl rfl ?_
          refine j_get C flX6_15 dX6_linksDown_13 (Nat.lt_of_lt_of_le (by decide) hN) rfl rfl ?_
          refine j_iload_n C dX6_linksDown_16 rfl rfl ?_
          refine j_zald C dX6_linksDown_17 (Nat.lt_of_lt_of_le (by decide) hN) (fun _ => rfl) (by decide) (by omega) ?_
          refine j_top ((hu l (by omega)).trans (by rw [hul])) ?_
          refine j_ifn_ne (tgt := 24) C dX6_linksDown_18 rfl (by omega) (fun _ => ?_) (fun h => absurd h (by decide))
          refine j_iinc (L' := [some (.ref (gad g (48))), some (.int (nI (cnt (fun l => !u l) l))), some (.int (nI (l + 1)))]) C dX6_linksDown_24 rfl (nI_inc _) (by decide) rfl ?_
          refine j_goto (tgt := 4) C dX6_linksDown_27 rfl ?_
          refine J_loc (L' := [some (.ref (gad g (48))), some (.int (nI (cnt (fun l => !u l) (l + 1)))), some (.int (nI (l + 1)))]) (by simp only [cnt, hul]; rfl) (ih (m - (l + 1)) (by omega) (l + 1) rfl (by omega))
  refine j_iconst (v := nI 0) C dX6_linksDown_0 rfl ?_
  refine j_istore_n (L' := [some (.ref (gad g (48))), some (.int (nI (0))), none]) C dX6_linksDown_1 rfl (by decide) rfl ?_
  refine j_iconst (v := nI 0) C dX6_linksDown_2 rfl ?_
  refine j_istore_n (L' := [some (.ref (gad g (48))), some (.int (nI (0))), some (.int (nI (0)))]) C dX6_linksDown_3 rfl (by decide) rfl ?_
  exact lp (m - 0) 0 rfl (by omega)
