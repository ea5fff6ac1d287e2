set_option maxHeartbeats 4000000 in
set_option maxRecDepth 100000 in
theorem tX8_beginRead {g : jG} (hN : 97 ≤ gN g) {σ : Sg} (a : ND) : MS g yX8_beginRead cX8_beginRead 1 none rmX8_beginRead [.ref (gad g (84))] σ (fun r σ' => (∀ j n, ¬ (j = 84 ∧ (5 ≤ n ∧ n ≤ 7 ∨ n = 16)) → σ' j n = σ j n) ∧ RdI σ' (nd0 a) ∧ σ' 84 16 = nI 0) := by
  refine MJ_of (by decide) (Nat.le_of_ble_eq_true rfl) (List.forall_mem_cons.mpr ⟨rfl, fun _ h => absurd h List.not_mem_nil⟩) ?_
  intro κ M
  have C := M.1
  show J g κ 1 0 [some (.ref (gad g (84)))] [] σ
  refine j_aload_n C dX8_beginRead_0 rfl rfl ?_
  refine j_iconst (v := nI 4) C dX8_beginRead_1 rfl ?_
  refine j_put' C fpX8_49 dX8_beginRead_2 (Nat.lt_of_lt_of_le (by decide) hN) (fun _ => rfl) rfl (Nat.le_of_ble_eq_true rfl) rfl rfl (fun τ1 hz_2 hw_3 => ?_)
  refine j_aload_n C dX8_beginRead_5 rfl rfl ?_
  refine j_iconst (v := nI 0) C dX8_beginRead_6 rfl ?_
  refine j_put' C fpX8_64 dX8_beginRead_7 (Nat.lt_of_lt_of_le (by decide) hN) (fun _ => rfl) rfl (Nat.le_of_ble_eq_true rfl) rfl rfl (fun τ4 hz_5 hw_6 => ?_)
  refine j_aload_n C dX8_beginRead_10 rfl rfl ?_
  refine j_iconst (v := nI 0) C dX8_beginRead_11 rfl ?_
  refine j_put' C fpX8_67 dX8_beginRead_12 (Nat.lt_of_lt_of_le (by decide) hN) (fun _ => rfl) rfl (Nat.le_of_ble_eq_true rfl) rfl rfl (fun τ7 hz_8 hw_9 => ?_)
  refine j_aload_n C dX8_beginRead_15 rfl rfl ?_
  refine j_iconst (v := nI 0) C dX8_beginRead_16 rfl ?_
  refine j_put' C fpX8_70 dX8_beginRead_17 (Nat.lt_of_lt_of_le (by decide) hN) (fun _ => rfl) rfl (Nat.le_of_ble_eq_true rfl) rfl rfl (fun τ10 hz_11 hw_12 => ?_)
  refine j_retv M dX8_beginRead_20 ?_
  exact ⟨fun j n h => by rw [hz_11 _ _ (by omega), hz_8 _ _ (by omega), hz_5 _ _ (by omega), hz_2 _ _ (by omega)], ⟨⟨by rw [hz_11 _ _ (by omega), hz_8 _ _ (by omega), hz_5 _ _ (by omega)]; exact hw_3, by rw [hz_11 _ _ (by omega), hz_8 _ _ (by omega)]; exact hw_6, by rw [hz_11 _ _ (by omega)]; exact hw_9⟩, fun l hl => absurd hl (Nat.not_lt_zero _), fun l hl => absurd hl (Nat.not_lt_zero _)⟩, hw_12⟩
set_option maxHeartbeats 4000000 in
set_option maxRecDepth 100000 in
theorem tX8_putLink {g : jG} (hN : 97 ≤ gN g) {σ : Sg} {a : ND} {p q s w : Nat} (hR : RdI σ a) (hm : nM a < 12) : MS g yX8_putLink cX8_putLink 5 none rmX8_putLink [.ref (gad g (84)), .int (nI (p)), .int (nI (q)), .int (nI (s)), .int (nI (w))] σ (fun r σ' => (∀ j n, ¬ (j = 84 ∧ n = 6 ∨ j = 86) → σ' j n = σ j n) ∧ RdI σ' (ndL a p q s w)) := by
  refine MJ_of (by decide) (Nat.le_of_ble_eq_true rfl) (List.forall_mem_cons.mpr ⟨rfl, List.forall_mem_cons.mpr ⟨rfl, List.forall_mem_cons.mpr ⟨rfl, List.forall_mem_cons.mpr ⟨rfl, List.forall_mem_cons.mpr ⟨rfl, fun _ h => absurd h List.not_mem_nil⟩⟩⟩⟩⟩) ?_
  intro κ M
  have C := M.1
  show J g κ 5 0 [some (.ref (gad g (84))), some (.int (nI (p))), some (.int (nI (q))), some (.int (nI (s))), some (.int (nI (w)))] [] σ
  refine j_aload_n C dX8_putLink_0 rfl rfl ?_
  refine j_get C flX8_13 dX8_putLink_1 (Nat.lt_of_lt_of_le (by decide) hN) rfl rfl ?_
  refine j_iconst (v := nI 4) C dX8_putLink_4 rfl ?_
  refine j_aload_n C dX8_putLink_5 rfl rfl ?_
  refine j_get C flX8_64 dX8_putLink_6 (Nat.lt_of_lt_of_le (by decide) hN) rfl rfl ?_
  refine j_top (hR.1.2.1) ?_
  refine j_imul C dX8_putLink_9 ?_
  refine j_top (pk_mul _ _) ?_
  refine j_iload_n C dX8_putLink_10 rfl rfl ?_
  refine j_iast' C dX8_putLink_11 (Nat.lt_of_lt_of_le (by decide) hN) (fun _ => rfl) (by decide) (by omega) (fun τ1 hz_2 hw_3 => ?_)
  refine j_aload_n C dX8_putLink_12 rfl rfl ?_
  refine j_get C flX8_13 dX8_putLink_13 (Nat.lt_of_lt_of_le (by decide) hN) rfl rfl ?_
  refine j_iconst (v := nI 4) C dX8_putLink_16 rfl ?_
  refine j_aload_n C dX8_putLink_17 rfl rfl ?_
  refine j_get C flX8_64 dX8_putLink_18 (Nat.lt_of_lt_of_le (by decide) hN) rfl rfl ?_
  refine j_top ((hz_2 _ _ (by omega)).trans (hR.1.2.1)) ?_
  refine j_imul C dX8_putLink_21 ?_
  refine j_top (pk_mul _ _) ?_
  refine j_iconst (v := nI 1) C dX8_putLink_22 rfl ?_
  refine j_iadd C dX8_putLink_23 ?_
  refine j_top (nI_add _ _) ?_
  refine j_iload_n C dX8_putLink_24 rfl rfl ?_
  refine j_iast' C dX8_putLink_25 (Nat.lt_of_lt_of_le (by decide) hN) (fun _ => rfl) (by decide) (by omega) (fun τ4 hz_5 hw_6 => ?_)
  refine j_aload_n C dX8_putLink_26 rfl rfl ?_
  refine j_get C flX8_13 dX8_putLink_27 (Nat.lt_of_lt_of_le (by decide) hN) rfl rfl ?_
  refine j_iconst (v := nI 4) C dX8_putLink_30 rfl ?_
  refine j_aload_n C dX8_putLink_31 rfl rfl ?_
  refine j_get C flX8_64 dX8_putLink_32 (Nat.lt_of_lt_of_le (by decide) hN) rfl rfl ?_
  refine j_top ((hz_5 _ _ (by omega)).trans ((hz_2 _ _ (by omega)).trans (hR.1.2.1))) ?_
  refine j_imul C dX8_putLink_35 ?_
  refine j_top (pk_mul _ _) ?_
  refine j_iconst (v := nI 2) C dX8_putLink_36 rfl ?_
  refine j_iadd C dX8_putLink_37 ?_
  refine j_top (nI_add _ _) ?_
  refine j_iload_n C dX8_putLink_38 rfl rfl ?_
  refine j_iast' C dX8_putLink_39 (Nat.lt_of_lt_of_le (by decide) hN) (fun _ => rfl) (by decide) (by omega) (fun τ7 hz_8 hw_9 => ?_)
  refine j_aload_n C dX8_putLink_40 rfl rfl ?_
  refine j_get C flX8_13 dX8_putLink_41 (Nat.lt_of_lt_of_le (by decide) hN) rfl rfl ?_
  refine j_iconst (v := nI 4) C dX8_putLink_44 rfl ?_
  refine j_aload_n C dX8_putLink_45 rfl rfl ?_
  refine j_get C flX8_64 dX8_putLink_46 (Nat.lt_of_lt_of_le (by decide) hN) rfl rfl ?_
  refine j_top ((hz_8 _ _ (by omega)).trans ((hz_5 _ _ (by omega)).trans ((hz_2 _ _ (by omega)).trans (hR.1.2.1)))) ?_
  refine j_imul C dX8_putLink_49 ?_
  refine j_top (pk_mul _ _) ?_
  refine j_iconst (v := nI 3) C dX8_putLink_50 rfl ?_
  refine j_iadd C dX8_putLink_51 ?_
  refine j_top (nI_add _ _) ?_
  refine j_iload C dX8_putLink_52 rfl ?_
  refine j_iast' C dX8_putLink_54 (Nat.lt_of_lt_of_le (by decide) hN) (fun _ => rfl) (by decide) (by omega) (fun τ10 hz_11 hw_12 => ?_)
  refine j_aload_n C dX8_putLink_55 rfl rfl ?_
  refine j_dup C dX8_putLink_56 rfl ?_
  refine j_get C flX8_64 dX8_putLink_57 (Nat.lt_of_lt_of_le (by decide) hN) rfl rfl ?_
  refine j_top ((hz_11 _ _ (by omega)).trans ((hz_8 _ _ (by omega)).trans ((hz_5 _ _ (by omega)).trans ((hz_2 _ _ (by omega)).trans (hR.1.2.1))))) ?_
  refine j_iconst (v := nI 1) C dX8_putLink_60 rfl ?_
  refine j_iadd C dX8_putLink_61 ?_
  refine j_top (nI_add _ _) ?_
  refine j_put' C fpX8_64 dX8_putLink_62 (Nat.lt_of_lt_of_le (by decide) hN) (fun _ => rfl) rfl (Nat.le_of_ble_eq_true rfl) rfl rfl (fun τ13 hz_14 hw_15 => ?_)
  refine j_retv M dX8_putLink_65 ?_
  refine ⟨fun j n h => by rw [hz_14 _ _ (by omega), hz_11 _ _ (by omega), hz_8 _ _ (by omega), hz_5 _ _ (by omega), hz_2 _ _ (by omega)], ⟨⟨by rw [hz_14 _ _ (by omega), hz_11 _ _ (by omega), hz_8 _ _ (by omega), hz_5 _ _ (by omega), hz_2 _ _ (by omega)]; exact hR.1.1, hw_15, by rw [hz_14 _ _ (by omega), hz_11 _ _ (by omega), hz_8 _ _ (by omega), hz_5 _ _ (by omega), hz_2 _ _ (by omega)]; exact hR.1.2.2⟩, fun l hl => ?_, fun d hd => ⟨by rw [hz_14 _ _ (by omega), hz_11 _ _ (by omega), hz_8 _ _ (by omega), hz_5 _ _ (by omega), hz_2 _ _ (by omega)]; exact (hR.2.2 d hd).1, by rw [hz_14 _ _ (by omega), hz_11 _ _ (by omega), hz_8 _ _ (by omega), hz_5 _ _ (by omega), hz_2 _ _ (by omega)]; exact (hR.2.2 d hd).2.1, by rw [hz_14 _ _ (by omega), hz_11 _ _ (by omega), hz_8 _ _ (by omega), hz_5 _ _ (by omega), hz_2 _ _ (by omega)]; exact (hR.2.2 d hd).2.2⟩⟩⟩
  by_cases e : l = nM a
  · subst e
    refine ⟨?_, ?_, ?_, ?_⟩
    · rw [hz_14 _ _ (by omega), hz_11 _ _ (by omega), hz_8 _ _ (by omega), hz_5 _ _ (by omega)]; exact hw_3.trans (congrArg nI updN_s.symm)
    · rw [hz_14 _ _ (by omega), hz_11 _ _ (by omega), hz_8 _ _ (by omega)]; exact hw_6.trans (congrArg nI updN_s.symm)
    · rw [hz_14 _ _ (by omega), hz_11 _ _ (by omega)]; exact hw_9.trans (congrArg nI updN_s.symm)
    · rw [hz_14 _ _ (by omega)]; exact hw_12.trans (congrArg nI updN_s.symm)
  · have hl2 : l < nM a := by have : l < nM a + 1 := hl; omega
    obtain ⟨q1, q2, q3, q4⟩ := hR.2.1 l hl2
    exact ⟨by rw [hz_14 _ _ (by omega), hz_11 _ _ (by omega), hz_8 _ _ (by omega), hz_5 _ _ (by omega), hz_2 _ _ (by omega)]; exact q1.trans (congrArg nI (updN_n e).symm), by rw [hz_14 _ _ (by omega), hz_11 _ _ (by omega), hz_8 _ _ (by omega), hz_5 _ _ (by omega), hz_2 _ _ (by omega)]; exact q2.trans (congrArg nI (updN_n e).symm), by rw [hz_14 _ _ (by omega), hz_11 _ _ (by omega), hz_8 _ _ (by omega), hz_5 _ _ (by omega), hz_2 _ _ (by omega)]; exact q3.trans (congrArg nI (updN_n e).symm), by rw [hz_14 _ _ (by omega), hz_11 _ _ (by omega), hz_8 _ _ (by omega), hz_5 _ _ (by omega), hz_2 _ _ (by omega)]; exact q4.trans (congrArg nI (updN_n e).symm)⟩
set_option maxHeartbeats 4000000 in
set_option maxRecDepth 100000 in
theorem tX8_putDemand {g : jG} (hN : 97 ≤ gN g) {σ : Sg} {a : ND} {p q s : Nat} (hR : RdI σ a) (hm : nD a < 6) : MS g yX8_putDemand cX8_putDemand 4 none rmX8_putDemand [.ref (gad g (84)), .int (nI (p)), .int (nI (q)), .int (nI (s))] σ (fun r σ' => (∀ j n, ¬ (j = 84 ∧ n = 7 ∨ j = 87) → σ' j n = σ j n) ∧ RdI σ' (ndD a p q s)) := by
  refine MJ_of (by decide) (Nat.le_of_ble_eq_true rfl) (List.forall_mem_cons.mpr ⟨rfl, List.forall_mem_cons.mpr ⟨rfl, List.forall_mem_cons.mpr ⟨rfl, List.forall_mem_cons.mpr ⟨rfl, fun _ h => absurd h List.not_mem_nil⟩⟩⟩⟩) ?_
  intro κ M
  have C := M.1
  show J g κ 4 0 [some (.ref (gad g (84))), some (.int (nI (p))), some (.int (nI (q))), some (.int (nI (s)))] [] σ
  refine j_aload_n C dX8_putDemand_0 rfl rfl ?_
  refine j_get C flX8_16 dX8_putDemand_1 (Nat.lt_of_lt_of_le (by decide) hN) rfl rfl ?_
  refine j_iconst (v := nI 3) C dX8_putDemand_4 rfl ?_
  refine j_aload_n C dX8_putDemand_5 rfl rfl ?_
  refine j_get C flX8_67 dX8_putDemand_6 (Nat.lt_of_lt_of_le (by decide) hN) rfl rfl ?_
  refine j_top (hR.1.2.2) ?_
  refine j_imul C dX8_putDemand_9 ?_
  refine j_top (pk_mul _ _) ?_
  refine j_iload_n C dX8_putDemand_10 rfl rfl ?_
  refine j_iast' C dX8_putDemand_11 (Nat.lt_of_lt_of_le (by decide) hN) (fun _ => rfl) (by decide) (by omega) (fun τ1 hz_2 hw_3 => ?_)
  refine j_aload_n C dX8_putDemand_12 rfl rfl ?_
  refine j_get C flX8_16 dX8_putDemand_13 (Nat.lt_of_lt_of_le (by decide) hN) rfl rfl ?_
  refine j_iconst (v := nI 3) C dX8_putDemand_16 rfl ?_
  refine j_aload_n C dX8_putDemand_17 rfl rfl ?_
  refine j_get C flX8_67 dX8_putDemand_18 (Nat.lt_of_lt_of_le (by decide) hN) rfl rfl ?_
  refine j_top ((hz_2 _ _ (by omega)).trans (hR.1.2.2)) ?_
  refine j_imul C dX8_putDemand_21 ?_
  refine j_top (pk_mul _ _) ?_
  refine j_iconst (v := nI 1) C dX8_putDemand_22 rfl ?_
  refine j_iadd C dX8_putDemand_23 ?_
  refine j_top (nI_add _ _) ?_
  refine j_iload_n C dX8_putDemand_24 rfl rfl ?_
  refine j_iast' C dX8_putDemand_25 (Nat.lt_of_lt_of_le (by decide) hN) (fun _ => rfl) (by decide) (by omega) (fun τ4 hz_5 hw_6 => ?_)
  refine j_aload_n C dX8_putDemand_26 rfl rfl ?_
  refine j_get C flX8_16 dX8_putDemand_27 (Nat.lt_of_lt_of_le (by decide) hN) rfl rfl ?_
  refine j_iconst (v := nI 3) C dX8_putDemand_30 rfl ?_
  refine j_aload_n C dX8_putDemand_31 rfl rfl ?_
  refine j_get C flX8_67 dX8_putDemand_32 (Nat.lt_of_lt_of_le (by decide) hN) rfl rfl ?_
  refine j_top ((hz_5 _ _ (by omega)).trans ((hz_2 _ _ (by omega)).trans (hR.1.2.2))) ?_
  refine j_imul C dX8_putDemand_35 ?_
  refine j_top (pk_mul _ _) ?_
  refine j_iconst (v := nI 2) C dX8_putDemand_36 rfl ?_
  refine j_iadd C dX8_putDemand_37 ?_
  refine j_top (nI_add _ _) ?_
  refine j_iload_n C dX8_putDemand_38 rfl rfl ?_
  refine j_iast' C dX8_putDemand_39 (Nat.lt_of_lt_of_le (by decide) hN) (fun _ => rfl) (by decide) (by omega) (fun τ7 hz_8 hw_9 => ?_)
  refine j_aload_n C dX8_putDemand_40 rfl rfl ?_
  refine j_dup C dX8_putDemand_41 rfl ?_
  refine j_get C flX8_67 dX8_putDemand_42 (Nat.lt_of_lt_of_le (by decide) hN) rfl rfl ?_
  refine j_top ((hz_8 _ _ (by omega)).trans ((hz_5 _ _ (by omega)).trans ((hz_2 _ _ (by omega)).trans (hR.1.2.2)))) ?_
  refine j_iconst (v := nI 1) C dX8_putDemand_45 rfl ?_
  refine j_iadd C dX8_putDemand_46 ?_
  refine j_top (nI_add _ _) ?_
  refine j_put' C fpX8_67 dX8_putDemand_47 (Nat.lt_of_lt_of_le (by decide) hN) (fun _ => rfl) rfl (Nat.le_of_ble_eq_true rfl) rfl rfl (fun τ10 hz_11 hw_12 => ?_)
  refine j_retv M dX8_putDemand_50 ?_
  refine ⟨fun j n h => by rw [hz_11 _ _ (by omega), hz_8 _ _ (by omega), hz_5 _ _ (by omega), hz_2 _ _ (by omega)], ⟨⟨by rw [hz_11 _ _ (by omega), hz_8 _ _ (by omega), hz_5 _ _ (by omega), hz_2 _ _ (by omega)]; exact hR.1.1, by rw [hz_11 _ _ (by omega), hz_8 _ _ (by omega), hz_5 _ _ (by omega), hz_2 _ _ (by omega)]; exact hR.1.2.1, hw_12⟩, fun l hl => ⟨by rw [hz_11 _ _ (by omega), hz_8 _ _ (by omega), hz_5 _ _ (by omega), hz_2 _ _ (by omega)]; exact (hR.2.1 l hl).1, by rw [hz_11 _ _ (by omega), hz_8 _ _ (by omega), hz_5 _ _ (by omega), hz_2 _ _ (by omega)]; exact (hR.2.1 l hl).2.1, by rw [hz_11 _ _ (by omega), hz_8 _ _ (by omega), hz_5 _ _ (by omega), hz_2 _ _ (by omega)]; exact (hR.2.1 l hl).2.2.1, by rw [hz_11 _ _ (by omega), hz_8 _ _ (by omega), hz_5 _ _ (by omega), hz_2 _ _ (by omega)]; exact (hR.2.1 l hl).2.2.2⟩, fun d hd => ?_⟩⟩
  by_cases e : d = nD a
  · subst e
    refine ⟨?_, ?_, ?_⟩
    · rw [hz_11 _ _ (by omega), hz_8 _ _ (by omega), hz_5 _ _ (by omega)]; exact hw_3.trans (congrArg nI updN_s.symm)
    · rw [hz_11 _ _ (by omega), hz_8 _ _ (by omega)]; exact hw_6.trans (congrArg nI updN_s.symm)
    · rw [hz_11 _ _ (by omega)]; exact hw_9.trans (congrArg nI updN_s.symm)
  · have hl2 : d < nD a := by have : d < nD a + 1 := hd; omega
    obtain ⟨q1, q2, q3⟩ := hR.2.2 d hl2
    exact ⟨by rw [hz_11 _ _ (by omega), hz_8 _ _ (by omega), hz_5 _ _ (by omega), hz_2 _ _ (by omega)]; exact q1.trans (congrArg nI (updN_n e).symm), by rw [hz_11 _ _ (by omega), hz_8 _ _ (by omega), hz_5 _ _ (by omega), hz_2 _ _ (by omega)]; exact q2.trans (congrArg nI (updN_n e).symm), by rw [hz_11 _ _ (by omega), hz_8 _ _ (by omega), hz_5 _ _ (by omega), hz_2 _ _ (by omega)]; exact q3.trans (congrArg nI (updN_n e).symm)⟩
set_option maxHeartbeats 4000000 in
set_option maxRecDepth 100000 in
theorem tX8_isFigure {g : jG} (hN : 97 ≤ gN g) {σ : Sg} {tx : Nat → Int32} {len at_ : Nat} (hl : σ 84 1 = nI len) (hlen : len ≤ 200) (ht : ∀ k, k < len → σ 85 k = tx k) (ha : σ 84 2 = nI at_) (ha2 : at_ ≤ len) : MS g yX8_isFigure cX8_isFigure 1 (some .boolean) rmX8_isFigure [.ref (gad g (84))] σ (fun r σ' => σ' = σ ∧ ((r = nI 1 ∧ at_ < len ∧ nI 48 ≤ tx at_ ∧ tx at_ ≤ nI 57) ∨ (r = nI 0 ∧ (at_ < len → ¬ (nI 48 ≤ tx at_ ∧ tx at_ ≤ nI 57))))) := by
  refine MJ_of (by decide) (Nat.le_of_ble_eq_true rfl) (List.forall_mem_cons.mpr ⟨rfl, fun _ h => absurd h List.not_mem_nil⟩) ?_
  intro κ M
  have C := M.1
  show J g κ 1 0 [some (.ref (gad g (84)))] [] σ
  refine j_aload_n C dX8_isFigure_0 rfl rfl ?_
  refine j_get C flX8_90 dX8_isFigure_1 (Nat.lt_of_lt_of_le (by decide) hN) rfl rfl ?_
  refine j_top (ha) ?_
  refine j_aload_n C dX8_isFigure_4 rfl rfl ?_
  refine j_get C flX8_93 dX8_isFigure_5 (Nat.lt_of_lt_of_le (by decide) hN) rfl rfl ?_
  refine j_top (hl) ?_
  refine j_icmpn_ge (tgt := 34) C dX8_isFigure_8 rfl (by omega) (by omega) (fun h8 => ?_) (fun h8 => ?_)
  · refine j_iconst (v := nI 0) C dX8_isFigure_34 rfl ?_
    refine j_retz M dX8_isFigure_35 rfl ?_
    exact ⟨rfl, Or.inr ⟨rfl, fun q1 q2 => by first | (exfalso; omega) | exact hout ((nI_rng (by decide) (by decide)).mp q2)⟩⟩
  · refine j_aload_n C dX8_isFigure_11 rfl rfl ?_
    refine j_get C flX8_7 dX8_isFigure_12 (Nat.lt_of_lt_of_le (by decide) hN) rfl rfl ?_
    refine j_aload_n C dX8_isFigure_15 rfl rfl ?_
    refine j_get C flX8_90 dX8_isFigure_16 (Nat.lt_of_lt_of_le (by decide) hN) rfl rfl ?_
    refine j_top (ha) ?_
    refine j_iald C dX8_isFigure_19 (Nat.lt_of_lt_of_le (by decide) hN) (fun _ => rfl) (by decide) (by omega) ?_
    refine j_top (ht at_ (by omega)) ?_
    refine j_bipush (v := nI 48) C dX8_isFigure_20 rfl ?_
    refine j_bipush (v := nI 57) C dX8_isFigure_22 rfl ?_
    refine j_calls (As := [.int (tx at_), .int (nI (48)), .int (nI (57))]) (rest := []) C (tX8_in hN (tx at_) (lo := 48) (hi := 57) (by omega) (by omega)) cdX8_in msX8_96 dX8_isFigure_24 (by decide) (by decide) rfl rfl (Nat.le_of_ble_eq_true rfl) (fun rr_2 τ1 hp_3 => ?_)
    obtain ⟨hs, hc⟩ := hp_3
    replace hs := hs.symm
    subst hs
    rcases hc with ⟨rfl, hin⟩ | ⟨rfl, hout⟩
    · refine j_ifn_eq (tgt := 34) C dX8_isFigure_27 rfl (by omega) (fun h => absurd h (by decide)) (fun _ => ?_)
      refine j_iconst (v := nI 1) C dX8_isFigure_30 rfl ?_
      refine j_goto (tgt := 35) C dX8_isFigure_31 rfl ?_
      refine j_retz M dX8_isFigure_35 rfl ?_
      exact ⟨rfl, Or.inl ⟨rfl, by omega, ((nI_rng (by decide) (by decide)).mpr hin).1, ((nI_rng (by decide) (by decide)).mpr hin).2⟩⟩
    · refine j_ifn_eq (tgt := 34) C dX8_isFigure_27 rfl (by omega) (fun _ => ?_) (fun h => absurd h (by decide))
      refine j_iconst (v := nI 0) C dX8_isFigure_34 rfl ?_
      refine j_retz M dX8_isFigure_35 rfl ?_
      exact ⟨rfl, Or.inr ⟨rfl, fun q1 q2 => by first | (exfalso; omega) | exact hout ((nI_rng (by decide) (by decide)).mp q2)⟩⟩
set_option maxHeartbeats 4000000 in
set_option maxRecDepth 100000 in
theorem tX8_readNumbers {g : jG} (hN : 97 ≤ gN g) {σ : Sg} {tx : Nat → Int32} {len : Nat} (hl : σ 84 1 = nI len) (hlen : len ≤ 200) (ht : ∀ k, k < len → σ 85 k = tx k) {p e r0 : Nat} (ha : σ 84 2 = nI p) (hE : Sem tx len p e) (hr1 : 1 ≤ r0) (hr4 : r0 ≤ 4) : MS g yX8_readNumbers cX8_readNumbers 5 (some .boolean) rmX8_readNumbers [.ref (gad g (84)), .int (nI (r0))] σ (fun r σ' => (∀ j n, ¬ (j = 92 ∨ j = 84 ∧ n = 2) → σ' j n = σ j n) ∧ ((r = nI 1 ∧ e < len ∧ σ' 84 2 = nI (e + 1) ∧ ∃ vs : List Nat, scan tx e (e + 1 - p) p 0 0 [] = some vs ∧ vs.length = r0 ∧ (∀ v ∈ vs, v < 100) ∧ ∀ i, i < r0 → σ' 92 i = nI (vs.getD i 0)) ∨ (r = nI 0 ∧ Bad tx len p e r0))) := by
  refine MJ_of (by decide) (Nat.le_of_ble_eq_true rfl) (List.forall_mem_cons.mpr ⟨rfl, List.forall_mem_cons.mpr ⟨rfl, fun _ h => absurd h List.not_mem_nil⟩⟩) ?_
  intro κ M
  have C := M.1
  show J g κ 5 0 [some (.ref (gad g (84))), some (.int (nI (r0))), none, none, none] [] σ
  obtain ⟨hE1, hE2, hE3, hE4⟩ := hE
  have lpI : ∀ (i st : Nat) (acc : List Nat), (∀ (at_ v : Nat) (σ1 : Sg), p ≤ at_ → st ≤ at_ → at_ ≤ e → v < 100 → (∀ j n, ¬ (j = 92 ∨ j = 84 ∧ n = 2) → σ1 j n = σ j n) → σ1 84 2 = nI at_ → (∀ j, j < i → σ1 92 j = nI (acc.getD j 0)) → scan tx e (e + 1 - p) p 0 0 [] = scan tx e (e + 1 - at_) at_ (at_ - st) v acc → ((at_ < len → ¬ (nI 48 ≤ tx at_ ∧ tx at_ ≤ nI 57)) ∨ at_ = st + 2) → J g κ 5 65 [some (.ref (gad g (84))), some (.int (nI (r0))), some (.int (nI (i))), some (.int (nI (st))), some (.int (nI (v)))] [] σ1) → ∀ (k at_ v : Nat) (σ1 : Sg), e - at_ = k → p ≤ st → st ≤ at_ → at_ ≤ e → at_ ≤ st + 2 → (at_ = st → v = 0) → v < 100 → (at_ = st + 1 → v < 10) → (∀ j n, ¬ (j = 92 ∨ j = 84 ∧ n = 2) → σ1 j n = σ j n) → σ1 84 2 = nI at_ → (∀ j, j < i → σ1 92 j = nI (acc.getD j 0)) → scan tx e (e + 1 - p) p 0 0 [] = scan tx e (e + 1 - at_) at_ (at_ - st) v acc → J g κ 5 15 [some (.ref (gad g (84))), some (.int (nI (r0))), some (.int (nI (i))), some (.int (nI (st))), some (.int (nI (v)))] [] σ1 := by
    intro i st acc kI k
    induction k using Nat.strongRecOn with
    | _ k ih =>
      intro at_ v σ1 hk hps hst hae hat hv0 hv hv1 hf h2 h92 hsc
      refine j_aload_n C dX8_readNumbers_15 rfl rfl ?_
      refine j_calli (As := []) (rest := []) C (tX8_isFigure hN (tx := tx) (len := len) (at_ := at_) ((hf _ _ (by omega)).trans hl) hlen (fun k hk => (hf _ _ (by omega)).trans (ht k hk)) h2 (by omega)) cdX8_isFigure mlX8_100 dX8_readNumbers_16 (by decide) (by decide) (Nat.lt_of_lt_of_le (by decide) hN) rfl rfl rfl rfl rfl (Nat.le_of_ble_eq_true rfl) (fun rr_2 τ1 hp_3 => ?_)
      obtain ⟨hs, hc⟩ := hp_3
      replace hs := hs.symm
      subst hs
      rcases hc with ⟨rfl, hfa, hf1, hf2⟩ | ⟨rfl, hnf⟩
      · refine j_ifn_eq (tgt := 65) C dX8_readNumbers_19 rfl (by omega) (fun h => absurd h (by decide)) (fun _ => ?_)
        refine j_aload_n C dX8_readNumbers_22 rfl rfl ?_
        refine j_get C flX8_90 dX8_readNumbers_23 (Nat.lt_of_lt_of_le (by decide) hN) rfl rfl ?_
        refine j_top (h2) ?_
        refine j_iload_n C dX8_readNumbers_26 rfl rfl ?_
        refine j_iconst (v := nI 2) C dX8_readNumbers_27 rfl ?_
        refine j_iadd C dX8_readNumbers_28 ?_
        refine j_top (nI_add _ _) ?_
        refine j_icmpn_ge (tgt := 65) C dX8_readNumbers_29 rfl (by omega) (by omega) (fun h29 => ?_) (fun h29 => ?_)
        · first | exact kI at_ v σ1 (by omega) hst hae hv hf h2 h92 hsc (Or.inl hnf) | exact kI at_ v σ1 (by omega) hst hae hv hf h2 h92 hsc (Or.inr (by omega))
        · have hdg := dig_lt hf1 hf2
          have hlt : at_ < e := by
            by_cases q : at_ < e
            · exact q
            · exfalso
              have q2 : at_ = e := by omega
              rw [q2, hE3 (by omega)] at hf2
              exact absurd hf2 (by decide)
          refine j_bipush (v := nI 10) C dX8_readNumbers_32 rfl ?_
          refine j_iload C dX8_readNumbers_34 rfl ?_
          refine j_imul C dX8_readNumbers_36 ?_
          refine j_top (pk_mul _ _) ?_
          refine j_aload_n C dX8_readNumbers_37 rfl rfl ?_
          refine j_get C flX8_7 dX8_readNumbers_38 (Nat.lt_of_lt_of_le (by decide) hN) rfl rfl ?_
          refine j_aload_n C dX8_readNumbers_41 rfl rfl ?_
          refine j_get C flX8_90 dX8_readNumbers_42 (Nat.lt_of_lt_of_le (by decide) hN) rfl rfl ?_
          refine j_top (h2) ?_
          refine j_iald C dX8_readNumbers_45 (Nat.lt_of_lt_of_le (by decide) hN) (fun _ => rfl) (by decide) (by omega) ?_
          refine j_top ((hf _ _ (by omega)).trans (ht at_ (by omega))) ?_
          refine j_iadd C dX8_readNumbers_46 ?_
          refine j_top rfl ?_
          refine j_bipush (v := nI 48) C dX8_readNumbers_47 rfl ?_
          refine j_isub C dX8_readNumbers_49 ?_
          refine j_top (dig_val hf1 hf2) ?_
          refine j_istore (L' := [some (.ref (gad g (84))), some (.int (nI (r0))), some (.int (nI (i))), some (.int (nI (st))), some (.int (nI (10 * v + ((tx at_).toInt - 48).toNat)))]) C dX8_readNumbers_50 (by decide) rfl ?_
          refine j_aload_n C dX8_readNumbers_52 rfl rfl ?_
          refine j_dup C dX8_readNumbers_53 rfl ?_
          refine j_get C flX8_90 dX8_readNumbers_54 (Nat.lt_of_lt_of_le (by decide) hN) rfl rfl ?_
          refine j_top (h2) ?_
          refine j_iconst (v := nI 1) C dX8_readNumbers_57 rfl ?_
          refine j_iadd C dX8_readNumbers_58 ?_
          refine j_top (nI_add _ _) ?_
          refine j_put' C fpX8_90 dX8_readNumbers_59 (Nat.lt_of_lt_of_le (by decide) hN) (fun _ => rfl) rfl (Nat.le_of_ble_eq_true rfl) rfl rfl (fun τ4 hz_5 hw_6 => ?_)
          refine j_goto (tgt := 15) C dX8_readNumbers_62 rfl ?_
          refine ih (e - (at_ + 1)) (by omega) (at_ + 1) (10 * v + ((tx at_).toInt - 48).toNat) τ4 rfl (by omega) (by omega) (by omega) (by omega) (fun q => by omega) (by omega) (fun q => by omega) (fun j n h => by rw [hz_5 _ _ (by omega)]; exact hf j n h) hw_6 (fun j hj => by rw [hz_5 _ _ (by omega)]; exact h92 j hj) ?_
          rw [hsc, scan_fig hlt hf1 hf2 (by omega), show at_ + 1 - st = at_ - st + 1 by omega]
      · refine j_ifn_eq (tgt := 65) C dX8_readNumbers_19 rfl (by omega) (fun _ => ?_) (fun h => absurd h (by decide))
        first | exact kI at_ v σ1 (by omega) hst hae hv hf h2 h92 hsc (Or.inl hnf) | exact kI at_ v σ1 (by omega) hst hae hv hf h2 h92 hsc (Or.inr (by omega))
  have lpO : ∀ (k i : Nat) (acc : List Nat) (st : Nat) (σ1 : Sg), r0 - i = k → i ≤ r0 → acc.length = i → (∀ v ∈ acc, v < 100) → (∀ j n, ¬ (j = 92 ∨ j = 84 ∧ n = 2) → σ1 j n = σ j n) → (∀ j, j < i → σ1 92 j = nI (acc.getD j 0)) → ((i < r0 ∧ p ≤ st ∧ st ≤ e ∧ σ1 84 2 = nI st ∧ scan tx e (e + 1 - p) p 0 0 [] = scan tx e (e + 1 - st) st 0 0 acc) ∨ (i = r0 ∧ e < len ∧ σ1 84 2 = nI (e + 1) ∧ scan tx e (e + 1 - p) p 0 0 [] = some acc)) → J g κ 5 2 [some (.ref (gad g (84))), some (.int (nI (r0))), some (.int (nI (i))), none, none] [] σ1 := by
    intro k
    induction k using Nat.strongRecOn with
    | _ k ih =>
      intro i acc st σ1 hk hi hacc hall hf h92 hcase
      refine j_iload_n C dX8_readNumbers_2 rfl rfl ?_
      refine j_iload_n C dX8_readNumbers_3 rfl rfl ?_
      refine j_icmpn_ge (tgt := 136) C dX8_readNumbers_4 rfl (by omega) (by omega) (fun h4 => ?_) (fun h4 => ?_)
      · refine j_iconst (v := nI 1) C dX8_readNumbers_136 rfl ?_
        refine j_retz M dX8_readNumbers_137 rfl ?_
        rcases hcase with q | ⟨q1, q2, q3, q4⟩
        · omega
        · exact ⟨hf, Or.inl ⟨rfl, q2, q3, acc, q4, by omega, hall, fun j hj => h92 j (by omega)⟩⟩
      · obtain ⟨-, hps, hse, h2, hsc⟩ : i < r0 ∧ p ≤ st ∧ st ≤ e ∧ σ1 84 2 = nI st ∧ scan tx e (e + 1 - p) p 0 0 [] = scan tx e (e + 1 - st) st 0 0 acc := by
          rcases hcase with q | q
          · exact q
          · omega
        refine j_aload_n C dX8_readNumbers_7 rfl rfl ?_
        refine j_get C flX8_90 dX8_readNumbers_8 (Nat.lt_of_lt_of_le (by decide) hN) rfl rfl ?_
        refine j_top (h2) ?_
        refine j_istore_n (L' := [some (.ref (gad g (84))), some (.int (nI (r0))), some (.int (nI (i))), some (.int (nI (st))), none]) C dX8_readNumbers_11 rfl (by decide) rfl ?_
        refine j_iconst (v := nI 0) C dX8_readNumbers_12 rfl ?_
        refine j_istore (L' := [some (.ref (gad g (84))), some (.int (nI (r0))), some (.int (nI (i))), some (.int (nI (st))), some (.int (nI (0)))]) C dX8_readNumbers_13 (by decide) rfl ?_
        refine lpI i st acc ?_ (e - st) st 0 σ1 rfl hps (Nat.le_refl _) hse (by omega) (fun _ => rfl) (by omega) (by omega) hf h2 h92 (by rw [hsc, Nat.sub_self])
        intro at_ v σ2 hpa hst2 hae2 hv hf2 h22 h922 hsc2 hstop
        refine j_aload_n C dX8_readNumbers_65 rfl rfl ?_
        refine j_get C flX8_90 dX8_readNumbers_66 (Nat.lt_of_lt_of_le (by decide) hN) rfl rfl ?_
        refine j_top (h22) ?_
        refine j_iload_n C dX8_readNumbers_69 rfl rfl ?_
        refine j_icmpn_eq (tgt := 110) C dX8_readNumbers_70 rfl (by omega) (by omega) (fun h70 => ?_) (fun h70 => ?_)
        · refine j_iconst (v := nI 0) C dX8_readNumbers_110 rfl ?_
          refine j_retz M dX8_readNumbers_111 rfl ?_
          refine ⟨hf2, Or.inr ⟨rfl, ?_⟩⟩
          by_cases hel : e = len
          · exact Or.inl hel
          refine Or.inr (fun vs hvs => ?_)
          rw [hsc2] at hvs
          by_cases hz : at_ = st
          · rw [show at_ - st = 0 by omega, scan_stop0 (by omega) (fun q => hstop.elim (fun z => z (by omega)) (fun z => by omega))] at hvs
            cases hvs
          by_cases hlt : at_ < e
          · by_cases h44 : tx at_ = nI 44
            · rw [scan_comma hlt h44 (by omega) (by omega)] at hvs
              have q := scan_len _ _ _ _ _ _ (by omega) hvs
              rw [List.length_append, if_neg (by omega)] at q
              have q1 : [v].length = 1 := rfl
              first | omega | (exfalso; exact h107 h44)
            · rw [scan_bad3 hlt h44 (hstop.elim (fun z => Or.inl (z (by omega))) (fun z => Or.inr (by omega)))] at hvs
              cases hvs
          · have q2 : at_ = e := by omega
            rw [q2, scan_fin (by omega) (by omega)] at hvs
            cases hvs
            rw [List.length_append, hacc]
            have q1 : [v].length = 1 := rfl
            have q3 := hE3 (by omega)
            rw [← q2] at q3
            first | omega | (exfalso; exact h107 q3)
        · refine j_aload_n C dX8_readNumbers_73 rfl rfl ?_
          refine j_get C flX8_90 dX8_readNumbers_74 (Nat.lt_of_lt_of_le (by decide) hN) rfl rfl ?_
          refine j_top (h22) ?_
          refine j_aload_n C dX8_readNumbers_77 rfl rfl ?_
          refine j_get C flX8_93 dX8_readNumbers_78 (Nat.lt_of_lt_of_le (by decide) hN) rfl rfl ?_
          refine j_top ((hf2 _ _ (by omega)).trans hl) ?_
          refine j_icmpn_eq (tgt := 110) C dX8_readNumbers_81 rfl (by omega) (by omega) (fun h81 => ?_) (fun h81 => ?_)
          · refine j_iconst (v := nI 0) C dX8_readNumbers_110 rfl ?_
            refine j_retz M dX8_readNumbers_111 rfl ?_
            refine ⟨hf2, Or.inr ⟨rfl, ?_⟩⟩
            by_cases hel : e = len
            · exact Or.inl hel
            refine Or.inr (fun vs hvs => ?_)
            rw [hsc2] at hvs
            by_cases hz : at_ = st
            · rw [show at_ - st = 0 by omega, scan_stop0 (by omega) (fun q => hstop.elim (fun z => z (by omega)) (fun z => by omega))] at hvs
              cases hvs
            by_cases hlt : at_ < e
            · by_cases h44 : tx at_ = nI 44
              · rw [scan_comma hlt h44 (by omega) (by omega)] at hvs
                have q := scan_len _ _ _ _ _ _ (by omega) hvs
                rw [List.length_append, if_neg (by omega)] at q
                have q1 : [v].length = 1 := rfl
                first | omega | (exfalso; exact h107 h44)
              · rw [scan_bad3 hlt h44 (hstop.elim (fun z => Or.inl (z (by omega))) (fun z => Or.inr (by omega)))] at hvs
                cases hvs
            · have q2 : at_ = e := by omega
              rw [q2, scan_fin (by omega) (by omega)] at hvs
              cases hvs
              rw [List.length_append, hacc]
              have q1 : [v].length = 1 := rfl
              have q3 := hE3 (by omega)
              rw [← q2] at q3
              first | omega | (exfalso; exact h107 q3)
          · refine j_aload_n C dX8_readNumbers_84 rfl rfl ?_
            refine j_get C flX8_7 dX8_readNumbers_85 (Nat.lt_of_lt_of_le (by decide) hN) rfl rfl ?_
            refine j_aload_n C dX8_readNumbers_88 rfl rfl ?_
            refine j_get C flX8_90 dX8_readNumbers_89 (Nat.lt_of_lt_of_le (by decide) hN) rfl rfl ?_
            refine j_top (h22) ?_
            refine j_iald C dX8_readNumbers_92 (Nat.lt_of_lt_of_le (by decide) hN) (fun _ => rfl) (by decide) (by omega) ?_
            refine j_top ((hf2 _ _ (by omega)).trans (ht at_ (by omega))) ?_
            refine j_iload_n C dX8_readNumbers_93 rfl rfl ?_
            refine j_iconst (v := nI 1) C dX8_readNumbers_94 rfl ?_
            refine j_iadd C dX8_readNumbers_95 ?_
            refine j_top (nI_add _ _) ?_
            refine j_iload_n C dX8_readNumbers_96 rfl rfl ?_
            refine j_icmpn_ne (tgt := 105) C dX8_readNumbers_97 rfl (by omega) (by omega) (fun h97 => ?_) (fun h97 => ?_)
            · refine j_bipush (v := nI 44) C dX8_readNumbers_105 rfl ?_
              refine j_icmp_eq (tgt := 112) C dX8_readNumbers_107 rfl (fun h107 => ?_) (fun h107 => ?_)
              · refine j_aload_n C dX8_readNumbers_112 rfl rfl ?_
                refine j_get C flX8_31 dX8_readNumbers_113 (Nat.lt_of_lt_of_le (by decide) hN) rfl rfl ?_
                refine j_iload_n C dX8_readNumbers_116 rfl rfl ?_
                refine j_iload C dX8_readNumbers_117 rfl ?_
                refine j_iast' C dX8_readNumbers_119 (Nat.lt_of_lt_of_le (by decide) hN) (fun _ => rfl) (by decide) (by omega) (fun τ61 hz_62 hw_63 => ?_)
                refine j_aload_n C dX8_readNumbers_120 rfl rfl ?_
                refine j_dup C dX8_readNumbers_121 rfl ?_
                refine j_get C flX8_90 dX8_readNumbers_122 (Nat.lt_of_lt_of_le (by decide) hN) rfl rfl ?_
                refine j_top ((hz_62 _ _ (by omega)).trans (h22)) ?_
                refine j_iconst (v := nI 1) C dX8_readNumbers_125 rfl ?_
                refine j_iadd C dX8_readNumbers_126 ?_
                refine j_top (nI_add _ _) ?_
                refine j_put' C fpX8_90 dX8_readNumbers_127 (Nat.lt_of_lt_of_le (by decide) hN) (fun _ => rfl) rfl (Nat.le_of_ble_eq_true rfl) rfl rfl (fun τ64 hz_65 hw_66 => ?_)
                refine j_iinc (L' := [some (.ref (gad g (84))), some (.int (nI (r0))), some (.int (nI (i + 1))), some (.int (nI (st))), some (.int (nI (v)))]) C dX8_readNumbers_130 rfl (nI_inc _) (by decide) rfl ?_
                refine j_goto (tgt := 2) C dX8_readNumbers_133 rfl ?_
                refine J_clr 3 (L' := [some (.ref (gad g (84))), some (.int (nI (r0))), some (.int (nI (i + 1))), none, some (.int (nI (v)))]) rfl ?_
                refine J_clr 4 (L' := [some (.ref (gad g (84))), some (.int (nI (r0))), some (.int (nI (i + 1))), none, none]) rfl ?_
                refine ih (r0 - (i + 1)) (by omega) (i + 1) (acc ++ [v]) (at_ + 1) τ64 rfl (by omega) (by rw [List.length_append, hacc]; rfl) (fun z hz => ?_) (fun j n h => by rw [hz_65 _ _ (by omega), hz_62 _ _ (by omega)]; exact hf2 j n h) (fun j hj => ?_) ?_
                · rcases List.mem_append.mp hz with q | q
                  · exact hall z q
                  · rw [List.mem_singleton.mp q]; exact hv
                · by_cases q : j = i
                  · subst q
                    rw [hz_65 _ _ (by omega), ← hacc, getD_snoc, hacc]; exact hw_63
                  · rw [hz_65 _ _ (by omega), hz_62 _ _ (by omega), getD_app (by omega)]; exact h922 j (by omega)
                · first
                    | (have q1 : i + 1 = r0 := by omega
                       have q2 : at_ = e := by
                         by_cases z : at_ < e
                         · exact absurd h107 (hE4 at_ (by omega) z)
                         · omega
                       refine Or.inr ⟨q1, by omega, ?_, ?_⟩
                       · rw [← q2]; exact hw_66
                       · rw [hsc2, q2, scan_fin (by omega) (by omega)])
                    | (have q2 : at_ < e := by
                         by_cases z : at_ < e
                         · exact z
                         · exfalso
                           have z2 : at_ = e := by omega
                           rw [z2, hE3 (by omega)] at h107
                           exact absurd h107 (by decide)
                       refine Or.inl ⟨by omega, by omega, by omega, hw_66, ?_⟩
                       rw [hsc2, scan_comma q2 h107 (by omega) (by omega)])
              · refine j_iconst (v := nI 0) C dX8_readNumbers_110 rfl ?_
                refine j_retz M dX8_readNumbers_111 rfl ?_
                refine ⟨hf2, Or.inr ⟨rfl, ?_⟩⟩
                by_cases hel : e = len
                · exact Or.inl hel
                refine Or.inr (fun vs hvs => ?_)
                rw [hsc2] at hvs
                by_cases hz : at_ = st
                · rw [show at_ - st = 0 by omega, scan_stop0 (by omega) (fun q => hstop.elim (fun z => z (by omega)) (fun z => by omega))] at hvs
                  cases hvs
                by_cases hlt : at_ < e
                · by_cases h44 : tx at_ = nI 44
                  · rw [scan_comma hlt h44 (by omega) (by omega)] at hvs
                    have q := scan_len _ _ _ _ _ _ (by omega) hvs
                    rw [List.length_append, if_neg (by omega)] at q
                    have q1 : [v].length = 1 := rfl
                    first | omega | (exfalso; exact h107 h44)
                  · rw [scan_bad3 hlt h44 (hstop.elim (fun z => Or.inl (z (by omega))) (fun z => Or.inr (by omega)))] at hvs
                    cases hvs
                · have q2 : at_ = e := by omega
                  rw [q2, scan_fin (by omega) (by omega)] at hvs
                  cases hvs
                  rw [List.length_append, hacc]
                  have q1 : [v].length = 1 := rfl
                  have q3 := hE3 (by omega)
                  rw [← q2] at q3
                  first | omega | (exfalso; exact h107 q3)
            · refine j_bipush (v := nI 59) C dX8_readNumbers_100 rfl ?_
              refine j_goto (tgt := 107) C dX8_readNumbers_102 rfl ?_
              refine j_icmp_eq (tgt := 112) C dX8_readNumbers_107 rfl (fun h107 => ?_) (fun h107 => ?_)
              · refine j_aload_n C dX8_readNumbers_112 rfl rfl ?_
                refine j_get C flX8_31 dX8_readNumbers_113 (Nat.lt_of_lt_of_le (by decide) hN) rfl rfl ?_
                refine j_iload_n C dX8_readNumbers_116 rfl rfl ?_
                refine j_iload C dX8_readNumbers_117 rfl ?_
                refine j_iast' C dX8_readNumbers_119 (Nat.lt_of_lt_of_le (by decide) hN) (fun _ => rfl) (by decide) (by omega) (fun τ67 hz_68 hw_69 => ?_)
                refine j_aload_n C dX8_readNumbers_120 rfl rfl ?_
                refine j_dup C dX8_readNumbers_121 rfl ?_
                refine j_get C flX8_90 dX8_readNumbers_122 (Nat.lt_of_lt_of_le (by decide) hN) rfl rfl ?_
                refine j_top ((hz_68 _ _ (by omega)).trans (h22)) ?_
                refine j_iconst (v := nI 1) C dX8_readNumbers_125 rfl ?_
                refine j_iadd C dX8_readNumbers_126 ?_
                refine j_top (nI_add _ _) ?_
                refine j_put' C fpX8_90 dX8_readNumbers_127 (Nat.lt_of_lt_of_le (by decide) hN) (fun _ => rfl) rfl (Nat.le_of_ble_eq_true rfl) rfl rfl (fun τ70 hz_71 hw_72 => ?_)
                refine j_iinc (L' := [some (.ref (gad g (84))), some (.int (nI (r0))), some (.int (nI (i + 1))), some (.int (nI (st))), some (.int (nI (v)))]) C dX8_readNumbers_130 rfl (nI_inc _) (by decide) rfl ?_
                refine j_goto (tgt := 2) C dX8_readNumbers_133 rfl ?_
                refine J_clr 3 (L' := [some (.ref (gad g (84))), some (.int (nI (r0))), some (.int (nI (i + 1))), none, some (.int (nI (v)))]) rfl ?_
                refine J_clr 4 (L' := [some (.ref (gad g (84))), some (.int (nI (r0))), some (.int (nI (i + 1))), none, none]) rfl ?_
                refine ih (r0 - (i + 1)) (by omega) (i + 1) (acc ++ [v]) (at_ + 1) τ70 rfl (by omega) (by rw [List.length_append, hacc]; rfl) (fun z hz => ?_) (fun j n h => by rw [hz_71 _ _ (by omega), hz_68 _ _ (by omega)]; exact hf2 j n h) (fun j hj => ?_) ?_
                · rcases List.mem_append.mp hz with q | q
                  · exact hall z q
                  · rw [List.mem_singleton.mp q]; exact hv
                · by_cases q : j = i
                  · subst q
                    rw [hz_71 _ _ (by omega), ← hacc, getD_snoc, hacc]; exact hw_69
                  · rw [hz_71 _ _ (by omega), hz_68 _ _ (by omega), getD_app (by omega)]; exact h922 j (by omega)
                · first
                    | (have q1 : i + 1 = r0 := by omega
                       have q2 : at_ = e := by
                         by_cases z : at_ < e
                         · exact absurd h107 (hE4 at_ (by omega) z)
                         · omega
                       refine Or.inr ⟨q1, by omega, ?_, ?_⟩
                       · rw [← q2]; exact hw_72
                       · rw [hsc2, q2, scan_fin (by omega) (by omega)])
                    | (have q2 : at_ < e := by
                         by_cases z : at_ < e
                         · exact z
                         · exfalso
                           have z2 : at_ = e := by omega
                           rw [z2, hE3 (by omega)] at h107
                           exact absurd h107 (by decide)
                       refine Or.inl ⟨by omega, by omega, by omega, hw_72, ?_⟩
                       rw [hsc2, scan_comma q2 h107 (by omega) (by omega)])
              · refine j_iconst (v := nI 0) C dX8_readNumbers_110 rfl ?_
                refine j_retz M dX8_readNumbers_111 rfl ?_
                refine ⟨hf2, Or.inr ⟨rfl, ?_⟩⟩
                by_cases hel : e = len
                · exact Or.inl hel
                refine Or.inr (fun vs hvs => ?_)
                rw [hsc2] at hvs
                by_cases hz : at_ = st
                · rw [show at_ - st = 0 by omega, scan_stop0 (by omega) (fun q => hstop.elim (fun z => z (by omega)) (fun z => by omega))] at hvs
                  cases hvs
                by_cases hlt : at_ < e
                · by_cases h44 : tx at_ = nI 44
                  · rw [scan_comma hlt h44 (by omega) (by omega)] at hvs
                    have q := scan_len _ _ _ _ _ _ (by omega) hvs
                    rw [List.length_append, if_neg (by omega)] at q
                    have q1 : [v].length = 1 := rfl
                    first | omega | (exfalso; exact h107 h44)
                  · rw [scan_bad3 hlt h44 (hstop.elim (fun z => Or.inl (z (by omega))) (fun z => Or.inr (by omega)))] at hvs
                    cases hvs
                · have q2 : at_ = e := by omega
                  rw [q2, scan_fin (by omega) (by omega)] at hvs
                  cases hvs
                  rw [List.length_append, hacc]
                  have q1 : [v].length = 1 := rfl
                  have q3 := hE3 (by omega)
                  rw [← q2] at q3
                  first | omega | (exfalso; exact h107 q3)
  refine j_iconst (v := nI 0) C dX8_readNumbers_0 rfl ?_
  refine j_istore_n (L' := [some (.ref (gad g (84))), some (.int (nI (r0))), some (.int (nI (0))), none, none]) C dX8_readNumbers_1 rfl (by decide) rfl ?_
  exact lpO (r0 - 0) 0 [] p σ rfl (by omega) rfl (fun _ h => absurd h List.not_mem_nil) (fun _ _ _ => rfl) (fun j hj => by omega) (Or.inl ⟨by omega, by omega, hE1, ha, rfl⟩)
