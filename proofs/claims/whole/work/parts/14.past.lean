set_option maxHeartbeats 4000000 in
set_option maxRecDepth 100000 in
theorem tX6_begin {g : jG} (hN : 84 ≤ gN g) {σ : Sg} {m : Nat} (hm : σ 3 1 = nI m) (hm12 : m ≤ 12) : MS g yX6_begin cX6_begin 3 none rmX6_begin [.ref (gad g (48)), .ref (gad g (3))] σ (fun r σ' => (∀ j n, ¬ (48 ≤ j ∧ j ≤ 50) → σ' j n = σ j n) ∧ σ' 48 0 = nI m ∧ σ' 48 4 = nI 0 ∧ σ' 48 5 = nI 0 ∧ (∀ l, l < m → σ' 49 l = σ 7 l ∧ σ' 50 l = bI true)) := by
  refine MJ_of (by decide) (Nat.le_of_ble_eq_true rfl) (List.forall_mem_cons.mpr ⟨rfl, List.forall_mem_cons.mpr ⟨rfl, fun _ h => absurd h List.not_mem_nil⟩⟩) ?_
  intro κ M
  have C := M.1
  show J g κ 3 0 [some (.ref (gad g (48))), some (.ref (gad g (3))), none] [] σ
  have lp : ∀ (k : Nat) (l : Nat) (σ1 : Sg), m - l = k → l ≤ m → (∀ j n, ¬ (48 ≤ j ∧ j ≤ 50) → σ1 j n = σ j n) → σ1 48 0 = nI m → (∀ x, x < l → σ1 49 x = σ 7 x ∧ σ1 50 x = bI true) → J g κ 3 10 [some (.ref (gad g (48))), some (.ref (gad g (3))), some (.int (nI (l)))] [] σ1 := by
    intro k
    induction k using Nat.strongRecOn with
    | _ k ih =>
      intro l σ1 hk hl hf h0 hz
      refine j_iload_n C dX6_begin_10 rfl rfl ?_
      refine j_aload_n C dX6_begin_11 rfl rfl ?_
      refine j_get C flX6_28 dX6_begin_12 (Nat.lt_of_lt_of_le (by decide) hN) rfl rfl ?_
      refine j_top (h0) ?_
      refine j_icmpn_ge (tgt := 43) C dX6_begin_15 rfl (by omega) (by omega) (fun h15 => ?_) (fun h15 => ?_)
      · refine j_aload_n C dX6_begin_43 rfl rfl ?_
        refine j_iconst (v := nI 0) C dX6_begin_44 rfl ?_
        refine j_put' C fpX6_32 dX6_begin_45 (Nat.lt_of_lt_of_le (by decide) hN) (fun _ => rfl) rfl (Nat.le_of_ble_eq_true rfl) rfl rfl (fun τ1 hz_2 hw_3 => ?_)
        refine j_aload_n C dX6_begin_48 rfl rfl ?_
        refine j_iconst (v := nI 0) C dX6_begin_49 rfl ?_
        refine j_put' C fpX6_35 dX6_begin_50 (Nat.lt_of_lt_of_le (by decide) hN) (fun _ => rfl) rfl (Nat.le_of_ble_eq_true rfl) rfl rfl (fun τ4 hz_5 hw_6 => ?_)
        refine j_retv M dX6_begin_53 ?_
        refine ⟨fun j n h => by rw [hz_5 _ _ (by omega), hz_2 _ _ (by omega)]; exact hf j n h, by rw [hz_5 _ _ (by omega), hz_2 _ _ (by omega)]; exact h0, by rw [hz_5 _ _ (by omega)]; assumption, by assumption, fun x hx => ?_⟩
        rw [hz_5 _ _ (by omega), hz_2 _ _ (by omega), hz_5 _ _ (by omega), hz_2 _ _ (by omega)]; exact hz x (by omega)
      · refine j_aload_n C dX6_begin_18 rfl rfl ?_
        refine j_get C flX6_9 dX6_begin_19 (Nat.lt_of_lt_of_le (by decide) hN) rfl rfl ?_
        refine j_iload_n C dX6_begin_22 rfl rfl ?_
        refine j_aload_n C dX6_begin_23 rfl rfl ?_
        refine j_get C flX6_29 dX6_begin_24 (Nat.lt_of_lt_of_le (by decide) hN) rfl rfl ?_
        refine j_iload_n C dX6_begin_27 rfl rfl ?_
        refine j_iald C dX6_begin_28 (Nat.lt_of_lt_of_le (by decide) hN) (fun _ => rfl) (by decide) (by omega) ?_
        refine j_top (hf _ _ (by omega)) ?_
        refine j_iast' C dX6_begin_29 (Nat.lt_of_lt_of_le (by decide) hN) (fun _ => rfl) (by decide) (by omega) (fun τ7 hz_8 hw_9 => ?_)
        refine j_aload_n C dX6_begin_30 rfl rfl ?_
        refine j_get C flX6_15 dX6_begin_31 (Nat.lt_of_lt_of_le (by decide) hN) rfl rfl ?_
        refine j_iload_n C dX6_begin_34 rfl rfl ?_
        refine j_iconst (v := nI 1) C dX6_begin_35 rfl ?_
        refine j_zast' C dX6_begin_36 (Nat.lt_of_lt_of_le (by decide) hN) (fun _ => rfl) (by decide) (by omega) rfl (fun τ10 hz_11 hw_12 => ?_)
        refine j_iinc (L' := [some (.ref (gad g (48))), some (.ref (gad g (3))), some (.int (nI (l + 1)))]) C dX6_begin_37 rfl (nI_inc _) (by decide) rfl ?_
        refine j_goto (tgt := 10) C dX6_begin_40 rfl ?_
        refine ih (m - (l + 1)) (by omega) (l + 1) τ10 rfl (by omega) (fun j n h => by rw [hz_11 _ _ (by omega), hz_8 _ _ (by omega)]; exact hf j n h) (by rw [hz_11 _ _ (by omega), hz_8 _ _ (by omega)]; exact h0) (fun x hx => ?_)
        by_cases e : x = l
        · subst e
          refine ⟨?_, by assumption⟩
          rw [hz_11 _ _ (by omega)]; assumption
        · rw [hz_11 _ _ (by omega), hz_8 _ _ (by omega), hz_11 _ _ (by omega), hz_8 _ _ (by omega)]; exact hz x (by omega)
  refine j_aload_n C dX6_begin_0 rfl rfl ?_
  refine j_aload_n C dX6_begin_1 rfl rfl ?_
  refine j_get C flX6_22 dX6_begin_2 (Nat.lt_of_lt_of_le (by decide) hN) rfl rfl ?_
  refine j_top (hm) ?_
  refine j_put' C fpX6_28 dX6_begin_5 (Nat.lt_of_lt_of_le (by decide) hN) (fun _ => rfl) rfl (Nat.le_of_ble_eq_true rfl) rfl rfl (fun τ1 hz_2 hw_3 => ?_)
  refine j_iconst (v := nI 0) C dX6_begin_8 rfl ?_
  refine j_istore_n (L' := [some (.ref (gad g (48))), some (.ref (gad g (3))), some (.int (nI (0)))]) C dX6_begin_9 rfl (by decide) rfl ?_
  exact lp (m - 0) 0 τ1 rfl (by omega) (fun j n h => by rw [hz_2 _ _ (by omega)]) (by assumption) (fun x hx => by omega)
set_option maxHeartbeats 4000000 in
set_option maxRecDepth 100000 in
theorem tX6_copyFrom {g : jG} (hN : 84 ≤ gN g) {σ : Sg} {i c : Nat} (hi : i < 9) (hc : c < 9) (hic : i ≠ c) : MS g yX6_copyFrom cX6_copyFrom 3 none rmX6_copyFrom [.ref (gad g (48 + 4 * i)), .ref (gad g (48 + 4 * c))] σ (fun r σ' => (∀ j n, ¬ (48 + 4 * i ≤ j ∧ j ≤ 48 + 4 * i + 3) → σ' j n = σ j n) ∧ σ' (48 + 4 * i) 0 = σ (48 + 4 * c) 0 ∧ σ' (48 + 4 * i) 4 = σ (48 + 4 * c) 4 ∧ σ' (48 + 4 * i) 5 = σ (48 + 4 * c) 5 ∧ σ' (48 + 4 * i) 6 = σ (48 + 4 * c) 6 ∧ (∀ l, l < 12 → σ' (48 + 4 * i + 1) l = σ (48 + 4 * c + 1) l ∧ σ' (48 + 4 * i + 2) l = vp_nar .boolean (σ (48 + 4 * c + 2) l)) ∧ (∀ l, l < 6 → σ' (48 + 4 * i + 3) l = σ (48 + 4 * c + 3) l)) := by
  refine MJ_of (by decide) (Nat.le_of_ble_eq_true rfl) (List.forall_mem_cons.mpr ⟨rfl, List.forall_mem_cons.mpr ⟨rfl, fun _ h => absurd h List.not_mem_nil⟩⟩) ?_
  intro κ M
  have C := M.1
  show J g κ 3 0 [some (.ref (gad g (48 + 4 * i))), some (.ref (gad g (48 + 4 * c))), none] [] σ
  have lp2 : ∀ (k : Nat) (l : Nat) (σ1 : Sg), 6 - l = k → l ≤ 6 → (∀ j n, ¬ (48 + 4 * i ≤ j ∧ j ≤ 48 + 4 * i + 3) → σ1 j n = σ j n) → σ1 (48 + 4 * i) 0 = σ (48 + 4 * c) 0 → (∀ x, x < 12 → σ1 (48 + 4 * i + 1) x = σ (48 + 4 * c + 1) x ∧ σ1 (48 + 4 * i + 2) x = vp_nar .boolean (σ (48 + 4 * c + 2) x)) → (∀ x, x < l → σ1 (48 + 4 * i + 3) x = σ (48 + 4 * c + 3) x) → J g κ 3 48 [some (.ref (gad g (48 + 4 * i))), some (.ref (gad g (48 + 4 * c))), some (.int (nI (l)))] [] σ1 := by
    intro k
    induction k using Nat.strongRecOn with
    | _ k ih =>
      intro l σ1 hk hl hf h0 hw hz
      refine j_iload_n C dX6_copyFrom_48 rfl rfl ?_
      refine j_bipush (v := nI 6) C dX6_copyFrom_49 rfl ?_
      refine j_icmpn_ge (tgt := 72) C dX6_copyFrom_51 rfl (by omega) (by omega) (fun h51 => ?_) (fun h51 => ?_)
      · refine j_aload_n C dX6_copyFrom_72 rfl rfl ?_
        refine j_aload_n C dX6_copyFrom_73 rfl rfl ?_
        refine j_get C flX6_32 dX6_copyFrom_74 (by omega) (cf_st (by omega) _) rfl ?_
        refine j_top (hf _ _ (by omega)) ?_
        refine j_put' C fpX6_32 dX6_copyFrom_77 (by omega) (fun f => cf_st (by omega) f) rfl (Nat.le_of_ble_eq_true rfl) rfl rfl (fun τ1 hz_2 hw_3 => ?_)
        refine j_aload_n C dX6_copyFrom_80 rfl rfl ?_
        refine j_aload_n C dX6_copyFrom_81 rfl rfl ?_
        refine j_get C flX6_35 dX6_copyFrom_82 (by omega) (cf_st (by omega) _) rfl ?_
        refine j_top ((hz_2 _ _ (by omega)).trans (hf _ _ (by omega))) ?_
        refine j_put' C fpX6_35 dX6_copyFrom_85 (by omega) (fun f => cf_st (by omega) f) rfl (Nat.le_of_ble_eq_true rfl) rfl rfl (fun τ4 hz_5 hw_6 => ?_)
        refine j_aload_n C dX6_copyFrom_88 rfl rfl ?_
        refine j_aload_n C dX6_copyFrom_89 rfl rfl ?_
        refine j_get C flX6_38 dX6_copyFrom_90 (by omega) (cf_st (by omega) _) rfl ?_
        refine j_top ((hz_5 _ _ (by omega)).trans ((hz_2 _ _ (by omega)).trans (hf _ _ (by omega)))) ?_
        refine j_put' C fpX6_38 dX6_copyFrom_93 (by omega) (fun f => cf_st (by omega) f) rfl (Nat.le_of_ble_eq_true rfl) rfl rfl (fun τ7 hz_8 hw_9 => ?_)
        refine j_retv M dX6_copyFrom_96 ?_
        refine ⟨fun j n h => by rw [hz_8 _ _ (by omega), hz_5 _ _ (by omega), hz_2 _ _ (by omega)]; exact hf j n h, by rw [hz_8 _ _ (by omega), hz_5 _ _ (by omega), hz_2 _ _ (by omega)]; exact h0, by rw [hz_8 _ _ (by omega), hz_5 _ _ (by omega)]; assumption, by rw [hz_8 _ _ (by omega)]; assumption, by assumption, fun x hx => by rw [hz_8 _ _ (by omega), hz_5 _ _ (by omega), hz_2 _ _ (by omega), hz_8 _ _ (by omega), hz_5 _ _ (by omega), hz_2 _ _ (by omega)]; exact hw x hx, fun x hx => by rw [hz_8 _ _ (by omega), hz_5 _ _ (by omega), hz_2 _ _ (by omega)]; exact hz x (by omega)⟩
      · refine j_aload_n C dX6_copyFrom_54 rfl rfl ?_
        refine j_get C flX6_19 dX6_copyFrom_55 (by omega) (cf_st (by omega) _) rfl ?_
        refine j_iload_n C dX6_copyFrom_58 rfl rfl ?_
        refine j_aload_n C dX6_copyFrom_59 rfl rfl ?_
        refine j_get C flX6_19 dX6_copyFrom_60 (by omega) (cf_st (by omega) _) rfl ?_
        refine j_iload_n C dX6_copyFrom_63 rfl rfl ?_
        refine j_iald C dX6_copyFrom_64 (by omega) (cf_st3 (by omega)) (by decide) (by omega) ?_
        refine j_top (hf _ _ (by omega)) ?_
        refine j_iast' C dX6_copyFrom_65 (by omega) (cf_st3 (by omega)) (by decide) (by omega) (fun τ10 hz_11 hw_12 => ?_)
        refine j_iinc (L' := [some (.ref (gad g (48 + 4 * i))), some (.ref (gad g (48 + 4 * c))), some (.int (nI (l + 1)))]) C dX6_copyFrom_66 rfl (nI_inc _) (by decide) rfl ?_
        refine j_goto (tgt := 48) C dX6_copyFrom_69 rfl ?_
        refine ih (6 - (l + 1)) (by omega) (l + 1) τ10 rfl (by omega) (fun j n h => by rw [hz_11 _ _ (by omega)]; exact hf j n h) (by rw [hz_11 _ _ (by omega)]; exact h0) (fun x hx => by rw [hz_11 _ _ (by omega), hz_11 _ _ (by omega)]; exact hw x hx) (fun x hx => ?_)
        by_cases e : x = l
        · subst e; assumption
        · rw [hz_11 _ _ (by omega)]; exact hz x (by omega)
  have lp1 : ∀ (k : Nat) (l : Nat) (σ1 : Sg), 12 - l = k → l ≤ 12 → (∀ j n, ¬ (48 + 4 * i ≤ j ∧ j ≤ 48 + 4 * i + 3) → σ1 j n = σ j n) → σ1 (48 + 4 * i) 0 = σ (48 + 4 * c) 0 → (∀ x, x < l → σ1 (48 + 4 * i + 1) x = σ (48 + 4 * c + 1) x ∧ σ1 (48 + 4 * i + 2) x = vp_nar .boolean (σ (48 + 4 * c + 2) x)) → J g κ 3 10 [some (.ref (gad g (48 + 4 * i))), some (.ref (gad g (48 + 4 * c))), some (.int (nI (l)))] [] σ1 := by
    intro k
    induction k using Nat.strongRecOn with
    | _ k ih =>
      intro l σ1 hk hl hf h0 hw
      refine j_iload_n C dX6_copyFrom_10 rfl rfl ?_
      refine j_bipush (v := nI 12) C dX6_copyFrom_11 rfl ?_
      refine j_icmpn_ge (tgt := 46) C dX6_copyFrom_13 rfl (by omega) (by omega) (fun h13 => ?_) (fun h13 => ?_)
      · refine j_iconst (v := nI 0) C dX6_copyFrom_46 rfl ?_
        refine j_istore_n (L' := [some (.ref (gad g (48 + 4 * i))), some (.ref (gad g (48 + 4 * c))), some (.int (nI (0)))]) C dX6_copyFrom_47 rfl (by decide) rfl ?_
        exact lp2 (6 - 0) 0 σ1 rfl (by omega) hf h0 (fun x hx => hw x (by omega)) (fun x hx => by omega)
      · refine j_aload_n C dX6_copyFrom_16 rfl rfl ?_
        refine j_get C flX6_9 dX6_copyFrom_17 (by omega) (cf_st (by omega) _) rfl ?_
        refine j_iload_n C dX6_copyFrom_20 rfl rfl ?_
        refine j_aload_n C dX6_copyFrom_21 rfl rfl ?_
        refine j_get C flX6_9 dX6_copyFrom_22 (by omega) (cf_st (by omega) _) rfl ?_
        refine j_iload_n C dX6_copyFrom_25 rfl rfl ?_
        refine j_iald C dX6_copyFrom_26 (by omega) (cf_st1 (by omega)) (by decide) (by omega) ?_
        refine j_top (hf _ _ (by omega)) ?_
        refine j_iast' C dX6_copyFrom_27 (by omega) (cf_st1 (by omega)) (by decide) (by omega) (fun τ1 hz_2 hw_3 => ?_)
        refine j_aload_n C dX6_copyFrom_28 rfl rfl ?_
        refine j_get C flX6_15 dX6_copyFrom_29 (by omega) (cf_st (by omega) _) rfl ?_
        refine j_iload_n C dX6_copyFrom_32 rfl rfl ?_
        refine j_aload_n C dX6_copyFrom_33 rfl rfl ?_
        refine j_get C flX6_15 dX6_copyFrom_34 (by omega) (cf_st (by omega) _) rfl ?_
        refine j_iload_n C dX6_copyFrom_37 rfl rfl ?_
        refine j_zald C dX6_copyFrom_38 (by omega) (cf_st2 (by omega)) (by decide) (by omega) ?_
        refine j_top ((hz_2 _ _ (by omega)).trans (hf _ _ (by omega))) ?_
        refine j_zastG C dX6_copyFrom_39 (by omega) (cf_st2 (by omega)) (by decide) (by omega) (fun τ4 hz_5 hw_6 => ?_)
        refine j_iinc (L' := [some (.ref (gad g (48 + 4 * i))), some (.ref (gad g (48 + 4 * c))), some (.int (nI (l + 1)))]) C dX6_copyFrom_40 rfl (nI_inc _) (by decide) rfl ?_
        refine j_goto (tgt := 10) C dX6_copyFrom_43 rfl ?_
        refine ih (12 - (l + 1)) (by omega) (l + 1) τ4 rfl (by omega) (fun j n h => by rw [hz_5 _ _ (by omega), hz_2 _ _ (by omega)]; exact hf j n h) (by rw [hz_5 _ _ (by omega), hz_2 _ _ (by omega)]; exact h0) (fun x hx => ?_)
        by_cases e : x = l
        · subst e
          refine ⟨?_, by assumption⟩
          rw [hz_5 _ _ (by omega)]; assumption
        · rw [hz_5 _ _ (by omega), hz_2 _ _ (by omega), hz_5 _ _ (by omega), hz_2 _ _ (by omega)]; exact hw x (by omega)
  refine j_aload_n C dX6_copyFrom_0 rfl rfl ?_
  refine j_aload_n C dX6_copyFrom_1 rfl rfl ?_
  refine j_get C flX6_28 dX6_copyFrom_2 (by omega) (cf_st (by omega) _) rfl ?_
  refine j_put' C fpX6_28 dX6_copyFrom_5 (by omega) (fun f => cf_st (by omega) f) rfl (Nat.le_of_ble_eq_true rfl) rfl rfl (fun τ1 hz_2 hw_3 => ?_)
  refine j_iconst (v := nI 0) C dX6_copyFrom_8 rfl ?_
  refine j_istore_n (L' := [some (.ref (gad g (48 + 4 * i))), some (.ref (gad g (48 + 4 * c))), some (.int (nI (0)))]) C dX6_copyFrom_9 rfl (by decide) rfl ?_
  exact lp1 (12 - 0) 0 τ1 rfl (by omega) (fun j n h => by rw [hz_2 _ _ (by omega)]) (by assumption) (fun x hx => by omega)
set_option maxHeartbeats 4000000 in
set_option maxRecDepth 100000 in
theorem tX4_keep {g : jG} (hN : 84 ≤ gN g) {σ : Sg} {nx ct : Nat} (hx : σ 45 1 = nI nx) (hx6 : nx < 6) (hc : σ 45 2 = nI ct) (hc6 : ct ≤ 6) : MS g yX4_keep cX4_keep 2 none rmX4_keep [.ref (gad g (45)), .ref (gad g (48))] σ (fun r σ' => (∀ j n, ¬ (j = 45 ∧ (n = 1 ∨ n = 2) ∨ 48 + 4 * (3 + nx) ≤ j ∧ j ≤ 48 + 4 * (3 + nx) + 3) → σ' j n = σ j n) ∧ σ' 45 1 = nI ((nx + 1) % 6) ∧ σ' 45 2 = nI (min (ct + 1) 6) ∧ (σ' (48 + 4 * (3 + nx)) 0 = σ 48 0 ∧ σ' (48 + 4 * (3 + nx)) 4 = σ 48 4 ∧ σ' (48 + 4 * (3 + nx)) 5 = σ 48 5 ∧ σ' (48 + 4 * (3 + nx)) 6 = σ 48 6 ∧ (∀ l, l < 12 → σ' (48 + 4 * (3 + nx) + 1) l = σ 49 l ∧ σ' (48 + 4 * (3 + nx) + 2) l = vp_nar .boolean (σ 50 l)) ∧ (∀ l, l < 6 → σ' (48 + 4 * (3 + nx) + 3) l = σ 51 l))) := by
  refine MJ_of (by decide) (Nat.le_of_ble_eq_true rfl) (List.forall_mem_cons.mpr ⟨rfl, List.forall_mem_cons.mpr ⟨rfl, fun _ h => absurd h List.not_mem_nil⟩⟩) ?_
  intro κ M
  have C := M.1
  show J g κ 2 0 [some (.ref (gad g (45))), some (.ref (gad g (48)))] [] σ
  refine j_aload_n C dX4_keep_0 rfl rfl ?_
  refine j_get C flX4_11 dX4_keep_1 (Nat.lt_of_lt_of_le (by decide) hN) rfl rfl ?_
  refine j_aload_n C dX4_keep_4 rfl rfl ?_
  refine j_get C flX4_18 dX4_keep_5 (Nat.lt_of_lt_of_le (by decide) hN) rfl rfl ?_
  refine j_top (hx) ?_
  refine j_qald (p := 48 + 4 * (3 + nx)) C (by omega) dX4_keep_8 (Nat.lt_of_lt_of_le (by decide) hN) (fun _ => rfl) (by decide) (by omega) ?_
  refine j_aload_n C dX4_keep_9 rfl rfl ?_
  refine j_callv (As := [.ref (gad g (48))]) (rest := []) C (tX6_copyFrom (i := 3 + nx) (c := 0) hN (by omega) (by omega) (by omega)) cdX6_copyFrom mlX4_22 dX4_keep_10 (by decide) (by decide) (by omega) (cf_st (by omega) _) rfl rfl rfl rfl (Nat.le_of_ble_eq_true rfl) (fun τ1 hp_3 => ?_)
  obtain ⟨hf0, hcp⟩ := hp_3
  refine j_aload_n C dX4_keep_13 rfl rfl ?_
  refine j_aload_n C dX4_keep_14 rfl rfl ?_
  refine j_get C flX4_18 dX4_keep_15 (Nat.lt_of_lt_of_le (by decide) hN) rfl rfl ?_
  refine j_top ((hf0 _ _ (by omega)).trans (hx)) ?_
  refine j_iconst (v := nI 1) C dX4_keep_18 rfl ?_
  refine j_iadd C dX4_keep_19 ?_
  refine j_top (nI_add _ _) ?_
  refine j_bipush (v := nI 6) C dX4_keep_20 rfl ?_
  refine j_irem C dX4_keep_22 (by decide) ?_
  refine j_top (pk_rem (by omega) (by decide) (by decide)) ?_
  refine j_put' C fpX4_18 dX4_keep_23 (Nat.lt_of_lt_of_le (by decide) hN) (fun _ => rfl) rfl (Nat.le_of_ble_eq_true rfl) rfl rfl (fun τ4 hz_5 hw_6 => ?_)
  refine j_aload_n C dX4_keep_26 rfl rfl ?_
  refine j_aload_n C dX4_keep_27 rfl rfl ?_
  refine j_get C flX4_26 dX4_keep_28 (Nat.lt_of_lt_of_le (by decide) hN) rfl rfl ?_
  refine j_top ((hz_5 _ _ (by omega)).trans ((hf0 _ _ (by omega)).trans (hc))) ?_
  refine j_iconst (v := nI 1) C dX4_keep_31 rfl ?_
  refine j_iadd C dX4_keep_32 ?_
  refine j_top (nI_add _ _) ?_
  refine j_bipush (v := nI 6) C dX4_keep_33 rfl ?_
  refine j_min C mmX4_29 dX4_keep_35 (by decide) (Nat.le_of_ble_eq_true rfl) ?_
  refine j_top (nI_min (by omega) (by decide)) ?_
  refine j_put' C fpX4_26 dX4_keep_38 (Nat.lt_of_lt_of_le (by decide) hN) (fun _ => rfl) rfl (Nat.le_of_ble_eq_true rfl) rfl rfl (fun τ7 hz_8 hw_9 => ?_)
  refine j_retv M dX4_keep_41 ?_
  obtain ⟨q1, q2, q3, q4, q5, q6⟩ := hcp
  refine ⟨fun j n h => by rw [hz_8 _ _ (by omega), hz_5 _ _ (by omega), hf0 _ _ (by omega)], by rw [hz_8 _ _ (by omega)]; assumption, by assumption, by rw [hz_8 _ _ (by omega), hz_5 _ _ (by omega)]; exact q1, by rw [hz_8 _ _ (by omega), hz_5 _ _ (by omega)]; exact q2, by rw [hz_8 _ _ (by omega), hz_5 _ _ (by omega)]; exact q3, by rw [hz_8 _ _ (by omega), hz_5 _ _ (by omega)]; exact q4, fun l hl => by rw [hz_8 _ _ (by omega), hz_5 _ _ (by omega), hz_8 _ _ (by omega), hz_5 _ _ (by omega)]; exact q5 l hl, fun l hl => by rw [hz_8 _ _ (by omega), hz_5 _ _ (by omega)]; exact q6 l hl⟩
set_option maxHeartbeats 4000000 in
set_option maxRecDepth 100000 in
theorem tX4_giveBack {g : jG} (hN : 84 ≤ gN g) {σ : Sg} {nx ct : Nat} (hx : σ 45 1 = nI nx) (hx6 : nx < 6) (hc : σ 45 2 = nI ct) (hc6 : ct ≤ 6) : MS g yX4_giveBack cX4_giveBack 2 (some .boolean) rmX4_giveBack [.ref (gad g (45)), .ref (gad g (48))] σ (fun r σ' => (ct = 0 ∧ r = nI 0 ∧ σ' = σ) ∨ (0 < ct ∧ r = nI 1 ∧ (∀ j n, ¬ (j = 45 ∧ (n = 1 ∨ n = 2) ∨ 48 ≤ j ∧ j ≤ 51) → σ' j n = σ j n) ∧ σ' 45 1 = nI ((nx + 6 - 1) % 6) ∧ σ' 45 2 = nI (ct - 1) ∧ (σ' 48 0 = σ (48 + 4 * (3 + (nx + 6 - 1) % 6)) 0 ∧ σ' 48 4 = σ (48 + 4 * (3 + (nx + 6 - 1) % 6)) 4 ∧ σ' 48 5 = σ (48 + 4 * (3 + (nx + 6 - 1) % 6)) 5 ∧ σ' 48 6 = σ (48 + 4 * (3 + (nx + 6 - 1) % 6)) 6 ∧ (∀ l, l < 12 → σ' 49 l = σ (48 + 4 * (3 + (nx + 6 - 1) % 6) + 1) l ∧ σ' 50 l = vp_nar .boolean (σ (48 + 4 * (3 + (nx + 6 - 1) % 6) + 2) l)) ∧ (∀ l, l < 6 → σ' 51 l = σ (48 + 4 * (3 + (nx + 6 - 1) % 6) + 3) l)))) := by
  refine MJ_of (by decide) (Nat.le_of_ble_eq_true rfl) (List.forall_mem_cons.mpr ⟨rfl, List.forall_mem_cons.mpr ⟨rfl, fun _ h => absurd h List.not_mem_nil⟩⟩) ?_
  intro κ M
  have C := M.1
  show J g κ 2 0 [some (.ref (gad g (45))), some (.ref (gad g (48)))] [] σ
  refine j_aload_n C dX4_giveBack_0 rfl rfl ?_
  refine j_get C flX4_26 dX4_giveBack_1 (Nat.lt_of_lt_of_le (by decide) hN) rfl rfl ?_
  refine j_top (hc) ?_
  refine j_ifn_ne (tgt := 9) C dX4_giveBack_4 rfl (by omega) (fun h4 => ?_) (fun h4 => ?_)
  · refine j_aload_n C dX4_giveBack_9 rfl rfl ?_
    refine j_aload_n C dX4_giveBack_10 rfl rfl ?_
    refine j_get C flX4_18 dX4_giveBack_11 (Nat.lt_of_lt_of_le (by decide) hN) rfl rfl ?_
    refine j_top (hx) ?_
    refine j_bipush (v := nI 6) C dX4_giveBack_14 rfl ?_
    refine j_iadd C dX4_giveBack_16 ?_
    refine j_top (nI_add _ _) ?_
    refine j_iconst (v := nI 1) C dX4_giveBack_17 rfl ?_
    refine j_isub C dX4_giveBack_18 ?_
    refine j_top (pk_sub (by omega)) ?_
    refine j_bipush (v := nI 6) C dX4_giveBack_19 rfl ?_
    refine j_irem C dX4_giveBack_21 (by decide) ?_
    refine j_top (pk_rem (by omega) (by decide) (by decide)) ?_
    refine j_put' C fpX4_18 dX4_giveBack_22 (Nat.lt_of_lt_of_le (by decide) hN) (fun _ => rfl) rfl (Nat.le_of_ble_eq_true rfl) rfl rfl (fun τ1 hz_2 hw_3 => ?_)
    refine j_aload_n C dX4_giveBack_25 rfl rfl ?_
    refine j_dup C dX4_giveBack_26 rfl ?_
    refine j_get C flX4_26 dX4_giveBack_27 (Nat.lt_of_lt_of_le (by decide) hN) rfl rfl ?_
    refine j_top ((hz_2 _ _ (by omega)).trans (hc)) ?_
    refine j_iconst (v := nI 1) C dX4_giveBack_30 rfl ?_
    refine j_isub C dX4_giveBack_31 ?_
    refine j_top (pk_sub (by omega)) ?_
    refine j_put' C fpX4_26 dX4_giveBack_32 (Nat.lt_of_lt_of_le (by decide) hN) (fun _ => rfl) rfl (Nat.le_of_ble_eq_true rfl) rfl rfl (fun τ4 hz_5 hw_6 => ?_)
    refine j_aload_n C dX4_giveBack_35 rfl rfl ?_
    refine j_aload_n C dX4_giveBack_36 rfl rfl ?_
    refine j_get C flX4_11 dX4_giveBack_37 (Nat.lt_of_lt_of_le (by decide) hN) rfl rfl ?_
    refine j_aload_n C dX4_giveBack_40 rfl rfl ?_
    refine j_get C flX4_18 dX4_giveBack_41 (Nat.lt_of_lt_of_le (by decide) hN) rfl rfl ?_
    refine j_top ((hz_5 _ _ (by omega)).trans (hw_3)) ?_
    refine j_qald (p := 48 + 4 * (3 + (nx + 6 - 1) % 6)) C (by omega) dX4_giveBack_44 (Nat.lt_of_lt_of_le (by decide) hN) (fun _ => rfl) (by decide) (by omega) ?_
    refine j_callv (As := [.ref (gad g (48 + 4 * (3 + (nx + 6 - 1) % 6)))]) (rest := []) C (tX6_copyFrom (i := 0) (c := 3 + (nx + 6 - 1) % 6) hN (by omega) (by omega) (by omega)) cdX6_copyFrom mlX4_22 dX4_giveBack_45 (by decide) (by decide) (Nat.lt_of_lt_of_le (by decide) hN) rfl rfl rfl rfl rfl (Nat.le_of_ble_eq_true rfl) (fun τ7 hp_9 => ?_)
    obtain ⟨hf0, hcp⟩ := hp_9
    refine j_iconst (v := nI 1) C dX4_giveBack_48 rfl ?_
    refine j_retz M dX4_giveBack_49 rfl ?_
    obtain ⟨q1, q2, q3, q4, q5, q6⟩ := hcp
    have hk : ∀ j n, 48 ≤ j → τ4 j n = σ j n := fun j n h => by rw [hz_5 _ _ (by omega), hz_2 _ _ (by omega)]
    refine Or.inr ⟨by omega, rfl, fun j n h => by rw [hf0 _ _ (by omega), hz_5 _ _ (by omega), hz_2 _ _ (by omega)], by rw [hf0 _ _ (by omega), hz_5 _ _ (by omega)]; assumption, by rw [hf0 _ _ (by omega)]; assumption, q1.trans (hk _ _ (by omega)), q2.trans (hk _ _ (by omega)), q3.trans (hk _ _ (by omega)), q4.trans (hk _ _ (by omega)), fun l hl => ⟨(q5 l hl).1.trans (hk _ _ (by omega)), (q5 l hl).2.trans (congrArg _ (hk _ _ (by omega)))⟩, fun l hl => (q6 l hl).trans (hk _ _ (by omega))⟩
  · refine j_iconst (v := nI 0) C dX4_giveBack_7 rfl ?_
    refine j_retz M dX4_giveBack_8 rfl ?_
    exact Or.inl ⟨by omega, rfl, rfl⟩
