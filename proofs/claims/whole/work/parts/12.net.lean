set_option maxHeartbeats 4000000 in
set_option maxRecDepth 100000 in
theorem tX3_areTwoNodes {g : jG} (hN : 84 ≤ gN g) {σ : Sg} {i n a b : Nat} (hi : i < 2) (hn : σ (3 + 9 * i) 0 = nI n) (hn7 : n ≤ 7) (ha : a < 2 ^ 31) (hb : b < 2 ^ 31) : MS g yX3_areTwoNodes cX3_areTwoNodes 3 (some .boolean) rmX3_areTwoNodes [.ref (gad g (3 + 9 * i)), .int (nI (a)), .int (nI (b))] σ (fun r σ' => σ' = σ ∧ ((r = nI 1 ∧ a < n ∧ b < n ∧ a ≠ b) ∨ (r = nI 0 ∧ ¬ (a < n ∧ b < n ∧ a ≠ b)))) := by
  refine MJ_of (by decide) (Nat.le_of_ble_eq_true rfl) (List.forall_mem_cons.mpr ⟨rfl, List.forall_mem_cons.mpr ⟨rfl, List.forall_mem_cons.mpr ⟨rfl, fun _ h => absurd h List.not_mem_nil⟩⟩⟩) ?_
  intro κ M
  have C := M.1
  show J g κ 3 0 [some (.ref (gad g (3 + 9 * i))), some (.int (nI (a))), some (.int (nI (b)))] [] σ
  refine j_aload_n C dX3_areTwoNodes_0 rfl rfl ?_
  refine j_iload_n C dX3_areTwoNodes_1 rfl rfl ?_
  refine j_calli (As := [.int (nI (a))]) (rest := []) C (tX3_hasNode hN hi hn (by omega) (nI a)) cdX3_hasNode mlX3_58 dX3_areTwoNodes_2 (by decide) (by decide) (by omega) (cf_net (by omega) _) rfl rfl rfl rfl (Nat.le_of_ble_eq_true rfl) (fun rr_2 τ1 hp_3 => ?_)
  rw [ex_nI (by omega) (by omega)] at hp_3
  obtain ⟨hs, hc⟩ := hp_3
  replace hs := hs.symm
  subst hs
  rcases hc with ⟨rfl, ha⟩ | ⟨rfl, ha⟩
  · refine j_ifn_eq (tgt := 25) C dX3_areTwoNodes_5 rfl (by omega) (fun h => absurd h (by decide)) (fun _ => ?_)
    refine j_aload_n C dX3_areTwoNodes_8 rfl rfl ?_
    refine j_iload_n C dX3_areTwoNodes_9 rfl rfl ?_
    refine j_calli (As := [.int (nI (b))]) (rest := []) C (tX3_hasNode hN hi hn (by omega) (nI b)) cdX3_hasNode mlX3_58 dX3_areTwoNodes_10 (by decide) (by decide) (by omega) (cf_net (by omega) _) rfl rfl rfl rfl (Nat.le_of_ble_eq_true rfl) (fun rr_5 τ4 hp_6 => ?_)
    rw [ex_nI (by omega) (by omega)] at hp_6
    obtain ⟨hs, hc⟩ := hp_6
    replace hs := hs.symm
    subst hs
    rcases hc with ⟨rfl, hb⟩ | ⟨rfl, hb⟩
    · refine j_ifn_eq (tgt := 25) C dX3_areTwoNodes_13 rfl (by omega) (fun h => absurd h (by decide)) (fun _ => ?_)
      refine j_iload_n C dX3_areTwoNodes_16 rfl rfl ?_
      refine j_iload_n C dX3_areTwoNodes_17 rfl rfl ?_
      refine j_icmpn_eq (tgt := 25) C dX3_areTwoNodes_18 rfl (by omega) (by omega) (fun h18 => ?_) (fun h18 => ?_)
      · refine j_iconst (v := nI 0) C dX3_areTwoNodes_25 rfl ?_
        refine j_retz M dX3_areTwoNodes_26 rfl ?_
        exact ⟨rfl, Or.inr ⟨rfl, by omega⟩⟩
      · refine j_iconst (v := nI 1) C dX3_areTwoNodes_21 rfl ?_
        refine j_goto (tgt := 26) C dX3_areTwoNodes_22 rfl ?_
        refine j_retz M dX3_areTwoNodes_26 rfl ?_
        exact ⟨rfl, Or.inl ⟨rfl, by omega, by omega, by omega⟩⟩
    · refine j_ifn_eq (tgt := 25) C dX3_areTwoNodes_13 rfl (by omega) (fun _ => ?_) (fun h => absurd h (by decide))
      refine j_iconst (v := nI 0) C dX3_areTwoNodes_25 rfl ?_
      refine j_retz M dX3_areTwoNodes_26 rfl ?_
      exact ⟨rfl, Or.inr ⟨rfl, by omega⟩⟩
  · refine j_ifn_eq (tgt := 25) C dX3_areTwoNodes_5 rfl (by omega) (fun _ => ?_) (fun h => absurd h (by decide))
    refine j_iconst (v := nI 0) C dX3_areTwoNodes_25 rfl ?_
    refine j_retz M dX3_areTwoNodes_26 rfl ?_
    exact ⟨rfl, Or.inr ⟨rfl, by omega⟩⟩
set_option maxHeartbeats 4000000 in
set_option maxRecDepth 100000 in
theorem tX3_clear {g : jG} (hN : 84 ≤ gN g) {σ : Sg} {i : Nat} (hi : i < 2) (a : ND) : MS g yX3_clear cX3_clear 2 none rmX3_clear [.ref (gad g (3 + 9 * i))] σ (fun r σ' => (∀ j n, ¬ (3 + 9 * i ≤ j ∧ j ≤ 3 + 9 * i + 8) → σ' j n = σ j n) ∧ NetI σ' (3 + 9 * i) (nd0 a)) := by
  refine MJ_of (by decide) (Nat.le_of_ble_eq_true rfl) (List.forall_mem_cons.mpr ⟨rfl, fun _ h => absurd h List.not_mem_nil⟩) ?_
  intro κ M
  have C := M.1
  show J g κ 2 0 [some (.ref (gad g (3 + 9 * i))), none] [] σ
  have lp : ∀ (k : Nat) (l : Nat) (σ1 : Sg), 7 - l = k → l ≤ 7 → (∀ j n, ¬ (3 + 9 * i ≤ j ∧ j ≤ 3 + 9 * i + 8) → σ1 j n = σ j n) → σ1 (3 + 9 * i) 0 = nI 4 → σ1 (3 + 9 * i) 1 = nI 0 → σ1 (3 + 9 * i) 2 = nI 0 → (∀ x, x < l → σ1 (3 + 9 * i + 8) x = nI 0) → J g κ 2 17 [some (.ref (gad g (3 + 9 * i))), some (.int (nI (l)))] [] σ1 := by
    intro k
    induction k using Nat.strongRecOn with
    | _ k ih =>
      intro l σ1 hk hl hf h0 h1 h2 hz
      refine j_iload_n C dX3_clear_17 rfl rfl ?_
      refine j_bipush (v := nI 7) C dX3_clear_18 rfl ?_
      refine j_icmpn_ge (tgt := 36) C dX3_clear_20 rfl (by omega) (by omega) (fun h20 => ?_) (fun h20 => ?_)
      · refine j_retv M dX3_clear_36 ?_
        refine ⟨hf, ⟨h0, h1, h2⟩, fun l hl => absurd hl (Nat.not_lt_zero _), fun d hd => absurd hd (Nat.not_lt_zero _), fun x hx => ?_⟩
        exact hz x (by omega)
      · refine j_aload_n C dX3_clear_23 rfl rfl ?_
        refine j_get C flX3_33 dX3_clear_24 (by omega) (cf_net (by omega) _) rfl ?_
        refine j_iload_n C dX3_clear_27 rfl rfl ?_
        refine j_iconst (v := nI 0) C dX3_clear_28 rfl ?_
        refine j_zast' C dX3_clear_29 (by omega) (cf_netZ (by omega)) (by decide) (by omega) rfl (fun τ1 hz_2 hw_3 => ?_)
        refine j_iinc (L' := [some (.ref (gad g (3 + 9 * i))), some (.int (nI (l + 1)))]) C dX3_clear_30 rfl (nI_inc _) (by decide) rfl ?_
        refine j_goto (tgt := 17) C dX3_clear_33 rfl ?_
        refine ih (7 - (l + 1)) (by omega) (l + 1) τ1 rfl (by omega) (fun j n h => by rw [hz_2 _ _ (by omega)]; exact hf j n h) (by rw [hz_2 _ _ (by omega)]; exact h0) (by rw [hz_2 _ _ (by omega)]; exact h1) (by rw [hz_2 _ _ (by omega)]; exact h2) (fun x hx => ?_)
        by_cases e : x = l
        · subst e; assumption
        · rw [hz_2 _ _ (by omega)]; exact hz x (by omega)
  refine j_aload_n C dX3_clear_0 rfl rfl ?_
  refine j_iconst (v := nI 4) C dX3_clear_1 rfl ?_
  refine j_put' C fpX3_37 dX3_clear_2 (by omega) (fun f => cf_net (by omega) f) rfl (Nat.le_of_ble_eq_true rfl) rfl rfl (fun τ1 hz_2 hw_3 => ?_)
  refine j_aload_n C dX3_clear_5 rfl rfl ?_
  refine j_iconst (v := nI 0) C dX3_clear_6 rfl ?_
  refine j_put' C fpX3_41 dX3_clear_7 (by omega) (fun f => cf_net (by omega) f) rfl (Nat.le_of_ble_eq_true rfl) rfl rfl (fun τ4 hz_5 hw_6 => ?_)
  refine j_aload_n C dX3_clear_10 rfl rfl ?_
  refine j_iconst (v := nI 0) C dX3_clear_11 rfl ?_
  refine j_put' C fpX3_44 dX3_clear_12 (by omega) (fun f => cf_net (by omega) f) rfl (Nat.le_of_ble_eq_true rfl) rfl rfl (fun τ7 hz_8 hw_9 => ?_)
  refine j_iconst (v := nI 0) C dX3_clear_15 rfl ?_
  refine j_istore_n (L' := [some (.ref (gad g (3 + 9 * i))), some (.int (nI (0)))]) C dX3_clear_16 rfl (by decide) rfl ?_
  refine lp (7 - 0) 0 τ7 rfl (by omega) (fun j n h => by rw [hz_8 _ _ (by omega), hz_5 _ _ (by omega), hz_2 _ _ (by omega)]) (by rw [hz_8 _ _ (by omega), hz_5 _ _ (by omega)]; assumption) (by rw [hz_8 _ _ (by omega)]; assumption) (by assumption) (fun x hx => by omega)
set_option maxHeartbeats 4000000 in
set_option maxRecDepth 100000 in
theorem tX3_takeNodes {g : jG} (hN : 84 ≤ gN g) {σ : Sg} {i v : Nat} {a : ND} (hi : i < 2) (hI : NetI σ (3 + 9 * i) a) (hm : nM a ≤ 12) (hd : nD a ≤ 6) (hv : v < 100) : MS g yX3_takeNodes cX3_takeNodes 2 (some .boolean) rmX3_takeNodes [.ref (gad g (3 + 9 * i)), .int (nI (v))] σ (fun r σ' => (r = nI 1 ∧ okN a v ∧ (∀ j n, ¬ (3 + 9 * i ≤ j ∧ j ≤ 3 + 9 * i + 8) → σ' j n = σ j n) ∧ NetI σ' (3 + 9 * i) (ndN a v)) ∨ (r = nI 0 ∧ ¬ okN a v ∧ σ' = σ)) := by
  refine MJ_of (by decide) (Nat.le_of_ble_eq_true rfl) (List.forall_mem_cons.mpr ⟨rfl, List.forall_mem_cons.mpr ⟨rfl, fun _ h => absurd h List.not_mem_nil⟩⟩) ?_
  intro κ M
  have C := M.1
  show J g κ 2 0 [some (.ref (gad g (3 + 9 * i))), some (.int (nI (v)))] [] σ
  refine j_aload_n C dX3_takeNodes_0 rfl rfl ?_
  refine j_get C flX3_41 dX3_takeNodes_1 (by omega) (cf_net (by omega) _) rfl ?_
  refine j_top (hI.m) ?_
  refine j_ifn_gt (tgt := 25) C dX3_takeNodes_4 rfl (by omega) (fun h4 => ?_) (fun h4 => ?_)
  · refine j_iconst (v := nI 0) C dX3_takeNodes_25 rfl ?_
    refine j_retz M dX3_takeNodes_26 rfl ?_
    exact Or.inr ⟨rfl, (by unfold okN; omega), rfl⟩
  · refine j_aload_n C dX3_takeNodes_7 rfl rfl ?_
    refine j_get C flX3_44 dX3_takeNodes_8 (by omega) (cf_net (by omega) _) rfl ?_
    refine j_top (hI.d) ?_
    refine j_ifn_gt (tgt := 25) C dX3_takeNodes_11 rfl (by omega) (fun h11 => ?_) (fun h11 => ?_)
    · refine j_iconst (v := nI 0) C dX3_takeNodes_25 rfl ?_
      refine j_retz M dX3_takeNodes_26 rfl ?_
      exact Or.inr ⟨rfl, (by unfold okN; omega), rfl⟩
    · refine j_iload_n C dX3_takeNodes_14 rfl rfl ?_
      refine j_iconst (v := nI 2) C dX3_takeNodes_15 rfl ?_
      refine j_icmpn_lt (tgt := 25) C dX3_takeNodes_16 rfl (by omega) (by omega) (fun h16 => ?_) (fun h16 => ?_)
      · refine j_iconst (v := nI 0) C dX3_takeNodes_25 rfl ?_
        refine j_retz M dX3_takeNodes_26 rfl ?_
        exact Or.inr ⟨rfl, (by unfold okN; omega), rfl⟩
      · refine j_iload_n C dX3_takeNodes_19 rfl rfl ?_
        refine j_bipush (v := nI 7) C dX3_takeNodes_20 rfl ?_
        refine j_icmpn_le (tgt := 27) C dX3_takeNodes_22 rfl (by omega) (by omega) (fun h22 => ?_) (fun h22 => ?_)
        · refine j_aload_n C dX3_takeNodes_27 rfl rfl ?_
          refine j_iload_n C dX3_takeNodes_28 rfl rfl ?_
          refine j_put' C fpX3_37 dX3_takeNodes_29 (by omega) (fun f => cf_net (by omega) f) rfl (Nat.le_of_ble_eq_true rfl) rfl rfl (fun τ1 hz_2 hw_3 => ?_)
          refine j_iconst (v := nI 1) C dX3_takeNodes_32 rfl ?_
          refine j_retz M dX3_takeNodes_33 rfl ?_
          refine Or.inl ⟨rfl, ⟨by omega, by omega, by omega, by omega⟩, (fun j n h => by rw [hz_2 _ _ (by omega)]), ⟨by assumption, by rw [hz_2 _ _ (by omega)]; exact hI.m, by rw [hz_2 _ _ (by omega)]; exact hI.d⟩, fun l hl => ?_, fun d hd => ?_, fun x hx => by rw [hz_2 _ _ (by omega)]; exact hI.gl hx⟩
          · rw [hz_2 _ _ (by omega), hz_2 _ _ (by omega), hz_2 _ _ (by omega), hz_2 _ _ (by omega)]; exact hI.2.1 l hl
          · rw [hz_2 _ _ (by omega), hz_2 _ _ (by omega), hz_2 _ _ (by omega)]; exact hI.2.2.1 d hd
        · refine j_iconst (v := nI 0) C dX3_takeNodes_25 rfl ?_
          refine j_retz M dX3_takeNodes_26 rfl ?_
          exact Or.inr ⟨rfl, (by unfold okN; omega), rfl⟩
set_option maxHeartbeats 4000000 in
set_option maxRecDepth 100000 in
theorem tX3_takeLink {g : jG} (hN : 84 ≤ gN g) {σ : Sg} {i p q s w : Nat} {a : ND} (hi : i < 2) (hI : NetI σ (3 + 9 * i) a) (hn : nN a ≤ 7) (hm : nM a ≤ 12) (hp : p < 100) (hq : q < 100) (hs : s < 100) (hw : w < 100) : MS g yX3_takeLink cX3_takeLink 5 (some .boolean) rmX3_takeLink [.ref (gad g (3 + 9 * i)), .int (nI (p)), .int (nI (q)), .int (nI (s)), .int (nI (w))] σ (fun r σ' => (r = nI 1 ∧ okL a p q s w ∧ (∀ j n, ¬ (3 + 9 * i ≤ j ∧ j ≤ 3 + 9 * i + 8) → σ' j n = σ j n) ∧ NetI σ' (3 + 9 * i) (ndL a p q s w)) ∨ (r = nI 0 ∧ ¬ okL a p q s w ∧ σ' = σ)) := by
  refine MJ_of (by decide) (Nat.le_of_ble_eq_true rfl) (List.forall_mem_cons.mpr ⟨rfl, List.forall_mem_cons.mpr ⟨rfl, List.forall_mem_cons.mpr ⟨rfl, List.forall_mem_cons.mpr ⟨rfl, List.forall_mem_cons.mpr ⟨rfl, fun _ h => absurd h List.not_mem_nil⟩⟩⟩⟩⟩) ?_
  intro κ M
  have C := M.1
  show J g κ 5 0 [some (.ref (gad g (3 + 9 * i))), some (.int (nI (p))), some (.int (nI (q))), some (.int (nI (s))), some (.int (nI (w)))] [] σ
  refine j_aload_n C dX3_takeLink_0 rfl rfl ?_
  refine j_get C flX3_41 dX3_takeLink_1 (by omega) (cf_net (by omega) _) rfl ?_
  refine j_top (hI.m) ?_
  refine j_bipush (v := nI 12) C dX3_takeLink_4 rfl ?_
  refine j_icmpn_ge (tgt := 33) C dX3_takeLink_6 rfl (by omega) (by omega) (fun h6 => ?_) (fun h6 => ?_)
  · refine j_iconst (v := nI 0) C dX3_takeLink_33 rfl ?_
    refine j_retz M dX3_takeLink_34 rfl ?_
    exact Or.inr ⟨rfl, (by unfold okL; omega), rfl⟩
  · refine j_aload_n C dX3_takeLink_9 rfl rfl ?_
    refine j_iload_n C dX3_takeLink_10 rfl rfl ?_
    refine j_iload_n C dX3_takeLink_11 rfl rfl ?_
    refine j_calli (As := [.int (nI (p)), .int (nI (q))]) (rest := []) C (tX3_areTwoNodes hN hi hI.n hn (by omega) (by omega)) cdX3_areTwoNodes mlX3_47 dX3_takeLink_12 (by decide) (by decide) (by omega) (cf_net (by omega) _) rfl rfl rfl rfl (Nat.le_of_ble_eq_true rfl) (fun rr_2 τ1 hp_3 => ?_)
    obtain ⟨hs0, hc⟩ := hp_3
    replace hs0 := hs0.symm
    subst hs0
    rcases hc with ⟨rfl, hA⟩ | ⟨rfl, hA⟩
    · refine j_ifn_eq (tgt := 33) C dX3_takeLink_15 rfl (by omega) (fun h => absurd h (by decide)) (fun _ => ?_)
      refine j_iload_n C dX3_takeLink_18 rfl rfl ?_
      refine j_calls (As := [.int (nI (s))]) (rest := []) C (tX3_isSize hN (nI s)) cdX3_isSize msX3_51 dX3_takeLink_19 (by decide) (by decide) rfl rfl (Nat.le_of_ble_eq_true rfl) (fun rr_5 τ4 hp_6 => ?_)
      rw [ex_rng (by omega) (by omega)] at hp_6
      obtain ⟨hs0, hc⟩ := hp_6
      replace hs0 := hs0.symm
      subst hs0
      rcases hc with ⟨rfl, hB⟩ | ⟨rfl, hB⟩
      · refine j_ifn_eq (tgt := 33) C dX3_takeLink_22 rfl (by omega) (fun h => absurd h (by decide)) (fun _ => ?_)
        refine j_iload C dX3_takeLink_25 rfl ?_
        refine j_callw C (tX7_isWeight hN (nI w)) cdX7_isWeight dX3_takeLink_27 (by decide) (by decide) (Nat.le_of_ble_eq_true rfl) (fun rr_8 τ7 hp_9 => ?_)
        rw [ex_rng (by omega) (by omega)] at hp_9
        obtain ⟨hs0, hc⟩ := hp_9
        replace hs0 := hs0.symm
        subst hs0
        rcases hc with ⟨rfl, hC⟩ | ⟨rfl, hC⟩
        · refine j_ifn_ne (tgt := 35) C dX3_takeLink_30 rfl (by omega) (fun _ => ?_) (fun h => absurd h (by decide))
          refine j_aload_n C dX3_takeLink_35 rfl rfl ?_
          refine j_get C flX3_9 dX3_takeLink_36 (by omega) (cf_net (by omega) _) rfl ?_
          refine j_aload_n C dX3_takeLink_39 rfl rfl ?_
          refine j_get C flX3_41 dX3_takeLink_40 (by omega) (cf_net (by omega) _) rfl ?_
          refine j_top (hI.m) ?_
          refine j_iload_n C dX3_takeLink_43 rfl rfl ?_
          refine j_iast' C dX3_takeLink_44 (by omega) (cf_netI (by omega) (by omega) (by omega)) (by decide) (by omega) (fun τ10 hz_11 hw_12 => ?_)
          refine j_aload_n C dX3_takeLink_45 rfl rfl ?_
          refine j_get C flX3_15 dX3_takeLink_46 (by omega) (cf_net (by omega) _) rfl ?_
          refine j_aload_n C dX3_takeLink_49 rfl rfl ?_
          refine j_get C flX3_41 dX3_takeLink_50 (by omega) (cf_net (by omega) _) rfl ?_
          refine j_top ((hz_11 _ _ (by omega)).trans (hI.m)) ?_
          refine j_iload_n C dX3_takeLink_53 rfl rfl ?_
          refine j_iast' C dX3_takeLink_54 (by omega) (cf_netI (by omega) (by omega) (by omega)) (by decide) (by omega) (fun τ13 hz_14 hw_15 => ?_)
          refine j_aload_n C dX3_takeLink_55 rfl rfl ?_
          refine j_get C flX3_18 dX3_takeLink_56 (by omega) (cf_net (by omega) _) rfl ?_
          refine j_aload_n C dX3_takeLink_59 rfl rfl ?_
          refine j_get C flX3_41 dX3_takeLink_60 (by omega) (cf_net (by omega) _) rfl ?_
          refine j_top ((hz_14 _ _ (by omega)).trans ((hz_11 _ _ (by omega)).trans (hI.m))) ?_
          refine j_iload_n C dX3_takeLink_63 rfl rfl ?_
          refine j_iast' C dX3_takeLink_64 (by omega) (cf_netI (by omega) (by omega) (by omega)) (by decide) (by omega) (fun τ16 hz_17 hw_18 => ?_)
          refine j_aload_n C dX3_takeLink_65 rfl rfl ?_
          refine j_get C flX3_21 dX3_takeLink_66 (by omega) (cf_net (by omega) _) rfl ?_
          refine j_aload_n C dX3_takeLink_69 rfl rfl ?_
          refine j_get C flX3_41 dX3_takeLink_70 (by omega) (cf_net (by omega) _) rfl ?_
          refine j_top ((hz_17 _ _ (by omega)).trans ((hz_14 _ _ (by omega)).trans ((hz_11 _ _ (by omega)).trans (hI.m)))) ?_
          refine j_iload C dX3_takeLink_73 rfl ?_
          refine j_iast' C dX3_takeLink_75 (by omega) (cf_netI (by omega) (by omega) (by omega)) (by decide) (by omega) (fun τ19 hz_20 hw_21 => ?_)
          refine j_aload_n C dX3_takeLink_76 rfl rfl ?_
          refine j_dup C dX3_takeLink_77 rfl ?_
          refine j_get C flX3_41 dX3_takeLink_78 (by omega) (cf_net (by omega) _) rfl ?_
          refine j_top ((hz_20 _ _ (by omega)).trans ((hz_17 _ _ (by omega)).trans ((hz_14 _ _ (by omega)).trans ((hz_11 _ _ (by omega)).trans (hI.m))))) ?_
          refine j_iconst (v := nI 1) C dX3_takeLink_81 rfl ?_
          refine j_iadd C dX3_takeLink_82 ?_
          refine j_top (nI_add _ _) ?_
          refine j_put' C fpX3_41 dX3_takeLink_83 (by omega) (fun f => cf_net (by omega) f) rfl (Nat.le_of_ble_eq_true rfl) rfl rfl (fun τ22 hz_23 hw_24 => ?_)
          refine j_iconst (v := nI 1) C dX3_takeLink_86 rfl ?_
          refine j_retz M dX3_takeLink_87 rfl ?_
          refine Or.inl ⟨rfl, ⟨by omega, by omega, by omega, by omega, by omega, by omega, by omega, by omega⟩, (fun j n h => by rw [hz_23 _ _ (by omega), hz_20 _ _ (by omega), hz_17 _ _ (by omega), hz_14 _ _ (by omega), hz_11 _ _ (by omega)]), ⟨by rw [hz_23 _ _ (by omega), hz_20 _ _ (by omega), hz_17 _ _ (by omega), hz_14 _ _ (by omega), hz_11 _ _ (by omega)]; exact hI.n, by assumption, by rw [hz_23 _ _ (by omega), hz_20 _ _ (by omega), hz_17 _ _ (by omega), hz_14 _ _ (by omega), hz_11 _ _ (by omega)]; exact hI.d⟩, fun l hl => ?_, fun d hd => ?_, fun x hx => by rw [hz_23 _ _ (by omega), hz_20 _ _ (by omega), hz_17 _ _ (by omega), hz_14 _ _ (by omega), hz_11 _ _ (by omega)]; exact hI.gl hx⟩
          · have hl' : l < nM a + 1 := hl
            by_cases e : l = nM a
            · subst e
              refine ⟨?_, ?_, ?_, ?_⟩
              · rw [hz_23 _ _ (by omega), hz_20 _ _ (by omega), hz_17 _ _ (by omega), hz_14 _ _ (by omega)]; show _ = nI (updN _ _ _ _); rw [updN_s]; assumption
              · rw [hz_23 _ _ (by omega), hz_20 _ _ (by omega), hz_17 _ _ (by omega)]; show _ = nI (updN _ _ _ _); rw [updN_s]; assumption
              · rw [hz_23 _ _ (by omega), hz_20 _ _ (by omega)]; show _ = nI (updN _ _ _ _); rw [updN_s]; assumption
              · rw [hz_23 _ _ (by omega)]; show _ = nI (updN _ _ _ _); rw [updN_s]; assumption
            · refine ⟨?_, ?_, ?_, ?_⟩
              · rw [hz_23 _ _ (by omega), hz_20 _ _ (by omega), hz_17 _ _ (by omega), hz_14 _ _ (by omega), hz_11 _ _ (by omega)]; show _ = nI (updN _ _ _ _); rw [updN_n e]; exact hI.fr (by omega)
              · rw [hz_23 _ _ (by omega), hz_20 _ _ (by omega), hz_17 _ _ (by omega), hz_14 _ _ (by omega), hz_11 _ _ (by omega)]; show _ = nI (updN _ _ _ _); rw [updN_n e]; exact hI.to (by omega)
              · rw [hz_23 _ _ (by omega), hz_20 _ _ (by omega), hz_17 _ _ (by omega), hz_14 _ _ (by omega), hz_11 _ _ (by omega)]; show _ = nI (updN _ _ _ _); rw [updN_n e]; exact hI.rm (by omega)
              · rw [hz_23 _ _ (by omega), hz_20 _ _ (by omega), hz_17 _ _ (by omega), hz_14 _ _ (by omega), hz_11 _ _ (by omega)]; show _ = nI (updN _ _ _ _); rw [updN_n e]; exact hI.tw (by omega)
          · refine ⟨?_, ?_, ?_⟩
            · rw [hz_23 _ _ (by omega), hz_20 _ _ (by omega), hz_17 _ _ (by omega), hz_14 _ _ (by omega), hz_11 _ _ (by omega)]; exact hI.st hd
            · rw [hz_23 _ _ (by omega), hz_20 _ _ (by omega), hz_17 _ _ (by omega), hz_14 _ _ (by omega), hz_11 _ _ (by omega)]; exact hI.go hd
            · rw [hz_23 _ _ (by omega), hz_20 _ _ (by omega), hz_17 _ _ (by omega), hz_14 _ _ (by omega), hz_11 _ _ (by omega)]; exact hI.sz hd
        · refine j_ifn_ne (tgt := 35) C dX3_takeLink_30 rfl (by omega) (fun h => absurd h (by decide)) (fun _ => ?_)
          refine j_iconst (v := nI 0) C dX3_takeLink_33 rfl ?_
          refine j_retz M dX3_takeLink_34 rfl ?_
          exact Or.inr ⟨rfl, (by unfold okL; omega), rfl⟩
      · refine j_ifn_eq (tgt := 33) C dX3_takeLink_22 rfl (by omega) (fun _ => ?_) (fun h => absurd h (by decide))
        refine j_iconst (v := nI 0) C dX3_takeLink_33 rfl ?_
        refine j_retz M dX3_takeLink_34 rfl ?_
        exact Or.inr ⟨rfl, (by unfold okL; omega), rfl⟩
    · refine j_ifn_eq (tgt := 33) C dX3_takeLink_15 rfl (by omega) (fun _ => ?_) (fun h => absurd h (by decide))
      refine j_iconst (v := nI 0) C dX3_takeLink_33 rfl ?_
      refine j_retz M dX3_takeLink_34 rfl ?_
      exact Or.inr ⟨rfl, (by unfold okL; omega), rfl⟩
theorem isGo_congr {f h : Nat → Nat} : ∀ {d x : Nat}, (∀ k, k < d → f k = h k) → isGo f d x = isGo h d x
  | 0, _, _ => rfl
  | d + 1, x, e => by simp only [isGo, isGo_congr (d := d) (x := x) (fun k hk => e k (by omega)), e d (by omega)]
theorem isGo_upd {f : Nat → Nat} {d q x : Nat} : isGo (updN f d q) (d + 1) x = (isGo f d x || (q == x)) := by
  simp only [isGo, updN_s, isGo_congr (f := updN f d q) (h := f) (d := d) (x := x) (fun k hk => updN_n (by omega))]
set_option maxHeartbeats 4000000 in
set_option maxRecDepth 100000 in
theorem tX3_takeDemand {g : jG} (hN : 84 ≤ gN g) {σ : Sg} {i p q s : Nat} {a : ND} (hi : i < 2) (hI : NetI σ (3 + 9 * i) a) (hn : nN a ≤ 7) (hm : nD a ≤ 6) (hp : p < 100) (hq : q < 100) (hs : s < 100) : MS g yX3_takeDemand cX3_takeDemand 4 (some .boolean) rmX3_takeDemand [.ref (gad g (3 + 9 * i)), .int (nI (p)), .int (nI (q)), .int (nI (s))] σ (fun r σ' => (r = nI 1 ∧ okD a p q s ∧ (∀ j n, ¬ (3 + 9 * i ≤ j ∧ j ≤ 3 + 9 * i + 8) → σ' j n = σ j n) ∧ NetI σ' (3 + 9 * i) (ndD a p q s)) ∨ (r = nI 0 ∧ ¬ okD a p q s ∧ σ' = σ)) := by
  refine MJ_of (by decide) (Nat.le_of_ble_eq_true rfl) (List.forall_mem_cons.mpr ⟨rfl, List.forall_mem_cons.mpr ⟨rfl, List.forall_mem_cons.mpr ⟨rfl, List.forall_mem_cons.mpr ⟨rfl, fun _ h => absurd h List.not_mem_nil⟩⟩⟩⟩) ?_
  intro κ M
  have C := M.1
  show J g κ 4 0 [some (.ref (gad g (3 + 9 * i))), some (.int (nI (p))), some (.int (nI (q))), some (.int (nI (s)))] [] σ
  refine j_aload_n C dX3_takeDemand_0 rfl rfl ?_
  refine j_get C flX3_44 dX3_takeDemand_1 (by omega) (cf_net (by omega) _) rfl ?_
  refine j_top (hI.d) ?_
  refine j_bipush (v := nI 6) C dX3_takeDemand_4 rfl ?_
  refine j_icmpn_ge (tgt := 25) C dX3_takeDemand_6 rfl (by omega) (by omega) (fun h6 => ?_) (fun h6 => ?_)
  · refine j_iconst (v := nI 0) C dX3_takeDemand_25 rfl ?_
    refine j_retz M dX3_takeDemand_26 rfl ?_
    exact Or.inr ⟨rfl, (by unfold okD; omega), rfl⟩
  · refine j_aload_n C dX3_takeDemand_9 rfl rfl ?_
    refine j_iload_n C dX3_takeDemand_10 rfl rfl ?_
    refine j_iload_n C dX3_takeDemand_11 rfl rfl ?_
    refine j_calli (As := [.int (nI (p)), .int (nI (q))]) (rest := []) C (tX3_areTwoNodes hN hi hI.n hn (by omega) (by omega)) cdX3_areTwoNodes mlX3_47 dX3_takeDemand_12 (by decide) (by decide) (by omega) (cf_net (by omega) _) rfl rfl rfl rfl (Nat.le_of_ble_eq_true rfl) (fun rr_2 τ1 hp_3 => ?_)
    obtain ⟨hs0, hc⟩ := hp_3
    replace hs0 := hs0.symm
    subst hs0
    rcases hc with ⟨rfl, hA⟩ | ⟨rfl, hA⟩
    · refine j_ifn_eq (tgt := 25) C dX3_takeDemand_15 rfl (by omega) (fun h => absurd h (by decide)) (fun _ => ?_)
      refine j_iload_n C dX3_takeDemand_18 rfl rfl ?_
      refine j_calls (As := [.int (nI (s))]) (rest := []) C (tX3_isSize hN (nI s)) cdX3_isSize msX3_51 dX3_takeDemand_19 (by decide) (by decide) rfl rfl (Nat.le_of_ble_eq_true rfl) (fun rr_5 τ4 hp_6 => ?_)
      rw [ex_rng (by omega) (by omega)] at hp_6
      obtain ⟨hs0, hc⟩ := hp_6
      replace hs0 := hs0.symm
      subst hs0
      rcases hc with ⟨rfl, hB⟩ | ⟨rfl, hB⟩
      · refine j_ifn_ne (tgt := 27) C dX3_takeDemand_22 rfl (by omega) (fun _ => ?_) (fun h => absurd h (by decide))
        refine j_aload_n C dX3_takeDemand_27 rfl rfl ?_
        refine j_get C flX3_24 dX3_takeDemand_28 (by omega) (cf_net (by omega) _) rfl ?_
        refine j_aload_n C dX3_takeDemand_31 rfl rfl ?_
        refine j_get C flX3_44 dX3_takeDemand_32 (by omega) (cf_net (by omega) _) rfl ?_
        refine j_top (hI.d) ?_
        refine j_iload_n C dX3_takeDemand_35 rfl rfl ?_
        refine j_iast' C dX3_takeDemand_36 (by omega) (cf_netD (by omega) (by omega) (by omega)) (by decide) (by omega) (fun τ7 hz_8 hw_9 => ?_)
        refine j_aload_n C dX3_takeDemand_37 rfl rfl ?_
        refine j_get C flX3_27 dX3_takeDemand_38 (by omega) (cf_net (by omega) _) rfl ?_
        refine j_aload_n C dX3_takeDemand_41 rfl rfl ?_
        refine j_get C flX3_44 dX3_takeDemand_42 (by omega) (cf_net (by omega) _) rfl ?_
        refine j_top ((hz_8 _ _ (by omega)).trans (hI.d)) ?_
        refine j_iload_n C dX3_takeDemand_45 rfl rfl ?_
        refine j_iast' C dX3_takeDemand_46 (by omega) (cf_netD (by omega) (by omega) (by omega)) (by decide) (by omega) (fun τ10 hz_11 hw_12 => ?_)
        refine j_aload_n C dX3_takeDemand_47 rfl rfl ?_
        refine j_get C flX3_30 dX3_takeDemand_48 (by omega) (cf_net (by omega) _) rfl ?_
        refine j_aload_n C dX3_takeDemand_51 rfl rfl ?_
        refine j_get C flX3_44 dX3_takeDemand_52 (by omega) (cf_net (by omega) _) rfl ?_
        refine j_top ((hz_11 _ _ (by omega)).trans ((hz_8 _ _ (by omega)).trans (hI.d))) ?_
        refine j_iload_n C dX3_takeDemand_55 rfl rfl ?_
        refine j_iast' C dX3_takeDemand_56 (by omega) (cf_netD (by omega) (by omega) (by omega)) (by decide) (by omega) (fun τ13 hz_14 hw_15 => ?_)
        refine j_aload_n C dX3_takeDemand_57 rfl rfl ?_
        refine j_get C flX3_33 dX3_takeDemand_58 (by omega) (cf_net (by omega) _) rfl ?_
        refine j_iload_n C dX3_takeDemand_61 rfl rfl ?_
        refine j_iconst (v := nI 1) C dX3_takeDemand_62 rfl ?_
        refine j_zast' C dX3_takeDemand_63 (by omega) (cf_netZ (by omega)) (by decide) (by omega) rfl (fun τ16 hz_17 hw_18 => ?_)
        refine j_aload_n C dX3_takeDemand_64 rfl rfl ?_
        refine j_dup C dX3_takeDemand_65 rfl ?_
        refine j_get C flX3_44 dX3_takeDemand_66 (by omega) (cf_net (by omega) _) rfl ?_
        refine j_top ((hz_17 _ _ (by omega)).trans ((hz_14 _ _ (by omega)).trans ((hz_11 _ _ (by omega)).trans ((hz_8 _ _ (by omega)).trans (hI.d))))) ?_
        refine j_iconst (v := nI 1) C dX3_takeDemand_69 rfl ?_
        refine j_iadd C dX3_takeDemand_70 ?_
        refine j_top (nI_add _ _) ?_
        refine j_put' C fpX3_44 dX3_takeDemand_71 (by omega) (fun f => cf_net (by omega) f) rfl (Nat.le_of_ble_eq_true rfl) rfl rfl (fun τ19 hz_20 hw_21 => ?_)
        refine j_iconst (v := nI 1) C dX3_takeDemand_74 rfl ?_
        refine j_retz M dX3_takeDemand_75 rfl ?_
        refine Or.inl ⟨rfl, ⟨by omega, by omega, by omega, by omega, by omega, by omega⟩, (fun j n h => by rw [hz_20 _ _ (by omega), hz_17 _ _ (by omega), hz_14 _ _ (by omega), hz_11 _ _ (by omega), hz_8 _ _ (by omega)]), ⟨by rw [hz_20 _ _ (by omega), hz_17 _ _ (by omega), hz_14 _ _ (by omega), hz_11 _ _ (by omega), hz_8 _ _ (by omega)]; exact hI.n, by rw [hz_20 _ _ (by omega), hz_17 _ _ (by omega), hz_14 _ _ (by omega), hz_11 _ _ (by omega), hz_8 _ _ (by omega)]; exact hI.m, by assumption⟩, fun l hl => ?_, fun d hd => ?_, fun x hx => ?_⟩
        · refine ⟨?_, ?_, ?_, ?_⟩
          · rw [hz_20 _ _ (by omega), hz_17 _ _ (by omega), hz_14 _ _ (by omega), hz_11 _ _ (by omega), hz_8 _ _ (by omega)]; exact hI.fr hl
          · rw [hz_20 _ _ (by omega), hz_17 _ _ (by omega), hz_14 _ _ (by omega), hz_11 _ _ (by omega), hz_8 _ _ (by omega)]; exact hI.to hl
          · rw [hz_20 _ _ (by omega), hz_17 _ _ (by omega), hz_14 _ _ (by omega), hz_11 _ _ (by omega), hz_8 _ _ (by omega)]; exact hI.rm hl
          · rw [hz_20 _ _ (by omega), hz_17 _ _ (by omega), hz_14 _ _ (by omega), hz_11 _ _ (by omega), hz_8 _ _ (by omega)]; exact hI.tw hl
        · have hd' : d < nD a + 1 := hd
          by_cases e : d = nD a
          · subst e
            refine ⟨?_, ?_, ?_⟩
            · rw [hz_20 _ _ (by omega), hz_17 _ _ (by omega), hz_14 _ _ (by omega), hz_11 _ _ (by omega)]; show _ = nI (updN _ _ _ _); rw [updN_s]; assumption
            · rw [hz_20 _ _ (by omega), hz_17 _ _ (by omega), hz_14 _ _ (by omega)]; show _ = nI (updN _ _ _ _); rw [updN_s]; assumption
            · rw [hz_20 _ _ (by omega), hz_17 _ _ (by omega)]; show _ = nI (updN _ _ _ _); rw [updN_s]; assumption
          · refine ⟨?_, ?_, ?_⟩
            · rw [hz_20 _ _ (by omega), hz_17 _ _ (by omega), hz_14 _ _ (by omega), hz_11 _ _ (by omega), hz_8 _ _ (by omega)]; show _ = nI (updN _ _ _ _); rw [updN_n e]; exact hI.st (by omega)
            · rw [hz_20 _ _ (by omega), hz_17 _ _ (by omega), hz_14 _ _ (by omega), hz_11 _ _ (by omega), hz_8 _ _ (by omega)]; show _ = nI (updN _ _ _ _); rw [updN_n e]; exact hI.go (by omega)
            · rw [hz_20 _ _ (by omega), hz_17 _ _ (by omega), hz_14 _ _ (by omega), hz_11 _ _ (by omega), hz_8 _ _ (by omega)]; show _ = nI (updN _ _ _ _); rw [updN_n e]; exact hI.sz (by omega)
        · show _ = bI (isGo (updN (nGo a) (nD a) q) (nD a + 1) x)
          rw [isGo_upd]
          by_cases e : x = q
          · subst e
            rw [hz_20 _ _ (by omega), beq_self_eq_true, Bool.or_true]; assumption
          · rw [hz_20 _ _ (by omega), hz_17 _ _ (by omega), hz_14 _ _ (by omega), hz_11 _ _ (by omega), hz_8 _ _ (by omega)]; rw [show (q == x) = false from beq_false_of_ne (fun z => e z.symm), Bool.or_false]; exact hI.gl hx
      · refine j_ifn_ne (tgt := 27) C dX3_takeDemand_22 rfl (by omega) (fun h => absurd h (by decide)) (fun _ => ?_)
        refine j_iconst (v := nI 0) C dX3_takeDemand_25 rfl ?_
        refine j_retz M dX3_takeDemand_26 rfl ?_
        exact Or.inr ⟨rfl, (by unfold okD; omega), rfl⟩
    · refine j_ifn_eq (tgt := 25) C dX3_takeDemand_15 rfl (by omega) (fun _ => ?_) (fun h => absurd h (by decide))
      refine j_iconst (v := nI 0) C dX3_takeDemand_25 rfl ?_
      refine j_retz M dX3_takeDemand_26 rfl ?_
      exact Or.inr ⟨rfl, (by unfold okD; omega), rfl⟩
