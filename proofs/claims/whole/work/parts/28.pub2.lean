set_option maxHeartbeats 4000000 in
set_option maxRecDepth 100000 in
theorem tX7_cost {g : jG} (hN : 84 ≤ gN g) {σ : Sg} {tx : Nat → Int32} {len : Nat} {a : ND} {wt : Nat → Nat} {u : Nat → Bool} {tl : List Int32} {le : Nat} {p : List SD} (hC : CI σ (tx, len, a, (wt, u, tl, le), p)) (hA : AOk (tx, len, a, (wt, u, tl, le), p)) : MS g yX7_cost cX7_cost 1 (some .int) rmX7_cost [.ref (gad g (0))] σ (fun r σ' => r = (abCost (tx, len, a, (wt, u, tl, le), p)).1 ∧ CI σ' (abCost (tx, len, a, (wt, u, tl, le), p)).2 ∧ ∀ j n, 84 ≤ j → σ' j n = σ j n) := by
  refine MJ_of (by decide) (Nat.le_of_ble_eq_true rfl) (List.forall_mem_cons.mpr ⟨rfl, fun _ h => absurd h List.not_mem_nil⟩) ?_
  intro κ M
  have C := M.1
  show J g κ 1 0 [some (.ref (gad g (0)))] [] σ
  have hI : NetI σ 3 a := hC.2.1
  have hO : NOk a := hA.1
  have hS : StI σ 0 (nM a) (wt, u, tl, le) := hC.2.2.1
  have hW : StW σ 0 (nM a) wt u := hS.2.1
  have hw : WOk (nM a) wt := hA.2.1.1
  have htl6 : tl.length ≤ 6 := hA.2.1.2.1
  have hle31 : le < 2 ^ 31 := hA.2.1.2.2
  have hlen : len ≤ 200 := hC.1.2.1
  have hn7 := hO.2.1
  have hm12 := hO.2.2.1
  have hd6 := hO.2.2.2.1
  have hCl : σ 1 1 = nI len := hC.1.1
  have hCt : ∀ k, k < len → σ 2 k = tx k := hC.1.2.2
  refine j_aload_n C dX7_cost_0 rfl rfl ?_
  refine j_get C flX7_38 dX7_cost_1 (Nat.lt_of_lt_of_le (by decide) hN) rfl rfl ?_
  refine j_aload_n C dX7_cost_4 rfl rfl ?_
  refine j_get C flX7_54 dX7_cost_5 (Nat.lt_of_lt_of_le (by decide) hN) rfl rfl ?_
  refine j_calli (As := [.ref (gad g (48))]) (rest := []) C (tX0_costOf (i := 0) (w := wt) (u := u) hN (σ := σ) (by omega) hI hO hW hw) cdX0_costOf mlX7_115 dX7_cost_8 (by decide) (by decide) (Nat.lt_of_lt_of_le (by decide) hN) rfl rfl rfl rfl rfl (Nat.le_of_ble_eq_true rfl) (fun rr_2 τ1 hp_3 => ?_)
  obtain ⟨hfc, hFl, hrc⟩ := hp_3
  subst hrc
  refine j_ret M dX7_cost_11 ?_
  exact ⟨rfl, hC.kept (fun j n h => hfc j n (by omega)), fun j n h => hfc j n (by omega)⟩
set_option maxHeartbeats 4000000 in
set_option maxRecDepth 100000 in
theorem tX7_far {g : jG} (hN : 84 ≤ gN g) {σ : Sg} {tx : Nat → Int32} {len : Nat} {a : ND} {wt : Nat → Nat} {u : Nat → Bool} {tl : List Int32} {le : Nat} {p : List SD} (hC : CI σ (tx, len, a, (wt, u, tl, le), p)) (hA : AOk (tx, len, a, (wt, u, tl, le), p)) (x0 t0 : Int32) : MS g yX7_far cX7_far 4 (some .int) rmX7_far [.ref (gad g (0)), .int (x0), .int (t0)] σ (fun r σ' => r = (abFar x0 t0 (tx, len, a, (wt, u, tl, le), p)).1 ∧ CI σ' (abFar x0 t0 (tx, len, a, (wt, u, tl, le), p)).2 ∧ ∀ j n, 84 ≤ j → σ' j n = σ j n) := by
  refine MJ_of (by decide) (Nat.le_of_ble_eq_true rfl) (List.forall_mem_cons.mpr ⟨rfl, List.forall_mem_cons.mpr ⟨rfl, List.forall_mem_cons.mpr ⟨rfl, fun _ h => absurd h List.not_mem_nil⟩⟩⟩) ?_
  intro κ M
  have C := M.1
  show J g κ 4 0 [some (.ref (gad g (0))), some (.int (x0)), some (.int (t0)), none] [] σ
  have hI : NetI σ 3 a := hC.2.1
  have hO : NOk a := hA.1
  have hS : StI σ 0 (nM a) (wt, u, tl, le) := hC.2.2.1
  have hW : StW σ 0 (nM a) wt u := hS.2.1
  have hw : WOk (nM a) wt := hA.2.1.1
  have htl6 : tl.length ≤ 6 := hA.2.1.2.1
  have hle31 : le < 2 ^ 31 := hA.2.1.2.2
  have hlen : len ≤ 200 := hC.1.2.1
  have hn7 := hO.2.1
  have hm12 := hO.2.2.1
  have hd6 := hO.2.2.2.1
  have hCl : σ 1 1 = nI len := hC.1.1
  have hCt : ∀ k, k < len → σ 2 k = tx k := hC.1.2.2
  refine j_aload_n C dX7_far_0 rfl rfl ?_
  refine j_get C flX7_19 dX7_far_1 (Nat.lt_of_lt_of_le (by decide) hN) rfl rfl ?_
  refine j_iload_n C dX7_far_4 rfl rfl ?_
  refine j_calli (As := [.int (x0)]) (rest := []) C (tX3_hasNode (i := 0) hN (by omega) hI.n (by omega) _) cdX3_hasNode mlX7_123 dX7_far_5 (by decide) (by decide) (Nat.lt_of_lt_of_le (by decide) hN) rfl rfl rfl rfl rfl (Nat.le_of_ble_eq_true rfl) (fun rr_2 τ1 hp_3 => ?_)
  obtain ⟨hs, hc⟩ := hp_3
  replace hs := hs.symm
  subst hs
  rcases hc with ⟨rfl, x, hx, rfl⟩ | ⟨rfl, hno⟩
  · refine j_ifn_eq (tgt := 22) C dX7_far_8 rfl (by omega) (fun h => absurd h (by decide)) (fun _ => ?_)
    refine j_aload_n C dX7_far_11 rfl rfl ?_
    refine j_get C flX7_19 dX7_far_12 (Nat.lt_of_lt_of_le (by decide) hN) rfl rfl ?_
    refine j_iload_n C dX7_far_15 rfl rfl ?_
    refine j_calli (As := [.int (t0)]) (rest := []) C (tX3_hasNode (i := 0) hN (by omega) hI.n (by omega) _) cdX3_hasNode mlX7_123 dX7_far_16 (by decide) (by decide) (Nat.lt_of_lt_of_le (by decide) hN) rfl rfl rfl rfl rfl (Nat.le_of_ble_eq_true rfl) (fun rr_5 τ4 hp_6 => ?_)
    obtain ⟨hs, hc⟩ := hp_6
    replace hs := hs.symm
    subst hs
    rcases hc with ⟨rfl, t, ht, rfl⟩ | ⟨rfl, hno2⟩
    · refine j_ifn_ne (tgt := 24) C dX7_far_19 rfl (by omega) (fun _ => ?_) (fun h => absurd h (by decide))
      refine j_aload_n C dX7_far_24 rfl rfl ?_
      refine j_get C flX7_38 dX7_far_25 (Nat.lt_of_lt_of_le (by decide) hN) rfl rfl ?_
      refine j_aload_n C dX7_far_28 rfl rfl ?_
      refine j_get C flX7_54 dX7_far_29 (Nat.lt_of_lt_of_le (by decide) hN) rfl rfl ?_
      refine j_iload_n C dX7_far_32 rfl rfl ?_
      refine j_callv (As := [.ref (gad g (48)), .int (nI (t))]) (rest := []) C (tX0_measureF (i := 0) (t := t) hN (by omega) hI hO hW hw (by omega)) cdX0_measure mlX7_179 dX7_far_33 (by decide) (by decide) (Nat.lt_of_lt_of_le (by decide) hN) rfl rfl rfl rfl rfl (Nat.le_of_ble_eq_true rfl) (fun τ7 hp_9 => ?_)
      obtain ⟨hfm, hrow⟩ := hp_9
      rcases hfx : (FAR a wt u t) x with _ | v
      · refine j_aload_n C dX7_far_36 rfl rfl ?_
        refine j_get C flX7_38 dX7_far_37 (Nat.lt_of_lt_of_le (by decide) hN) rfl rfl ?_
        refine j_get C flX7_183 dX7_far_40 (Nat.lt_of_lt_of_le (by decide) hN) rfl rfl ?_
        refine j_iload_n C dX7_far_43 rfl rfl ?_
        refine j_aald C dX7_far_44 (Nat.lt_of_lt_of_le (by decide) hN) (fun _ => rfl) (by decide) (by omega) ?_
        refine j_iload_n C dX7_far_45 rfl rfl ?_
        refine j_iald C dX7_far_46 (by omega) (cf_far (by omega)) (by decide) (by omega) ?_
        refine j_top ((hrow x (by omega)).trans (congrArg c1 hfx)) ?_
        refine j_istore_n (L' := [some (.ref (gad g (0))), some (.int (nI (x))), some (.int (nI (t))), some (.int (-1))]) C dX7_far_47 rfl (by decide) rfl ?_
        refine j_iload_n C dX7_far_48 rfl rfl ?_
        refine j_iconst (v := -1) C dX7_far_49 rfl ?_
        refine j_icmp_ne (tgt := 58) C dX7_far_50 rfl (fun h => absurd h (by decide)) (fun _ => ?_)
        refine j_bipush (v := -4) C dX7_far_53 rfl ?_
        refine j_goto (tgt := 59) C dX7_far_55 rfl ?_
        refine j_ret M dX7_far_59 ?_
        rw [abFar, pIf_t ⟨⟨x, hx, rfl⟩, ⟨t, ht, rfl⟩⟩, idx_nI (by omega), idx_nI (by omega)]
        dsimp only
        rw [hfx]
        exact ⟨rfl, hC.kept (fun j n h => hfm j n (by omega)), fun j n h => hfm j n (by omega)⟩
      · have hv := FAR_bd' (u := u) hO hw _ _ hfx
        refine j_aload_n C dX7_far_36 rfl rfl ?_
        refine j_get C flX7_38 dX7_far_37 (Nat.lt_of_lt_of_le (by decide) hN) rfl rfl ?_
        refine j_get C flX7_183 dX7_far_40 (Nat.lt_of_lt_of_le (by decide) hN) rfl rfl ?_
        refine j_iload_n C dX7_far_43 rfl rfl ?_
        refine j_aald C dX7_far_44 (Nat.lt_of_lt_of_le (by decide) hN) (fun _ => rfl) (by decide) (by omega) ?_
        refine j_iload_n C dX7_far_45 rfl rfl ?_
        refine j_iald C dX7_far_46 (by omega) (cf_far (by omega)) (by decide) (by omega) ?_
        refine j_top ((hrow x (by omega)).trans (congrArg c1 hfx)) ?_
        refine j_istore_n (L' := [some (.ref (gad g (0))), some (.int (nI (x))), some (.int (nI (t))), some (.int (nI (v)))]) C dX7_far_47 rfl (by decide) rfl ?_
        refine j_iload_n C dX7_far_48 rfl rfl ?_
        refine j_iconst (v := -1) C dX7_far_49 rfl ?_
        refine j_icmp_ne (tgt := 58) C dX7_far_50 rfl (fun _ => ?_) (fun h => absurd h (nI_neg (by omega) (by decide)))
        refine j_iload_n C dX7_far_58 rfl rfl ?_
        refine j_ret M dX7_far_59 ?_
        rw [abFar, pIf_t ⟨⟨x, hx, rfl⟩, ⟨t, ht, rfl⟩⟩, idx_nI (by omega), idx_nI (by omega)]
        dsimp only
        rw [hfx]
        exact ⟨rfl, hC.kept (fun j n h => hfm j n (by omega)), fun j n h => hfm j n (by omega)⟩
    · refine j_ifn_ne (tgt := 24) C dX7_far_19 rfl (by omega) (fun h => absurd h (by decide)) (fun _ => ?_)
      refine j_iconst (v := -1) C dX7_far_22 rfl ?_
      refine j_ret M dX7_far_23 ?_
      rw [abFar, pIf_f (by first | exact fun q => hno q.1 | exact fun q => hno2 q.2)]
      exact ⟨rfl, hC, fun _ _ _ => rfl⟩
  · refine j_ifn_eq (tgt := 22) C dX7_far_8 rfl (by omega) (fun _ => ?_) (fun h => absurd h (by decide))
    refine j_iconst (v := -1) C dX7_far_22 rfl ?_
    refine j_ret M dX7_far_23 ?_
    rw [abFar, pIf_f (by first | exact fun q => hno q.1 | exact fun q => hno2 q.2)]
    exact ⟨rfl, hC, fun _ _ _ => rfl⟩
set_option maxHeartbeats 4000000 in
set_option maxRecDepth 100000 in
theorem tX7_share {g : jG} (hN : 84 ≤ gN g) {σ : Sg} {tx : Nat → Int32} {len : Nat} {a : ND} {wt : Nat → Nat} {u : Nat → Bool} {tl : List Int32} {le : Nat} {p : List SD} (hC : CI σ (tx, len, a, (wt, u, tl, le), p)) (hA : AOk (tx, len, a, (wt, u, tl, le), p)) (d0 l0 : Int32) : MS g yX7_share cX7_share 3 (some .int) rmX7_share [.ref (gad g (0)), .int (d0), .int (l0)] σ (fun r σ' => r = (abShare d0 l0 (tx, len, a, (wt, u, tl, le), p)).1 ∧ CI σ' (abShare d0 l0 (tx, len, a, (wt, u, tl, le), p)).2 ∧ ∀ j n, 84 ≤ j → σ' j n = σ j n) := by
  refine MJ_of (by decide) (Nat.le_of_ble_eq_true rfl) (List.forall_mem_cons.mpr ⟨rfl, List.forall_mem_cons.mpr ⟨rfl, List.forall_mem_cons.mpr ⟨rfl, fun _ h => absurd h List.not_mem_nil⟩⟩⟩) ?_
  intro κ M
  have C := M.1
  show J g κ 3 0 [some (.ref (gad g (0))), some (.int (d0)), some (.int (l0))] [] σ
  have hI : NetI σ 3 a := hC.2.1
  have hO : NOk a := hA.1
  have hS : StI σ 0 (nM a) (wt, u, tl, le) := hC.2.2.1
  have hW : StW σ 0 (nM a) wt u := hS.2.1
  have hw : WOk (nM a) wt := hA.2.1.1
  have htl6 : tl.length ≤ 6 := hA.2.1.2.1
  have hle31 : le < 2 ^ 31 := hA.2.1.2.2
  have hlen : len ≤ 200 := hC.1.2.1
  have hn7 := hO.2.1
  have hm12 := hO.2.2.1
  have hd6 := hO.2.2.2.1
  have hCl : σ 1 1 = nI len := hC.1.1
  have hCt : ∀ k, k < len → σ 2 k = tx k := hC.1.2.2
  refine j_aload_n C dX7_share_0 rfl rfl ?_
  refine j_get C flX7_19 dX7_share_1 (Nat.lt_of_lt_of_le (by decide) hN) rfl rfl ?_
  refine j_iload_n C dX7_share_4 rfl rfl ?_
  refine j_calli (As := [.int (d0)]) (rest := []) C (tX3_hasDemand (i := 0) hN (by omega) hI.d (by omega) _) cdX3_hasDemand mlX7_187 dX7_share_5 (by decide) (by decide) (Nat.lt_of_lt_of_le (by decide) hN) rfl rfl rfl rfl rfl (Nat.le_of_ble_eq_true rfl) (fun rr_2 τ1 hp_3 => ?_)
  obtain ⟨hs, hc⟩ := hp_3
  replace hs := hs.symm
  subst hs
  rcases hc with ⟨rfl, d, hd, rfl⟩ | ⟨rfl, hno⟩
  · refine j_ifn_eq (tgt := 22) C dX7_share_8 rfl (by omega) (fun h => absurd h (by decide)) (fun _ => ?_)
    refine j_aload_n C dX7_share_11 rfl rfl ?_
    refine j_get C flX7_19 dX7_share_12 (Nat.lt_of_lt_of_le (by decide) hN) rfl rfl ?_
    refine j_iload_n C dX7_share_15 rfl rfl ?_
    refine j_calli (As := [.int (l0)]) (rest := []) C (tX3_hasLink (i := 0) hN (by omega) hI.m (by omega) _) cdX3_hasLink mlX7_102 dX7_share_16 (by decide) (by decide) (Nat.lt_of_lt_of_le (by decide) hN) rfl rfl rfl rfl rfl (Nat.le_of_ble_eq_true rfl) (fun rr_5 τ4 hp_6 => ?_)
    obtain ⟨hs, hc⟩ := hp_6
    replace hs := hs.symm
    subst hs
    rcases hc with ⟨rfl, l, hl, rfl⟩ | ⟨rfl, hno2⟩
    · refine j_ifn_ne (tgt := 24) C dX7_share_19 rfl (by omega) (fun _ => ?_) (fun h => absurd h (by decide))
      refine j_aload_n C dX7_share_24 rfl rfl ?_
      refine j_get C flX7_38 dX7_share_25 (Nat.lt_of_lt_of_le (by decide) hN) rfl rfl ?_
      refine j_aload_n C dX7_share_28 rfl rfl ?_
      refine j_get C flX7_54 dX7_share_29 (Nat.lt_of_lt_of_le (by decide) hN) rfl rfl ?_
      refine j_calli (As := [.ref (gad g (48))]) (rest := []) C (tX0_costOf (i := 0) (w := wt) (u := u) hN (σ := σ) (by omega) hI hO hW hw) cdX0_costOf mlX7_115 dX7_share_32 (by decide) (by decide) (Nat.lt_of_lt_of_le (by decide) hN) rfl rfl rfl rfl rfl (Nat.le_of_ble_eq_true rfl) (fun rr_8 τ7 hp_9 => ?_)
      obtain ⟨hfc, hFl, hrc⟩ := hp_9
      subst hrc
      refine j_pop C dX7_share_35 rfl ?_
      refine j_aload_n C dX7_share_36 rfl rfl ?_
      refine j_get C flX7_38 dX7_share_37 (Nat.lt_of_lt_of_le (by decide) hN) rfl rfl ?_
      refine j_get C flX7_190 dX7_share_40 (Nat.lt_of_lt_of_le (by decide) hN) rfl rfl ?_
      refine j_iload_n C dX7_share_43 rfl rfl ?_
      refine j_aald C dX7_share_44 (Nat.lt_of_lt_of_le (by decide) hN) (fun _ => rfl) (by decide) (by omega) ?_
      refine j_iload_n C dX7_share_45 rfl rfl ?_
      refine j_iald C dX7_share_46 (by omega) (cf_share (by omega)) (by decide) (by omega) ?_
      refine j_top (hFl.2.2.1 d l (by omega) (by omega)) ?_
      refine j_ret M dX7_share_47 ?_
      rw [abShare, pIf_t ⟨⟨d, hd, rfl⟩, ⟨l, hl, rfl⟩⟩, idx_nI (by omega), idx_nI (by omega)]
      exact ⟨rfl, hC.kept (fun j n h => hfc j n (by omega)), fun j n h => hfc j n (by omega)⟩
    · refine j_ifn_ne (tgt := 24) C dX7_share_19 rfl (by omega) (fun h => absurd h (by decide)) (fun _ => ?_)
      refine j_iconst (v := -1) C dX7_share_22 rfl ?_
      refine j_ret M dX7_share_23 ?_
      rw [abShare, pIf_f (by first | exact fun q => hno q.1 | exact fun q => hno2 q.2)]
      exact ⟨rfl, hC, fun _ _ _ => rfl⟩
  · refine j_ifn_eq (tgt := 22) C dX7_share_8 rfl (by omega) (fun _ => ?_) (fun h => absurd h (by decide))
    refine j_iconst (v := -1) C dX7_share_22 rfl ?_
    refine j_ret M dX7_share_23 ?_
    rw [abShare, pIf_f (by first | exact fun q => hno q.1 | exact fun q => hno2 q.2)]
    exact ⟨rfl, hC, fun _ _ _ => rfl⟩
set_option maxHeartbeats 4000000 in
set_option maxRecDepth 100000 in
theorem tX7_tabu {g : jG} (hN : 84 ≤ gN g) {σ : Sg} {tx : Nat → Int32} {len : Nat} {a : ND} {wt : Nat → Nat} {u : Nat → Bool} {tl : List Int32} {le : Nat} {p : List SD} (hC : CI σ (tx, len, a, (wt, u, tl, le), p)) (hA : AOk (tx, len, a, (wt, u, tl, le), p)) (l0 x0 : Int32) : MS g yX7_tabu cX7_tabu 3 (some .int) rmX7_tabu [.ref (gad g (0)), .int (l0), .int (x0)] σ (fun r σ' => r = (abTabu l0 x0 (tx, len, a, (wt, u, tl, le), p)).1 ∧ CI σ' (abTabu l0 x0 (tx, len, a, (wt, u, tl, le), p)).2 ∧ ∀ j n, 84 ≤ j → σ' j n = σ j n) := by
  refine MJ_of (by decide) (Nat.le_of_ble_eq_true rfl) (List.forall_mem_cons.mpr ⟨rfl, List.forall_mem_cons.mpr ⟨rfl, List.forall_mem_cons.mpr ⟨rfl, fun _ h => absurd h List.not_mem_nil⟩⟩⟩) ?_
  intro κ M
  have C := M.1
  show J g κ 3 0 [some (.ref (gad g (0))), some (.int (l0)), some (.int (x0))] [] σ
  have hI : NetI σ 3 a := hC.2.1
  have hO : NOk a := hA.1
  have hS : StI σ 0 (nM a) (wt, u, tl, le) := hC.2.2.1
  have hW : StW σ 0 (nM a) wt u := hS.2.1
  have hw : WOk (nM a) wt := hA.2.1.1
  have htl6 : tl.length ≤ 6 := hA.2.1.2.1
  have hle31 : le < 2 ^ 31 := hA.2.1.2.2
  have hlen : len ≤ 200 := hC.1.2.1
  have hn7 := hO.2.1
  have hm12 := hO.2.2.1
  have hd6 := hO.2.2.2.1
  have hCl : σ 1 1 = nI len := hC.1.1
  have hCt : ∀ k, k < len → σ 2 k = tx k := hC.1.2.2
  refine j_aload_n C dX7_tabu_0 rfl rfl ?_
  refine j_get C flX7_19 dX7_tabu_1 (Nat.lt_of_lt_of_le (by decide) hN) rfl rfl ?_
  refine j_iload_n C dX7_tabu_4 rfl rfl ?_
  refine j_calli (As := [.int (l0)]) (rest := []) C (tX3_hasLink (i := 0) hN (by omega) hI.m (by omega) _) cdX3_hasLink mlX7_102 dX7_tabu_5 (by decide) (by decide) (Nat.lt_of_lt_of_le (by decide) hN) rfl rfl rfl rfl rfl (Nat.le_of_ble_eq_true rfl) (fun rr_2 τ1 hp_3 => ?_)
  obtain ⟨hs, hc⟩ := hp_3
  replace hs := hs.symm
  subst hs
  rcases hc with ⟨rfl, l, hl, rfl⟩ | ⟨rfl, hno⟩
  · refine j_ifn_eq (tgt := 18) C dX7_tabu_8 rfl (by omega) (fun h => absurd h (by decide)) (fun _ => ?_)
    refine j_iload_n C dX7_tabu_11 rfl rfl ?_
    refine j_calls (As := [.int (x0)]) (rest := []) C (tX7_isWeight hN _) cdX7_isWeight msX7_105 dX7_tabu_12 (by decide) (by decide) rfl rfl (Nat.le_of_ble_eq_true rfl) (fun rr_5 τ4 hp_6 => ?_)
    obtain ⟨hs, hc⟩ := hp_6
    replace hs := hs.symm
    subst hs
    rcases hc with ⟨rfl, x, hx1, hx2, rfl⟩ | ⟨rfl, hRno⟩
    · refine j_ifn_ne (tgt := 20) C dX7_tabu_15 rfl (by omega) (fun _ => ?_) (fun h => absurd h (by decide))
      refine j_aload_n C dX7_tabu_20 rfl rfl ?_
      refine j_get C flX7_54 dX7_tabu_21 (Nat.lt_of_lt_of_le (by decide) hN) rfl rfl ?_
      refine j_aload_n C dX7_tabu_24 rfl rfl ?_
      refine j_get C flX7_54 dX7_tabu_25 (Nat.lt_of_lt_of_le (by decide) hN) rfl rfl ?_
      refine j_iload_n C dX7_tabu_28 rfl rfl ?_
      refine j_iload_n C dX7_tabu_29 rfl rfl ?_
      refine j_calli (As := [.int (nI (l)), .int (nI (x))]) (rest := [.ref (gad g (48))]) C (tX6_markWith (i := 0) hN (by omega) hS.1 hm12 (nI l) (nI x)) cdX6_markWith mlX7_193 dX7_tabu_30 (by decide) (by decide) (Nat.lt_of_lt_of_le (by decide) hN) rfl rfl rfl rfl rfl (Nat.le_of_ble_eq_true rfl) (fun rr_8 τ7 hp_9 => ?_)
      obtain ⟨hs, hr⟩ := hp_9
      replace hs := hs.symm
      subst hs
      have hmk : rr_8 = mkW (updN wt l x) (nM a) := by
        rw [hr]
        refine mkL_congr (fun k hk => ?_)
        by_cases e : k = l
        · subst e; rw [if_pos rfl, updN_s]
        · rw [if_neg (fun q => e ((nI_eq (by omega) (by omega)).mp q)), updN_n e]; exact (hW k hk).1
      clear hr
      subst hmk
      refine j_calli (As := [.int (mkW (updN wt l x) (nM a))]) (rest := []) C (tX6_isTabu hN (tc := tl.length) (by obtain ⟨nt, h3, h4, h5, h6, h7⟩ := hS.2.2.1; exact h5) htl6 (mkW (updN wt l x) (nM a))) cdX6_isTabu mlX7_196 dX7_tabu_33 (by decide) (by decide) (Nat.lt_of_lt_of_le (by decide) hN) rfl rfl rfl rfl rfl (Nat.le_of_ble_eq_true rfl) (fun rr_11 τ10 hp_12 => ?_)
      obtain ⟨hs, hc2⟩ := hp_12
      replace hs := hs.symm
      subst hs
      rcases hc2 with ⟨rfl, hin⟩ | ⟨rfl, hout⟩
      · refine j_ifn_eq (tgt := 43) C dX7_tabu_36 rfl (by omega) (fun h => absurd h (by decide)) (fun _ => ?_)
        refine j_iconst (v := nI 1) C dX7_tabu_39 rfl ?_
        refine j_goto (tgt := 44) C dX7_tabu_40 rfl ?_
        refine j_ret M dX7_tabu_44 ?_
        rw [abTabu, pIf_t ⟨⟨l, hl, rfl⟩, ⟨x, hx1, hx2, rfl⟩⟩, idx_nI (by omega), idx_nI (by omega)]
        dsimp only
        rw [decide_eq_true ((hS.mem htl6 _).mp hin)]
        exact ⟨rfl, hC, fun _ _ _ => rfl⟩
      · refine j_ifn_eq (tgt := 43) C dX7_tabu_36 rfl (by omega) (fun _ => ?_) (fun h => absurd h (by decide))
        refine j_iconst (v := nI 0) C dX7_tabu_43 rfl ?_
        refine j_ret M dX7_tabu_44 ?_
        rw [abTabu, pIf_t ⟨⟨l, hl, rfl⟩, ⟨x, hx1, hx2, rfl⟩⟩, idx_nI (by omega), idx_nI (by omega)]
        dsimp only
        rw [decide_eq_false (fun q => by obtain ⟨k, k1, k2⟩ := (hS.mem htl6 _).mpr q; exact hout k k1 k2)]
        exact ⟨rfl, hC, fun _ _ _ => rfl⟩
    · refine j_ifn_ne (tgt := 20) C dX7_tabu_15 rfl (by omega) (fun h => absurd h (by decide)) (fun _ => ?_)
      refine j_iconst (v := -1) C dX7_tabu_18 rfl ?_
      refine j_ret M dX7_tabu_19 ?_
      rw [abTabu, pIf_f (by first | exact fun q => hno q.1 | exact fun q => hRno q.2)]
      exact ⟨rfl, hC, fun _ _ _ => rfl⟩
  · refine j_ifn_eq (tgt := 18) C dX7_tabu_8 rfl (by omega) (fun _ => ?_) (fun h => absurd h (by decide))
    refine j_iconst (v := -1) C dX7_tabu_18 rfl ?_
    refine j_ret M dX7_tabu_19 ?_
    rw [abTabu, pIf_f (by first | exact fun q => hno q.1 | exact fun q => hRno q.2)]
    exact ⟨rfl, hC, fun _ _ _ => rfl⟩
set_option maxHeartbeats 4000000 in
set_option maxRecDepth 100000 in
theorem tX7_turn {g : jG} (hN : 84 ≤ gN g) {σ : Sg} {tx : Nat → Int32} {len : Nat} {a : ND} {wt : Nat → Nat} {u : Nat → Bool} {tl : List Int32} {le : Nat} {p : List SD} (hC : CI σ (tx, len, a, (wt, u, tl, le), p)) (hA : AOk (tx, len, a, (wt, u, tl, le), p)) (l0 x0 : Int32) : MS g yX7_turn cX7_turn 4 (some .int) rmX7_turn [.ref (gad g (0)), .int (l0), .int (x0)] σ (fun r σ' => r = (abTurn l0 x0 (tx, len, a, (wt, u, tl, le), p)).1 ∧ CI σ' (abTurn l0 x0 (tx, len, a, (wt, u, tl, le), p)).2 ∧ ∀ j n, 84 ≤ j → σ' j n = σ j n) := by
  refine MJ_of (by decide) (Nat.le_of_ble_eq_true rfl) (List.forall_mem_cons.mpr ⟨rfl, List.forall_mem_cons.mpr ⟨rfl, List.forall_mem_cons.mpr ⟨rfl, fun _ h => absurd h List.not_mem_nil⟩⟩⟩) ?_
  intro κ M
  have C := M.1
  show J g κ 4 0 [some (.ref (gad g (0))), some (.int (l0)), some (.int (x0)), none] [] σ
  have hI : NetI σ 3 a := hC.2.1
  have hO : NOk a := hA.1
  have hS : StI σ 0 (nM a) (wt, u, tl, le) := hC.2.2.1
  have hW : StW σ 0 (nM a) wt u := hS.2.1
  have hw : WOk (nM a) wt := hA.2.1.1
  have htl6 : tl.length ≤ 6 := hA.2.1.2.1
  have hle31 : le < 2 ^ 31 := hA.2.1.2.2
  have hlen : len ≤ 200 := hC.1.2.1
  have hn7 := hO.2.1
  have hm12 := hO.2.2.1
  have hd6 := hO.2.2.2.1
  have hCl : σ 1 1 = nI len := hC.1.1
  have hCt : ∀ k, k < len → σ 2 k = tx k := hC.1.2.2
  refine j_aload_n C dX7_turn_0 rfl rfl ?_
  refine j_get C flX7_19 dX7_turn_1 (Nat.lt_of_lt_of_le (by decide) hN) rfl rfl ?_
  refine j_iload_n C dX7_turn_4 rfl rfl ?_
  refine j_calli (As := [.int (l0)]) (rest := []) C (tX3_hasLink (i := 0) hN (by omega) hI.m (by omega) _) cdX3_hasLink mlX7_102 dX7_turn_5 (by decide) (by decide) (Nat.lt_of_lt_of_le (by decide) hN) rfl rfl rfl rfl rfl (Nat.le_of_ble_eq_true rfl) (fun rr_2 τ1 hp_3 => ?_)
  obtain ⟨hs, hc⟩ := hp_3
  replace hs := hs.symm
  subst hs
  rcases hc with ⟨rfl, l, hl, rfl⟩ | ⟨rfl, hno⟩
  · refine j_ifn_eq (tgt := 20) C dX7_turn_8 rfl (by omega) (fun h => absurd h (by decide)) (fun _ => ?_)
    refine j_iload_n C dX7_turn_11 rfl rfl ?_
    refine j_if_lt (tgt := 20) C dX7_turn_12 rfl (fun h12 => ?_) (fun h12 => ?_)
    · refine j_iconst (v := -1) C dX7_turn_20 rfl ?_
      refine j_ret M dX7_turn_21 ?_
      rw [abTurn, pIf_f (fun q => by
        first | exact hno q.1 | (obtain ⟨q1, q2⟩ := (nI_rng (a := 0) (b := 1) (by decide) (by decide)).mpr (by first | exact q | exact q.2); first | exact absurd (Int32.not_lt.mpr q1) (fun z => z (by assumption)) | exact absurd q2 (by assumption)))]
      exact ⟨rfl, hC, fun _ _ _ => rfl⟩
    · refine j_iload_n C dX7_turn_15 rfl rfl ?_
      refine j_iconst (v := nI 1) C dX7_turn_16 rfl ?_
      refine j_icmp_le (tgt := 22) C dX7_turn_17 rfl (fun h17 => ?_) (fun h17 => ?_)
      · obtain ⟨x, hx1, hx2, rfl⟩ := (nI_rng (a := 0) (b := 1) (by decide) (by decide)).mp ⟨Int32.not_lt.mp h12, h17⟩
        refine j_iload_n C dX7_turn_22 rfl rfl ?_
        refine j_iconst (v := nI 1) C dX7_turn_23 rfl ?_
        refine j_icmpn_ne (tgt := 31) C dX7_turn_24 rfl (by omega) (by omega) (fun h24 => ?_) (fun h24 => ?_)
        · refine j_iconst (v := nI 0) C dX7_turn_31 rfl ?_
          refine j_istore_n (L' := [some (.ref (gad g (0))), some (.int (nI (l))), some (.int (nI (x))), some (.int (nI (0)))]) C dX7_turn_32 rfl (by decide) rfl ?_
          rcases hul : u l with _ | _
          · refine j_aload_n C dX7_turn_33 rfl rfl ?_
            refine j_get C flX7_54 dX7_turn_34 (Nat.lt_of_lt_of_le (by decide) hN) rfl rfl ?_
            refine j_get C flX7_148 dX7_turn_37 (Nat.lt_of_lt_of_le (by decide) hN) rfl rfl ?_
            refine j_iload_n C dX7_turn_40 rfl rfl ?_
            refine j_zald C dX7_turn_41 (Nat.lt_of_lt_of_le (by decide) hN) (fun _ => rfl) (by decide) (by omega) ?_
            refine j_top ((hW l (by omega)).2.trans (by rw [hul])) ?_
            refine j_iload_n C dX7_turn_42 rfl rfl ?_
            refine j_icmpn_ne (tgt := 49) C dX7_turn_43 rfl (by omega) (by omega) (fun h => absurd h (by decide)) (fun _ => ?_)
            refine j_bipush (v := -2) C dX7_turn_46 rfl ?_
            refine j_ret M dX7_turn_48 ?_
            rw [abTurn, pIf_t ⟨⟨l, hl, rfl⟩, ⟨x, hx1, hx2, rfl⟩⟩, idx_nI (by omega), idx_nI (by omega)]
            dsimp only
            rw [show decide (x = 1) = false by rw [decide_eq_false_iff_not]; omega]
            rw [if_pos hul]
            exact ⟨rfl, hC, fun _ _ _ => rfl⟩
          · refine j_aload_n C dX7_turn_33 rfl rfl ?_
            refine j_get C flX7_54 dX7_turn_34 (Nat.lt_of_lt_of_le (by decide) hN) rfl rfl ?_
            refine j_get C flX7_148 dX7_turn_37 (Nat.lt_of_lt_of_le (by decide) hN) rfl rfl ?_
            refine j_iload_n C dX7_turn_40 rfl rfl ?_
            refine j_zald C dX7_turn_41 (Nat.lt_of_lt_of_le (by decide) hN) (fun _ => rfl) (by decide) (by omega) ?_
            refine j_top ((hW l (by omega)).2.trans (by rw [hul])) ?_
            refine j_iload_n C dX7_turn_42 rfl rfl ?_
            refine j_icmpn_ne (tgt := 49) C dX7_turn_43 rfl (by omega) (by omega) (fun _ => ?_) (fun h => absurd h (by decide))
            refine j_aload_n C dX7_turn_49 rfl rfl ?_
            refine j_get C flX7_64 dX7_turn_50 (Nat.lt_of_lt_of_le (by decide) hN) rfl rfl ?_
            refine j_aload_n C dX7_turn_53 rfl rfl ?_
            refine j_get C flX7_54 dX7_turn_54 (Nat.lt_of_lt_of_le (by decide) hN) rfl rfl ?_
            refine j_callv (As := [.ref (gad g (48))]) (rest := []) C (tX4_keepA hN hC.2.2.2 hS hm12 htl6) cdX4_keep mlX7_111 dX7_turn_57 (by decide) (by decide) (Nat.lt_of_lt_of_le (by decide) hN) rfl rfl rfl rfl rfl (Nat.le_of_ble_eq_true rfl) (fun τ4 hp_6 => ?_)
            obtain ⟨hfk, hPk⟩ := hp_6
            refine j_aload_n C dX7_turn_60 rfl rfl ?_
            refine j_get C flX7_54 dX7_turn_61 (Nat.lt_of_lt_of_le (by decide) hN) rfl rfl ?_
            refine j_get C flX7_148 dX7_turn_64 (Nat.lt_of_lt_of_le (by decide) hN) rfl rfl ?_
            refine j_iload_n C dX7_turn_67 rfl rfl ?_
            refine j_iload_n C dX7_turn_68 rfl rfl ?_
            refine j_zast' C dX7_turn_69 (Nat.lt_of_lt_of_le (by decide) hN) (fun _ => rfl) (by decide) (by omega) rfl (fun τ7 hz_8 hw_9 => ?_)
            have hWx : StW τ7 0 (nM a) wt (fun k => if k = l then false else u k) := fun k hk => by
              refine ⟨by rw [hz_8 _ _ (by omega), hfk _ _ (by omega)]; exact (hW k hk).1, ?_⟩
              show _ = bI (if k = l then false else u k)
              by_cases e : k = l
              · subst e; rw [if_pos rfl]; assumption
              · rw [if_neg e, hz_8 _ _ (by omega), hfk _ _ (by omega)]; exact (hW k hk).2
            have hcb := costN_bd (w := wt) (u := (fun k => if k = l then false else u k)) hO
            refine j_aload_n C dX7_turn_70 rfl rfl ?_
            refine j_get C flX7_38 dX7_turn_71 (Nat.lt_of_lt_of_le (by decide) hN) rfl rfl ?_
            refine j_aload_n C dX7_turn_74 rfl rfl ?_
            refine j_get C flX7_54 dX7_turn_75 (Nat.lt_of_lt_of_le (by decide) hN) rfl rfl ?_
            refine j_calli (As := [.ref (gad g (48))]) (rest := []) C (tX0_costOf (i := 0) (w := wt) (u := (fun k => if k = l then false else u k)) hN (σ := τ7) (by omega) (hI.kept (fun j n h1 h2 => by rw [hz_8 _ _ (by omega), hfk _ _ (by omega)])) hO hWx hw) cdX0_costOf mlX7_115 dX7_turn_78 (by decide) (by decide) (Nat.lt_of_lt_of_le (by decide) hN) rfl rfl rfl rfl rfl (Nat.le_of_ble_eq_true rfl) (fun rr_11 τ10 hp_12 => ?_)
            obtain ⟨hfc, hFl, hrc⟩ := hp_12
            subst hrc
            refine j_ret M dX7_turn_81 ?_
            rw [abTurn, pIf_t ⟨⟨l, hl, rfl⟩, ⟨x, hx1, hx2, rfl⟩⟩, idx_nI (by omega), idx_nI (by omega)]
            dsimp only
            rw [show decide (x = 1) = false by rw [decide_eq_false_iff_not]; omega]
            rw [if_neg (by rw [hul]; decide)]
            refine ⟨rfl, ⟨⟨by rw [hfc _ _ (by omega), hz_8 _ _ (by omega), hfk _ _ (by omega)]; exact hCl, hlen, fun k hk => by rw [hfc _ _ (by omega), hz_8 _ _ (by omega), hfk _ _ (by omega)]; exact hCt k hk⟩, hI.kept (fun j n h1 h2 => by rw [hfc _ _ (by omega), hz_8 _ _ (by omega), hfk _ _ (by omega)]), ?_, hPk.kept (fun j n h => by rw [hfc _ _ (by omega), hz_8 _ _ (by omega)])⟩, fun j n h => by rw [hfc _ _ (by omega), hz_8 _ _ (by omega), hfk _ _ (by omega)]⟩
            exact hS.chg0 (fun j n h => by rw [hfc _ _ (by omega), hz_8 _ _ (by omega), hfk _ _ (by omega)]) (hWx.kept' (fun j n h => by rw [hfc _ _ (by omega)])) (by rw [hfc _ _ (by omega), hz_8 _ _ (by omega), hfk _ _ (by omega)]; exact hS.2.2.2)
        · refine j_iconst (v := nI 1) C dX7_turn_27 rfl ?_
          refine j_goto (tgt := 32) C dX7_turn_28 rfl ?_
          refine j_istore_n (L' := [some (.ref (gad g (0))), some (.int (nI (l))), some (.int (nI (x))), some (.int (nI (1)))]) C dX7_turn_32 rfl (by decide) rfl ?_
          rcases hul : u l with _ | _
          · refine j_aload_n C dX7_turn_33 rfl rfl ?_
            refine j_get C flX7_54 dX7_turn_34 (Nat.lt_of_lt_of_le (by decide) hN) rfl rfl ?_
            refine j_get C flX7_148 dX7_turn_37 (Nat.lt_of_lt_of_le (by decide) hN) rfl rfl ?_
            refine j_iload_n C dX7_turn_40 rfl rfl ?_
            refine j_zald C dX7_turn_41 (Nat.lt_of_lt_of_le (by decide) hN) (fun _ => rfl) (by decide) (by omega) ?_
            refine j_top ((hW l (by omega)).2.trans (by rw [hul])) ?_
            refine j_iload_n C dX7_turn_42 rfl rfl ?_
            refine j_icmpn_ne (tgt := 49) C dX7_turn_43 rfl (by omega) (by omega) (fun _ => ?_) (fun h => absurd h (by decide))
            refine j_aload_n C dX7_turn_49 rfl rfl ?_
            refine j_get C flX7_64 dX7_turn_50 (Nat.lt_of_lt_of_le (by decide) hN) rfl rfl ?_
            refine j_aload_n C dX7_turn_53 rfl rfl ?_
            refine j_get C flX7_54 dX7_turn_54 (Nat.lt_of_lt_of_le (by decide) hN) rfl rfl ?_
            refine j_callv (As := [.ref (gad g (48))]) (rest := []) C (tX4_keepA hN hC.2.2.2 hS hm12 htl6) cdX4_keep mlX7_111 dX7_turn_57 (by decide) (by decide) (Nat.lt_of_lt_of_le (by decide) hN) rfl rfl rfl rfl rfl (Nat.le_of_ble_eq_true rfl) (fun τ13 hp_15 => ?_)
            obtain ⟨hfk, hPk⟩ := hp_15
            refine j_aload_n C dX7_turn_60 rfl rfl ?_
            refine j_get C flX7_54 dX7_turn_61 (Nat.lt_of_lt_of_le (by decide) hN) rfl rfl ?_
            refine j_get C flX7_148 dX7_turn_64 (Nat.lt_of_lt_of_le (by decide) hN) rfl rfl ?_
            refine j_iload_n C dX7_turn_67 rfl rfl ?_
            refine j_iload_n C dX7_turn_68 rfl rfl ?_
            refine j_zast' C dX7_turn_69 (Nat.lt_of_lt_of_le (by decide) hN) (fun _ => rfl) (by decide) (by omega) rfl (fun τ16 hz_17 hw_18 => ?_)
            have hWx : StW τ16 0 (nM a) wt (fun k => if k = l then true else u k) := fun k hk => by
              refine ⟨by rw [hz_17 _ _ (by omega), hfk _ _ (by omega)]; exact (hW k hk).1, ?_⟩
              show _ = bI (if k = l then true else u k)
              by_cases e : k = l
              · subst e; rw [if_pos rfl]; assumption
              · rw [if_neg e, hz_17 _ _ (by omega), hfk _ _ (by omega)]; exact (hW k hk).2
            have hcb := costN_bd (w := wt) (u := (fun k => if k = l then true else u k)) hO
            refine j_aload_n C dX7_turn_70 rfl rfl ?_
            refine j_get C flX7_38 dX7_turn_71 (Nat.lt_of_lt_of_le (by decide) hN) rfl rfl ?_
            refine j_aload_n C dX7_turn_74 rfl rfl ?_
            refine j_get C flX7_54 dX7_turn_75 (Nat.lt_of_lt_of_le (by decide) hN) rfl rfl ?_
            refine j_calli (As := [.ref (gad g (48))]) (rest := []) C (tX0_costOf (i := 0) (w := wt) (u := (fun k => if k = l then true else u k)) hN (σ := τ16) (by omega) (hI.kept (fun j n h1 h2 => by rw [hz_17 _ _ (by omega), hfk _ _ (by omega)])) hO hWx hw) cdX0_costOf mlX7_115 dX7_turn_78 (by decide) (by decide) (Nat.lt_of_lt_of_le (by decide) hN) rfl rfl rfl rfl rfl (Nat.le_of_ble_eq_true rfl) (fun rr_20 τ19 hp_21 => ?_)
            obtain ⟨hfc, hFl, hrc⟩ := hp_21
            subst hrc
            refine j_ret M dX7_turn_81 ?_
            rw [abTurn, pIf_t ⟨⟨l, hl, rfl⟩, ⟨x, hx1, hx2, rfl⟩⟩, idx_nI (by omega), idx_nI (by omega)]
            dsimp only
            rw [show decide (x = 1) = true by rw [decide_eq_true_iff]; omega]
            rw [if_neg (by rw [hul]; decide)]
            refine ⟨rfl, ⟨⟨by rw [hfc _ _ (by omega), hz_17 _ _ (by omega), hfk _ _ (by omega)]; exact hCl, hlen, fun k hk => by rw [hfc _ _ (by omega), hz_17 _ _ (by omega), hfk _ _ (by omega)]; exact hCt k hk⟩, hI.kept (fun j n h1 h2 => by rw [hfc _ _ (by omega), hz_17 _ _ (by omega), hfk _ _ (by omega)]), ?_, hPk.kept (fun j n h => by rw [hfc _ _ (by omega), hz_17 _ _ (by omega)])⟩, fun j n h => by rw [hfc _ _ (by omega), hz_17 _ _ (by omega), hfk _ _ (by omega)]⟩
            exact hS.chg0 (fun j n h => by rw [hfc _ _ (by omega), hz_17 _ _ (by omega), hfk _ _ (by omega)]) (hWx.kept' (fun j n h => by rw [hfc _ _ (by omega)])) (by rw [hfc _ _ (by omega), hz_17 _ _ (by omega), hfk _ _ (by omega)]; exact hS.2.2.2)
          · refine j_aload_n C dX7_turn_33 rfl rfl ?_
            refine j_get C flX7_54 dX7_turn_34 (Nat.lt_of_lt_of_le (by decide) hN) rfl rfl ?_
            refine j_get C flX7_148 dX7_turn_37 (Nat.lt_of_lt_of_le (by decide) hN) rfl rfl ?_
            refine j_iload_n C dX7_turn_40 rfl rfl ?_
            refine j_zald C dX7_turn_41 (Nat.lt_of_lt_of_le (by decide) hN) (fun _ => rfl) (by decide) (by omega) ?_
            refine j_top ((hW l (by omega)).2.trans (by rw [hul])) ?_
            refine j_iload_n C dX7_turn_42 rfl rfl ?_
            refine j_icmpn_ne (tgt := 49) C dX7_turn_43 rfl (by omega) (by omega) (fun h => absurd h (by decide)) (fun _ => ?_)
            refine j_bipush (v := -2) C dX7_turn_46 rfl ?_
            refine j_ret M dX7_turn_48 ?_
            rw [abTurn, pIf_t ⟨⟨l, hl, rfl⟩, ⟨x, hx1, hx2, rfl⟩⟩, idx_nI (by omega), idx_nI (by omega)]
            dsimp only
            rw [show decide (x = 1) = true by rw [decide_eq_true_iff]; omega]
            rw [if_pos hul]
            exact ⟨rfl, hC, fun _ _ _ => rfl⟩
      · refine j_iconst (v := -1) C dX7_turn_20 rfl ?_
        refine j_ret M dX7_turn_21 ?_
        rw [abTurn, pIf_f (fun q => by
          first | exact hno q.1 | (obtain ⟨q1, q2⟩ := (nI_rng (a := 0) (b := 1) (by decide) (by decide)).mpr (by first | exact q | exact q.2); first | exact absurd (Int32.not_lt.mpr q1) (fun z => z (by assumption)) | exact absurd q2 (by assumption)))]
        exact ⟨rfl, hC, fun _ _ _ => rfl⟩
  · refine j_ifn_eq (tgt := 20) C dX7_turn_8 rfl (by omega) (fun _ => ?_) (fun h => absurd h (by decide))
    refine j_iconst (v := -1) C dX7_turn_20 rfl ?_
    refine j_ret M dX7_turn_21 ?_
    rw [abTurn, pIf_f (fun q => by
      first | exact hno q.1 | (obtain ⟨q1, q2⟩ := (nI_rng (a := 0) (b := 1) (by decide) (by decide)).mpr (by first | exact q | exact q.2); first | exact absurd (Int32.not_lt.mpr q1) (fun z => z (by assumption)) | exact absurd q2 (by assumption)))]
    exact ⟨rfl, hC, fun _ _ _ => rfl⟩
set_option maxHeartbeats 4000000 in
set_option maxRecDepth 100000 in
theorem tX7_undo {g : jG} (hN : 84 ≤ gN g) {σ : Sg} {tx : Nat → Int32} {len : Nat} {a : ND} {wt : Nat → Nat} {u : Nat → Bool} {tl : List Int32} {le : Nat} {p : List SD} (hC : CI σ (tx, len, a, (wt, u, tl, le), p)) (hA : AOk (tx, len, a, (wt, u, tl, le), p)) : MS g yX7_undo cX7_undo 1 (some .int) rmX7_undo [.ref (gad g (0))] σ (fun r σ' => r = (abUndo (tx, len, a, (wt, u, tl, le), p)).1 ∧ CI σ' (abUndo (tx, len, a, (wt, u, tl, le), p)).2 ∧ ∀ j n, 84 ≤ j → σ' j n = σ j n) := by
  refine MJ_of (by decide) (Nat.le_of_ble_eq_true rfl) (List.forall_mem_cons.mpr ⟨rfl, fun _ h => absurd h List.not_mem_nil⟩) ?_
  intro κ M
  have C := M.1
  show J g κ 1 0 [some (.ref (gad g (0)))] [] σ
  have hI : NetI σ 3 a := hC.2.1
  have hO : NOk a := hA.1
  have hS : StI σ 0 (nM a) (wt, u, tl, le) := hC.2.2.1
  have hW : StW σ 0 (nM a) wt u := hS.2.1
  have hw : WOk (nM a) wt := hA.2.1.1
  have htl6 : tl.length ≤ 6 := hA.2.1.2.1
  have hle31 : le < 2 ^ 31 := hA.2.1.2.2
  have hlen : len ≤ 200 := hC.1.2.1
  have hn7 := hO.2.1
  have hm12 := hO.2.2.1
  have hd6 := hO.2.2.2.1
  have hCl : σ 1 1 = nI len := hC.1.1
  have hCt : ∀ k, k < len → σ 2 k = tx k := hC.1.2.2
  refine j_aload_n C dX7_undo_0 rfl rfl ?_
  refine j_get C flX7_64 dX7_undo_1 (Nat.lt_of_lt_of_le (by decide) hN) rfl rfl ?_
  refine j_aload_n C dX7_undo_4 rfl rfl ?_
  refine j_get C flX7_54 dX7_undo_5 (Nat.lt_of_lt_of_le (by decide) hN) rfl rfl ?_
  refine j_calli (As := [.ref (gad g (48))]) (rest := []) C (tX4_giveBackA hN hC.2.2.2 hm12 (fun s hs => (hA.2.2.2.2 s hs).2.1)) cdX4_giveBack mlX7_152 dX7_undo_8 (by decide) (by decide) (Nat.lt_of_lt_of_le (by decide) hN) rfl rfl rfl rfl rfl (Nat.le_of_ble_eq_true rfl) (fun rr_2 τ1 hp_3 => ?_)
  rcases hp_3 with ⟨hp0, rfl, hs⟩ | ⟨s, hp0, rfl, hfg, hg2, hg3, hg4⟩
  · refine j_ifn_eq (tgt := 24) C dX7_undo_11 rfl (by omega) (fun _ => ?_) (fun h => absurd h (by decide))
    refine j_bipush (v := -2) C dX7_undo_24 rfl ?_
    refine j_ret M dX7_undo_26 ?_
    subst hs
    have e : abUndo (tx, len, a, (wt, u, tl, le), p) = (-2, (tx, len, a, (wt, u, tl, le), p)) := by unfold abUndo; rw [show (tx, len, a, (wt, u, tl, le), p).2.2.2.2 = [] from hp0]; rfl
    rw [e]
    exact ⟨rfl, hC, fun _ _ _ => rfl⟩
  · refine j_ifn_eq (tgt := 24) C dX7_undo_11 rfl (by omega) (fun h => absurd h (by decide)) (fun _ => ?_)
    refine j_aload_n C dX7_undo_14 rfl rfl ?_
    refine j_get C flX7_64 dX7_undo_15 (Nat.lt_of_lt_of_le (by decide) hN) rfl rfl ?_
    refine j_get C flX7_156 dX7_undo_18 (Nat.lt_of_lt_of_le (by decide) hN) rfl rfl ?_
    refine j_top (hg2) ?_
    refine j_goto (tgt := 26) C dX7_undo_21 rfl ?_
    refine j_ret M dX7_undo_26 ?_
    have e : abUndo (tx, len, a, (wt, u, tl, le), p) = (nI (p.length - 1), (tx, len, a, s, p.dropLast)) := by unfold abUndo; dsimp only; rw [hp0]
    rw [e]
    exact ⟨rfl, ⟨⟨(hfg _ _ (by omega)).trans hCl, hlen, fun k hk => (hfg _ _ (by omega)).trans (hCt k hk)⟩, hI.kept (fun j n h1 h2 => hfg j n (by omega)), hg4, hg3⟩, fun j n h => hfg j n (by omega)⟩
