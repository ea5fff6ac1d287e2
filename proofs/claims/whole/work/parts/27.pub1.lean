set_option maxHeartbeats 4000000 in
set_option maxRecDepth 100000 in
theorem tX7_write {g : jG} (hN : 84 ≤ gN g) {σ : Sg} {tx : Nat → Int32} {len : Nat} {a : ND} {wt : Nat → Nat} {u : Nat → Bool} {tl : List Int32} {le : Nat} {p : List SD} (hC : CI σ (tx, len, a, (wt, u, tl, le), p)) (hA : AOk (tx, len, a, (wt, u, tl, le), p)) (x : Int32) : MS g yX7_write cX7_write 2 (some .int) rmX7_write [.ref (gad g (0)), .int (x)] σ (fun r σ' => r = (abWrite x (tx, len, a, (wt, u, tl, le), p)).1 ∧ CI σ' (abWrite x (tx, len, a, (wt, u, tl, le), p)).2 ∧ ∀ j n, 84 ≤ j → σ' j n = σ j n) := by
  refine MJ_of (by decide) (Nat.le_of_ble_eq_true rfl) (List.forall_mem_cons.mpr ⟨rfl, List.forall_mem_cons.mpr ⟨rfl, fun _ h => absurd h List.not_mem_nil⟩⟩) ?_
  intro κ M
  have C := M.1
  show J g κ 2 0 [some (.ref (gad g (0))), some (.int (x))] [] σ
  have hI : NetI σ 3 a := hC.2.1
  have hO : NOk a := hA.1
  have hS : StI σ 0 (nM a) (wt, u, tl, le) := hC.2.2.1
  have hW : StW σ 0 (nM a) wt u := hS.2.1
  have hw : WOk (nM a) wt := hA.2.1.1
  have htl6 : tl.length ≤ 6 := hA.2.1.2.1
  have hle31 : le < 2 ^ 31 := hA.2.1.2.2
  have hlen : len ≤ 200 := hC.1.2.1
  have hn7 := hO.2.1
  have hm12 := hO.2.2.1
  have hd6 := hO.2.2.2.1
  have hCl : σ 1 1 = nI len := hC.1.1
  have hCt : ∀ k, k < len → σ 2 k = tx k := hC.1.2.2
  refine j_iload_n C dX7_write_0 rfl rfl ?_
  refine j_bipush (v := nI 32) C dX7_write_1 rfl ?_
  refine j_icmp_lt (tgt := 12) C dX7_write_3 rfl (fun h3 => ?_) (fun h3 => ?_)
  · refine j_iconst (v := -1) C dX7_write_12 rfl ?_
    refine j_ret M dX7_write_13 ?_
    rw [abWrite, pIf_f (fun q => by
      obtain ⟨q1, q2⟩ := (nI_rng (by decide) (by decide)).mpr q
      first | exact absurd q1 (Int32.not_le.mpr (by assumption)) | exact absurd q2 (by assumption))]
    exact ⟨rfl, hC, fun _ _ _ => rfl⟩
  · refine j_iload_n C dX7_write_6 rfl rfl ?_
    refine j_bipush (v := nI 126) C dX7_write_7 rfl ?_
    refine j_icmp_le (tgt := 14) C dX7_write_9 rfl (fun h9 => ?_) (fun h9 => ?_)
    · refine j_aload_n C dX7_write_14 rfl rfl ?_
      refine j_get C flX7_10 dX7_write_15 (Nat.lt_of_lt_of_le (by decide) hN) rfl rfl ?_
      refine j_iload_n C dX7_write_18 rfl rfl ?_
      refine j_calli (As := [.int (x)]) (rest := []) C (tX1_put hN hCl hlen x) cdX1_put mlX7_84 dX7_write_19 (by decide) (by decide) (Nat.lt_of_lt_of_le (by decide) hN) rfl rfl rfl rfl rfl (Nat.le_of_ble_eq_true rfl) (fun rr_2 τ1 hp_3 => ?_)
      rcases hp_3 with ⟨e1, rfl, e3, e4, e5⟩ | ⟨e1, rfl, e3⟩
      · refine j_ifn_eq (tgt := 35) C dX7_write_22 rfl (by omega) (fun h => absurd h (by decide)) (fun _ => ?_)
        refine j_aload_n C dX7_write_25 rfl rfl ?_
        refine j_get C flX7_10 dX7_write_26 (Nat.lt_of_lt_of_le (by decide) hN) rfl rfl ?_
        refine j_get C flX7_92 dX7_write_29 (Nat.lt_of_lt_of_le (by decide) hN) rfl rfl ?_
        refine j_top (e5) ?_
        refine j_goto (tgt := 37) C dX7_write_32 rfl ?_
        refine j_ret M dX7_write_37 ?_
        have hin : inR x 32 126 := (nI_rng (by decide) (by decide)).mp ⟨Int32.not_lt.mp h3, h9⟩
        rw [abWrite, pIf_t hin]
        dsimp only
        rw [if_pos e1]
        refine ⟨rfl, ?_, fun j n h => e3 j n (by omega)⟩
        obtain ⟨⟨q1, q2, q3⟩, q4, q5, q6⟩ := hC
        refine ⟨⟨e5, by show len + 1 ≤ 200; omega, fun k hk => ?_⟩, q4.kept (fun j n h1 h2 => e3 j n (by omega)), q5.kept (fun j n h1 h2 => e3 j n (by omega)), q6.kept (fun j n h => e3 j n (by omega))⟩
        have hk' : k < len + 1 := hk
        clear hk
        show _ = upd tx len x k
        by_cases e : k = len
        · subst e; rw [pk_us]; exact e4
        · rw [pk_un e, e3 _ _ (by omega)]; exact hCt k (by omega)
      · refine j_ifn_eq (tgt := 35) C dX7_write_22 rfl (by omega) (fun _ => ?_) (fun h => absurd h (by decide))
        refine j_bipush (v := -3) C dX7_write_35 rfl ?_
        refine j_ret M dX7_write_37 ?_
        have hin : inR x 32 126 := (nI_rng (by decide) (by decide)).mp ⟨Int32.not_lt.mp h3, h9⟩
        rw [abWrite, pIf_t hin]
        dsimp only
        rw [if_neg (by omega)]
        subst e3
        exact ⟨rfl, hC, fun _ _ _ => rfl⟩
    · refine j_iconst (v := -1) C dX7_write_12 rfl ?_
      refine j_ret M dX7_write_13 ?_
      rw [abWrite, pIf_f (fun q => by
        obtain ⟨q1, q2⟩ := (nI_rng (by decide) (by decide)).mpr q
        first | exact absurd q1 (Int32.not_le.mpr (by assumption)) | exact absurd q2 (by assumption))]
      exact ⟨rfl, hC, fun _ _ _ => rfl⟩
set_option maxHeartbeats 4000000 in
set_option maxRecDepth 100000 in
theorem tX7_wipe {g : jG} (hN : 84 ≤ gN g) {σ : Sg} {tx : Nat → Int32} {len : Nat} {a : ND} {wt : Nat → Nat} {u : Nat → Bool} {tl : List Int32} {le : Nat} {p : List SD} (hC : CI σ (tx, len, a, (wt, u, tl, le), p)) (hA : AOk (tx, len, a, (wt, u, tl, le), p)) : MS g yX7_wipe cX7_wipe 2 (some .int) rmX7_wipe [.ref (gad g (0))] σ (fun r σ' => r = (abWipe (tx, len, a, (wt, u, tl, le), p)).1 ∧ CI σ' (abWipe (tx, len, a, (wt, u, tl, le), p)).2 ∧ ∀ j n, 84 ≤ j → σ' j n = σ j n) := by
  refine MJ_of (by decide) (Nat.le_of_ble_eq_true rfl) (List.forall_mem_cons.mpr ⟨rfl, fun _ h => absurd h List.not_mem_nil⟩) ?_
  intro κ M
  have C := M.1
  show J g κ 2 0 [some (.ref (gad g (0))), none] [] σ
  have hI : NetI σ 3 a := hC.2.1
  have hO : NOk a := hA.1
  have hS : StI σ 0 (nM a) (wt, u, tl, le) := hC.2.2.1
  have hW : StW σ 0 (nM a) wt u := hS.2.1
  have hw : WOk (nM a) wt := hA.2.1.1
  have htl6 : tl.length ≤ 6 := hA.2.1.2.1
  have hle31 : le < 2 ^ 31 := hA.2.1.2.2
  have hlen : len ≤ 200 := hC.1.2.1
  have hn7 := hO.2.1
  have hm12 := hO.2.2.1
  have hd6 := hO.2.2.2.1
  have hCl : σ 1 1 = nI len := hC.1.1
  have hCt : ∀ k, k < len → σ 2 k = tx k := hC.1.2.2
  refine j_aload_n C dX7_wipe_0 rfl rfl ?_
  refine j_get C flX7_10 dX7_wipe_1 (Nat.lt_of_lt_of_le (by decide) hN) rfl rfl ?_
  refine j_get C flX7_92 dX7_wipe_4 (Nat.lt_of_lt_of_le (by decide) hN) rfl rfl ?_
  refine j_top (hCl) ?_
  refine j_istore_n (L' := [some (.ref (gad g (0))), some (.int (nI (len)))]) C dX7_wipe_7 rfl (by decide) rfl ?_
  refine j_aload_n C dX7_wipe_8 rfl rfl ?_
  refine j_get C flX7_10 dX7_wipe_9 (Nat.lt_of_lt_of_le (by decide) hN) rfl rfl ?_
  refine j_iconst (v := nI 0) C dX7_wipe_12 rfl ?_
  refine j_put' C fpX7_92 dX7_wipe_13 (Nat.lt_of_lt_of_le (by decide) hN) (fun _ => rfl) rfl (Nat.le_of_ble_eq_true rfl) rfl rfl (fun τ1 hz_2 hw_3 => ?_)
  refine j_iload_n C dX7_wipe_16 rfl rfl ?_
  refine j_ret M dX7_wipe_17 ?_
  refine ⟨rfl, ?_, fun j n h => by rw [hz_2 _ _ (by omega)]⟩
  obtain ⟨⟨q1, q2, q3⟩, q4, q5, q6⟩ := hC
  exact ⟨⟨by assumption, Nat.zero_le _, fun k hk => absurd hk (Nat.not_lt_zero _)⟩, q4.kept (fun j n h1 h2 => by rw [hz_2 _ _ (by omega)]), q5.kept (fun j n h1 h2 => by rw [hz_2 _ _ (by omega)]), q6.kept (fun j n h => by rw [hz_2 _ _ (by omega)])⟩
set_option maxHeartbeats 4000000 in
set_option maxRecDepth 100000 in
theorem tX7_fault {g : jG} (hN : 84 ≤ gN g) {σ : Sg} {tx : Nat → Int32} {len : Nat} {a : ND} {wt : Nat → Nat} {u : Nat → Bool} {tl : List Int32} {le : Nat} {p : List SD} (hC : CI σ (tx, len, a, (wt, u, tl, le), p)) (hA : AOk (tx, len, a, (wt, u, tl, le), p)) : MS g yX7_fault cX7_fault 1 (some .int) rmX7_fault [.ref (gad g (0))] σ (fun r σ' => r = (abFault (tx, len, a, (wt, u, tl, le), p)).1 ∧ CI σ' (abFault (tx, len, a, (wt, u, tl, le), p)).2 ∧ ∀ j n, 84 ≤ j → σ' j n = σ j n) := by
  refine MJ_of (by decide) (Nat.le_of_ble_eq_true rfl) (List.forall_mem_cons.mpr ⟨rfl, fun _ h => absurd h List.not_mem_nil⟩) ?_
  intro κ M
  have C := M.1
  show J g κ 1 0 [some (.ref (gad g (0)))] [] σ
  have hI : NetI σ 3 a := hC.2.1
  have hO : NOk a := hA.1
  have hS : StI σ 0 (nM a) (wt, u, tl, le) := hC.2.2.1
  have hW : StW σ 0 (nM a) wt u := hS.2.1
  have hw : WOk (nM a) wt := hA.2.1.1
  have htl6 : tl.length ≤ 6 := hA.2.1.2.1
  have hle31 : le < 2 ^ 31 := hA.2.1.2.2
  have hlen : len ≤ 200 := hC.1.2.1
  have hn7 := hO.2.1
  have hm12 := hO.2.2.1
  have hd6 := hO.2.2.2.1
  have hCl : σ 1 1 = nI len := hC.1.1
  have hCt : ∀ k, k < len → σ 2 k = tx k := hC.1.2.2
  have htx : rdT (σ 2) len len 0 0 (nd0 ndZ) = abRead (tx, len, a, (wt, u, tl, le), p) := rdT_congr hCt _ _ _ _ (Nat.le_of_eq (Nat.zero_add _))
  refine j_aload_n C dX7_fault_0 rfl rfl ?_
  refine j_get C flX7_29 dX7_fault_1 (Nat.lt_of_lt_of_le (by decide) hN) rfl rfl ?_
  refine j_aload_n C dX7_fault_4 rfl rfl ?_
  refine j_get C flX7_10 dX7_fault_5 (Nat.lt_of_lt_of_le (by decide) hN) rfl rfl ?_
  refine j_aload_n C dX7_fault_8 rfl rfl ?_
  refine j_get C flX7_23 dX7_fault_9 (Nat.lt_of_lt_of_le (by decide) hN) rfl rfl ?_
  refine j_calli (As := [.ref (gad g (1)), .ref (gad g (12))]) (rest := []) C (tX5_read (i := 1) hN (σ := σ) (by omega) (len := len) hCl hlen ndZ) cdX5_read mlX7_95 dX7_fault_12 (by decide) (by decide) (Nat.lt_of_lt_of_le (by decide) hN) rfl rfl rfl rfl rfl (Nat.le_of_ble_eq_true rfl) (fun rr_2 τ1 hp_3 => ?_)
  obtain ⟨hfr, hr1, hN1⟩ := hp_3
  rw [htx] at hr1 hN1
  subst hr1
  refine j_ret M dX7_fault_15 ?_
  exact ⟨rfl, hC.kept (fun j n h => hfr j n (by omega)), fun j n h => hfr j n (by omega)⟩
set_option maxHeartbeats 4000000 in
set_option maxRecDepth 100000 in
theorem tX7_layText {g : jG} (hN : 84 ≤ gN g) {σ : Sg} {tx : Nat → Int32} {len : Nat} {a : ND} {wt : Nat → Nat} {u : Nat → Bool} {tl : List Int32} {le : Nat} {p : List SD} (hC : CI σ (tx, len, a, (wt, u, tl, le), p)) (hA : AOk (tx, len, a, (wt, u, tl, le), p)) : MS g yX7_layText cX7_layText 1 (some .boolean) rmX7_layText [.ref (gad g (0))] σ (fun r σ' => (if (abLay (tx, len, a, (wt, u, tl, le), p)).1 = -2 then r = nI 0 else r = nI 1 ∧ (abLay (tx, len, a, (wt, u, tl, le), p)).1 = nI (nM (abLay (tx, len, a, (wt, u, tl, le), p)).2.2.2.1)) ∧ CI σ' (abLay (tx, len, a, (wt, u, tl, le), p)).2 ∧ ∀ j n, 84 ≤ j → σ' j n = σ j n) := by
  refine MJ_of (by decide) (Nat.le_of_ble_eq_true rfl) (List.forall_mem_cons.mpr ⟨rfl, fun _ h => absurd h List.not_mem_nil⟩) ?_
  intro κ M
  have C := M.1
  show J g κ 1 0 [some (.ref (gad g (0)))] [] σ
  have hI : NetI σ 3 a := hC.2.1
  have hO : NOk a := hA.1
  have hS : StI σ 0 (nM a) (wt, u, tl, le) := hC.2.2.1
  have hW : StW σ 0 (nM a) wt u := hS.2.1
  have hw : WOk (nM a) wt := hA.2.1.1
  have htl6 : tl.length ≤ 6 := hA.2.1.2.1
  have hle31 : le < 2 ^ 31 := hA.2.1.2.2
  have hlen : len ≤ 200 := hC.1.2.1
  have hn7 := hO.2.1
  have hm12 := hO.2.2.1
  have hd6 := hO.2.2.2.1
  have hCl : σ 1 1 = nI len := hC.1.1
  have hCt : ∀ k, k < len → σ 2 k = tx k := hC.1.2.2
  have htx : rdT (σ 2) len len 0 0 (nd0 ndZ) = abRead (tx, len, a, (wt, u, tl, le), p) := rdT_congr hCt _ _ _ _ (Nat.le_of_eq (Nat.zero_add _))
  have hRO : NOk (abRead (tx, len, a, (wt, u, tl, le), p)).2 := rdT_ok _ _ _ _ nd0_ok
  generalize hR : abRead (tx, len, a, (wt, u, tl, le), p) = R at htx hRO
  refine j_aload_n C dX7_layText_0 rfl rfl ?_
  refine j_get C flX7_29 dX7_layText_1 (Nat.lt_of_lt_of_le (by decide) hN) rfl rfl ?_
  refine j_aload_n C dX7_layText_4 rfl rfl ?_
  refine j_get C flX7_10 dX7_layText_5 (Nat.lt_of_lt_of_le (by decide) hN) rfl rfl ?_
  refine j_aload_n C dX7_layText_8 rfl rfl ?_
  refine j_get C flX7_23 dX7_layText_9 (Nat.lt_of_lt_of_le (by decide) hN) rfl rfl ?_
  refine j_calli (As := [.ref (gad g (1)), .ref (gad g (12))]) (rest := []) C (tX5_read (i := 1) hN (by omega) (len := len) hCl hlen ndZ) cdX5_read mlX7_95 dX7_layText_12 (by decide) (by decide) (Nat.lt_of_lt_of_le (by decide) hN) rfl rfl rfl rfl rfl (Nat.le_of_ble_eq_true rfl) (fun rr_2 τ1 hp_3 => ?_)
  obtain ⟨hfr, hr1, hN1⟩ := hp_3
  rw [htx] at hr1 hN1
  subst hr1
  replace hN1 : NetI _ 12 R.2 := hN1
  obtain ⟨o1, o2, o3, o4, o5, o6⟩ := id hRO
  refine j_bipush (v := -4) C dX7_layText_15 rfl ?_
  refine j_icmp_ne (tgt := 40) C dX7_layText_17 rfl (fun h17 => ?_) (fun h17 => ?_)
  · refine j_iconst (v := nI 0) C dX7_layText_40 rfl ?_
    refine j_retz M dX7_layText_41 rfl ?_
    have e : abLay (tx, len, a, (wt, u, tl, le), p) = (-2, (tx, len, a, (wt, u, tl, le), p)) := by
      unfold abLay
      rw [hR]
      exact if_neg (by first | (intro q; exact absurd q.1 h17) | (intro q; exact absurd h27 q.2.1) | (intro q; exact absurd h37 q.2.2))
    rw [e]
    exact ⟨by show (if (-2 : Int32) = -2 then _ else _); rw [if_pos rfl], hC.kept (fun j n h => hfr j n (by omega)), fun j n h => hfr j n (by omega)⟩
  · refine j_aload_n C dX7_layText_20 rfl rfl ?_
    refine j_get C flX7_23 dX7_layText_21 (Nat.lt_of_lt_of_le (by decide) hN) rfl rfl ?_
    refine j_get C flX7_99 dX7_layText_24 (Nat.lt_of_lt_of_le (by decide) hN) rfl rfl ?_
    refine j_top (hN1.m) ?_
    refine j_ifn_eq (tgt := 40) C dX7_layText_27 rfl (by omega) (fun h27 => ?_) (fun h27 => ?_)
    · refine j_iconst (v := nI 0) C dX7_layText_40 rfl ?_
      refine j_retz M dX7_layText_41 rfl ?_
      have e : abLay (tx, len, a, (wt, u, tl, le), p) = (-2, (tx, len, a, (wt, u, tl, le), p)) := by
        unfold abLay
        rw [hR]
        exact if_neg (by first | (intro q; exact absurd q.1 h17) | (intro q; exact absurd h27 q.2.1) | (intro q; exact absurd h37 q.2.2))
      rw [e]
      exact ⟨by show (if (-2 : Int32) = -2 then _ else _); rw [if_pos rfl], hC.kept (fun j n h => hfr j n (by omega)), fun j n h => hfr j n (by omega)⟩
    · refine j_aload_n C dX7_layText_30 rfl rfl ?_
      refine j_get C flX7_23 dX7_layText_31 (Nat.lt_of_lt_of_le (by decide) hN) rfl rfl ?_
      refine j_get C flX7_208 dX7_layText_34 (Nat.lt_of_lt_of_le (by decide) hN) rfl rfl ?_
      refine j_top (hN1.d) ?_
      refine j_ifn_ne (tgt := 42) C dX7_layText_37 rfl (by omega) (fun h37 => ?_) (fun h37 => ?_)
      · refine j_aload_n C dX7_layText_42 rfl rfl ?_
        refine j_get C flX7_29 dX7_layText_43 (Nat.lt_of_lt_of_le (by decide) hN) rfl rfl ?_
        refine j_aload_n C dX7_layText_46 rfl rfl ?_
        refine j_get C flX7_10 dX7_layText_47 (Nat.lt_of_lt_of_le (by decide) hN) rfl rfl ?_
        refine j_aload_n C dX7_layText_50 rfl rfl ?_
        refine j_get C flX7_19 dX7_layText_51 (Nat.lt_of_lt_of_le (by decide) hN) rfl rfl ?_
        refine j_calli (As := [.ref (gad g (1)), .ref (gad g (3))]) (rest := []) C (tX5_read (i := 0) hN (by omega) (len := len) ((hfr _ _ (by omega)).trans hCl) hlen ndZ) cdX5_read mlX7_95 dX7_layText_54 (by decide) (by decide) (Nat.lt_of_lt_of_le (by decide) hN) rfl rfl rfl rfl rfl (Nat.le_of_ble_eq_true rfl) (fun rr_5 τ4 hp_6 => ?_)
        obtain ⟨hfs, -, hN0⟩ := hp_6
        rw [show τ1 2 = σ 2 from funext (fun n => hfr 2 n (by omega)), htx] at hN0
        replace hN0 : NetI _ 3 R.2 := hN0
        refine j_pop C dX7_layText_57 rfl ?_
        refine j_aload_n C dX7_layText_58 rfl rfl ?_
        refine j_get C flX7_54 dX7_layText_59 (Nat.lt_of_lt_of_le (by decide) hN) rfl rfl ?_
        refine j_aload_n C dX7_layText_62 rfl rfl ?_
        refine j_get C flX7_19 dX7_layText_63 (Nat.lt_of_lt_of_le (by decide) hN) rfl rfl ?_
        refine j_callv (As := [.ref (gad g (3))]) (rest := []) C (tX6_begin hN hN0.m o3) cdX6_begin mlX7_226 dX7_layText_66 (by decide) (by decide) (Nat.lt_of_lt_of_le (by decide) hN) rfl rfl rfl rfl rfl (Nat.le_of_ble_eq_true rfl) (fun τ7 hp_9 => ?_)
        obtain ⟨hfb, b0, b4, b5, b6⟩ := hp_9
        have hWb : StW τ7 0 (nM R.2) (nTw R.2) (fun _ => true) := fun l hl => ⟨(b6 l hl).1.trans (hN0.tw hl), (b6 l hl).2⟩
        have hwb : WOk (nM R.2) (nTw R.2) := fun l hl => ⟨(o5 l hl).2.2.2.2.2.1, (o5 l hl).2.2.2.2.2.2⟩
        refine j_aload_n C dX7_layText_69 rfl rfl ?_
        refine j_get C flX7_54 dX7_layText_70 (Nat.lt_of_lt_of_le (by decide) hN) rfl rfl ?_
        refine j_aload_n C dX7_layText_73 rfl rfl ?_
        refine j_get C flX7_38 dX7_layText_74 (Nat.lt_of_lt_of_le (by decide) hN) rfl rfl ?_
        refine j_aload_n C dX7_layText_77 rfl rfl ?_
        refine j_get C flX7_54 dX7_layText_78 (Nat.lt_of_lt_of_le (by decide) hN) rfl rfl ?_
        refine j_calli (As := [.ref (gad g (48))]) (rest := [.ref (gad g (48))]) C (tX0_costOf (i := 0) (w := nTw R.2) (u := fun _ => true) hN (σ := τ7) (by omega) (hN0.kept (fun j n h1 h2 => hfb j n (by omega))) hRO hWb hwb) cdX0_costOf mlX7_115 dX7_layText_81 (by decide) (by decide) (Nat.lt_of_lt_of_le (by decide) hN) rfl rfl rfl rfl rfl (Nat.le_of_ble_eq_true rfl) (fun rr_11 τ10 hp_12 => ?_)
        obtain ⟨hfc, hFl, hrc⟩ := hp_12
        subst hrc
        refine j_put' C fpX7_220 dX7_layText_84 (Nat.lt_of_lt_of_le (by decide) hN) (fun _ => rfl) rfl (Nat.le_of_ble_eq_true rfl) rfl rfl (fun τ13 hz_14 hw_15 => ?_)
        refine j_aload_n C dX7_layText_87 rfl rfl ?_
        refine j_get C flX7_64 dX7_layText_88 (Nat.lt_of_lt_of_le (by decide) hN) rfl rfl ?_
        refine j_iconst (v := nI 0) C dX7_layText_91 rfl ?_
        refine j_put' C fpX7_156 dX7_layText_92 (Nat.lt_of_lt_of_le (by decide) hN) (fun _ => rfl) rfl (Nat.le_of_ble_eq_true rfl) rfl rfl (fun τ16 hz_17 hw_18 => ?_)
        refine j_iconst (v := nI 1) C dX7_layText_95 rfl ?_
        refine j_retz M dX7_layText_96 rfl ?_
        have hne : ¬ nI (nM R.2) = -2 := nI_neg (by omega) (by decide)
        have e : abLay (tx, len, a, (wt, u, tl, le), p) = (nI (nM R.2), (tx, len, R.2, newS R.2, [])) := by
          unfold abLay
          rw [hR]
          exact if_pos ⟨h17, by omega, by omega⟩
        rw [e]
        obtain ⟨⟨q1, q2, q3⟩, q4, q5, q6⟩ := hC
        obtain ⟨nx, z1, z2, z3, z4, z5⟩ := q6
        refine ⟨by rw [if_neg hne]; exact ⟨rfl, rfl⟩, ⟨⟨by rw [hz_17 _ _ (by omega), hz_14 _ _ (by omega), hfc _ _ (by omega), hfb _ _ (by omega), hfs _ _ (by omega), hfr _ _ (by omega)]; exact q1, q2, fun k hk => by rw [hz_17 _ _ (by omega), hz_14 _ _ (by omega), hfc _ _ (by omega), hfb _ _ (by omega), hfs _ _ (by omega), hfr _ _ (by omega)]; exact q3 k hk⟩, hN0.kept (fun j n h1 h2 => by rw [hz_17 _ _ (by omega), hz_14 _ _ (by omega), hfc _ _ (by omega), hfb _ _ (by omega)]), ⟨by rw [hz_17 _ _ (by omega), hz_14 _ _ (by omega), hfc _ _ (by omega)]; exact b0, fun l hl => ⟨by rw [hz_17 _ _ (by omega), hz_14 _ _ (by omega), hfc _ _ (by omega)]; exact (hWb l hl).1, by rw [hz_17 _ _ (by omega), hz_14 _ _ (by omega), hfc _ _ (by omega)]; exact (hWb l hl).2⟩, ⟨0, by decide, fun _ => rfl, by rw [hz_17 _ _ (by omega), hz_14 _ _ (by omega), hfc _ _ (by omega)]; exact b4, by rw [hz_17 _ _ (by omega), hz_14 _ _ (by omega), hfc _ _ (by omega)]; exact b5, fun k hk => absurd hk (Nat.not_lt_zero _)⟩, by rw [hz_17 _ _ (by omega)]; assumption⟩, ⟨nx, z1, Nat.zero_le _, by rw [hz_17 _ _ (by omega), hz_14 _ _ (by omega), hfc _ _ (by omega), hfb _ _ (by omega), hfs _ _ (by omega), hfr _ _ (by omega)]; exact z3, by assumption, fun k s hs => by cases hs⟩⟩, fun j n h => by rw [hz_17 _ _ (by omega), hz_14 _ _ (by omega), hfc _ _ (by omega), hfb _ _ (by omega), hfs _ _ (by omega), hfr _ _ (by omega)]⟩
      · refine j_iconst (v := nI 0) C dX7_layText_40 rfl ?_
        refine j_retz M dX7_layText_41 rfl ?_
        have e : abLay (tx, len, a, (wt, u, tl, le), p) = (-2, (tx, len, a, (wt, u, tl, le), p)) := by
          unfold abLay
          rw [hR]
          exact if_neg (by first | (intro q; exact absurd q.1 h17) | (intro q; exact absurd h27 q.2.1) | (intro q; exact absurd h37 q.2.2))
        rw [e]
        exact ⟨by show (if (-2 : Int32) = -2 then _ else _); rw [if_pos rfl], hC.kept (fun j n h => hfr j n (by omega)), fun j n h => hfr j n (by omega)⟩
set_option maxHeartbeats 4000000 in
set_option maxRecDepth 100000 in
theorem tX7_lay {g : jG} (hN : 84 ≤ gN g) {σ : Sg} {tx : Nat → Int32} {len : Nat} {a : ND} {wt : Nat → Nat} {u : Nat → Bool} {tl : List Int32} {le : Nat} {p : List SD} (hC : CI σ (tx, len, a, (wt, u, tl, le), p)) (hA : AOk (tx, len, a, (wt, u, tl, le), p)) : MS g yX7_lay cX7_lay 1 (some .int) rmX7_lay [.ref (gad g (0))] σ (fun r σ' => r = (abLay (tx, len, a, (wt, u, tl, le), p)).1 ∧ CI σ' (abLay (tx, len, a, (wt, u, tl, le), p)).2 ∧ ∀ j n, 84 ≤ j → σ' j n = σ j n) := by
  refine MJ_of (by decide) (Nat.le_of_ble_eq_true rfl) (List.forall_mem_cons.mpr ⟨rfl, fun _ h => absurd h List.not_mem_nil⟩) ?_
  intro κ M
  have C := M.1
  show J g κ 1 0 [some (.ref (gad g (0)))] [] σ
  have hI : NetI σ 3 a := hC.2.1
  have hO : NOk a := hA.1
  have hS : StI σ 0 (nM a) (wt, u, tl, le) := hC.2.2.1
  have hW : StW σ 0 (nM a) wt u := hS.2.1
  have hw : WOk (nM a) wt := hA.2.1.1
  have htl6 : tl.length ≤ 6 := hA.2.1.2.1
  have hle31 : le < 2 ^ 31 := hA.2.1.2.2
  have hlen : len ≤ 200 := hC.1.2.1
  have hn7 := hO.2.1
  have hm12 := hO.2.2.1
  have hd6 := hO.2.2.2.1
  have hCl : σ 1 1 = nI len := hC.1.1
  have hCt : ∀ k, k < len → σ 2 k = tx k := hC.1.2.2
  refine j_aload_n C dX7_lay_0 rfl rfl ?_
  refine j_calli (As := []) (rest := []) C (tX7_layText hN hC hA) cdX7_layText mlX7_88 dX7_lay_1 (by decide) (by decide) (Nat.lt_of_lt_of_le (by decide) hN) rfl rfl rfl rfl rfl (Nat.le_of_ble_eq_true rfl) (fun rr_2 τ1 hp_3 => ?_)
  obtain ⟨hc1, hc2, hfl⟩ := hp_3
  rcases Classical.em ((abLay (tx, len, a, (wt, u, tl, le), p)).1 = -2) with e | e
  rotate_left
  · rw [if_neg e] at hc1
    obtain ⟨rfl, hc3⟩ := hc1
    refine j_ifn_eq (tgt := 17) C dX7_lay_4 rfl (by omega) (fun h => absurd h (by decide)) (fun _ => ?_)
    refine j_aload_n C dX7_lay_7 rfl rfl ?_
    refine j_get C flX7_19 dX7_lay_8 (Nat.lt_of_lt_of_le (by decide) hN) rfl rfl ?_
    refine j_get C flX7_99 dX7_lay_11 (Nat.lt_of_lt_of_le (by decide) hN) rfl rfl ?_
    refine j_top (hc2.2.1.m) ?_
    refine j_goto (tgt := 19) C dX7_lay_14 rfl ?_
    refine j_ret M dX7_lay_19 ?_
    exact ⟨hc3.symm, hc2, hfl⟩
  · rw [if_pos e] at hc1
    subst hc1
    refine j_ifn_eq (tgt := 17) C dX7_lay_4 rfl (by omega) (fun _ => ?_) (fun h => absurd h (by decide))
    refine j_bipush (v := -2) C dX7_lay_17 rfl ?_
    refine j_ret M dX7_lay_19 ?_
    exact ⟨e.symm, hc2, hfl⟩
set_option maxHeartbeats 4000000 in
set_option maxRecDepth 100000 in
theorem tX7_move {g : jG} (hN : 84 ≤ gN g) {σ : Sg} {tx : Nat → Int32} {len : Nat} {a : ND} {wt : Nat → Nat} {u : Nat → Bool} {tl : List Int32} {le : Nat} {p : List SD} (hC : CI σ (tx, len, a, (wt, u, tl, le), p)) (hA : AOk (tx, len, a, (wt, u, tl, le), p)) (l0 x0 : Int32) : MS g yX7_move cX7_move 4 (some .int) rmX7_move [.ref (gad g (0)), .int (l0), .int (x0)] σ (fun r σ' => r = (abMove l0 x0 (tx, len, a, (wt, u, tl, le), p)).1 ∧ CI σ' (abMove l0 x0 (tx, len, a, (wt, u, tl, le), p)).2 ∧ ∀ j n, 84 ≤ j → σ' j n = σ j n) := by
  refine MJ_of (by decide) (Nat.le_of_ble_eq_true rfl) (List.forall_mem_cons.mpr ⟨rfl, List.forall_mem_cons.mpr ⟨rfl, List.forall_mem_cons.mpr ⟨rfl, fun _ h => absurd h List.not_mem_nil⟩⟩⟩) ?_
  intro κ M
  have C := M.1
  show J g κ 4 0 [some (.ref (gad g (0))), some (.int (l0)), some (.int (x0)), none] [] σ
  have hI : NetI σ 3 a := hC.2.1
  have hO : NOk a := hA.1
  have hS : StI σ 0 (nM a) (wt, u, tl, le) := hC.2.2.1
  have hW : StW σ 0 (nM a) wt u := hS.2.1
  have hw : WOk (nM a) wt := hA.2.1.1
  have htl6 : tl.length ≤ 6 := hA.2.1.2.1
  have hle31 : le < 2 ^ 31 := hA.2.1.2.2
  have hlen : len ≤ 200 := hC.1.2.1
  have hn7 := hO.2.1
  have hm12 := hO.2.2.1
  have hd6 := hO.2.2.2.1
  have hCl : σ 1 1 = nI len := hC.1.1
  have hCt : ∀ k, k < len → σ 2 k = tx k := hC.1.2.2
  refine j_aload_n C dX7_move_0 rfl rfl ?_
  refine j_get C flX7_19 dX7_move_1 (Nat.lt_of_lt_of_le (by decide) hN) rfl rfl ?_
  refine j_iload_n C dX7_move_4 rfl rfl ?_
  refine j_calli (As := [.int (l0)]) (rest := []) C (tX3_hasLink (i := 0) hN (by omega) hI.m (by omega) _) cdX3_hasLink mlX7_102 dX7_move_5 (by decide) (by decide) (Nat.lt_of_lt_of_le (by decide) hN) rfl rfl rfl rfl rfl (Nat.le_of_ble_eq_true rfl) (fun rr_2 τ1 hp_3 => ?_)
  obtain ⟨hs, hc⟩ := hp_3
  replace hs := hs.symm
  subst hs
  rcases hc with ⟨rfl, l, hl, rfl⟩ | ⟨rfl, hno⟩
  · refine j_ifn_eq (tgt := 18) C dX7_move_8 rfl (by omega) (fun h => absurd h (by decide)) (fun _ => ?_)
    refine j_iload_n C dX7_move_11 rfl rfl ?_
    refine j_calls (As := [.int (x0)]) (rest := []) C (tX7_isWeight hN _) cdX7_isWeight msX7_105 dX7_move_12 (by decide) (by decide) rfl rfl (Nat.le_of_ble_eq_true rfl) (fun rr_5 τ4 hp_6 => ?_)
    obtain ⟨hs, hc⟩ := hp_6
    replace hs := hs.symm
    subst hs
    rcases hc with ⟨rfl, x, hx1, hx2, rfl⟩ | ⟨rfl, hRno⟩
    · refine j_ifn_ne (tgt := 20) C dX7_move_15 rfl (by omega) (fun _ => ?_) (fun h => absurd h (by decide))
      have hwl := hw l hl
      refine j_aload_n C dX7_move_20 rfl rfl ?_
      refine j_get C flX7_54 dX7_move_21 (Nat.lt_of_lt_of_le (by decide) hN) rfl rfl ?_
      refine j_get C flX7_108 dX7_move_24 (Nat.lt_of_lt_of_le (by decide) hN) rfl rfl ?_
      refine j_iload_n C dX7_move_27 rfl rfl ?_
      refine j_iald C dX7_move_28 (Nat.lt_of_lt_of_le (by decide) hN) (fun _ => rfl) (by decide) (by omega) ?_
      refine j_top ((hW (l) (by omega)).1) ?_
      refine j_istore_n (L' := [some (.ref (gad g (0))), some (.int (nI (l))), some (.int (nI (x))), some (.int (nI (wt (l))))]) C dX7_move_29 rfl (by decide) rfl ?_
      refine j_iload_n C dX7_move_30 rfl rfl ?_
      refine j_iload_n C dX7_move_31 rfl rfl ?_
      refine j_icmpn_ne (tgt := 38) C dX7_move_32 rfl (by omega) (by omega) (fun h32 => ?_) (fun h32 => ?_)
      · refine j_aload_n C dX7_move_38 rfl rfl ?_
        refine j_get C flX7_64 dX7_move_39 (Nat.lt_of_lt_of_le (by decide) hN) rfl rfl ?_
        refine j_aload_n C dX7_move_42 rfl rfl ?_
        refine j_get C flX7_54 dX7_move_43 (Nat.lt_of_lt_of_le (by decide) hN) rfl rfl ?_
        refine j_callv (As := [.ref (gad g (48))]) (rest := []) C (tX4_keepA hN hC.2.2.2 hS hm12 htl6) cdX4_keep mlX7_111 dX7_move_46 (by decide) (by decide) (Nat.lt_of_lt_of_le (by decide) hN) rfl rfl rfl rfl rfl (Nat.le_of_ble_eq_true rfl) (fun τ7 hp_9 => ?_)
        obtain ⟨hfk, hPk⟩ := hp_9
        refine j_aload_n C dX7_move_49 rfl rfl ?_
        refine j_get C flX7_54 dX7_move_50 (Nat.lt_of_lt_of_le (by decide) hN) rfl rfl ?_
        refine j_get C flX7_108 dX7_move_53 (Nat.lt_of_lt_of_le (by decide) hN) rfl rfl ?_
        refine j_iload_n C dX7_move_56 rfl rfl ?_
        refine j_iload_n C dX7_move_57 rfl rfl ?_
        refine j_iast' C dX7_move_58 (Nat.lt_of_lt_of_le (by decide) hN) (fun _ => rfl) (by decide) (by omega) (fun τ10 hz_11 hw_12 => ?_)
        have hwx : WOk (nM a) (updN wt l x) := fun k hk => by
          by_cases e : k = l
          · subst e; rw [updN_s]; omega
          · rw [updN_n e]; exact hw k hk
        have hWx : StW τ10 0 (nM a) (updN wt l x) u := fun k hk => by
          refine ⟨?_, by rw [hz_11 _ _ (by omega), hfk _ _ (by omega)]; exact (hW k hk).2⟩
          by_cases e : k = l
          · subst e; rw [updN_s]; assumption
          · rw [updN_n e, hz_11 _ _ (by omega), hfk _ _ (by omega)]; exact (hW k hk).1
        have hcb := costN_bd (w := (updN wt l x)) (u := u) hO
        refine j_aload_n C dX7_move_59 rfl rfl ?_
        refine j_get C flX7_54 dX7_move_60 (Nat.lt_of_lt_of_le (by decide) hN) rfl rfl ?_
        refine j_aload_n C dX7_move_63 rfl rfl ?_
        refine j_get C flX7_38 dX7_move_64 (Nat.lt_of_lt_of_le (by decide) hN) rfl rfl ?_
        refine j_aload_n C dX7_move_67 rfl rfl ?_
        refine j_get C flX7_54 dX7_move_68 (Nat.lt_of_lt_of_le (by decide) hN) rfl rfl ?_
        refine j_calli (As := [.ref (gad g (48))]) (rest := [.ref (gad g (48))]) C (tX0_costOf (i := 0) (w := (updN wt l x)) (u := u) hN (σ := τ10) (by omega) (hI.kept (fun j n h1 h2 => by rw [hz_11 _ _ (by omega), hfk _ _ (by omega)])) hO hWx hwx) cdX0_costOf mlX7_115 dX7_move_71 (by decide) (by decide) (Nat.lt_of_lt_of_le (by decide) hN) rfl rfl rfl rfl rfl (Nat.le_of_ble_eq_true rfl) (fun rr_14 τ13 hp_15 => ?_)
        obtain ⟨hfc, hFl, hrc⟩ := hp_15
        subst hrc
        refine j_callv (As := [.int (nI (costN a (updN wt l x) u))]) (rest := []) C (tX6_noteCost hN (nI (costN a (updN wt l x) u))) cdX6_noteCost mlX7_119 dX7_move_74 (by decide) (by decide) (Nat.lt_of_lt_of_le (by decide) hN) rfl rfl rfl rfl rfl (Nat.le_of_ble_eq_true rfl) (fun τ16 hp_18 => ?_)
        obtain ⟨hfn, hvn⟩ := hp_18
        refine j_iload_n C dX7_move_77 rfl rfl ?_
        refine j_ret M dX7_move_78 ?_
        rw [abMove, pIf_t ⟨⟨l, hl, rfl⟩, ⟨x, hx1, hx2, rfl⟩⟩, idx_nI (by omega), idx_nI (by omega)]
        dsimp only
        rw [if_neg (by omega)]
        refine ⟨rfl, ⟨⟨by rw [hfn _ _ (by omega), hfc _ _ (by omega), hz_11 _ _ (by omega), hfk _ _ (by omega)]; exact hCl, hlen, fun k hk => by rw [hfn _ _ (by omega), hfc _ _ (by omega), hz_11 _ _ (by omega), hfk _ _ (by omega)]; exact hCt k hk⟩, hI.kept (fun j n h1 h2 => by rw [hfn _ _ (by omega), hfc _ _ (by omega), hz_11 _ _ (by omega), hfk _ _ (by omega)]), ?_, hPk.kept (fun j n h => by rw [hfn _ _ (by omega), hfc _ _ (by omega), hz_11 _ _ (by omega)])⟩, fun j n h => by rw [hfn _ _ (by omega), hfc _ _ (by omega), hz_11 _ _ (by omega), hfk _ _ (by omega)]⟩
        refine hS.chg0 (fun j n h => by rw [hfn _ _ (by omega), hfc _ _ (by omega), hz_11 _ _ (by omega), hfk _ _ (by omega)]) (hWx.kept' (fun j n h => by rw [hfn _ _ (by omega), hfc _ _ (by omega)])) ?_
        rw [hvn, hfc _ _ (by omega), hz_11 _ _ (by omega), hfk _ _ (by omega), hS.2.2.2]
        show _ = nI (min le _)
        rw [nI_min (by omega) (by omega)]
      · refine j_bipush (v := -2) C dX7_move_35 rfl ?_
        refine j_ret M dX7_move_37 ?_
        rw [abMove, pIf_t ⟨⟨l, hl, rfl⟩, ⟨x, hx1, hx2, rfl⟩⟩, idx_nI (by omega), idx_nI (by omega)]
        dsimp only
        rw [if_pos (by omega)]
        exact ⟨rfl, hC, fun _ _ _ => rfl⟩
    · refine j_ifn_ne (tgt := 20) C dX7_move_15 rfl (by omega) (fun h => absurd h (by decide)) (fun _ => ?_)
      refine j_iconst (v := -1) C dX7_move_18 rfl ?_
      refine j_ret M dX7_move_19 ?_
      rw [abMove, pIf_f (by first | exact fun q => hno q.1 | exact fun q => hRno q.2)]
      exact ⟨rfl, hC, fun _ _ _ => rfl⟩
  · refine j_ifn_eq (tgt := 18) C dX7_move_8 rfl (by omega) (fun _ => ?_) (fun h => absurd h (by decide))
    refine j_iconst (v := -1) C dX7_move_18 rfl ?_
    refine j_ret M dX7_move_19 ?_
    rw [abMove, pIf_f (by first | exact fun q => hno q.1 | exact fun q => hRno q.2)]
    exact ⟨rfl, hC, fun _ _ _ => rfl⟩
