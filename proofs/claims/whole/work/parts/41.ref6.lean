theorem nI_nleA {a : Nat} {c : Int32} (ha : a < 2 ^ 31) (hc : c < 0) : ¬ nI a ≤ c := fun h => by
  have h1 := Int32.le_iff_toInt_le.mp h
  have h2 := Int32.lt_iff_toInt_lt.mp hc
  rw [nI_toInt ha] at h1
  have : (0 : Int32).toInt = 0 := rfl
  omega
theorem nI_nleB {a : Nat} {c : Int32} (ha : a < 2 ^ 31) (hc : c < 0) : c ≤ nI a := by
  have h2 := Int32.lt_iff_toInt_lt.mp hc
  apply Int32.le_iff_toInt_le.mpr
  rw [nI_toInt ha]
  have : (0 : Int32).toInt = 0 := rfl
  omega
theorem fnd_ps {a : ND} {w : Nat → Nat} {u : Nat → Bool} {hd : Bool} {le : Nat} {tl : List Int32} {ps ps' : Int32} (h1 : ps < 0) (h2 : ps' < 0) : ∀ {m : Nat}, m < 2 ^ 31 → fndF a w u hd le tl ps m = fndF a w u hd le tl ps' m
  | 0, _ => rfl
  | m + 1, hm => by rw [fndF, fndF, if_neg (nI_neg (by omega) h1), if_neg (nI_neg (by omega) h2), fnd_ps h1 h2 (by omega)]
theorem cnt_not (u : Nat → Bool) : ∀ m, cnt (fun l => !u l) m + cnt u m = m
  | 0 => rfl
  | m + 1 => by
    have := cnt_not u m
    cases e : u m with
    | true => rw [cnt_hit e, cnt_miss (p := fun l => !u l) (by rw [e]; rfl)]; omega
    | false => rw [cnt_miss e, cnt_hit (p := fun l => !u l) (by rw [e]; rfl)]; omega
theorem fl1_dn {u : Nat → Bool} {l : Nat} (h : u l = true) : fl1 u l = dnU u l := by
  funext k
  unfold fl1 dnU
  by_cases e : k = l
  · rw [if_pos e, if_pos e, e, h]; rfl
  · rw [if_neg e, if_neg e]
set_option maxHeartbeats 4000000 in
set_option maxRecDepth 100000 in
theorem tX8_cost {g : jG} (hN : 97 ≤ gN g) {σ : Sg} {tx : Nat → Int32} {len : Nat} {a : ND} {wt : Nat → Nat} {u : Nat → Bool} {tl : List Int32} {le : Nat} {p : List SD} (hC : RI σ (tx, len, a, (wt, u, tl, le), p)) (hA : AOk (tx, len, a, (wt, u, tl, le), p)) (h1m : 1 ≤ nM a) (h1d : 1 ≤ nD a) : MS g yX8_cost cX8_cost 1 (some .int) rmX8_cost [.ref (gad g (84))] σ (fun r σ' => r = (abCost (tx, len, a, (wt, u, tl, le), p)).1 ∧ RI σ' (abCost (tx, len, a, (wt, u, tl, le), p)).2 ∧ ∀ j n, j < 84 → σ' j n = σ j n) := by
  refine MJ_of (by decide) (Nat.le_of_ble_eq_true rfl) (List.forall_mem_cons.mpr ⟨rfl, fun _ h => absurd h List.not_mem_nil⟩) ?_
  intro κ M
  have C := M.1
  show J g κ 1 0 [some (.ref (gad g (84)))] [] σ
  have hI : RNet σ a := hC.2.1
  have hO : NOk a := hA.1
  have hS : RS1 σ 90 0 (nM a) (wt, u, tl, le) := hC.2.2.1
  have hW : RW σ (nM a) wt u := hS.w
  have hw : WOk (nM a) wt := hA.2.1.1
  have htl6 : tl.length ≤ 6 := hA.2.1.2.1
  have hle31 : le < 2 ^ 31 := hA.2.1.2.2
  have hlen : len ≤ 200 := hC.1.2.1
  have hCl : σ 84 1 = nI len := hC.1.1
  have hCt : ∀ k, k < len → σ 85 k = tx k := hC.1.2.2
  have hn2 := hO.1
  have hn7 := hO.2.1
  have hm12 := hO.2.2.1
  have hd6 := hO.2.2.2.1
  have hle : σ 90 13 = nI le := hS.2.2.1
  have hT : RT σ tl := ⟨hS.2.2.2.1, fun k hk => hS.2.2.2.2 k hk⟩
  have hPl : σ 84 15 = nI p.length := hC.2.2.2.1
  have hp6 : p.length ≤ 6 := hA.2.2.2.1
  refine j_aload_n C dX8_cost_0 rfl rfl ?_
  refine j_calli (As := []) (rest := []) C (tX8_costNow hN (a := a) (w := wt) (u := u) hI hO hW hw) cdX8_costNow mlX8_83 dX8_cost_1 (by decide) (by decide) (Nat.lt_of_lt_of_le (by decide) hN) rfl rfl rfl rfl rfl (Nat.le_of_ble_eq_true rfl) (fun rr_2 τ1 hp_3 => ?_)
  have hr_hp_3 := hp_3.2
  subst hr_hp_3
  refine j_ret M dX8_cost_4 ?_
  exact ⟨rfl, hC.kept hA (fun j n h => by rw [hp_3.1 _ _ (by omega)]), fun j n h => by rw [hp_3.1 _ _ (by omega)]⟩
set_option maxHeartbeats 4000000 in
set_option maxRecDepth 100000 in
theorem tX8_far {g : jG} (hN : 97 ≤ gN g) {σ : Sg} {tx : Nat → Int32} {len : Nat} {a : ND} {wt : Nat → Nat} {u : Nat → Bool} {tl : List Int32} {le : Nat} {p : List SD} (hC : RI σ (tx, len, a, (wt, u, tl, le), p)) (hA : AOk (tx, len, a, (wt, u, tl, le), p)) (h1m : 1 ≤ nM a) (h1d : 1 ≤ nD a) (x0 t0 : Int32) : MS g yX8_far cX8_far 3 (some .int) rmX8_far [.ref (gad g (84)), .int (x0), .int (t0)] σ (fun r σ' => r = (abFar x0 t0 (tx, len, a, (wt, u, tl, le), p)).1 ∧ RI σ' (abFar x0 t0 (tx, len, a, (wt, u, tl, le), p)).2 ∧ ∀ j n, j < 84 → σ' j n = σ j n) := by
  refine MJ_of (by decide) (Nat.le_of_ble_eq_true rfl) (List.forall_mem_cons.mpr ⟨rfl, List.forall_mem_cons.mpr ⟨rfl, List.forall_mem_cons.mpr ⟨rfl, fun _ h => absurd h List.not_mem_nil⟩⟩⟩) ?_
  intro κ M
  have C := M.1
  show J g κ 3 0 [some (.ref (gad g (84))), some (.int (x0)), some (.int (t0))] [] σ
  have hI : RNet σ a := hC.2.1
  have hO : NOk a := hA.1
  have hS : RS1 σ 90 0 (nM a) (wt, u, tl, le) := hC.2.2.1
  have hW : RW σ (nM a) wt u := hS.w
  have hw : WOk (nM a) wt := hA.2.1.1
  have htl6 : tl.length ≤ 6 := hA.2.1.2.1
  have hle31 : le < 2 ^ 31 := hA.2.1.2.2
  have hlen : len ≤ 200 := hC.1.2.1
  have hCl : σ 84 1 = nI len := hC.1.1
  have hCt : ∀ k, k < len → σ 85 k = tx k := hC.1.2.2
  have hn2 := hO.1
  have hn7 := hO.2.1
  have hm12 := hO.2.2.1
  have hd6 := hO.2.2.2.1
  have hle : σ 90 13 = nI le := hS.2.2.1
  have hT : RT σ tl := ⟨hS.2.2.2.1, fun k hk => hS.2.2.2.2 k hk⟩
  have hPl : σ 84 15 = nI p.length := hC.2.2.2.1
  have hp6 : p.length ≤ 6 := hA.2.2.2.1
  refine j_aload_n C dX8_far_0 rfl rfl ?_
  refine j_iload_n C dX8_far_1 rfl rfl ?_
  refine j_calli (As := [.int (x0)]) (rest := []) C (tX8_isNode hN (b := nN a) hI.1.1 (by omega) (by omega) _) cdX8_isNode mlX8_189 dX8_far_2 (by decide) (by decide) (Nat.lt_of_lt_of_le (by decide) hN) rfl rfl rfl rfl rfl (Nat.le_of_ble_eq_true rfl) (fun rr_2 τ1 hp_3 => ?_)
  obtain ⟨hs, hc⟩ := hp_3
  replace hs := hs.symm
  subst hs
  rcases hc with ⟨rfl, x, hx, rfl⟩ | ⟨rfl, hno⟩
  · refine j_ifn_eq (tgt := 16) C dX8_far_5 rfl (by omega) (fun h => absurd h (by decide)) (fun _ => ?_)
    refine j_aload_n C dX8_far_8 rfl rfl ?_
    refine j_iload_n C dX8_far_9 rfl rfl ?_
    refine j_calli (As := [.int (t0)]) (rest := []) C (tX8_isNode hN (b := nN a) hI.1.1 (by omega) (by omega) _) cdX8_isNode mlX8_189 dX8_far_10 (by decide) (by decide) (Nat.lt_of_lt_of_le (by decide) hN) rfl rfl rfl rfl rfl (Nat.le_of_ble_eq_true rfl) (fun rr_5 τ4 hp_6 => ?_)
    obtain ⟨hs, hc⟩ := hp_6
    replace hs := hs.symm
    subst hs
    rcases hc with ⟨rfl, t, ht, rfl⟩ | ⟨rfl, hno2⟩
    · refine j_ifn_ne (tgt := 18) C dX8_far_13 rfl (by omega) (fun _ => ?_) (fun h => absurd h (by decide))
      refine j_aload_n C dX8_far_18 rfl rfl ?_
      refine j_iload_n C dX8_far_19 rfl rfl ?_
      refine j_callv (As := [.int (nI (t))]) (rest := []) C (tX8_findFar hN hI hO hW hw (t := t) (by omega)) cdX8_findFar mlX8_133 dX8_far_20 (by decide) (by decide) (Nat.lt_of_lt_of_le (by decide) hN) rfl rfl rfl rfl rfl (Nat.le_of_ble_eq_true rfl) (fun τ7 hp_9 => ?_)
      refine j_aload_n C dX8_far_23 rfl rfl ?_
      refine j_get C flX8_34 dX8_far_24 (Nat.lt_of_lt_of_le (by decide) hN) rfl rfl ?_
      refine j_iload_n C dX8_far_27 rfl rfl ?_
      refine j_iald C dX8_far_28 (Nat.lt_of_lt_of_le (by decide) hN) (fun _ => rfl) (by decide) (by omega) ?_
      refine j_top (hp_9.2 x (by omega)) ?_
      refine j_ret M dX8_far_29 ?_
      rw [abFar, pIf_t ⟨⟨x, hx, rfl⟩, ⟨t, ht, rfl⟩⟩, idx_nI (by omega), idx_nI (by omega)]
      exact ⟨rfl, hC.kept hA (fun j n h => by rw [hp_9.1 _ _ (by omega)]), fun j n h => by rw [hp_9.1 _ _ (by omega)]⟩
    · refine j_ifn_ne (tgt := 18) C dX8_far_13 rfl (by omega) (fun h => absurd h (by decide)) (fun _ => ?_)
      refine j_iconst (v := -1) C dX8_far_16 rfl ?_
      refine j_ret M dX8_far_17 ?_
      rw [abFar, pIf_f (by first | exact hno | exact fun q => hno q.1 | exact fun q => hRno q.2 | exact fun q => hno2 q.2)]
      exact ⟨rfl, hC, fun _ _ _ => rfl⟩
  · refine j_ifn_eq (tgt := 16) C dX8_far_5 rfl (by omega) (fun _ => ?_) (fun h => absurd h (by decide))
    refine j_iconst (v := -1) C dX8_far_16 rfl ?_
    refine j_ret M dX8_far_17 ?_
    rw [abFar, pIf_f (by first | exact hno | exact fun q => hno q.1 | exact fun q => hRno q.2 | exact fun q => hno2 q.2)]
    exact ⟨rfl, hC, fun _ _ _ => rfl⟩
set_option maxHeartbeats 4000000 in
set_option maxRecDepth 100000 in
theorem tX8_share {g : jG} (hN : 97 ≤ gN g) {σ : Sg} {tx : Nat → Int32} {len : Nat} {a : ND} {wt : Nat → Nat} {u : Nat → Bool} {tl : List Int32} {le : Nat} {p : List SD} (hC : RI σ (tx, len, a, (wt, u, tl, le), p)) (hA : AOk (tx, len, a, (wt, u, tl, le), p)) (h1m : 1 ≤ nM a) (h1d : 1 ≤ nD a) (d0 l0 : Int32) : MS g yX8_share cX8_share 3 (some .int) rmX8_share [.ref (gad g (84)), .int (d0), .int (l0)] σ (fun r σ' => r = (abShare d0 l0 (tx, len, a, (wt, u, tl, le), p)).1 ∧ RI σ' (abShare d0 l0 (tx, len, a, (wt, u, tl, le), p)).2 ∧ ∀ j n, j < 84 → σ' j n = σ j n) := by
  refine MJ_of (by decide) (Nat.le_of_ble_eq_true rfl) (List.forall_mem_cons.mpr ⟨rfl, List.forall_mem_cons.mpr ⟨rfl, List.forall_mem_cons.mpr ⟨rfl, fun _ h => absurd h List.not_mem_nil⟩⟩⟩) ?_
  intro κ M
  have C := M.1
  show J g κ 3 0 [some (.ref (gad g (84))), some (.int (d0)), some (.int (l0))] [] σ
  have hI : RNet σ a := hC.2.1
  have hO : NOk a := hA.1
  have hS : RS1 σ 90 0 (nM a) (wt, u, tl, le) := hC.2.2.1
  have hW : RW σ (nM a) wt u := hS.w
  have hw : WOk (nM a) wt := hA.2.1.1
  have htl6 : tl.length ≤ 6 := hA.2.1.2.1
  have hle31 : le < 2 ^ 31 := hA.2.1.2.2
  have hlen : len ≤ 200 := hC.1.2.1
  have hCl : σ 84 1 = nI len := hC.1.1
  have hCt : ∀ k, k < len → σ 85 k = tx k := hC.1.2.2
  have hn2 := hO.1
  have hn7 := hO.2.1
  have hm12 := hO.2.2.1
  have hd6 := hO.2.2.2.1
  have hle : σ 90 13 = nI le := hS.2.2.1
  have hT : RT σ tl := ⟨hS.2.2.2.1, fun k hk => hS.2.2.2.2 k hk⟩
  have hPl : σ 84 15 = nI p.length := hC.2.2.2.1
  have hp6 : p.length ≤ 6 := hA.2.2.2.1
  refine j_iload_n C dX8_share_0 rfl rfl ?_
  refine j_iconst (v := nI 0) C dX8_share_1 rfl ?_
  refine j_aload_n C dX8_share_2 rfl rfl ?_
  refine j_get C flX8_80 dX8_share_3 (Nat.lt_of_lt_of_le (by decide) hN) rfl rfl ?_
  refine j_top (hI.1.2.2) ?_
  refine j_iconst (v := nI 1) C dX8_share_6 rfl ?_
  refine j_isub C dX8_share_7 ?_
  refine j_top (pk_sub h1d) ?_
  refine j_calls (As := [.int (d0), .int (nI (0)), .int (nI ((nD a - 1)))]) (rest := []) C (tX8_in hN _ (lo := 0) (hi := (nD a - 1)) (by omega) (by omega)) cdX8_in msX8_96 dX8_share_8 (by decide) (by decide) rfl rfl (Nat.le_of_ble_eq_true rfl) (fun rr_2 τ1 hp_3 => ?_)
  obtain ⟨hs, hc⟩ := hp_3
  replace hs := hs.symm
  subst hs
  rcases hc with ⟨rfl, d, hd1, hd2, rfl⟩ | ⟨rfl, hRno⟩
  · refine j_ifn_eq (tgt := 22) C dX8_share_11 rfl (by omega) (fun h => absurd h (by decide)) (fun _ => ?_)
    refine j_aload_n C dX8_share_14 rfl rfl ?_
    refine j_iload_n C dX8_share_15 rfl rfl ?_
    refine j_calli (As := [.int (l0)]) (rest := []) C (tX8_isLink hN (b := nM a) hI.1.2.1 (by omega) (by omega) _) cdX8_isLink mlX8_180 dX8_share_16 (by decide) (by decide) (Nat.lt_of_lt_of_le (by decide) hN) rfl rfl rfl rfl rfl (Nat.le_of_ble_eq_true rfl) (fun rr_5 τ4 hp_6 => ?_)
    obtain ⟨hs, hc⟩ := hp_6
    replace hs := hs.symm
    subst hs
    rcases hc with ⟨rfl, l, hl, rfl⟩ | ⟨rfl, hno2⟩
    · refine j_ifn_ne (tgt := 24) C dX8_share_19 rfl (by omega) (fun _ => ?_) (fun h => absurd h (by decide))
      refine j_aload_n C dX8_share_24 rfl rfl ?_
      refine j_iload_n C dX8_share_25 rfl rfl ?_
      refine j_calli (As := [.int (nI (d))]) (rest := []) C (tX8_layShares hN hI hO hW hw (d := d) (by omega)) cdX8_layShares mlX8_143 dX8_share_26 (by decide) (by decide) (Nat.lt_of_lt_of_le (by decide) hN) rfl rfl rfl rfl rfl (Nat.le_of_ble_eq_true rfl) (fun rr_8 τ7 hp_9 => ?_)
      obtain ⟨hsf, ⟨rfl, hno3⟩ | ⟨rfl, hno3, hsh⟩⟩ := hp_9
      · refine j_ifn_eq (tgt := 41) C dX8_share_29 rfl (by omega) (fun _ => ?_) (fun h => absurd h (by decide))
        refine j_iconst (v := nI 0) C dX8_share_41 rfl ?_
        refine j_ret M dX8_share_42 ?_
        have hdl : d < nD a := by omega
        rw [abShare, pIf_t ⟨⟨d, hdl, rfl⟩, ⟨l, hl, rfl⟩⟩, idx_nI (by omega), idx_nI (by omega)]
        dsimp only
        unfold SHR
        rw [if_pos hno3]
        exact ⟨rfl, hC.kept hA (fun j n h => by rw [hsf _ _ (by omega)]), fun j n h => by rw [hsf _ _ (by omega)]⟩
      · refine j_ifn_eq (tgt := 41) C dX8_share_29 rfl (by omega) (fun h => absurd h (by decide)) (fun _ => ?_)
        refine j_aload_n C dX8_share_32 rfl rfl ?_
        refine j_get C flX8_37 dX8_share_33 (Nat.lt_of_lt_of_le (by decide) hN) rfl rfl ?_
        refine j_iload_n C dX8_share_36 rfl rfl ?_
        refine j_iald C dX8_share_37 (Nat.lt_of_lt_of_le (by decide) hN) (fun _ => rfl) (by decide) (by omega) ?_
        refine j_top (hsh l (by omega)) ?_
        refine j_goto (tgt := 42) C dX8_share_38 rfl ?_
        refine j_ret M dX8_share_42 ?_
        have hdl : d < nD a := by omega
        rw [abShare, pIf_t ⟨⟨d, hdl, rfl⟩, ⟨l, hl, rfl⟩⟩, idx_nI (by omega), idx_nI (by omega)]
        exact ⟨rfl, hC.kept hA (fun j n h => by rw [hsf _ _ (by omega)]), fun j n h => by rw [hsf _ _ (by omega)]⟩
    · refine j_ifn_ne (tgt := 24) C dX8_share_19 rfl (by omega) (fun h => absurd h (by decide)) (fun _ => ?_)
      refine j_iconst (v := -1) C dX8_share_22 rfl ?_
      refine j_ret M dX8_share_23 ?_
      rw [abShare, pIf_f (by first | exact fun q => hRno ((inR_0 h1d).mpr q.1) | exact fun q => hno2 q.2)]
      exact ⟨rfl, hC, fun _ _ _ => rfl⟩
  · refine j_ifn_eq (tgt := 22) C dX8_share_11 rfl (by omega) (fun _ => ?_) (fun h => absurd h (by decide))
    refine j_iconst (v := -1) C dX8_share_22 rfl ?_
    refine j_ret M dX8_share_23 ?_
    rw [abShare, pIf_f (by first | exact fun q => hRno ((inR_0 h1d).mpr q.1) | exact fun q => hno2 q.2)]
    exact ⟨rfl, hC, fun _ _ _ => rfl⟩
set_option maxHeartbeats 4000000 in
set_option maxRecDepth 100000 in
theorem tX8_tabu {g : jG} (hN : 97 ≤ gN g) {σ : Sg} {tx : Nat → Int32} {len : Nat} {a : ND} {wt : Nat → Nat} {u : Nat → Bool} {tl : List Int32} {le : Nat} {p : List SD} (hC : RI σ (tx, len, a, (wt, u, tl, le), p)) (hA : AOk (tx, len, a, (wt, u, tl, le), p)) (h1m : 1 ≤ nM a) (h1d : 1 ≤ nD a) (l0 x0 : Int32) : MS g yX8_tabu cX8_tabu 3 (some .int) rmX8_tabu [.ref (gad g (84)), .int (l0), .int (x0)] σ (fun r σ' => r = (abTabu l0 x0 (tx, len, a, (wt, u, tl, le), p)).1 ∧ RI σ' (abTabu l0 x0 (tx, len, a, (wt, u, tl, le), p)).2 ∧ ∀ j n, j < 84 → σ' j n = σ j n) := by
  refine MJ_of (by decide) (Nat.le_of_ble_eq_true rfl) (List.forall_mem_cons.mpr ⟨rfl, List.forall_mem_cons.mpr ⟨rfl, List.forall_mem_cons.mpr ⟨rfl, fun _ h => absurd h List.not_mem_nil⟩⟩⟩) ?_
  intro κ M
  have C := M.1
  show J g κ 3 0 [some (.ref (gad g (84))), some (.int (l0)), some (.int (x0))] [] σ
  have hI : RNet σ a := hC.2.1
  have hO : NOk a := hA.1
  have hS : RS1 σ 90 0 (nM a) (wt, u, tl, le) := hC.2.2.1
  have hW : RW σ (nM a) wt u := hS.w
  have hw : WOk (nM a) wt := hA.2.1.1
  have htl6 : tl.length ≤ 6 := hA.2.1.2.1
  have hle31 : le < 2 ^ 31 := hA.2.1.2.2
  have hlen : len ≤ 200 := hC.1.2.1
  have hCl : σ 84 1 = nI len := hC.1.1
  have hCt : ∀ k, k < len → σ 85 k = tx k := hC.1.2.2
  have hn2 := hO.1
  have hn7 := hO.2.1
  have hm12 := hO.2.2.1
  have hd6 := hO.2.2.2.1
  have hle : σ 90 13 = nI le := hS.2.2.1
  have hT : RT σ tl := ⟨hS.2.2.2.1, fun k hk => hS.2.2.2.2 k hk⟩
  have hPl : σ 84 15 = nI p.length := hC.2.2.2.1
  have hp6 : p.length ≤ 6 := hA.2.2.2.1
  refine j_aload_n C dX8_tabu_0 rfl rfl ?_
  refine j_iload_n C dX8_tabu_1 rfl rfl ?_
  refine j_calli (As := [.int (l0)]) (rest := []) C (tX8_isLink hN (b := nM a) hI.1.2.1 (by omega) (by omega) _) cdX8_isLink mlX8_180 dX8_tabu_2 (by decide) (by decide) (Nat.lt_of_lt_of_le (by decide) hN) rfl rfl rfl rfl rfl (Nat.le_of_ble_eq_true rfl) (fun rr_2 τ1 hp_3 => ?_)
  obtain ⟨hs, hc⟩ := hp_3
  replace hs := hs.symm
  subst hs
  rcases hc with ⟨rfl, l, hl, rfl⟩ | ⟨rfl, hno⟩
  · refine j_ifn_eq (tgt := 18) C dX8_tabu_5 rfl (by omega) (fun h => absurd h (by decide)) (fun _ => ?_)
    refine j_iload_n C dX8_tabu_8 rfl rfl ?_
    refine j_iconst (v := nI 1) C dX8_tabu_9 rfl ?_
    refine j_bipush (v := nI 20) C dX8_tabu_10 rfl ?_
    refine j_calls (As := [.int (x0), .int (nI (1)), .int (nI (20))]) (rest := []) C (tX8_in hN _ (lo := 1) (hi := 20) (by omega) (by omega)) cdX8_in msX8_96 dX8_tabu_12 (by decide) (by decide) rfl rfl (Nat.le_of_ble_eq_true rfl) (fun rr_5 τ4 hp_6 => ?_)
    obtain ⟨hs, hc⟩ := hp_6
    replace hs := hs.symm
    subst hs
    rcases hc with ⟨rfl, x, hx1, hx2, rfl⟩ | ⟨rfl, hRno⟩
    · refine j_ifn_ne (tgt := 20) C dX8_tabu_15 rfl (by omega) (fun _ => ?_) (fun h => absurd h (by decide))
      refine j_aload_n C dX8_tabu_20 rfl rfl ?_
      refine j_iload_n C dX8_tabu_21 rfl rfl ?_
      refine j_iload_n C dX8_tabu_22 rfl rfl ?_
      refine j_calli (As := [.int (nI (l)), .int (nI (x))]) (rest := []) C (tX8_isTabuBy hN (m := nM a) (w := wt) (tl := tl) hI.1.2.1 hm12 hW.1 hT htl6 (l := l) (x := x) (by omega)) cdX8_isTabuBy mlX8_173 dX8_tabu_23 (by decide) (by decide) (Nat.lt_of_lt_of_le (by decide) hN) rfl rfl rfl rfl rfl (Nat.le_of_ble_eq_true rfl) (fun rr_8 τ7 hp_9 => ?_)
      obtain ⟨hs, hr⟩ := hp_9
      replace hs := hs.symm
      subst hs
      rcases hfb : decide (mkW (updN wt l x) (nM a) ∈ tl) with _ | _ <;> rw [hfb] at hr <;> subst hr
      · refine j_ifn_eq (tgt := 33) C dX8_tabu_26 rfl (by omega) (fun _ => ?_) (fun h => absurd h (by decide))
        refine j_iconst (v := nI 0) C dX8_tabu_33 rfl ?_
        refine j_ret M dX8_tabu_34 ?_
        rw [abTabu, pIf_t ⟨⟨l, hl, rfl⟩, ⟨x, hx1, hx2, rfl⟩⟩, idx_nI (by omega), idx_nI (by omega)]
        dsimp only
        rw [hfb]
        exact ⟨rfl, hC, fun _ _ _ => rfl⟩
      · refine j_ifn_eq (tgt := 33) C dX8_tabu_26 rfl (by omega) (fun h => absurd h (by decide)) (fun _ => ?_)
        refine j_iconst (v := nI 1) C dX8_tabu_29 rfl ?_
        refine j_goto (tgt := 34) C dX8_tabu_30 rfl ?_
        refine j_ret M dX8_tabu_34 ?_
        rw [abTabu, pIf_t ⟨⟨l, hl, rfl⟩, ⟨x, hx1, hx2, rfl⟩⟩, idx_nI (by omega), idx_nI (by omega)]
        dsimp only
        rw [hfb]
        exact ⟨rfl, hC, fun _ _ _ => rfl⟩
    · refine j_ifn_ne (tgt := 20) C dX8_tabu_15 rfl (by omega) (fun h => absurd h (by decide)) (fun _ => ?_)
      refine j_iconst (v := -1) C dX8_tabu_18 rfl ?_
      refine j_ret M dX8_tabu_19 ?_
      rw [abTabu, pIf_f (by first | exact hno | exact fun q => hno q.1 | exact fun q => hRno q.2 | exact fun q => hno2 q.2)]
      exact ⟨rfl, hC, fun _ _ _ => rfl⟩
  · refine j_ifn_eq (tgt := 18) C dX8_tabu_5 rfl (by omega) (fun _ => ?_) (fun h => absurd h (by decide))
    refine j_iconst (v := -1) C dX8_tabu_18 rfl ?_
    refine j_ret M dX8_tabu_19 ?_
    rw [abTabu, pIf_f (by first | exact hno | exact fun q => hno q.1 | exact fun q => hRno q.2 | exact fun q => hno2 q.2)]
    exact ⟨rfl, hC, fun _ _ _ => rfl⟩
set_option maxHeartbeats 4000000 in
set_option maxRecDepth 100000 in
theorem tX8_bestOf {g : jG} (hN : 97 ≤ gN g) {σ : Sg} {b : Nat × Nat × Nat} (hb : bsR σ (some b)) {x : Nat} (hx : x ≤ 2) : MS g yX8_bestOf cX8_bestOf 2 (some .int) rmX8_bestOf [.ref (gad g (84)), .int (nI (x))] σ (fun r σ' => σ' = σ ∧ r = nI (bsGet b x)) := by
  refine MJ_of (by decide) (Nat.le_of_ble_eq_true rfl) (List.forall_mem_cons.mpr ⟨rfl, List.forall_mem_cons.mpr ⟨rfl, fun _ h => absurd h List.not_mem_nil⟩⟩) ?_
  intro κ M
  have C := M.1
  show J g κ 2 0 [some (.ref (gad g (84))), some (.int (nI (x)))] [] σ
  obtain ⟨l0, x0, c0⟩ := b
  refine j_iload_n C dX8_bestOf_0 rfl rfl ?_
  refine j_ifn_ne (tgt := 11) C dX8_bestOf_1 rfl (by omega) (fun h1 => ?_) (fun h1 => ?_)
  · refine j_iload_n C dX8_bestOf_11 rfl rfl ?_
    refine j_iconst (v := nI 1) C dX8_bestOf_12 rfl ?_
    refine j_icmpn_ne (tgt := 23) C dX8_bestOf_13 rfl (by omega) (by omega) (fun h13 => ?_) (fun h13 => ?_)
    · refine j_aload_n C dX8_bestOf_23 rfl rfl ?_
      refine j_get C flX8_166 dX8_bestOf_24 (Nat.lt_of_lt_of_le (by decide) hN) rfl rfl ?_
      refine j_top (hb.1.2.2) ?_
      refine j_ret M dX8_bestOf_27 ?_
      refine ⟨rfl, congrArg nI ?_⟩
      unfold bsGet
      dsimp only
      first | rw [if_pos (by omega)] | rw [if_neg (by omega), if_pos (by omega)] | rw [if_neg (by omega), if_neg (by omega)]
    · refine j_aload_n C dX8_bestOf_16 rfl rfl ?_
      refine j_get C flX8_177 dX8_bestOf_17 (Nat.lt_of_lt_of_le (by decide) hN) rfl rfl ?_
      refine j_top (hb.1.2.1) ?_
      refine j_goto (tgt := 27) C dX8_bestOf_20 rfl ?_
      refine j_ret M dX8_bestOf_27 ?_
      refine ⟨rfl, congrArg nI ?_⟩
      unfold bsGet
      dsimp only
      first | rw [if_pos (by omega)] | rw [if_neg (by omega), if_pos (by omega)] | rw [if_neg (by omega), if_neg (by omega)]
  · refine j_aload_n C dX8_bestOf_4 rfl rfl ?_
    refine j_get C flX8_163 dX8_bestOf_5 (Nat.lt_of_lt_of_le (by decide) hN) rfl rfl ?_
    refine j_top (hb.1.1) ?_
    refine j_goto (tgt := 27) C dX8_bestOf_8 rfl ?_
    refine j_ret M dX8_bestOf_27 ?_
    refine ⟨rfl, congrArg nI ?_⟩
    unfold bsGet
    dsimp only
    first | rw [if_pos (by omega)] | rw [if_neg (by omega), if_pos (by omega)] | rw [if_neg (by omega), if_neg (by omega)]
set_option maxHeartbeats 4000000 in
set_option maxRecDepth 100000 in
theorem tX8_best {g : jG} (hN : 97 ≤ gN g) {σ : Sg} {tx : Nat → Int32} {len : Nat} {a : ND} {wt : Nat → Nat} {u : Nat → Bool} {tl : List Int32} {le : Nat} {p : List SD} (hC : RI σ (tx, len, a, (wt, u, tl, le), p)) (hA : AOk (tx, len, a, (wt, u, tl, le), p)) (h1m : 1 ≤ nM a) (h1d : 1 ≤ nD a) (x0 : Int32) : MS g yX8_best cX8_best 3 (some .int) rmX8_best [.ref (gad g (84)), .int (x0)] σ (fun r σ' => r = (abBest x0 (tx, len, a, (wt, u, tl, le), p)).1 ∧ RI σ' (abBest x0 (tx, len, a, (wt, u, tl, le), p)).2 ∧ ∀ j n, j < 84 → σ' j n = σ j n) := by
  refine MJ_of (by decide) (Nat.le_of_ble_eq_true rfl) (List.forall_mem_cons.mpr ⟨rfl, List.forall_mem_cons.mpr ⟨rfl, fun _ h => absurd h List.not_mem_nil⟩⟩) ?_
  intro κ M
  have C := M.1
  show J g κ 3 0 [some (.ref (gad g (84))), some (.int (x0)), none] [] σ
  have hI : RNet σ a := hC.2.1
  have hO : NOk a := hA.1
  have hS : RS1 σ 90 0 (nM a) (wt, u, tl, le) := hC.2.2.1
  have hW : RW σ (nM a) wt u := hS.w
  have hw : WOk (nM a) wt := hA.2.1.1
  have htl6 : tl.length ≤ 6 := hA.2.1.2.1
  have hle31 : le < 2 ^ 31 := hA.2.1.2.2
  have hlen : len ≤ 200 := hC.1.2.1
  have hCl : σ 84 1 = nI len := hC.1.1
  have hCt : ∀ k, k < len → σ 85 k = tx k := hC.1.2.2
  have hn2 := hO.1
  have hn7 := hO.2.1
  have hm12 := hO.2.2.1
  have hd6 := hO.2.2.2.1
  have hle : σ 90 13 = nI le := hS.2.2.1
  have hT : RT σ tl := ⟨hS.2.2.2.1, fun k hk => hS.2.2.2.2 k hk⟩
  have hPl : σ 84 15 = nI p.length := hC.2.2.2.1
  have hp6 : p.length ≤ 6 := hA.2.2.2.1
  refine j_iload_n C dX8_best_0 rfl rfl ?_
  refine j_iconst (v := nI 0) C dX8_best_1 rfl ?_
  refine j_iconst (v := nI 2) C dX8_best_2 rfl ?_
  refine j_calls (As := [.int (x0), .int (nI (0)), .int (nI (2))]) (rest := []) C (tX8_in hN _ (lo := 0) (hi := 2) (by omega) (by omega)) cdX8_in msX8_96 dX8_best_3 (by decide) (by decide) rfl rfl (Nat.le_of_ble_eq_true rfl) (fun rr_2 τ1 hp_3 => ?_)
  obtain ⟨hs, hc⟩ := hp_3
  replace hs := hs.symm
  subst hs
  rcases hc with ⟨rfl, x, hx1, hx2, rfl⟩ | ⟨rfl, hRno⟩
  · refine j_ifn_ne (tgt := 11) C dX8_best_6 rfl (by omega) (fun _ => ?_) (fun h => absurd h (by decide))
    refine j_aload_n C dX8_best_11 rfl rfl ?_
    refine j_bipush (v := -4) C dX8_best_12 rfl ?_
    refine j_iconst (v := nI 1) C dX8_best_14 rfl ?_
    refine j_calli (As := [.int (-4), .int (nI (1))]) (rest := []) C (tX8_findMove hN (a := a) (w := wt) (u := u) (hd := false) (le := le) (tl := tl) hI hO hW hw hle hle31 hT htl6 (-4)) cdX8_findMove mlX8_195 dX8_best_15 (by decide) (by decide) (Nat.lt_of_lt_of_le (by decide) hN) rfl rfl rfl rfl rfl (Nat.le_of_ble_eq_true rfl) (fun rr_5 τ4 hp_6 => ?_)
    obtain ⟨hff, hbi, hrf⟩ := hp_6
    rcases hfd : (fndF a wt u false le tl (-4) (nM a)) with _ | ⟨l1, x1, c1⟩ <;> rw [hfd] at hrf hbi
    · subst hrf
      refine j_istore_n (L' := [some (.ref (gad g (84))), some (.int (nI (x))), some (.int (nI (0)))]) C dX8_best_18 rfl (by decide) rfl ?_
      refine j_iload_n C dX8_best_19 rfl rfl ?_
      refine j_ifn_eq (tgt := 31) C dX8_best_20 rfl (by omega) (fun _ => ?_) (fun h => absurd h (by decide))
      refine j_bipush (v := -4) C dX8_best_31 rfl ?_
      refine j_ret M dX8_best_33 ?_
      have e : fnd a (wt, u, tl, le) false (-1) = fndF a wt u false le tl (-4) (nM a) := fnd_ps (by decide) (by decide) (by omega)
      rw [abBest, pIf_t ⟨x, hx1, hx2, rfl⟩, idx_nI (by omega)]
      dsimp only
      rw [e, hfd]
      exact ⟨rfl, hC.kept hA (fun j n h => by rw [hff _ _ (by omega)]), fun j n h => by rw [hff _ _ (by omega)]⟩
    · subst hrf
      have hbk := fnd_ok hfd
      obtain ⟨hb21, hb22, hb23⟩ := hbi.2
      refine j_istore_n (L' := [some (.ref (gad g (84))), some (.int (nI (x))), some (.int (nI (1)))]) C dX8_best_18 rfl (by decide) rfl ?_
      refine j_iload_n C dX8_best_19 rfl rfl ?_
      refine j_ifn_eq (tgt := 31) C dX8_best_20 rfl (by omega) (fun h => absurd h (by decide)) (fun _ => ?_)
      refine j_aload_n C dX8_best_23 rfl rfl ?_
      refine j_iload_n C dX8_best_24 rfl rfl ?_
      refine j_calli (As := [.int (nI (x))]) (rest := []) C (tX8_bestOf hN (b := (l1, x1, c1)) hbi (x := x) (by omega)) cdX8_bestOf mlX8_208 dX8_best_25 (by decide) (by decide) (Nat.lt_of_lt_of_le (by decide) hN) rfl rfl rfl rfl rfl (Nat.le_of_ble_eq_true rfl) (fun rr_8 τ7 hp_9 => ?_)
      obtain ⟨hs, hr⟩ := hp_9
      replace hs := hs.symm
      subst hs
      subst hr
      refine j_goto (tgt := 33) C dX8_best_28 rfl ?_
      refine j_ret M dX8_best_33 ?_
      have e : fnd a (wt, u, tl, le) false (-1) = fndF a wt u false le tl (-4) (nM a) := fnd_ps (by decide) (by decide) (by omega)
      rw [abBest, pIf_t ⟨x, hx1, hx2, rfl⟩, idx_nI (by omega)]
      dsimp only
      rw [e, hfd]
      exact ⟨rfl, hC.kept hA (fun j n h => by rw [hff _ _ (by omega)]), fun j n h => by rw [hff _ _ (by omega)]⟩
  · refine j_ifn_ne (tgt := 11) C dX8_best_6 rfl (by omega) (fun h => absurd h (by decide)) (fun _ => ?_)
    refine j_iconst (v := -1) C dX8_best_9 rfl ?_
    refine j_ret M dX8_best_10 ?_
    rw [abBest, pIf_f (by first | exact hRno | exact fun q => hno q.1 | exact fun q => hRno q.2 | exact fun q => hno2 q.2)]
    exact ⟨rfl, hC, fun _ _ _ => rfl⟩
set_option maxHeartbeats 4000000 in
set_option maxRecDepth 100000 in
theorem tX8_worst {g : jG} (hN : 97 ≤ gN g) {σ : Sg} {tx : Nat → Int32} {len : Nat} {a : ND} {wt : Nat → Nat} {u : Nat → Bool} {tl : List Int32} {le : Nat} {p : List SD} (hC : RI σ (tx, len, a, (wt, u, tl, le), p)) (hA : AOk (tx, len, a, (wt, u, tl, le), p)) (h1m : 1 ≤ nM a) (h1d : 1 ≤ nD a) (x0 : Int32) : MS g yX8_worst cX8_worst 6 (some .int) rmX8_worst [.ref (gad g (84)), .int (x0)] σ (fun r σ' => r = (abWorst x0 (tx, len, a, (wt, u, tl, le), p)).1 ∧ RI σ' (abWorst x0 (tx, len, a, (wt, u, tl, le), p)).2 ∧ ∀ j n, j < 84 → σ' j n = σ j n) := by
  refine MJ_of (by decide) (Nat.le_of_ble_eq_true rfl) (List.forall_mem_cons.mpr ⟨rfl, List.forall_mem_cons.mpr ⟨rfl, fun _ h => absurd h List.not_mem_nil⟩⟩) ?_
  intro κ M
  have C := M.1
  show J g κ 6 0 [some (.ref (gad g (84))), some (.int (x0)), none, none, none, none] [] σ
  have hI : RNet σ a := hC.2.1
  have hO : NOk a := hA.1
  have hS : RS1 σ 90 0 (nM a) (wt, u, tl, le) := hC.2.2.1
  have hW : RW σ (nM a) wt u := hS.w
  have hw : WOk (nM a) wt := hA.2.1.1
  have htl6 : tl.length ≤ 6 := hA.2.1.2.1
  have hle31 : le < 2 ^ 31 := hA.2.1.2.2
  have hlen : len ≤ 200 := hC.1.2.1
  have hCl : σ 84 1 = nI len := hC.1.1
  have hCt : ∀ k, k < len → σ 85 k = tx k := hC.1.2.2
  have hn2 := hO.1
  have hn7 := hO.2.1
  have hm12 := hO.2.2.1
  have hd6 := hO.2.2.2.1
  have hle : σ 90 13 = nI le := hS.2.2.1
  have hT : RT σ tl := ⟨hS.2.2.2.1, fun k hk => hS.2.2.2.2 k hk⟩
  have hPl : σ 84 15 = nI p.length := hC.2.2.2.1
  have hp6 : p.length ≤ 6 := hA.2.2.2.1
  have lp : ∀ (x : Nat), x ≤ 1 → x0 = nI x → ∀ (k l : Nat) (σ1 : Sg), nM a - l = k → l ≤ nM a → (∀ j n, ¬ (93 ≤ j ∧ j ≤ 96 ∨ j = 84 ∧ n = 22) → σ1 j n = σ j n) → J g κ 6 20 [some (.ref (gad g (84))), some (.int (nI (x))), some (.int (c4 ((wrst a wt u l).map (fun z => z.1)))), some (.int (c4 ((wrst a wt u l).map (fun z => z.2)))), some (.int (nI (l))), none] [] σ1 := by
    intro x hx hx0 k
    subst hx0
    induction k using Nat.strongRecOn with
    | _ k ih =>
      intro l σ1 hk hl hf
      refine j_iload C dX8_worst_20 rfl ?_
      refine j_aload_n C dX8_worst_22 rfl rfl ?_
      refine j_get C flX8_77 dX8_worst_23 (Nat.lt_of_lt_of_le (by decide) hN) rfl rfl ?_
      refine j_top ((hf _ _ (by omega)).trans (hI.1.2.1)) ?_
      refine j_icmpn_ge (tgt := 83) C dX8_worst_26 rfl (by omega) (by omega) (fun h26 => ?_) (fun h26 => ?_)
      · have el : l = nM a := by omega
        subst el
        rcases hwr : (wrst a wt u (nM a)) with _ | ⟨l1, c1⟩
        · refine J_loc (L' := [some (.ref (gad g (84))), some (.int (nI (x))), some (.int (-4)), some (.int (-4)), some (.int (nI (nM a))), none]) rfl ?_
          refine j_iload_n C dX8_worst_83 rfl rfl ?_
          refine j_ifn_ne (tgt := 91) C dX8_worst_84 rfl (by omega) (fun h84 => ?_) (fun h84 => ?_)
          · refine j_iload_n C dX8_worst_91 rfl rfl ?_
            refine j_ret M dX8_worst_92 ?_
            rw [abWorst, pIf_t ⟨x, by omega, by omega, rfl⟩, idx_nI (by omega)]
            dsimp only
            rw [hwr]
            refine ⟨?_, hC.kept hA (fun j n h => hf j n (by omega)), fun j n h => hf j n (by omega)⟩
            first | rfl | (refine congrArg nI ?_; first | exact (if_pos (by omega)).symm | exact (if_neg (by omega)).symm)
          · refine j_iload_n C dX8_worst_87 rfl rfl ?_
            refine j_goto (tgt := 92) C dX8_worst_88 rfl ?_
            refine j_ret M dX8_worst_92 ?_
            rw [abWorst, pIf_t ⟨x, by omega, by omega, rfl⟩, idx_nI (by omega)]
            dsimp only
            rw [hwr]
            refine ⟨?_, hC.kept hA (fun j n h => hf j n (by omega)), fun j n h => hf j n (by omega)⟩
            first | rfl | (refine congrArg nI ?_; first | exact (if_pos (by omega)).symm | exact (if_neg (by omega)).symm)
        · refine J_loc (L' := [some (.ref (gad g (84))), some (.int (nI (x))), some (.int (nI (l1))), some (.int (nI (c1))), some (.int (nI (nM a))), none]) rfl ?_
          refine j_iload_n C dX8_worst_83 rfl rfl ?_
          refine j_ifn_ne (tgt := 91) C dX8_worst_84 rfl (by omega) (fun h84 => ?_) (fun h84 => ?_)
          · refine j_iload_n C dX8_worst_91 rfl rfl ?_
            refine j_ret M dX8_worst_92 ?_
            rw [abWorst, pIf_t ⟨x, by omega, by omega, rfl⟩, idx_nI (by omega)]
            dsimp only
            rw [hwr]
            refine ⟨?_, hC.kept hA (fun j n h => hf j n (by omega)), fun j n h => hf j n (by omega)⟩
            first | rfl | (refine congrArg nI ?_; first | exact (if_pos (by omega)).symm | exact (if_neg (by omega)).symm)
          · refine j_iload_n C dX8_worst_87 rfl rfl ?_
            refine j_goto (tgt := 92) C dX8_worst_88 rfl ?_
            refine j_ret M dX8_worst_92 ?_
            rw [abWorst, pIf_t ⟨x, by omega, by omega, rfl⟩, idx_nI (by omega)]
            dsimp only
            rw [hwr]
            refine ⟨?_, hC.kept hA (fun j n h => hf j n (by omega)), fun j n h => hf j n (by omega)⟩
            first | rfl | (refine congrArg nI ?_; first | exact (if_pos (by omega)).symm | exact (if_neg (by omega)).symm)
      · have hcb := costN_bd (a := a) (w := wt) (u := fl1 u l) hO
        rcases hwr : (wrst a wt u l) with _ | ⟨l1, c1⟩
        · refine J_loc (L' := [some (.ref (gad g (84))), some (.int (nI (x))), some (.int (-4)), some (.int (-4)), some (.int (nI (l))), none]) rfl ?_
          refine j_aload_n C dX8_worst_29 rfl rfl ?_
          refine j_iload C dX8_worst_30 rfl ?_
          refine j_calli (As := [.int (nI (l))]) (rest := []) C (tX8_isUp hN (m := nM a) (u := u) (by omega) ((hf _ _ (by omega)).trans hW.2) (l := l) (by omega)) cdX8_isUp mlX8_124 dX8_worst_32 (by decide) (by decide) (Nat.lt_of_lt_of_le (by decide) hN) rfl rfl rfl rfl rfl (Nat.le_of_ble_eq_true rfl) (fun rr_2 τ1 hp_3 => ?_)
          obtain ⟨hs, hr⟩ := hp_3
          replace hs := hs.symm
          subst hs
          rcases hul : u l with _ | _ <;> rw [hul] at hr <;> subst hr
          · refine j_ifn_eq (tgt := 47) C dX8_worst_35 rfl (by omega) (fun _ => ?_) (fun h => absurd h (by decide))
            refine j_bipush (v := -4) C dX8_worst_47 rfl ?_
            refine j_istore (L' := [some (.ref (gad g (84))), some (.int (nI (x))), some (.int (-4)), some (.int (-4)), some (.int (nI (l))), some (.int (-4))]) C dX8_worst_49 (by decide) rfl ?_
            refine j_iload C dX8_worst_51 rfl ?_
            refine j_iload_n C dX8_worst_53 rfl rfl ?_
            refine j_icmp_le (tgt := 62) C dX8_worst_54 rfl (fun _ => ?_) (fun h => absurd h (by decide))
            refine j_iload_n C dX8_worst_62 rfl rfl ?_
            refine j_istore_n (L' := [some (.ref (gad g (84))), some (.int (nI (x))), some (.int (-4)), some (.int (-4)), some (.int (nI (l))), some (.int (-4))]) C dX8_worst_63 rfl (by decide) rfl ?_
            refine j_iload C dX8_worst_64 rfl ?_
            refine j_iload_n C dX8_worst_66 rfl rfl ?_
            refine j_icmp_le (tgt := 75) C dX8_worst_67 rfl (fun _ => ?_) (fun h => absurd h (by decide))
            refine j_iload_n C dX8_worst_75 rfl rfl ?_
            refine j_istore_n (L' := [some (.ref (gad g (84))), some (.int (nI (x))), some (.int (-4)), some (.int (-4)), some (.int (nI (l))), some (.int (-4))]) C dX8_worst_76 rfl (by decide) rfl ?_
            refine j_iinc (L' := [some (.ref (gad g (84))), some (.int (nI (x))), some (.int (-4)), some (.int (-4)), some (.int (nI (l + 1))), some (.int (-4))]) C dX8_worst_77 rfl (nI_inc _) (by decide) rfl ?_
            refine j_goto (tgt := 20) C dX8_worst_80 rfl ?_
            refine J_clr 5 (L' := [some (.ref (gad g (84))), some (.int (nI (x))), some (.int (-4)), some (.int (-4)), some (.int (nI (l + 1))), none]) rfl ?_
            have hq : (wrst a wt u (l + 1)) = (wrst a wt u l) := by
              rw [wrst, hwr]
              exact if_neg (fun q => by rw [hul] at q; cases q.1)
            refine J_loc (L' := [some (.ref (gad g (84))), some (.int (nI (x))), some (.int (c4 ((wrst a wt u (l + 1)).map (fun z => z.1)))), some (.int (c4 ((wrst a wt u (l + 1)).map (fun z => z.2)))), some (.int (nI (l + 1))), none]) (by rw [hq, hwr]; rfl) (ih (nM a - (l + 1)) (by omega) (l + 1) σ1 rfl (by omega) hf)
          · refine j_ifn_eq (tgt := 47) C dX8_worst_35 rfl (by omega) (fun h => absurd h (by decide)) (fun _ => ?_)
            refine j_aload_n C dX8_worst_38 rfl rfl ?_
            refine j_iload C dX8_worst_39 rfl ?_
            refine j_calli (As := [.int (nI (l))]) (rest := []) C (tX8_costTurned hN (hI.kept (fun j n h => hf j n (by omega))) hO (hW.kept hm12 (fun n h => hf _ _ (by omega))) hw (l := l) (by omega)) cdX8_costTurned mlX8_211 dX8_worst_41 (by decide) (by decide) (Nat.lt_of_lt_of_le (by decide) hN) rfl rfl rfl rfl rfl (Nat.le_of_ble_eq_true rfl) (fun rr_5 τ4 hp_6 => ?_)
            have hr_ := hp_6.2
            subst hr_
            refine j_goto (tgt := 49) C dX8_worst_44 rfl ?_
            refine j_istore (L' := [some (.ref (gad g (84))), some (.int (nI (x))), some (.int (-4)), some (.int (-4)), some (.int (nI (l))), some (.int (nI (costN a wt (fl1 u l))))]) C dX8_worst_49 (by decide) rfl ?_
            refine j_iload C dX8_worst_51 rfl ?_
            refine j_iload_n C dX8_worst_53 rfl rfl ?_
            refine j_icmp_le (tgt := 62) C dX8_worst_54 rfl (fun h => absurd h (nI_nleA (by omega) (by decide))) (fun _ => ?_)
            refine j_iload C dX8_worst_57 rfl ?_
            refine j_goto (tgt := 63) C dX8_worst_59 rfl ?_
            refine j_istore_n (L' := [some (.ref (gad g (84))), some (.int (nI (x))), some (.int (nI (l))), some (.int (-4)), some (.int (nI (l))), some (.int (nI (costN a wt (fl1 u l))))]) C dX8_worst_63 rfl (by decide) rfl ?_
            refine j_iload C dX8_worst_64 rfl ?_
            refine j_iload_n C dX8_worst_66 rfl rfl ?_
            refine j_icmp_le (tgt := 75) C dX8_worst_67 rfl (fun h => absurd h (nI_nleA (by omega) (by decide))) (fun _ => ?_)
            refine j_iload C dX8_worst_70 rfl ?_
            refine j_goto (tgt := 76) C dX8_worst_72 rfl ?_
            refine j_istore_n (L' := [some (.ref (gad g (84))), some (.int (nI (x))), some (.int (nI (l))), some (.int (nI (costN a wt (fl1 u l)))), some (.int (nI (l))), some (.int (nI (costN a wt (fl1 u l))))]) C dX8_worst_76 rfl (by decide) rfl ?_
            refine j_iinc (L' := [some (.ref (gad g (84))), some (.int (nI (x))), some (.int (nI (l))), some (.int (nI (costN a wt (fl1 u l)))), some (.int (nI (l + 1))), some (.int (nI (costN a wt (fl1 u l))))]) C dX8_worst_77 rfl (nI_inc _) (by decide) rfl ?_
            refine j_goto (tgt := 20) C dX8_worst_80 rfl ?_
            refine J_clr 5 (L' := [some (.ref (gad g (84))), some (.int (nI (x))), some (.int (nI (l))), some (.int (nI (costN a wt (fl1 u l)))), some (.int (nI (l + 1))), none]) rfl ?_
            have hq : (wrst a wt u (l + 1)) = some (l, costN a wt (fl1 u l)) := by
              rw [wrst, fl1_dn hul, hwr]
              exact if_pos ⟨hul, by first | rfl | exact decide_eq_true (by rw [← fl1_dn hul]; omega)⟩
            refine J_loc (L' := [some (.ref (gad g (84))), some (.int (nI (x))), some (.int (c4 ((wrst a wt u (l + 1)).map (fun z => z.1)))), some (.int (c4 ((wrst a wt u (l + 1)).map (fun z => z.2)))), some (.int (nI (l + 1))), none]) (by rw [hq]; rfl) (ih (nM a - (l + 1)) (by omega) (l + 1) τ4 rfl (by omega) (fun j n h => by rw [hp_6.1 _ _ (by omega)]; exact hf j n h))
        · refine J_loc (L' := [some (.ref (gad g (84))), some (.int (nI (x))), some (.int (nI (l1))), some (.int (nI (c1))), some (.int (nI (l))), none]) rfl ?_
          have hwo := wrst_ok hO hwr
          refine j_aload_n C dX8_worst_29 rfl rfl ?_
          refine j_iload C dX8_worst_30 rfl ?_
          refine j_calli (As := [.int (nI (l))]) (rest := []) C (tX8_isUp hN (m := nM a) (u := u) (by omega) ((hf _ _ (by omega)).trans hW.2) (l := l) (by omega)) cdX8_isUp mlX8_124 dX8_worst_32 (by decide) (by decide) (Nat.lt_of_lt_of_le (by decide) hN) rfl rfl rfl rfl rfl (Nat.le_of_ble_eq_true rfl) (fun rr_8 τ7 hp_9 => ?_)
          obtain ⟨hs, hr⟩ := hp_9
          replace hs := hs.symm
          subst hs
          rcases hul : u l with _ | _ <;> rw [hul] at hr <;> subst hr
          · refine j_ifn_eq (tgt := 47) C dX8_worst_35 rfl (by omega) (fun _ => ?_) (fun h => absurd h (by decide))
            refine j_bipush (v := -4) C dX8_worst_47 rfl ?_
            refine j_istore (L' := [some (.ref (gad g (84))), some (.int (nI (x))), some (.int (nI (l1))), some (.int (nI (c1))), some (.int (nI (l))), some (.int (-4))]) C dX8_worst_49 (by decide) rfl ?_
            refine j_iload C dX8_worst_51 rfl ?_
            refine j_iload_n C dX8_worst_53 rfl rfl ?_
            refine j_icmp_le (tgt := 62) C dX8_worst_54 rfl (fun _ => ?_) (fun h => absurd h (fun q => q (nI_nleB (by omega) (by decide))))
            refine j_iload_n C dX8_worst_62 rfl rfl ?_
            refine j_istore_n (L' := [some (.ref (gad g (84))), some (.int (nI (x))), some (.int (nI (l1))), some (.int (nI (c1))), some (.int (nI (l))), some (.int (-4))]) C dX8_worst_63 rfl (by decide) rfl ?_
            refine j_iload C dX8_worst_64 rfl ?_
            refine j_iload_n C dX8_worst_66 rfl rfl ?_
            refine j_icmp_le (tgt := 75) C dX8_worst_67 rfl (fun _ => ?_) (fun h => absurd h (fun q => q (nI_nleB (by omega) (by decide))))
            refine j_iload_n C dX8_worst_75 rfl rfl ?_
            refine j_istore_n (L' := [some (.ref (gad g (84))), some (.int (nI (x))), some (.int (nI (l1))), some (.int (nI (c1))), some (.int (nI (l))), some (.int (-4))]) C dX8_worst_76 rfl (by decide) rfl ?_
            refine j_iinc (L' := [some (.ref (gad g (84))), some (.int (nI (x))), some (.int (nI (l1))), some (.int (nI (c1))), some (.int (nI (l + 1))), some (.int (-4))]) C dX8_worst_77 rfl (nI_inc _) (by decide) rfl ?_
            refine j_goto (tgt := 20) C dX8_worst_80 rfl ?_
            refine J_clr 5 (L' := [some (.ref (gad g (84))), some (.int (nI (x))), some (.int (nI (l1))), some (.int (nI (c1))), some (.int (nI (l + 1))), none]) rfl ?_
            have hq : (wrst a wt u (l + 1)) = (wrst a wt u l) := by
              rw [wrst, hwr]
              exact if_neg (fun q => by rw [hul] at q; cases q.1)
            refine J_loc (L' := [some (.ref (gad g (84))), some (.int (nI (x))), some (.int (c4 ((wrst a wt u (l + 1)).map (fun z => z.1)))), some (.int (c4 ((wrst a wt u (l + 1)).map (fun z => z.2)))), some (.int (nI (l + 1))), none]) (by rw [hq, hwr]; rfl) (ih (nM a - (l + 1)) (by omega) (l + 1) σ1 rfl (by omega) hf)
          · refine j_ifn_eq (tgt := 47) C dX8_worst_35 rfl (by omega) (fun h => absurd h (by decide)) (fun _ => ?_)
            refine j_aload_n C dX8_worst_38 rfl rfl ?_
            refine j_iload C dX8_worst_39 rfl ?_
            refine j_calli (As := [.int (nI (l))]) (rest := []) C (tX8_costTurned hN (hI.kept (fun j n h => hf j n (by omega))) hO (hW.kept hm12 (fun n h => hf _ _ (by omega))) hw (l := l) (by omega)) cdX8_costTurned mlX8_211 dX8_worst_41 (by decide) (by decide) (Nat.lt_of_lt_of_le (by decide) hN) rfl rfl rfl rfl rfl (Nat.le_of_ble_eq_true rfl) (fun rr_11 τ10 hp_12 => ?_)
            have hr_ := hp_12.2
            subst hr_
            refine j_goto (tgt := 49) C dX8_worst_44 rfl ?_
            refine j_istore (L' := [some (.ref (gad g (84))), some (.int (nI (x))), some (.int (nI (l1))), some (.int (nI (c1))), some (.int (nI (l))), some (.int (nI (costN a wt (fl1 u l))))]) C dX8_worst_49 (by decide) rfl ?_
            refine j_iload C dX8_worst_51 rfl ?_
            refine j_iload_n C dX8_worst_53 rfl rfl ?_
            refine j_icmpn_le (tgt := 62) C dX8_worst_54 rfl (by omega) (by omega) (fun h54 => ?_) (fun h54 => ?_)
            · refine j_iload_n C dX8_worst_62 rfl rfl ?_
              refine j_istore_n (L' := [some (.ref (gad g (84))), some (.int (nI (x))), some (.int (nI (l1))), some (.int (nI (c1))), some (.int (nI (l))), some (.int (nI (costN a wt (fl1 u l))))]) C dX8_worst_63 rfl (by decide) rfl ?_
              refine j_iload C dX8_worst_64 rfl ?_
              refine j_iload_n C dX8_worst_66 rfl rfl ?_
              refine j_icmpn_le (tgt := 75) C dX8_worst_67 rfl (by omega) (by omega) (fun h67 => ?_) (fun h67 => ?_)
              · refine j_iload_n C dX8_worst_75 rfl rfl ?_
                refine j_istore_n (L' := [some (.ref (gad g (84))), some (.int (nI (x))), some (.int (nI (l1))), some (.int (nI (c1))), some (.int (nI (l))), some (.int (nI (costN a wt (fl1 u l))))]) C dX8_worst_76 rfl (by decide) rfl ?_
                refine j_iinc (L' := [some (.ref (gad g (84))), some (.int (nI (x))), some (.int (nI (l1))), some (.int (nI (c1))), some (.int (nI (l + 1))), some (.int (nI (costN a wt (fl1 u l))))]) C dX8_worst_77 rfl (nI_inc _) (by decide) rfl ?_
                refine j_goto (tgt := 20) C dX8_worst_80 rfl ?_
                refine J_clr 5 (L' := [some (.ref (gad g (84))), some (.int (nI (x))), some (.int (nI (l1))), some (.int (nI (c1))), some (.int (nI (l + 1))), none]) rfl ?_
                have hq : (wrst a wt u (l + 1)) = (wrst a wt u l) := by
                  rw [wrst, hwr]
                  exact if_neg (fun q => by have q2 : c1 < costN a wt (dnU u l) := of_decide_eq_true q.2; rw [← fl1_dn hul] at q2; omega)
                refine J_loc (L' := [some (.ref (gad g (84))), some (.int (nI (x))), some (.int (c4 ((wrst a wt u (l + 1)).map (fun z => z.1)))), some (.int (c4 ((wrst a wt u (l + 1)).map (fun z => z.2)))), some (.int (nI (l + 1))), none]) (by rw [hq, hwr]; rfl) (ih (nM a - (l + 1)) (by omega) (l + 1) τ10 rfl (by omega) (fun j n h => by rw [hp_12.1 _ _ (by omega)]; exact hf j n h))
              · refine j_iload C dX8_worst_70 rfl ?_
                refine j_goto (tgt := 76) C dX8_worst_72 rfl ?_
                refine j_istore_n (L' := [some (.ref (gad g (84))), some (.int (nI (x))), some (.int (nI (l1))), some (.int (nI (costN a wt (fl1 u l)))), some (.int (nI (l))), some (.int (nI (costN a wt (fl1 u l))))]) C dX8_worst_76 rfl (by decide) rfl ?_
                refine j_iinc (L' := [some (.ref (gad g (84))), some (.int (nI (x))), some (.int (nI (l1))), some (.int (nI (costN a wt (fl1 u l)))), some (.int (nI (l + 1))), some (.int (nI (costN a wt (fl1 u l))))]) C dX8_worst_77 rfl (nI_inc _) (by decide) rfl ?_
                refine j_goto (tgt := 20) C dX8_worst_80 rfl ?_
                exfalso
                omega
            · refine j_iload C dX8_worst_57 rfl ?_
              refine j_goto (tgt := 63) C dX8_worst_59 rfl ?_
              refine j_istore_n (L' := [some (.ref (gad g (84))), some (.int (nI (x))), some (.int (nI (l))), some (.int (nI (c1))), some (.int (nI (l))), some (.int (nI (costN a wt (fl1 u l))))]) C dX8_worst_63 rfl (by decide) rfl ?_
              refine j_iload C dX8_worst_64 rfl ?_
              refine j_iload_n C dX8_worst_66 rfl rfl ?_
              refine j_icmpn_le (tgt := 75) C dX8_worst_67 rfl (by omega) (by omega) (fun h67 => ?_) (fun h67 => ?_)
              · refine j_iload_n C dX8_worst_75 rfl rfl ?_
                refine j_istore_n (L' := [some (.ref (gad g (84))), some (.int (nI (x))), some (.int (nI (l))), some (.int (nI (c1))), some (.int (nI (l))), some (.int (nI (costN a wt (fl1 u l))))]) C dX8_worst_76 rfl (by decide) rfl ?_
                refine j_iinc (L' := [some (.ref (gad g (84))), some (.int (nI (x))), some (.int (nI (l))), some (.int (nI (c1))), some (.int (nI (l + 1))), some (.int (nI (costN a wt (fl1 u l))))]) C dX8_worst_77 rfl (nI_inc _) (by decide) rfl ?_
                refine j_goto (tgt := 20) C dX8_worst_80 rfl ?_
                exfalso
                omega
              · refine j_iload C dX8_worst_70 rfl ?_
                refine j_goto (tgt := 76) C dX8_worst_72 rfl ?_
                refine j_istore_n (L' := [some (.ref (gad g (84))), some (.int (nI (x))), some (.int (nI (l))), some (.int (nI (costN a wt (fl1 u l)))), some (.int (nI (l))), some (.int (nI (costN a wt (fl1 u l))))]) C dX8_worst_76 rfl (by decide) rfl ?_
                refine j_iinc (L' := [some (.ref (gad g (84))), some (.int (nI (x))), some (.int (nI (l))), some (.int (nI (costN a wt (fl1 u l)))), some (.int (nI (l + 1))), some (.int (nI (costN a wt (fl1 u l))))]) C dX8_worst_77 rfl (nI_inc _) (by decide) rfl ?_
                refine j_goto (tgt := 20) C dX8_worst_80 rfl ?_
                refine J_clr 5 (L' := [some (.ref (gad g (84))), some (.int (nI (x))), some (.int (nI (l))), some (.int (nI (costN a wt (fl1 u l)))), some (.int (nI (l + 1))), none]) rfl ?_
                have hq : (wrst a wt u (l + 1)) = some (l, costN a wt (fl1 u l)) := by
                  rw [wrst, fl1_dn hul, hwr]
                  exact if_pos ⟨hul, by first | rfl | exact decide_eq_true (by rw [← fl1_dn hul]; omega)⟩
                refine J_loc (L' := [some (.ref (gad g (84))), some (.int (nI (x))), some (.int (c4 ((wrst a wt u (l + 1)).map (fun z => z.1)))), some (.int (c4 ((wrst a wt u (l + 1)).map (fun z => z.2)))), some (.int (nI (l + 1))), none]) (by rw [hq]; rfl) (ih (nM a - (l + 1)) (by omega) (l + 1) τ10 rfl (by omega) (fun j n h => by rw [hp_12.1 _ _ (by omega)]; exact hf j n h))
  refine j_iload_n C dX8_worst_0 rfl rfl ?_
  refine j_iconst (v := nI 0) C dX8_worst_1 rfl ?_
  refine j_iconst (v := nI 1) C dX8_worst_2 rfl ?_
  refine j_calls (As := [.int (x0), .int (nI (0)), .int (nI (1))]) (rest := []) C (tX8_in hN _ (lo := 0) (hi := 1) (by omega) (by omega)) cdX8_in msX8_96 dX8_worst_3 (by decide) (by decide) rfl rfl (Nat.le_of_ble_eq_true rfl) (fun rr_2 τ1 hp_3 => ?_)
  obtain ⟨hs, hc⟩ := hp_3
  replace hs := hs.symm
  subst hs
  rcases hc with ⟨rfl, x, hx1, hx2, rfl⟩ | ⟨rfl, hRno⟩
  · refine j_ifn_ne (tgt := 11) C dX8_worst_6 rfl (by omega) (fun _ => ?_) (fun h => absurd h (by decide))
    refine j_bipush (v := -4) C dX8_worst_11 rfl ?_
    refine j_istore_n (L' := [some (.ref (gad g (84))), some (.int (nI (x))), some (.int (-4)), none, none, none]) C dX8_worst_13 rfl (by decide) rfl ?_
    refine j_bipush (v := -4) C dX8_worst_14 rfl ?_
    refine j_istore_n (L' := [some (.ref (gad g (84))), some (.int (nI (x))), some (.int (-4)), some (.int (-4)), none, none]) C dX8_worst_16 rfl (by decide) rfl ?_
    refine j_iconst (v := nI 0) C dX8_worst_17 rfl ?_
    refine j_istore (L' := [some (.ref (gad g (84))), some (.int (nI (x))), some (.int (-4)), some (.int (-4)), some (.int (nI (0))), none]) C dX8_worst_18 (by decide) rfl ?_
    exact lp x (by omega) rfl (nM a - 0) 0 σ rfl (by omega) (fun _ _ _ => rfl)
  · refine j_ifn_ne (tgt := 11) C dX8_worst_6 rfl (by omega) (fun h => absurd h (by decide)) (fun _ => ?_)
    refine j_iconst (v := -1) C dX8_worst_9 rfl ?_
    refine j_ret M dX8_worst_10 ?_
    rw [abWorst, pIf_f (by first | exact hRno | exact fun q => hno q.1 | exact fun q => hRno q.2 | exact fun q => hno2 q.2)]
    exact ⟨rfl, hC, fun _ _ _ => rfl⟩
set_option maxHeartbeats 4000000 in
set_option maxRecDepth 100000 in
theorem tX8_rescue {g : jG} (hN : 97 ≤ gN g) {σ : Sg} {tx : Nat → Int32} {len : Nat} {a : ND} {wt : Nat → Nat} {u : Nat → Bool} {tl : List Int32} {le : Nat} {p : List SD} (hC : RI σ (tx, len, a, (wt, u, tl, le), p)) (hA : AOk (tx, len, a, (wt, u, tl, le), p)) (h1m : 1 ≤ nM a) (h1d : 1 ≤ nD a) (l0 x0 : Int32) : MS g yX8_rescue cX8_rescue 5 (some .int) rmX8_rescue [.ref (gad g (84)), .int (l0), .int (x0)] σ (fun r σ' => r = (abRescue l0 x0 (tx, len, a, (wt, u, tl, le), p)).1 ∧ RI σ' (abRescue l0 x0 (tx, len, a, (wt, u, tl, le), p)).2 ∧ ∀ j n, j < 84 → σ' j n = σ j n) := by
  refine MJ_of (by decide) (Nat.le_of_ble_eq_true rfl) (List.forall_mem_cons.mpr ⟨rfl, List.forall_mem_cons.mpr ⟨rfl, List.forall_mem_cons.mpr ⟨rfl, fun _ h => absurd h List.not_mem_nil⟩⟩⟩) ?_
  intro κ M
  have C := M.1
  show J g κ 5 0 [some (.ref (gad g (84))), some (.int (l0)), some (.int (x0)), none, none] [] σ
  have hI : RNet σ a := hC.2.1
  have hO : NOk a := hA.1
  have hS : RS1 σ 90 0 (nM a) (wt, u, tl, le) := hC.2.2.1
  have hW : RW σ (nM a) wt u := hS.w
  have hw : WOk (nM a) wt := hA.2.1.1
  have htl6 : tl.length ≤ 6 := hA.2.1.2.1
  have hle31 : le < 2 ^ 31 := hA.2.1.2.2
  have hlen : len ≤ 200 := hC.1.2.1
  have hCl : σ 84 1 = nI len := hC.1.1
  have hCt : ∀ k, k < len → σ 85 k = tx k := hC.1.2.2
  have hn2 := hO.1
  have hn7 := hO.2.1
  have hm12 := hO.2.2.1
  have hd6 := hO.2.2.2.1
  have hle : σ 90 13 = nI le := hS.2.2.1
  have hT : RT σ tl := ⟨hS.2.2.2.1, fun k hk => hS.2.2.2.2 k hk⟩
  have hPl : σ 84 15 = nI p.length := hC.2.2.2.1
  have hp6 : p.length ≤ 6 := hA.2.2.2.1
  refine j_aload_n C dX8_rescue_0 rfl rfl ?_
  refine j_iload_n C dX8_rescue_1 rfl rfl ?_
  refine j_calli (As := [.int (l0)]) (rest := []) C (tX8_isLink hN (b := nM a) hI.1.2.1 (by omega) (by omega) _) cdX8_isLink mlX8_180 dX8_rescue_2 (by decide) (by decide) (Nat.lt_of_lt_of_le (by decide) hN) rfl rfl rfl rfl rfl (Nat.le_of_ble_eq_true rfl) (fun rr_2 τ1 hp_3 => ?_)
  obtain ⟨hs, hc⟩ := hp_3
  replace hs := hs.symm
  subst hs
  rcases hc with ⟨rfl, l, hl, rfl⟩ | ⟨rfl, hno⟩
  · refine j_ifn_eq (tgt := 17) C dX8_rescue_5 rfl (by omega) (fun h => absurd h (by decide)) (fun _ => ?_)
    refine j_iload_n C dX8_rescue_8 rfl rfl ?_
    refine j_iconst (v := nI 0) C dX8_rescue_9 rfl ?_
    refine j_iconst (v := nI 2) C dX8_rescue_10 rfl ?_
    refine j_calls (As := [.int (x0), .int (nI (0)), .int (nI (2))]) (rest := []) C (tX8_in hN _ (lo := 0) (hi := 2) (by omega) (by omega)) cdX8_in msX8_96 dX8_rescue_11 (by decide) (by decide) rfl rfl (Nat.le_of_ble_eq_true rfl) (fun rr_5 τ4 hp_6 => ?_)
    obtain ⟨hs, hc⟩ := hp_6
    replace hs := hs.symm
    subst hs
    rcases hc with ⟨rfl, x, hx1, hx2, rfl⟩ | ⟨rfl, hRno⟩
    · refine j_ifn_ne (tgt := 19) C dX8_rescue_14 rfl (by omega) (fun _ => ?_) (fun h => absurd h (by decide))
      refine j_aload_n C dX8_rescue_19 rfl rfl ?_
      refine j_iload_n C dX8_rescue_20 rfl rfl ?_
      refine j_calli (As := [.int (nI (l))]) (rest := []) C (tX8_isUp hN (m := nM a) (u := u) (by omega) hW.2 (l := l) (by omega)) cdX8_isUp mlX8_124 dX8_rescue_21 (by decide) (by decide) (Nat.lt_of_lt_of_le (by decide) hN) rfl rfl rfl rfl rfl (Nat.le_of_ble_eq_true rfl) (fun rr_8 τ7 hp_9 => ?_)
      obtain ⟨hs, hr⟩ := hp_9
      replace hs := hs.symm
      subst hs
      rcases hul : u l with _ | _ <;> rw [hul] at hr <;> subst hr
      · refine j_ifn_ne (tgt := 30) C dX8_rescue_24 rfl (by omega) (fun h => absurd h (by decide)) (fun _ => ?_)
        refine j_bipush (v := -2) C dX8_rescue_27 rfl ?_
        refine j_ret M dX8_rescue_29 ?_
        rw [abRescue, pIf_t ⟨⟨l, hl, rfl⟩, ⟨x, by omega, by omega, rfl⟩⟩, idx_nI (by omega), idx_nI (by omega)]
        dsimp only
        rw [if_pos hul]
        exact ⟨rfl, hC, fun _ _ _ => rfl⟩
      · refine j_ifn_ne (tgt := 30) C dX8_rescue_24 rfl (by omega) (fun _ => ?_) (fun h => absurd h (by decide))
        refine j_aload_n C dX8_rescue_30 rfl rfl ?_
        refine j_get C flX8_25 dX8_rescue_31 (Nat.lt_of_lt_of_le (by decide) hN) rfl rfl ?_
        refine j_bipush (v := nI 12) C dX8_rescue_34 rfl ?_
        refine j_dup2 C dX8_rescue_36 rfl rfl ?_
        refine j_iald C dX8_rescue_37 (Nat.lt_of_lt_of_le (by decide) hN) (fun _ => rfl) (by decide) (by omega) ?_
        refine j_top (hW.2) ?_
        refine j_iconst (v := nI 1) C dX8_rescue_38 rfl ?_
        refine j_iload_n C dX8_rescue_39 rfl rfl ?_
        refine j_ishl C dX8_rescue_40 ?_
        refine j_top (bit_sh (by omega)) ?_
        refine j_ixor C dX8_rescue_41 ?_
        refine j_top ((bit_xor _ _).trans (congrArg nI ((ub_xor hl).trans (by rw [fl1_dn hul])))) ?_
        refine j_iast' C dX8_rescue_42 (Nat.lt_of_lt_of_le (by decide) hN) (fun _ => rfl) (by decide) (by omega) (fun τ10 hz_11 hw_12 => ?_)
        have hIx : RNet τ10 a := hI.kept (fun j n h => by rw [hz_11 _ _ (by omega)])
        have hWx : RW τ10 (nM a) wt (dnU u l) := ⟨fun k hk => by rw [hz_11 _ _ (by omega)]; exact hW.1 k hk, hw_12⟩
        have hcb := costN_bd (a := a) (w := wt) (u := (dnU u l)) hO
        refine j_aload_n C dX8_rescue_43 rfl rfl ?_
        refine j_calli (As := []) (rest := []) C (tX8_costNow hN (a := a) (w := wt) (u := (dnU u l)) hIx hO hWx hw) cdX8_costNow mlX8_83 dX8_rescue_44 (by decide) (by decide) (Nat.lt_of_lt_of_le (by decide) hN) rfl rfl rfl rfl rfl (Nat.le_of_ble_eq_true rfl) (fun rr_14 τ13 hp_15 => ?_)
        have hr_hp_15 := hp_15.2
        subst hr_hp_15
        refine j_istore_n (L' := [some (.ref (gad g (84))), some (.int (nI (l))), some (.int (nI (x))), some (.int (nI (costN a wt (dnU u l)))), none]) C dX8_rescue_47 rfl (by decide) rfl ?_
        refine j_aload_n C dX8_rescue_48 rfl rfl ?_
        refine j_iload_n C dX8_rescue_49 rfl rfl ?_
        refine j_iconst (v := nI 1) C dX8_rescue_50 rfl ?_
        refine j_calli (As := [.int (nI (l)), .int (nI (1))]) (rest := []) C (tX8_findMove hN (a := a) (w := wt) (u := (dnU u l)) (hd := false) (le := le) (tl := tl) (hIx.kept (fun j n h => by rw [hp_15.1 _ _ (by omega)])) hO (hWx.kept hm12 (fun n h => by rw [hp_15.1 _ _ (by omega)])) hw (by rw [hp_15.1 _ _ (by omega), hz_11 _ _ (by omega)]; exact hle) hle31 (hT.kept (fun n h => by rw [hp_15.1 _ _ (by omega), hz_11 _ _ (by omega)])) htl6 (nI l)) cdX8_findMove mlX8_195 dX8_rescue_51 (by decide) (by decide) (Nat.lt_of_lt_of_le (by decide) hN) rfl rfl rfl rfl rfl (Nat.le_of_ble_eq_true rfl) (fun rr_17 τ16 hp_18 => ?_)
        obtain ⟨hff, hbi, hrf⟩ := hp_18
        rcases hfd : (fndF a wt (dnU u l) false le tl (nI l) (nM a)) with _ | ⟨l1, x1, c1⟩ <;> rw [hfd] at hrf hbi
        · subst hrf
          refine j_ifn_eq (tgt := 69) C dX8_rescue_54 rfl (by omega) (fun _ => ?_) (fun h => absurd h (by decide))
          refine j_iconst (v := nI 0) C dX8_rescue_69 rfl ?_
          refine j_istore (L' := [some (.ref (gad g (84))), some (.int (nI (l))), some (.int (nI (x))), some (.int (nI (costN a wt (dnU u l)))), some (.int (nI (0)))]) C dX8_rescue_70 (by decide) rfl ?_
          refine j_aload_n C dX8_rescue_72 rfl rfl ?_
          refine j_get C flX8_25 dX8_rescue_73 (Nat.lt_of_lt_of_le (by decide) hN) rfl rfl ?_
          refine j_bipush (v := nI 12) C dX8_rescue_76 rfl ?_
          refine j_dup2 C dX8_rescue_78 rfl rfl ?_
          refine j_iald C dX8_rescue_79 (Nat.lt_of_lt_of_le (by decide) hN) (fun _ => rfl) (by decide) (by omega) ?_
          refine j_top ((hff _ _ (by omega)).trans ((hp_15.1 _ _ (by omega)).trans (hw_12))) ?_
          refine j_iconst (v := nI 1) C dX8_rescue_80 rfl ?_
          refine j_iload_n C dX8_rescue_81 rfl rfl ?_
          refine j_ishl C dX8_rescue_82 ?_
          refine j_top (bit_sh (by omega)) ?_
          refine j_ixor C dX8_rescue_83 ?_
          refine j_top ((bit_xor _ _).trans (congrArg nI ((ub_xor hl).trans (by rw [← fl1_dn hul, fl1_fl1])))) ?_
          refine j_iast' C dX8_rescue_84 (Nat.lt_of_lt_of_le (by decide) hN) (fun _ => rfl) (by decide) (by omega) (fun τ19 hz_20 hw_21 => ?_)
          refine j_iload C dX8_rescue_85 rfl ?_
          refine j_ifn_eq (tgt := 98) C dX8_rescue_87 rfl (by omega) (fun _ => ?_) (fun h => absurd h (by decide))
          refine j_bipush (v := -4) C dX8_rescue_98 rfl ?_
          refine j_ret M dX8_rescue_100 ?_
          rw [abRescue, pIf_t ⟨⟨l, hl, rfl⟩, ⟨x, by omega, by omega, rfl⟩⟩, idx_nI (by omega), idx_nI (by omega)]
          dsimp only
          rw [if_neg (by rw [hul]; decide)]
          have e : fnd a (wt, dnU u l, tl, le) false (nI l) = fndF a wt (dnU u l) false le tl (nI l) (nM a) := rfl
          rw [e, hfd]
          refine ⟨?_, hC.kept hA (fun j n h => ?_), fun j n h => by rw [hz_20 _ _ (by omega), hff _ _ (by omega), hp_15.1 _ _ (by omega), hz_11 _ _ (by omega)]⟩
          · first | rfl | exact (if_neg (show ¬ c1 < costN a wt (dnU u l) by omega)).symm
          · by_cases e : j = 90 ∧ n = 12
            · obtain ⟨rfl, rfl⟩ := e
              rw [hw_21]; exact hW.2.symm
            · rw [hz_20 _ _ (by omega), hff _ _ (by omega), hp_15.1 _ _ (by omega), hz_11 _ _ (by omega)]
        · subst hrf
          have hbk := fnd_ok hfd
          obtain ⟨hb21, hb22, hb23⟩ := hbi.2
          refine j_ifn_eq (tgt := 69) C dX8_rescue_54 rfl (by omega) (fun h => absurd h (by decide)) (fun _ => ?_)
          refine j_aload_n C dX8_rescue_57 rfl rfl ?_
          refine j_get C flX8_166 dX8_rescue_58 (Nat.lt_of_lt_of_le (by decide) hN) rfl rfl ?_
          refine j_top (hbi.1.2.2) ?_
          refine j_iload_n C dX8_rescue_61 rfl rfl ?_
          refine j_icmpn_ge (tgt := 69) C dX8_rescue_62 rfl (by omega) (by omega) (fun h62 => ?_) (fun h62 => ?_)
          · refine j_iconst (v := nI 0) C dX8_rescue_69 rfl ?_
            refine j_istore (L' := [some (.ref (gad g (84))), some (.int (nI (l))), some (.int (nI (x))), some (.int (nI (costN a wt (dnU u l)))), some (.int (nI (0)))]) C dX8_rescue_70 (by decide) rfl ?_
            refine j_aload_n C dX8_rescue_72 rfl rfl ?_
            refine j_get C flX8_25 dX8_rescue_73 (Nat.lt_of_lt_of_le (by decide) hN) rfl rfl ?_
            refine j_bipush (v := nI 12) C dX8_rescue_76 rfl ?_
            refine j_dup2 C dX8_rescue_78 rfl rfl ?_
            refine j_iald C dX8_rescue_79 (Nat.lt_of_lt_of_le (by decide) hN) (fun _ => rfl) (by decide) (by omega) ?_
            refine j_top ((hff _ _ (by omega)).trans ((hp_15.1 _ _ (by omega)).trans (hw_12))) ?_
            refine j_iconst (v := nI 1) C dX8_rescue_80 rfl ?_
            refine j_iload_n C dX8_rescue_81 rfl rfl ?_
            refine j_ishl C dX8_rescue_82 ?_
            refine j_top (bit_sh (by omega)) ?_
            refine j_ixor C dX8_rescue_83 ?_
            refine j_top ((bit_xor _ _).trans (congrArg nI ((ub_xor hl).trans (by rw [← fl1_dn hul, fl1_fl1])))) ?_
            refine j_iast' C dX8_rescue_84 (Nat.lt_of_lt_of_le (by decide) hN) (fun _ => rfl) (by decide) (by omega) (fun τ22 hz_23 hw_24 => ?_)
            refine j_iload C dX8_rescue_85 rfl ?_
            refine j_ifn_eq (tgt := 98) C dX8_rescue_87 rfl (by omega) (fun _ => ?_) (fun h => absurd h (by decide))
            refine j_bipush (v := -4) C dX8_rescue_98 rfl ?_
            refine j_ret M dX8_rescue_100 ?_
            rw [abRescue, pIf_t ⟨⟨l, hl, rfl⟩, ⟨x, by omega, by omega, rfl⟩⟩, idx_nI (by omega), idx_nI (by omega)]
            dsimp only
            rw [if_neg (by rw [hul]; decide)]
            have e : fnd a (wt, dnU u l, tl, le) false (nI l) = fndF a wt (dnU u l) false le tl (nI l) (nM a) := rfl
            rw [e, hfd]
            refine ⟨?_, hC.kept hA (fun j n h => ?_), fun j n h => by rw [hz_23 _ _ (by omega), hff _ _ (by omega), hp_15.1 _ _ (by omega), hz_11 _ _ (by omega)]⟩
            · first | rfl | exact (if_neg (show ¬ c1 < costN a wt (dnU u l) by omega)).symm
            · by_cases e : j = 90 ∧ n = 12
              · obtain ⟨rfl, rfl⟩ := e
                rw [hw_24]; exact hW.2.symm
              · rw [hz_23 _ _ (by omega), hff _ _ (by omega), hp_15.1 _ _ (by omega), hz_11 _ _ (by omega)]
          · refine j_iconst (v := nI 1) C dX8_rescue_65 rfl ?_
            refine j_goto (tgt := 70) C dX8_rescue_66 rfl ?_
            refine j_istore (L' := [some (.ref (gad g (84))), some (.int (nI (l))), some (.int (nI (x))), some (.int (nI (costN a wt (dnU u l)))), some (.int (nI (1)))]) C dX8_rescue_70 (by decide) rfl ?_
            refine j_aload_n C dX8_rescue_72 rfl rfl ?_
            refine j_get C flX8_25 dX8_rescue_73 (Nat.lt_of_lt_of_le (by decide) hN) rfl rfl ?_
            refine j_bipush (v := nI 12) C dX8_rescue_76 rfl ?_
            refine j_dup2 C dX8_rescue_78 rfl rfl ?_
            refine j_iald C dX8_rescue_79 (Nat.lt_of_lt_of_le (by decide) hN) (fun _ => rfl) (by decide) (by omega) ?_
            refine j_top ((hff _ _ (by omega)).trans ((hp_15.1 _ _ (by omega)).trans (hw_12))) ?_
            refine j_iconst (v := nI 1) C dX8_rescue_80 rfl ?_
            refine j_iload_n C dX8_rescue_81 rfl rfl ?_
            refine j_ishl C dX8_rescue_82 ?_
            refine j_top (bit_sh (by omega)) ?_
            refine j_ixor C dX8_rescue_83 ?_
            refine j_top ((bit_xor _ _).trans (congrArg nI ((ub_xor hl).trans (by rw [← fl1_dn hul, fl1_fl1])))) ?_
            refine j_iast' C dX8_rescue_84 (Nat.lt_of_lt_of_le (by decide) hN) (fun _ => rfl) (by decide) (by omega) (fun τ25 hz_26 hw_27 => ?_)
            refine j_iload C dX8_rescue_85 rfl ?_
            refine j_ifn_eq (tgt := 98) C dX8_rescue_87 rfl (by omega) (fun h => absurd h (by decide)) (fun _ => ?_)
            refine j_aload_n C dX8_rescue_90 rfl rfl ?_
            refine j_iload_n C dX8_rescue_91 rfl rfl ?_
            refine j_calli (As := [.int (nI (x))]) (rest := []) C (tX8_bestOf hN (b := (l1, x1, c1)) (bsR.kept (σ := τ16) (b := some (l1, x1, c1)) hbi (fun n _ _ => by rw [hz_26 _ _ (by omega)])) (x := x) (by omega)) cdX8_bestOf mlX8_208 dX8_rescue_92 (by decide) (by decide) (Nat.lt_of_lt_of_le (by decide) hN) rfl rfl rfl rfl rfl (Nat.le_of_ble_eq_true rfl) (fun rr_29 τ28 hp_30 => ?_)
            obtain ⟨hs, hr⟩ := hp_30
            replace hs := hs.symm
            subst hs
            subst hr
            refine j_goto (tgt := 100) C dX8_rescue_95 rfl ?_
            refine j_ret M dX8_rescue_100 ?_
            rw [abRescue, pIf_t ⟨⟨l, hl, rfl⟩, ⟨x, by omega, by omega, rfl⟩⟩, idx_nI (by omega), idx_nI (by omega)]
            dsimp only
            rw [if_neg (by rw [hul]; decide)]
            have e : fnd a (wt, dnU u l, tl, le) false (nI l) = fndF a wt (dnU u l) false le tl (nI l) (nM a) := rfl
            rw [e, hfd]
            refine ⟨?_, hC.kept hA (fun j n h => ?_), fun j n h => by rw [hz_26 _ _ (by omega), hff _ _ (by omega), hp_15.1 _ _ (by omega), hz_11 _ _ (by omega)]⟩
            · exact (if_pos (by omega)).symm
            · by_cases e : j = 90 ∧ n = 12
              · obtain ⟨rfl, rfl⟩ := e
                rw [hw_27]; exact hW.2.symm
              · rw [hz_26 _ _ (by omega), hff _ _ (by omega), hp_15.1 _ _ (by omega), hz_11 _ _ (by omega)]
    · refine j_ifn_ne (tgt := 19) C dX8_rescue_14 rfl (by omega) (fun h => absurd h (by decide)) (fun _ => ?_)
      refine j_iconst (v := -1) C dX8_rescue_17 rfl ?_
      refine j_ret M dX8_rescue_18 ?_
      rw [abRescue, pIf_f (by first | exact hno | exact fun q => hno q.1 | exact fun q => hRno q.2 | exact fun q => hno2 q.2)]
      exact ⟨rfl, hC, fun _ _ _ => rfl⟩
  · refine j_ifn_eq (tgt := 17) C dX8_rescue_5 rfl (by omega) (fun _ => ?_) (fun h => absurd h (by decide))
    refine j_iconst (v := -1) C dX8_rescue_17 rfl ?_
    refine j_ret M dX8_rescue_18 ?_
    rw [abRescue, pIf_f (by first | exact hno | exact fun q => hno q.1 | exact fun q => hRno q.2 | exact fun q => hno2 q.2)]
    exact ⟨rfl, hC, fun _ _ _ => rfl⟩
