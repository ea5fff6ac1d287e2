set_option maxHeartbeats 4000000 in
set_option maxRecDepth 100000 in
theorem tX7_step {g : jG} (hN : 84 ≤ gN g) {σ : Sg} {tx : Nat → Int32} {len : Nat} {a : ND} {wt : Nat → Nat} {u : Nat → Bool} {tl : List Int32} {le : Nat} {p : List SD} (hC : CI σ (tx, len, a, (wt, u, tl, le), p)) (hA : AOk (tx, len, a, (wt, u, tl, le), p)) (x0 : Int32) : MS g yX7_step cX7_step 4 (some .int) rmX7_step [.ref (gad g (0)), .int (x0)] σ (fun r σ' => r = (abStep x0 (tx, len, a, (wt, u, tl, le), p)).1 ∧ CI σ' (abStep x0 (tx, len, a, (wt, u, tl, le), p)).2 ∧ ∀ j n, 84 ≤ j → σ' j n = σ j n) := by
  refine MJ_of (by decide) (Nat.le_of_ble_eq_true rfl) (List.forall_mem_cons.mpr ⟨rfl, List.forall_mem_cons.mpr ⟨rfl, fun _ h => absurd h List.not_mem_nil⟩⟩) ?_
  intro κ M
  have C := M.1
  show J g κ 4 0 [some (.ref (gad g (0))), some (.int (x0)), none, none] [] σ
  have hI : NetI σ 3 a := hC.2.1
  have hO : NOk a := hA.1
  have hS : StI σ 0 (nM a) (wt, u, tl, le) := hC.2.2.1
  have hW : StW σ 0 (nM a) wt u := hS.2.1
  have hw : WOk (nM a) wt := hA.2.1.1
  have htl6 : tl.length ≤ 6 := hA.2.1.2.1
  have hle31 : le < 2 ^ 31 := hA.2.1.2.2
  have hlen : len ≤ 200 := hC.1.2.1
  have hn7 := hO.2.1
  have hm12 := hO.2.2.1
  have hd6 := hO.2.2.2.1
  have hCl : σ 1 1 = nI len := hC.1.1
  have hCt : ∀ k, k < len → σ 2 k = tx k := hC.1.2.2
  refine j_iload_n C dX7_step_0 rfl rfl ?_
  refine j_iconst (v := nI 1) C dX7_step_1 rfl ?_
  refine j_icmp_lt (tgt := 10) C dX7_step_2 rfl (fun h2 => ?_) (fun h2 => ?_)
  · refine j_iconst (v := -1) C dX7_step_10 rfl ?_
    refine j_ret M dX7_step_11 ?_
    rw [abStep, pIf_f (fun q => by
      obtain ⟨q1, q2⟩ := (nI_rng (by decide) (by decide)).mpr q
      first | exact absurd q1 (Int32.not_le.mpr (by assumption)) | exact absurd q2 (by assumption))]
    exact ⟨rfl, hC, fun _ _ _ => rfl⟩
  · refine j_iload_n C dX7_step_5 rfl rfl ?_
    refine j_iconst (v := nI 3) C dX7_step_6 rfl ?_
    refine j_icmp_le (tgt := 12) C dX7_step_7 rfl (fun h7 => ?_) (fun h7 => ?_)
    · obtain ⟨x, hx1, hx2, rfl⟩ := (nI_rng (a := 1) (b := 3) (by decide) (by decide)).mp ⟨Int32.not_lt.mp h2, h7⟩
      have lpS : ∀ (Y : SD × Nat), stp1 a (wt, u, tl, le) = some Y → ∀ (k d : Nat) (w1 : Nat → Nat) (u1 : Nat → Bool) (t1 : List Int32) (e1 c0 : Nat) (σ1 : Sg), x - d = k → 1 ≤ d → d ≤ x → SOk (nM a) (w1, u1, t1, e1) → c0 < 2 ^ 31 → stpN a (x - d) ((w1, u1, t1, e1), c0) = stpN a (x - 1) Y → (∀ j n, 84 ≤ j → σ1 j n = σ j n) → ((σ1 1 1 = nI len ∧ ∀ q, q < len → σ1 2 q = tx q) ∧ NetI σ1 3 a ∧ StI σ1 0 (nM a) (w1, u1, t1, e1) ∧ PastI σ1 (nM a) (push6 p (wt, u, tl, le))) → J g κ 4 17 [some (.ref (gad g (0))), some (.int (nI (x))), some (.int (nI (c0))), some (.int (nI (d)))] [] σ1 := by
        intro Y hY k
        induction k using Nat.strongRecOn with
        | _ k ih =>
          intro d w1 u1 t1 e1 c0 σ1 hk hd1 hd2 hB hc0 hrun hf hinv
          obtain ⟨hX1, hI1, hT1, hP1⟩ := hinv
          refine j_iload_n C dX7_step_17 rfl rfl ?_
          refine j_iload_n C dX7_step_18 rfl rfl ?_
          refine j_icmpn_ge (tgt := 113) C dX7_step_19 rfl (by omega) (by omega) (fun h19 => ?_) (fun h19 => ?_)
          · refine j_iload_n C dX7_step_113 rfl rfl ?_
            refine j_ret M dX7_step_114 ?_
            rw [abStep, pIf_t ⟨x, hx1, hx2, rfl⟩, idx_nI (by omega)]
            dsimp only
            rw [hY]
            dsimp only
            rw [← hrun]
            rw [show x - d = 0 by omega]
            exact ⟨rfl, ⟨⟨hX1.1, hlen, hX1.2⟩, hI1, hT1, hP1⟩, hf⟩
          · refine j_aload_n C dX7_step_22 rfl rfl ?_
            refine j_get C flX7_47 dX7_step_23 (Nat.lt_of_lt_of_le (by decide) hN) rfl rfl ?_
            refine j_aload_n C dX7_step_26 rfl rfl ?_
            refine j_get C flX7_54 dX7_step_27 (Nat.lt_of_lt_of_le (by decide) hN) rfl rfl ?_
            refine j_iconst (v := -1) C dX7_step_30 rfl ?_
            refine j_iconst (v := nI 1) C dX7_step_31 rfl ?_
            refine j_calli (As := [.ref (gad g (48)), .int (-1), .int (nI (1))]) (rest := []) C (tX2_find hN (bs := 0) (le := e1) (wt := w1) (u := u1) (hd := true) (tl := t1) (by omega) hI1 hO hT1.2.1 hB.1 (fun _ => ⟨rfl, t1.length, hB.2.1, by obtain ⟨nt, h3, h4, h5, h6, h7⟩ := hT1.2.2.1; exact h5, fun z => hT1.mem hB.2.1 z, hT1.2.2.2, hB.2.2, hT1.1⟩) (-1)) cdX2_find mlX7_130 dX7_step_32 (by decide) (by decide) (Nat.lt_of_lt_of_le (by decide) hN) rfl rfl rfl rfl rfl (Nat.le_of_ble_eq_true rfl) (fun rr_2 τ1 hp_3 => ?_)
            obtain ⟨hff, hrf, hbi⟩ := hp_3
            rcases hfd : fndF a w1 u1 true e1 t1 (-1) (nM a) with _ | ⟨l1, x1, c1⟩ <;> rw [hfd] at hrf hbi <;> subst hrf
            · refine j_ifn_ne (tgt := 40) C dX7_step_35 rfl (by omega) (fun h => absurd h (by decide)) (fun _ => ?_)
              refine j_iload_n C dX7_step_38 rfl rfl ?_
              refine j_ret M dX7_step_39 ?_
              rw [abStep, pIf_t ⟨x, hx1, hx2, rfl⟩, idx_nI (by omega)]
              dsimp only
              rw [hY]
              dsimp only
              rw [← hrun]
              have e : stpN a (x - d) ((w1, u1, t1, e1), c0) = ((w1, u1, t1, e1), c0) := by
                rw [show x - d = (x - (d + 1)) + 1 by omega, stpN]
                have h0 : stp1 a (w1, u1, t1, e1) = none := by
                  unfold stp1
                  rw [show fnd a (w1, u1, t1, e1) true (-1) = fndF a w1 u1 true e1 t1 (-1) (nM a) from rfl, hfd]
                rw [h0]
              rw [e]
              exact ⟨rfl, ⟨⟨(hff _ _ (by omega)).trans hX1.1, hlen, fun q hq => (hff _ _ (by omega)).trans (hX1.2 q hq)⟩, hI1.kept (fun j n h1 h2 => hff j n (by omega)), hT1.kept (fun j n h1 h2 => hff j n (by omega)), hP1.kept (fun j n h => hff j n (by omega))⟩, fun j n h => by rw [hff _ _ (by omega)]; exact hf j n h⟩
            · have hbk := fnd_ok hfd
              have hb21 := hbi.2
              have hT2 : StI τ1 0 (nM a) (w1, u1, t1, e1) := hT1.kept (fun j n h1 h2 => hff j n (by omega))
              refine j_ifn_ne (tgt := 40) C dX7_step_35 rfl (by omega) (fun _ => ?_) (fun h => absurd h (by decide))
              refine j_iload_n C dX7_step_40 rfl rfl ?_
              refine j_ifn_ne (tgt := 55) C dX7_step_41 rfl (by omega) (fun h41 => ?_) (fun h41 => ?_)
              · refine j_aload_n C dX7_step_55 rfl rfl ?_
                refine j_get C flX7_54 dX7_step_56 (Nat.lt_of_lt_of_le (by decide) hN) rfl rfl ?_
                refine j_aload_n C dX7_step_59 rfl rfl ?_
                refine j_get C flX7_54 dX7_step_60 (Nat.lt_of_lt_of_le (by decide) hN) rfl rfl ?_
                refine j_calli (As := []) (rest := [.ref (gad g (48))]) C (tX6_mark hN hT2.1 hm12) cdX6_mark mlX7_134 dX7_step_63 (by decide) (by decide) (Nat.lt_of_lt_of_le (by decide) hN) rfl rfl rfl rfl rfl (Nat.le_of_ble_eq_true rfl) (fun rr_5 τ4 hp_6 => ?_)
                obtain ⟨hs, hr⟩ := hp_6
                replace hs := hs.symm
                subst hs
                have hmk : rr_5 = mkW w1 (nM a) := hr.trans (mkL_congr (fun k hk => (hT2.2.1 k hk).1))
                clear hr
                subst hmk
                refine j_callv (As := [.int (mkW w1 (nM a))]) (rest := []) C (tX6_addTabuA hN hT2 hB.2.1 (mkW w1 (nM a))) cdX6_addTabu mlX7_137 dX7_step_66 (by decide) (by decide) (Nat.lt_of_lt_of_le (by decide) hN) rfl rfl rfl rfl rfl (Nat.le_of_ble_eq_true rfl) (fun τ7 hp_9 => ?_)
                obtain ⟨hfa, hT3⟩ := hp_9
                refine j_aload_n C dX7_step_69 rfl rfl ?_
                refine j_get C flX7_54 dX7_step_70 (Nat.lt_of_lt_of_le (by decide) hN) rfl rfl ?_
                refine j_get C flX7_108 dX7_step_73 (Nat.lt_of_lt_of_le (by decide) hN) rfl rfl ?_
                refine j_aload_n C dX7_step_76 rfl rfl ?_
                refine j_get C flX7_47 dX7_step_77 (Nat.lt_of_lt_of_le (by decide) hN) rfl rfl ?_
                refine j_get C flX7_140 dX7_step_80 (Nat.lt_of_lt_of_le (by decide) hN) rfl rfl ?_
                refine j_top ((hfa _ _ (by omega)).trans (hbi.1.1)) ?_
                refine j_aload_n C dX7_step_83 rfl rfl ?_
                refine j_get C flX7_47 dX7_step_84 (Nat.lt_of_lt_of_le (by decide) hN) rfl rfl ?_
                refine j_get C flX7_143 dX7_step_87 (Nat.lt_of_lt_of_le (by decide) hN) rfl rfl ?_
                refine j_top ((hfa _ _ (by omega)).trans (hbi.1.2.1)) ?_
                refine j_iast' C dX7_step_90 (Nat.lt_of_lt_of_le (by decide) hN) (fun _ => rfl) (by decide) (by omega) (fun τ10 hz_11 hw_12 => ?_)
                refine j_aload_n C dX7_step_91 rfl rfl ?_
                refine j_get C flX7_47 dX7_step_92 (Nat.lt_of_lt_of_le (by decide) hN) rfl rfl ?_
                refine j_get C flX7_145 dX7_step_95 (Nat.lt_of_lt_of_le (by decide) hN) rfl rfl ?_
                refine j_top ((hz_11 _ _ (by omega)).trans ((hfa _ _ (by omega)).trans (hbi.1.2.2))) ?_
                refine j_istore_n (L' := [some (.ref (gad g (0))), some (.int (nI (x))), some (.int (nI (c1))), some (.int (nI (d)))]) C dX7_step_98 rfl (by decide) rfl ?_
                refine j_aload_n C dX7_step_99 rfl rfl ?_
                refine j_get C flX7_54 dX7_step_100 (Nat.lt_of_lt_of_le (by decide) hN) rfl rfl ?_
                refine j_iload_n C dX7_step_103 rfl rfl ?_
                refine j_callv (As := [.int (nI (c1))]) (rest := []) C (tX6_noteCost hN (nI (c1))) cdX6_noteCost mlX7_119 dX7_step_104 (by decide) (by decide) (Nat.lt_of_lt_of_le (by decide) hN) rfl rfl rfl rfl rfl (Nat.le_of_ble_eq_true rfl) (fun τ13 hp_15 => ?_)
                obtain ⟨hfn, hvn⟩ := hp_15
                refine j_iinc (L' := [some (.ref (gad g (0))), some (.int (nI (x))), some (.int (nI (c1))), some (.int (nI (d + 1)))]) C dX7_step_107 rfl (nI_inc _) (by decide) rfl ?_
                refine j_goto (tgt := 17) C dX7_step_110 rfl ?_
                have hst1 : stp1 a (w1, u1, t1, e1) = some ((updN w1 l1 x1, u1, push6 t1 (mkW w1 (nM a)), min e1 c1), c1) := by
                  unfold stp1
                  rw [show fnd a (w1, u1, t1, e1) true (-1) = fndF a w1 u1 true e1 t1 (-1) (nM a) from rfl, hfd]
                have hB4 : SOk (nM a) (updN w1 l1 x1, u1, push6 t1 (mkW w1 (nM a)), min e1 c1) := by
                  refine ⟨fun k hk => ?_, ?_, ?_⟩
                  · show 1 ≤ updN w1 l1 x1 k ∧ updN w1 l1 x1 k ≤ 20
                    by_cases e : k = l1
                    · subst e; rw [updN_s]; omega
                    · rw [updN_n e]; exact hB.1 k hk
                  · show (push6 t1 _).length ≤ 6
                    rw [push6_len hB.2.1]; omega
                  · show min e1 c1 < 2 ^ 31
                    have := hB.2.2
                    dsimp only at this
                    omega
                have hT4 : StI τ13 0 (nM a) (updN w1 l1 x1, u1, push6 t1 (mkW w1 (nM a)), min e1 c1) := by
                  refine hT3.chg0 (fun j n h => by rw [hfn _ _ (by omega), hz_11 _ _ (by omega)]) (fun k hk => ?_) ?_
                  · refine ⟨?_, by rw [hfn _ _ (by omega), hz_11 _ _ (by omega)]; exact (hT3.2.1 k hk).2⟩
                    by_cases e : k = l1
                    · subst e; rw [updN_s, hfn _ _ (by omega)]; assumption
                    · rw [updN_n e, hfn _ _ (by omega), hz_11 _ _ (by omega)]; exact (hT3.2.1 k hk).1
                  · rw [hvn, hz_11 _ _ (by omega), hT3.2.2.2]
                    have := hB.2.2
                    dsimp only at this
                    rw [nI_min (by omega) (by omega)]
                refine ih (x - (d + 1)) (by omega) (d + 1) _ _ _ _ c1 τ13 rfl (by omega) (by omega) hB4 (by omega) ?_ (fun j n h => by rw [hfn _ _ (by omega), hz_11 _ _ (by omega), hfa _ _ (by omega), hff _ _ (by omega)]; exact hf j n h) ⟨⟨by rw [hfn _ _ (by omega), hz_11 _ _ (by omega), hfa _ _ (by omega), hff _ _ (by omega)]; exact hX1.1, fun q hq => by rw [hfn _ _ (by omega), hz_11 _ _ (by omega), hfa _ _ (by omega), hff _ _ (by omega)]; exact hX1.2 q hq⟩, hI1.kept (fun j n h1 h2 => by rw [hfn _ _ (by omega), hz_11 _ _ (by omega), hfa _ _ (by omega), hff _ _ (by omega)]), hT4, hP1.kept (fun j n h => by rw [hfn _ _ (by omega), hz_11 _ _ (by omega), hfa _ _ (by omega), hff _ _ (by omega)])⟩
                rw [← hrun, show x - d = (x - (d + 1)) + 1 by omega]
                conv => rhs; rw [stpN]
                rw [hst1]
              · exact absurd h41 (by omega)
      obtain ⟨w1, hw1⟩ : ∃ z, z = wt := ⟨_, rfl⟩
      obtain ⟨u1, hu1⟩ : ∃ z, z = u := ⟨_, rfl⟩
      obtain ⟨t1, ht1⟩ : ∃ z, z = tl := ⟨_, rfl⟩
      obtain ⟨e1, he1⟩ : ∃ z, z = le := ⟨_, rfl⟩
      have hB : SOk (nM a) (w1, u1, t1, e1) := by rw [hw1, hu1, ht1, he1]; exact hA.2.1
      have hT1 : StI σ 0 (nM a) (w1, u1, t1, e1) := by rw [hw1, hu1, ht1, he1]; exact hS
      have hI1 : NetI σ 3 a := hI
      have hP1 : PastI σ (nM a) p := hC.2.2.2
      refine j_bipush (v := -2) C dX7_step_12 rfl ?_
      refine j_istore_n (L' := [some (.ref (gad g (0))), some (.int (nI (x))), some (.int (-2)), none]) C dX7_step_14 rfl (by decide) rfl ?_
      refine j_iconst (v := nI 0) C dX7_step_15 rfl ?_
      refine j_istore_n (L' := [some (.ref (gad g (0))), some (.int (nI (x))), some (.int (-2)), some (.int (nI (0)))]) C dX7_step_16 rfl (by decide) rfl ?_
      refine j_iload_n C dX7_step_17 rfl rfl ?_
      refine j_iload_n C dX7_step_18 rfl rfl ?_
      refine j_icmpn_ge (tgt := 113) C dX7_step_19 rfl (by omega) (by omega) (fun h19 => ?_) (fun h19 => ?_)
      · refine j_iload_n C dX7_step_113 rfl rfl ?_
        refine j_ret M dX7_step_114 ?_
        exfalso
        omega
      · refine j_aload_n C dX7_step_22 rfl rfl ?_
        refine j_get C flX7_47 dX7_step_23 (Nat.lt_of_lt_of_le (by decide) hN) rfl rfl ?_
        refine j_aload_n C dX7_step_26 rfl rfl ?_
        refine j_get C flX7_54 dX7_step_27 (Nat.lt_of_lt_of_le (by decide) hN) rfl rfl ?_
        refine j_iconst (v := -1) C dX7_step_30 rfl ?_
        refine j_iconst (v := nI 1) C dX7_step_31 rfl ?_
        refine j_calli (As := [.ref (gad g (48)), .int (-1), .int (nI (1))]) (rest := []) C (tX2_find hN (bs := 0) (le := e1) (wt := w1) (u := u1) (hd := true) (tl := t1) (by omega) hI1 hO hT1.2.1 hB.1 (fun _ => ⟨rfl, t1.length, hB.2.1, by obtain ⟨nt, h3, h4, h5, h6, h7⟩ := hT1.2.2.1; exact h5, fun z => hT1.mem hB.2.1 z, hT1.2.2.2, hB.2.2, hT1.1⟩) (-1)) cdX2_find mlX7_130 dX7_step_32 (by decide) (by decide) (Nat.lt_of_lt_of_le (by decide) hN) rfl rfl rfl rfl rfl (Nat.le_of_ble_eq_true rfl) (fun rr_52 τ51 hp_53 => ?_)
        obtain ⟨hff, hrf, hbi⟩ := hp_53
        rcases hfd : fndF a w1 u1 true e1 t1 (-1) (nM a) with _ | ⟨l1, x1, c1⟩ <;> rw [hfd] at hrf hbi <;> subst hrf
        · refine j_ifn_ne (tgt := 40) C dX7_step_35 rfl (by omega) (fun h => absurd h (by decide)) (fun _ => ?_)
          refine j_iload_n C dX7_step_38 rfl rfl ?_
          refine j_ret M dX7_step_39 ?_
          have h0 : stp1 a (wt, u, tl, le) = none := by
            rw [← hw1, ← hu1, ← ht1, ← he1]
            unfold stp1
            rw [show fnd a (w1, u1, t1, e1) true (-1) = fndF a w1 u1 true e1 t1 (-1) (nM a) from rfl, hfd]
          rw [abStep, pIf_t ⟨x, hx1, hx2, rfl⟩, idx_nI (by omega)]
          dsimp only
          rw [h0]
          exact ⟨rfl, hC.kept (fun j n h => hff j n (by omega)), fun j n h => hff j n (by omega)⟩
        · have hbk := fnd_ok hfd
          have hb21 := hbi.2
          have hT2 : StI τ51 0 (nM a) (w1, u1, t1, e1) := hT1.kept (fun j n h1 h2 => hff j n (by omega))
          refine j_ifn_ne (tgt := 40) C dX7_step_35 rfl (by omega) (fun _ => ?_) (fun h => absurd h (by decide))
          refine j_iload_n C dX7_step_40 rfl rfl ?_
          refine j_ifn_ne (tgt := 55) C dX7_step_41 rfl (by omega) (fun h => absurd h (by decide)) (fun _ => ?_)
          refine j_aload_n C dX7_step_44 rfl rfl ?_
          refine j_get C flX7_64 dX7_step_45 (Nat.lt_of_lt_of_le (by decide) hN) rfl rfl ?_
          refine j_aload_n C dX7_step_48 rfl rfl ?_
          refine j_get C flX7_54 dX7_step_49 (Nat.lt_of_lt_of_le (by decide) hN) rfl rfl ?_
          refine j_callv (As := [.ref (gad g (48))]) (rest := []) C (tX4_keepA hN (hP1.kept (fun j n h => hff j n (by omega))) hT2 hm12 hB.2.1) cdX4_keep mlX7_111 dX7_step_52 (by decide) (by decide) (Nat.lt_of_lt_of_le (by decide) hN) rfl rfl rfl rfl rfl (Nat.le_of_ble_eq_true rfl) (fun τ54 hp_56 => ?_)
          obtain ⟨hfk, hPk⟩ := hp_56
          replace hT2 : StI τ54 0 (nM a) (w1, u1, t1, e1) := hT2.kept (fun j n h1 h2 => hfk j n (by omega))
          refine j_aload_n C dX7_step_55 rfl rfl ?_
          refine j_get C flX7_54 dX7_step_56 (Nat.lt_of_lt_of_le (by decide) hN) rfl rfl ?_
          refine j_aload_n C dX7_step_59 rfl rfl ?_
          refine j_get C flX7_54 dX7_step_60 (Nat.lt_of_lt_of_le (by decide) hN) rfl rfl ?_
          refine j_calli (As := []) (rest := [.ref (gad g (48))]) C (tX6_mark hN hT2.1 hm12) cdX6_mark mlX7_134 dX7_step_63 (by decide) (by decide) (Nat.lt_of_lt_of_le (by decide) hN) rfl rfl rfl rfl rfl (Nat.le_of_ble_eq_true rfl) (fun rr_58 τ57 hp_59 => ?_)
          obtain ⟨hs, hr⟩ := hp_59
          replace hs := hs.symm
          subst hs
          have hmk : rr_58 = mkW w1 (nM a) := hr.trans (mkL_congr (fun k hk => (hT2.2.1 k hk).1))
          clear hr
          subst hmk
          refine j_callv (As := [.int (mkW w1 (nM a))]) (rest := []) C (tX6_addTabuA hN hT2 hB.2.1 (mkW w1 (nM a))) cdX6_addTabu mlX7_137 dX7_step_66 (by decide) (by decide) (Nat.lt_of_lt_of_le (by decide) hN) rfl rfl rfl rfl rfl (Nat.le_of_ble_eq_true rfl) (fun τ60 hp_62 => ?_)
          obtain ⟨hfa, hT3⟩ := hp_62
          refine j_aload_n C dX7_step_69 rfl rfl ?_
          refine j_get C flX7_54 dX7_step_70 (Nat.lt_of_lt_of_le (by decide) hN) rfl rfl ?_
          refine j_get C flX7_108 dX7_step_73 (Nat.lt_of_lt_of_le (by decide) hN) rfl rfl ?_
          refine j_aload_n C dX7_step_76 rfl rfl ?_
          refine j_get C flX7_47 dX7_step_77 (Nat.lt_of_lt_of_le (by decide) hN) rfl rfl ?_
          refine j_get C flX7_140 dX7_step_80 (Nat.lt_of_lt_of_le (by decide) hN) rfl rfl ?_
          refine j_top ((hfa _ _ (by omega)).trans ((hfk _ _ (by omega)).trans (hbi.1.1))) ?_
          refine j_aload_n C dX7_step_83 rfl rfl ?_
          refine j_get C flX7_47 dX7_step_84 (Nat.lt_of_lt_of_le (by decide) hN) rfl rfl ?_
          refine j_get C flX7_143 dX7_step_87 (Nat.lt_of_lt_of_le (by decide) hN) rfl rfl ?_
          refine j_top ((hfa _ _ (by omega)).trans ((hfk _ _ (by omega)).trans (hbi.1.2.1))) ?_
          refine j_iast' C dX7_step_90 (Nat.lt_of_lt_of_le (by decide) hN) (fun _ => rfl) (by decide) (by omega) (fun τ63 hz_64 hw_65 => ?_)
          refine j_aload_n C dX7_step_91 rfl rfl ?_
          refine j_get C flX7_47 dX7_step_92 (Nat.lt_of_lt_of_le (by decide) hN) rfl rfl ?_
          refine j_get C flX7_145 dX7_step_95 (Nat.lt_of_lt_of_le (by decide) hN) rfl rfl ?_
          refine j_top ((hz_64 _ _ (by omega)).trans ((hfa _ _ (by omega)).trans ((hfk _ _ (by omega)).trans (hbi.1.2.2)))) ?_
          refine j_istore_n (L' := [some (.ref (gad g (0))), some (.int (nI (x))), some (.int (nI (c1))), some (.int (nI (0)))]) C dX7_step_98 rfl (by decide) rfl ?_
          refine j_aload_n C dX7_step_99 rfl rfl ?_
          refine j_get C flX7_54 dX7_step_100 (Nat.lt_of_lt_of_le (by decide) hN) rfl rfl ?_
          refine j_iload_n C dX7_step_103 rfl rfl ?_
          refine j_callv (As := [.int (nI (c1))]) (rest := []) C (tX6_noteCost hN (nI (c1))) cdX6_noteCost mlX7_119 dX7_step_104 (by decide) (by decide) (Nat.lt_of_lt_of_le (by decide) hN) rfl rfl rfl rfl rfl (Nat.le_of_ble_eq_true rfl) (fun τ66 hp_68 => ?_)
          obtain ⟨hfn, hvn⟩ := hp_68
          refine j_iinc (L' := [some (.ref (gad g (0))), some (.int (nI (x))), some (.int (nI (c1))), some (.int (nI (1)))]) C dX7_step_107 rfl (nI_inc _) (by decide) rfl ?_
          refine j_goto (tgt := 17) C dX7_step_110 rfl ?_
          have hst1 : stp1 a (w1, u1, t1, e1) = some ((updN w1 l1 x1, u1, push6 t1 (mkW w1 (nM a)), min e1 c1), c1) := by
            unfold stp1
            rw [show fnd a (w1, u1, t1, e1) true (-1) = fndF a w1 u1 true e1 t1 (-1) (nM a) from rfl, hfd]
          have hB4 : SOk (nM a) (updN w1 l1 x1, u1, push6 t1 (mkW w1 (nM a)), min e1 c1) := by
            refine ⟨fun k hk => ?_, ?_, ?_⟩
            · show 1 ≤ updN w1 l1 x1 k ∧ updN w1 l1 x1 k ≤ 20
              by_cases e : k = l1
              · subst e; rw [updN_s]; omega
              · rw [updN_n e]; exact hB.1 k hk
            · show (push6 t1 _).length ≤ 6
              rw [push6_len hB.2.1]; omega
            · show min e1 c1 < 2 ^ 31
              have := hB.2.2
              dsimp only at this
              omega
          have hT4 : StI τ66 0 (nM a) (updN w1 l1 x1, u1, push6 t1 (mkW w1 (nM a)), min e1 c1) := by
            refine hT3.chg0 (fun j n h => by rw [hfn _ _ (by omega), hz_64 _ _ (by omega)]) (fun k hk => ?_) ?_
            · refine ⟨?_, by rw [hfn _ _ (by omega), hz_64 _ _ (by omega)]; exact (hT3.2.1 k hk).2⟩
              by_cases e : k = l1
              · subst e; rw [updN_s, hfn _ _ (by omega)]; assumption
              · rw [updN_n e, hfn _ _ (by omega), hz_64 _ _ (by omega)]; exact (hT3.2.1 k hk).1
            · rw [hvn, hz_64 _ _ (by omega), hT3.2.2.2]
              have := hB.2.2
              dsimp only at this
              rw [nI_min (by omega) (by omega)]
          have hpk2 : PastI τ66 (nM a) (push6 p (wt, u, tl, le)) := by
            rw [← hw1, ← hu1, ← ht1, ← he1]
            exact hPk.kept (fun j n h => by rw [hfn _ _ (by omega), hz_64 _ _ (by omega), hfa _ _ (by omega)])
          refine lpS ((updN w1 l1 x1, u1, push6 t1 (mkW w1 (nM a)), min e1 c1), c1) (by rw [← hw1, ← hu1, ← ht1, ← he1]; exact hst1) (x - 1) 1 _ _ _ _ c1 τ66 rfl (by omega) (by omega) hB4 (by omega) rfl (fun j n h => by rw [hfn _ _ (by omega), hz_64 _ _ (by omega), hfa _ _ (by omega), hfk _ _ (by omega), hff _ _ (by omega)]) ⟨⟨by rw [hfn _ _ (by omega), hz_64 _ _ (by omega), hfa _ _ (by omega), hfk _ _ (by omega), hff _ _ (by omega)]; exact hCl, fun q hq => by rw [hfn _ _ (by omega), hz_64 _ _ (by omega), hfa _ _ (by omega), hfk _ _ (by omega), hff _ _ (by omega)]; exact hCt q hq⟩, hI.kept (fun j n h1 h2 => by rw [hfn _ _ (by omega), hz_64 _ _ (by omega), hfa _ _ (by omega), hfk _ _ (by omega), hff _ _ (by omega)]), hT4, hpk2⟩
    · refine j_iconst (v := -1) C dX7_step_10 rfl ?_
      refine j_ret M dX7_step_11 ?_
      rw [abStep, pIf_f (fun q => by
        obtain ⟨q1, q2⟩ := (nI_rng (by decide) (by decide)).mpr q
        first | exact absurd q1 (Int32.not_le.mpr (by assumption)) | exact absurd q2 (by assumption))]
      exact ⟨rfl, hC, fun _ _ _ => rfl⟩
