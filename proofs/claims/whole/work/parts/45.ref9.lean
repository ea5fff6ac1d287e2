def okE (b : Bool) (e : Nat → Nat) : Nat → Bool
  | 0 => b
  | l + 1 => okE b e l && decide (e l ≤ 20)
theorem okE_iff {b : Bool} {e : Nat → Nat} : ∀ {m : Nat}, okE b e m = true ↔ b = true ∧ ∀ l, l < m → e l ≤ 20
  | 0 => ⟨(fun h => ⟨h, fun l hl => by omega⟩), fun h => h.1⟩
  | m + 1 => by
    rw [okE, Bool.and_eq_true, okE_iff (m := m), decide_eq_true_iff]
    constructor
    · rintro ⟨⟨h1, h2⟩, h3⟩
      refine ⟨h1, fun l hl => ?_⟩
      by_cases q : l = m
      · rw [q]; exact h3
      · exact h2 l (by omega)
    · rintro ⟨h1, h2⟩
      exact ⟨⟨h1, fun l hl => h2 l (by omega)⟩, h2 m (by omega)⟩
theorem evW_ge {a : ND} {w : Nat → Nat} {u : Nat → Bool} {f : Nat → Option Nat} {x l : Nat} (hw : WOk (nM a) w) (hl : l < nM a) : 1 ≤ evW a w u f x l := by
  unfold evW
  by_cases h : ldOn a u f x l = true
  · rw [if_pos h]
    obtain ⟨v, hv⟩ := ldOn_ex h
    have := gMx_ge h hv hl
    rw [hv]
    show 1 ≤ gMx a u f x (nM a) + 1 - v
    omega
  · rw [if_neg h]; exact (hw l hl).1
set_option maxHeartbeats 4000000 in
set_option maxRecDepth 100000 in
theorem tX8_step {g : jG} (hN : 97 ≤ gN g) {σ : Sg} {tx : Nat → Int32} {len : Nat} {a : ND} {wt : Nat → Nat} {u : Nat → Bool} {tl : List Int32} {le : Nat} {p : List SD} (hC : RI σ (tx, len, a, (wt, u, tl, le), p)) (hA : AOk (tx, len, a, (wt, u, tl, le), p)) (h1m : 1 ≤ nM a) (h1d : 1 ≤ nD a) (x0 : Int32) : MS g yX8_step cX8_step 4 (some .int) rmX8_step [.ref (gad g (84)), .int (x0)] σ (fun r σ' => r = (abStep x0 (tx, len, a, (wt, u, tl, le), p)).1 ∧ RI σ' (abStep x0 (tx, len, a, (wt, u, tl, le), p)).2 ∧ ∀ j n, j < 84 → σ' j n = σ j n) := by
  refine MJ_of (by decide) (Nat.le_of_ble_eq_true rfl) (List.forall_mem_cons.mpr ⟨rfl, List.forall_mem_cons.mpr ⟨rfl, fun _ h => absurd h List.not_mem_nil⟩⟩) ?_
  intro κ M
  have C := M.1
  show J g κ 4 0 [some (.ref (gad g (84))), some (.int (x0)), none, none] [] σ
  have hI : RNet σ a := hC.2.1
  have hO : NOk a := hA.1
  have hS : RS1 σ 90 0 (nM a) (wt, u, tl, le) := hC.2.2.1
  have hW : RW σ (nM a) wt u := hS.w
  have hw : WOk (nM a) wt := hA.2.1.1
  have htl6 : tl.length ≤ 6 := hA.2.1.2.1
  have hle31 : le < 2 ^ 31 := hA.2.1.2.2
  have hlen : len ≤ 200 := hC.1.2.1
  have hCl : σ 84 1 = nI len := hC.1.1
  have hCt : ∀ k, k < len → σ 85 k = tx k := hC.1.2.2
  have hn2 := hO.1
  have hn7 := hO.2.1
  have hm12 := hO.2.2.1
  have hd6 := hO.2.2.2.1
  have hle : σ 90 13 = nI le := hS.2.2.1
  have hT : RT σ tl := ⟨hS.2.2.2.1, fun k hk => hS.2.2.2.2 k hk⟩
  have hPl : σ 84 15 = nI p.length := hC.2.2.2.1
  have hp6 : p.length ≤ 6 := hA.2.2.2.1
  have lp : ∀ (x : Nat) (T : SD) (σ0 : Sg), x ≤ 3 → RNet σ0 a → (∀ (σ1 : Sg), (∀ j n, ¬ (93 ≤ j ∧ j ≤ 96 ∨ j = 84 ∧ 22 ≤ n ∧ n ≤ 25 ∨ j = 90) → σ1 j n = σ0 j n) → RS1 σ1 90 0 (nM a) T → nI (costN a T.1 T.2.1) = (abStep x0 (tx, len, a, (wt, u, tl, le), p)).1 ∧ RI σ1 (abStep x0 (tx, len, a, (wt, u, tl, le), p)).2 ∧ ∀ j n, j < 84 → σ1 j n = σ j n) → ∀ (k i : Nat) (s : SD) (fl : Bool) (σ1 : Sg), x - i = k → i ≤ x → (∀ j n, ¬ (93 ≤ j ∧ j ≤ 96 ∨ j = 84 ∧ 22 ≤ n ∧ n ≤ 25 ∨ j = 90) → σ1 j n = σ0 j n) → RS1 σ1 90 0 (nM a) s → SOk (nM a) s → (fl = true → stR a (x - i) s = T) → (fl = false → s = T) → J g κ 4 32 [some (.ref (gad g (84))), some (.int (nI (x))), some (.int (bI fl)), some (.int (nI (i)))] [] σ1 := by
    intro x T σ0 hx3 hI0 kE k
    induction k using Nat.strongRecOn with
    | _ k ih =>
      intro i s fl σ1 hk hi hf hS1 hK hT1 hT2
      rcases (show fl = true ∨ fl = false by cases fl <;> simp) with hfl | hfl
      · refine J_loc (L' := [some (.ref (gad g (84))), some (.int (nI (x))), some (.int (nI (1))), some (.int (nI (i)))]) (by rw [hfl]; rfl) ?_
        refine j_iload_n C dX8_step_32 rfl rfl ?_
        refine j_iload_n C dX8_step_33 rfl rfl ?_
        refine j_icmpn_ge (tgt := 52) C dX8_step_34 rfl (by omega) (by omega) (fun h34 => ?_) (fun h34 => ?_)
        · have hsT : s = T := by
            first | exact hT2 hfl | (have q := hT1 hfl; rwa [show x - i = 0 by omega] at q)
          rw [hsT] at hS1 hK
          refine j_aload_n C dX8_step_52 rfl rfl ?_
          refine j_calli (As := []) (rest := []) C (tX8_costNow hN (a := a) (w := T.1) (u := T.2.1) (hI0.kept (fun j n h => hf j n (by omega))) hO hS1.w hK.1) cdX8_costNow mlX8_83 dX8_step_53 (by decide) (by decide) (Nat.lt_of_lt_of_le (by decide) hN) rfl rfl rfl rfl rfl (Nat.le_of_ble_eq_true rfl) (fun rr_2 τ1 hp_3 => ?_)
          obtain ⟨hcf, hr⟩ := hp_3
          subst hr
          refine j_ret M dX8_step_56 ?_
          exact kE τ1 (fun j n h => by rw [hcf j n (by omega)]; exact hf j n h) (hS1.kept hm12 hK.2.1 (fun n _ _ => by rw [hcf _ _ (by omega)]))
        · refine j_iload_n C dX8_step_37 rfl rfl ?_
          refine j_ifn_eq (tgt := 52) C dX8_step_38 rfl (by omega) (fun h => absurd h (by decide)) (fun _ => ?_)
          refine j_aload_n C dX8_step_41 rfl rfl ?_
          refine j_calli (As := []) (rest := []) C (tX8_stepOnce hN (wt := s.1) (u := s.2.1) (tl := s.2.2.1) (le := s.2.2.2) (hI0.kept (fun j n h => hf j n (by omega))) hO hS1 hK) cdX8_stepOnce mlX8_202 dX8_step_42 (by decide) (by decide) (Nat.lt_of_lt_of_le (by decide) hN) rfl rfl rfl rfl rfl (Nat.le_of_ble_eq_true rfl) (fun rr_5 τ4 hp_6 => ?_)
          obtain ⟨hof, ⟨rfl, hst, hS2⟩ | ⟨rfl, y, hst, hS2⟩⟩ := hp_6
          · refine j_istore_n (L' := [some (.ref (gad g (84))), some (.int (nI (x))), some (.int (nI (0))), some (.int (nI (i)))]) C dX8_step_45 rfl (by decide) rfl ?_
            refine j_iinc (L' := [some (.ref (gad g (84))), some (.int (nI (x))), some (.int (nI (0))), some (.int (nI (i + 1)))]) C dX8_step_46 rfl (nI_inc _) (by decide) rfl ?_
            refine j_goto (tgt := 32) C dX8_step_49 rfl ?_
            refine J_loc (L' := [some (.ref (gad g (84))), some (.int (nI (x))), some (.int (bI false)), some (.int (nI (i + 1)))]) rfl ?_
            refine ih (x - (i + 1)) (by omega) (i + 1) s false τ4 rfl (by omega) (fun j n h => by rw [hof j n h]; exact hf j n h) hS2 hK (fun q => by cases q) (fun _ => ?_)
            rw [← hT1 hfl, stR_none hst]
          · refine j_istore_n (L' := [some (.ref (gad g (84))), some (.int (nI (x))), some (.int (nI (1))), some (.int (nI (i)))]) C dX8_step_45 rfl (by decide) rfl ?_
            refine j_iinc (L' := [some (.ref (gad g (84))), some (.int (nI (x))), some (.int (nI (1))), some (.int (nI (i + 1)))]) C dX8_step_46 rfl (nI_inc _) (by decide) rfl ?_
            refine j_goto (tgt := 32) C dX8_step_49 rfl ?_
            refine J_loc (L' := [some (.ref (gad g (84))), some (.int (nI (x))), some (.int (bI true)), some (.int (nI (i + 1)))]) rfl ?_
            refine ih (x - (i + 1)) (by omega) (i + 1) y.1 true τ4 rfl (by omega) (fun j n h => by rw [hof j n h]; exact hf j n h) hS2 (stp1_ok hK hst).1 (fun _ => ?_) (fun q => by cases q)
            rw [← hT1 hfl, show x - i = (x - (i + 1)) + 1 by omega, stR_some hst]
      · refine J_loc (L' := [some (.ref (gad g (84))), some (.int (nI (x))), some (.int (nI (0))), some (.int (nI (i)))]) (by rw [hfl]; rfl) ?_
        refine j_iload_n C dX8_step_32 rfl rfl ?_
        refine j_iload_n C dX8_step_33 rfl rfl ?_
        refine j_icmpn_ge (tgt := 52) C dX8_step_34 rfl (by omega) (by omega) (fun h34 => ?_) (fun h34 => ?_)
        · have hsT : s = T := by
            first | exact hT2 hfl | (have q := hT1 hfl; rwa [show x - i = 0 by omega] at q)
          rw [hsT] at hS1 hK
          refine j_aload_n C dX8_step_52 rfl rfl ?_
          refine j_calli (As := []) (rest := []) C (tX8_costNow hN (a := a) (w := T.1) (u := T.2.1) (hI0.kept (fun j n h => hf j n (by omega))) hO hS1.w hK.1) cdX8_costNow mlX8_83 dX8_step_53 (by decide) (by decide) (Nat.lt_of_lt_of_le (by decide) hN) rfl rfl rfl rfl rfl (Nat.le_of_ble_eq_true rfl) (fun rr_8 τ7 hp_9 => ?_)
          obtain ⟨hcf, hr⟩ := hp_9
          subst hr
          refine j_ret M dX8_step_56 ?_
          exact kE τ7 (fun j n h => by rw [hcf j n (by omega)]; exact hf j n h) (hS1.kept hm12 hK.2.1 (fun n _ _ => by rw [hcf _ _ (by omega)]))
        · refine j_iload_n C dX8_step_37 rfl rfl ?_
          refine j_ifn_eq (tgt := 52) C dX8_step_38 rfl (by omega) (fun _ => ?_) (fun h => absurd h (by decide))
          have hsT : s = T := by
            first | exact hT2 hfl | (have q := hT1 hfl; rwa [show x - i = 0 by omega] at q)
          rw [hsT] at hS1 hK
          refine j_aload_n C dX8_step_52 rfl rfl ?_
          refine j_calli (As := []) (rest := []) C (tX8_costNow hN (a := a) (w := T.1) (u := T.2.1) (hI0.kept (fun j n h => hf j n (by omega))) hO hS1.w hK.1) cdX8_costNow mlX8_83 dX8_step_53 (by decide) (by decide) (Nat.lt_of_lt_of_le (by decide) hN) rfl rfl rfl rfl rfl (Nat.le_of_ble_eq_true rfl) (fun rr_11 τ10 hp_12 => ?_)
          obtain ⟨hcf, hr⟩ := hp_12
          subst hr
          refine j_ret M dX8_step_56 ?_
          exact kE τ10 (fun j n h => by rw [hcf j n (by omega)]; exact hf j n h) (hS1.kept hm12 hK.2.1 (fun n _ _ => by rw [hcf _ _ (by omega)]))
  refine j_iload_n C dX8_step_0 rfl rfl ?_
  refine j_iconst (v := nI 1) C dX8_step_1 rfl ?_
  refine j_iconst (v := nI 3) C dX8_step_2 rfl ?_
  refine j_calls (As := [.int (x0), .int (nI (1)), .int (nI (3))]) (rest := []) C (tX8_in hN _ (lo := 1) (hi := 3) (by omega) (by omega)) cdX8_in msX8_96 dX8_step_3 (by decide) (by decide) rfl rfl (Nat.le_of_ble_eq_true rfl) (fun rr_2 τ1 hp_3 => ?_)
  obtain ⟨hs, hc⟩ := hp_3
  replace hs := hs.symm
  subst hs
  rcases hc with ⟨rfl, x, hx1, hx2, rfl⟩ | ⟨rfl, hRno⟩
  · refine j_ifn_ne (tgt := 11) C dX8_step_6 rfl (by omega) (fun _ => ?_) (fun h => absurd h (by decide))
    refine j_aload_n C dX8_step_11 rfl rfl ?_
    refine j_bipush (v := -4) C dX8_step_12 rfl ?_
    refine j_iconst (v := nI 0) C dX8_step_14 rfl ?_
    refine j_calli (As := [.int (-4), .int (nI (0))]) (rest := []) C (tX8_findMove hN (a := a) (w := wt) (u := u) (hd := true) (le := le) (tl := tl) hI hO hW hw hle hle31 hT htl6 (-4)) cdX8_findMove mlX8_195 dX8_step_15 (by decide) (by decide) (Nat.lt_of_lt_of_le (by decide) hN) rfl rfl rfl rfl rfl (Nat.le_of_ble_eq_true rfl) (fun rr_5 τ4 hp_6 => ?_)
    obtain ⟨hff, hbi, hrf⟩ := hp_6
    rcases hfd : (fndF a wt u true le tl (-4) (nM a)) with _ | ⟨l1, x1, c1⟩ <;> rw [hfd] at hrf hbi
    · subst hrf
      refine j_ifn_ne (tgt := 24) C dX8_step_18 rfl (by omega) (fun h => absurd h (by decide)) (fun _ => ?_)
      refine j_bipush (v := -2) C dX8_step_21 rfl ?_
      refine j_ret M dX8_step_23 ?_
      have e : fnd a (wt, u, tl, le) true (-1) = fndF a wt u true le tl (-4) (nM a) := fnd_ps (by decide) (by decide) (by omega)
      have es : stp1 a (wt, u, tl, le) = none := by unfold stp1; rw [e, hfd]
      rw [abStep, pIf_t ⟨x, hx1, hx2, rfl⟩]
      dsimp only
      rw [es]
      exact ⟨rfl, hC.kept hA (fun j n h => by rw [hff _ _ (by omega)]), fun j n h => by rw [hff _ _ (by omega)]⟩
    · subst hrf
      have hbk := fnd_ok hfd
      obtain ⟨hb21, hb22, hb23⟩ := hbi.2
      refine j_ifn_ne (tgt := 24) C dX8_step_18 rfl (by omega) (fun _ => ?_) (fun h => absurd h (by decide))
      refine j_aload_n C dX8_step_24 rfl rfl ?_
      refine j_callv (As := []) (rest := []) C (tX8_note hN (c := p.length) (by rw [hff _ _ (by omega)]; exact hPl) hp6) cdX8_note mlX8_183 dX8_step_25 (by decide) (by decide) (Nat.lt_of_lt_of_le (by decide) hN) rfl rfl rfl rfl rfl (Nat.le_of_ble_eq_true rfl) (fun τ7 hp_9 => ?_)
      obtain ⟨hnf, hn15, hnk, hnb⟩ := hp_9
      refine j_iconst (v := nI 1) C dX8_step_28 rfl ?_
      refine j_istore_n (L' := [some (.ref (gad g (84))), some (.int (nI (x))), some (.int (nI (1))), none]) C dX8_step_29 rfl (by decide) rfl ?_
      refine j_iconst (v := nI 0) C dX8_step_30 rfl ?_
      refine j_istore_n (L' := [some (.ref (gad g (84))), some (.int (nI (x))), some (.int (nI (1))), some (.int (nI (0)))]) C dX8_step_31 rfl (by decide) rfl ?_
      have e : fnd a (wt, u, tl, le) true (-1) = fndF a wt u true le tl (-4) (nM a) := fnd_ps (by decide) (by decide) (by omega)
      obtain ⟨y, es⟩ : ∃ y, stp1 a (wt, u, tl, le) = some y := ⟨_, by unfold stp1; rw [e, hfd]⟩
      have hK : SOk (nM a) (wt, u, tl, le) := hA.2.1
      obtain ⟨y1, y2⟩ := stp1_ok hK es
      obtain ⟨z1, z2, z3⟩ := stpN_eq (x - 1) y y1 y2
      refine J_loc (L' := [some (.ref (gad g (84))), some (.int (nI (x))), some (.int (bI true)), some (.int (nI (0)))]) rfl ?_
      refine lp x (stR a x (wt, u, tl, le)) τ7 (by omega) (hI.kept (fun j n h => by rw [hnf _ _ (by omega), hff _ _ (by omega)])) ?_ (x - 0) 0 (wt, u, tl, le) true τ7 rfl (by omega) (fun _ _ _ => rfl) (hS.kept hm12 htl6 (fun n _ _ => by rw [hnf _ _ (by omega), hff _ _ (by omega)])) hK (fun _ => rfl) (fun q => by cases q)
      intro σ1 hf hR
      have eT : stR a x (wt, u, tl, le) = (stpN a (x - 1) y).1 := by rw [z1, show x = (x - 1) + 1 by omega, stR_some es]; rfl
      rw [abStep, pIf_t ⟨x, hx1, hx2, rfl⟩, idx_nI (by omega)]
      dsimp only
      rw [es]
      dsimp only
      rw [eT] at hR ⊢
      refine ⟨by rw [← z2], RI_chg hC hA (fun j n h => by rw [hf _ _ (by omega), hnf _ _ (by omega), hff _ _ (by omega)]) (by rw [hf _ _ (by omega)]; exact hn15) (fun k hk => by rw [hf _ _ (by omega), hnk k hk, hff _ _ (by omega)]) (fun n hn => by rw [hf _ _ (by omega), hnb n hn, hff _ _ (by omega), hff _ _ (by omega)]) hR, fun j n h => by rw [hf _ _ (by omega), hnf _ _ (by omega), hff _ _ (by omega)]⟩
  · refine j_ifn_ne (tgt := 11) C dX8_step_6 rfl (by omega) (fun h => absurd h (by decide)) (fun _ => ?_)
    refine j_iconst (v := -1) C dX8_step_9 rfl ?_
    refine j_ret M dX8_step_10 ?_
    rw [abStep, pIf_f (by first | exact hRno | exact fun q => hno q.1 | exact fun q => hRno q.2 | exact fun q => hno2 q.2)]
    exact ⟨rfl, hC, fun _ _ _ => rfl⟩
set_option maxHeartbeats 4000000 in
set_option maxRecDepth 100000 in
theorem tX8_isEvened {g : jG} (hN : 97 ≤ gN g) {σ : Sg} {a : ND} {u : Nat → Bool} (hI : RNet σ a) (hO : NOk a) (hU : σ 90 12 = nI (ub u (nM a))) {l x : Nat} {f : Nat → Option Nat} (hl : l < nM a) (hx : x < 7) (hF : ∀ x, x < 7 → σ 93 x = c4 (f x)) (hB : fBd f 1680) : MS g yX8_isEvened cX8_isEvened 3 (some .boolean) rmX8_isEvened [.ref (gad g (84)), .int (nI (l)), .int (nI (x))] σ (fun r σ' => σ' = σ ∧ r = bI (ldOn a u f x l)) := by
  refine MJ_of (by decide) (Nat.le_of_ble_eq_true rfl) (List.forall_mem_cons.mpr ⟨rfl, List.forall_mem_cons.mpr ⟨rfl, List.forall_mem_cons.mpr ⟨rfl, fun _ h => absurd h List.not_mem_nil⟩⟩⟩) ?_
  intro κ M
  have C := M.1
  show J g κ 3 0 [some (.ref (gad g (84))), some (.int (nI (l))), some (.int (nI (x)))] [] σ
  have hn7 := hO.2.1
  have hm12 := hO.2.2.1
  have hd6 := hO.2.2.2.1
  obtain ⟨hb1, hb2, hb3, hb4⟩ := hO.2.2.2.2.1 l hl
  rcases hto : f (nTo a l) with _ | v
  · refine j_aload_n C dX8_isEvened_0 rfl rfl ?_
    refine j_iload_n C dX8_isEvened_1 rfl rfl ?_
    refine j_calli (As := [.int (nI (l))]) (rest := []) C (tX8_begin hN hI hO (l := l) (by omega)) cdX8_begin mlX8_127 dX8_isEvened_2 (by decide) (by decide) (Nat.lt_of_lt_of_le (by decide) hN) rfl rfl rfl rfl rfl (Nat.le_of_ble_eq_true rfl) (fun rr_2 τ1 hp_3 => ?_)
    obtain ⟨hs, hr⟩ := hp_3
    replace hs := hs.symm
    subst hs
    subst hr
    refine j_iload_n C dX8_isEvened_5 rfl rfl ?_
    refine j_icmpn_ne (tgt := 36) C dX8_isEvened_6 rfl (by omega) (by omega) (fun h6 => ?_) (fun h6 => ?_)
    · refine j_iconst (v := nI 0) C dX8_isEvened_36 rfl ?_
      refine j_retz M dX8_isEvened_37 rfl ?_
      refine ⟨rfl, ?_⟩
      unfold ldOn
      first
        | (rw [show (nFr a l == x) = false from beq_false_of_ne (by omega)]; rfl)
        | (rw [show (nFr a l == x) = true from beq_iff_eq.mpr (by omega), hul]; first | rfl | (rw [hto]; rfl))
    · refine j_aload_n C dX8_isEvened_9 rfl rfl ?_
      refine j_iload_n C dX8_isEvened_10 rfl rfl ?_
      refine j_calli (As := [.int (nI (l))]) (rest := []) C (tX8_isUp hN (m := nM a) (u := u) (by omega) hU (l := l) (by omega)) cdX8_isUp mlX8_124 dX8_isEvened_11 (by decide) (by decide) (Nat.lt_of_lt_of_le (by decide) hN) rfl rfl rfl rfl rfl (Nat.le_of_ble_eq_true rfl) (fun rr_5 τ4 hp_6 => ?_)
      obtain ⟨hs, hr⟩ := hp_6
      replace hs := hs.symm
      subst hs
      rcases hul : u l with _ | _ <;> rw [hul] at hr <;> subst hr
      · refine j_ifn_eq (tgt := 36) C dX8_isEvened_14 rfl (by omega) (fun _ => ?_) (fun h => absurd h (by decide))
        refine j_iconst (v := nI 0) C dX8_isEvened_36 rfl ?_
        refine j_retz M dX8_isEvened_37 rfl ?_
        refine ⟨rfl, ?_⟩
        unfold ldOn
        first
          | (rw [show (nFr a l == x) = false from beq_false_of_ne (by omega)]; rfl)
          | (rw [show (nFr a l == x) = true from beq_iff_eq.mpr (by omega), hul]; first | rfl | (rw [hto]; rfl))
      · refine j_ifn_eq (tgt := 36) C dX8_isEvened_14 rfl (by omega) (fun h => absurd h (by decide)) (fun _ => ?_)
        refine j_aload_n C dX8_isEvened_17 rfl rfl ?_
        refine j_get C flX8_34 dX8_isEvened_18 (Nat.lt_of_lt_of_le (by decide) hN) rfl rfl ?_
        refine j_aload_n C dX8_isEvened_21 rfl rfl ?_
        refine j_iload_n C dX8_isEvened_22 rfl rfl ?_
        refine j_calli (As := [.int (nI (l))]) (rest := [.ref (gad g (93))]) C (tX8_end hN hI hO (l := l) (by omega)) cdX8_end mlX8_120 dX8_isEvened_23 (by decide) (by decide) (Nat.lt_of_lt_of_le (by decide) hN) rfl rfl rfl rfl rfl (Nat.le_of_ble_eq_true rfl) (fun rr_8 τ7 hp_9 => ?_)
        obtain ⟨hs, hr⟩ := hp_9
        replace hs := hs.symm
        subst hs
        subst hr
        refine j_iald C dX8_isEvened_26 (Nat.lt_of_lt_of_le (by decide) hN) (fun _ => rfl) (by decide) (by omega) ?_
        refine j_top ((hF (nTo a l) (by omega)).trans (congrArg c4 hto)) ?_
        refine j_bipush (v := -4) C dX8_isEvened_27 rfl ?_
        refine j_icmp_eq (tgt := 36) C dX8_isEvened_29 rfl (fun _ => ?_) (fun h => absurd h (by decide))
        refine j_iconst (v := nI 0) C dX8_isEvened_36 rfl ?_
        refine j_retz M dX8_isEvened_37 rfl ?_
        refine ⟨rfl, ?_⟩
        unfold ldOn
        first
          | (rw [show (nFr a l == x) = false from beq_false_of_ne (by omega)]; rfl)
          | (rw [show (nFr a l == x) = true from beq_iff_eq.mpr (by omega), hul]; first | rfl | (rw [hto]; rfl))
  · have hv := hB _ _ hto
    refine j_aload_n C dX8_isEvened_0 rfl rfl ?_
    refine j_iload_n C dX8_isEvened_1 rfl rfl ?_
    refine j_calli (As := [.int (nI (l))]) (rest := []) C (tX8_begin hN hI hO (l := l) (by omega)) cdX8_begin mlX8_127 dX8_isEvened_2 (by decide) (by decide) (Nat.lt_of_lt_of_le (by decide) hN) rfl rfl rfl rfl rfl (Nat.le_of_ble_eq_true rfl) (fun rr_11 τ10 hp_12 => ?_)
    obtain ⟨hs, hr⟩ := hp_12
    replace hs := hs.symm
    subst hs
    subst hr
    refine j_iload_n C dX8_isEvened_5 rfl rfl ?_
    refine j_icmpn_ne (tgt := 36) C dX8_isEvened_6 rfl (by omega) (by omega) (fun h6 => ?_) (fun h6 => ?_)
    · refine j_iconst (v := nI 0) C dX8_isEvened_36 rfl ?_
      refine j_retz M dX8_isEvened_37 rfl ?_
      refine ⟨rfl, ?_⟩
      unfold ldOn
      first
        | (rw [show (nFr a l == x) = false from beq_false_of_ne (by omega)]; rfl)
        | (rw [show (nFr a l == x) = true from beq_iff_eq.mpr (by omega), hul]; first | rfl | (rw [hto]; rfl))
    · refine j_aload_n C dX8_isEvened_9 rfl rfl ?_
      refine j_iload_n C dX8_isEvened_10 rfl rfl ?_
      refine j_calli (As := [.int (nI (l))]) (rest := []) C (tX8_isUp hN (m := nM a) (u := u) (by omega) hU (l := l) (by omega)) cdX8_isUp mlX8_124 dX8_isEvened_11 (by decide) (by decide) (Nat.lt_of_lt_of_le (by decide) hN) rfl rfl rfl rfl rfl (Nat.le_of_ble_eq_true rfl) (fun rr_14 τ13 hp_15 => ?_)
      obtain ⟨hs, hr⟩ := hp_15
      replace hs := hs.symm
      subst hs
      rcases hul : u l with _ | _ <;> rw [hul] at hr <;> subst hr
      · refine j_ifn_eq (tgt := 36) C dX8_isEvened_14 rfl (by omega) (fun _ => ?_) (fun h => absurd h (by decide))
        refine j_iconst (v := nI 0) C dX8_isEvened_36 rfl ?_
        refine j_retz M dX8_isEvened_37 rfl ?_
        refine ⟨rfl, ?_⟩
        unfold ldOn
        first
          | (rw [show (nFr a l == x) = false from beq_false_of_ne (by omega)]; rfl)
          | (rw [show (nFr a l == x) = true from beq_iff_eq.mpr (by omega), hul]; first | rfl | (rw [hto]; rfl))
      · refine j_ifn_eq (tgt := 36) C dX8_isEvened_14 rfl (by omega) (fun h => absurd h (by decide)) (fun _ => ?_)
        refine j_aload_n C dX8_isEvened_17 rfl rfl ?_
        refine j_get C flX8_34 dX8_isEvened_18 (Nat.lt_of_lt_of_le (by decide) hN) rfl rfl ?_
        refine j_aload_n C dX8_isEvened_21 rfl rfl ?_
        refine j_iload_n C dX8_isEvened_22 rfl rfl ?_
        refine j_calli (As := [.int (nI (l))]) (rest := [.ref (gad g (93))]) C (tX8_end hN hI hO (l := l) (by omega)) cdX8_end mlX8_120 dX8_isEvened_23 (by decide) (by decide) (Nat.lt_of_lt_of_le (by decide) hN) rfl rfl rfl rfl rfl (Nat.le_of_ble_eq_true rfl) (fun rr_17 τ16 hp_18 => ?_)
        obtain ⟨hs, hr⟩ := hp_18
        replace hs := hs.symm
        subst hs
        subst hr
        refine j_iald C dX8_isEvened_26 (Nat.lt_of_lt_of_le (by decide) hN) (fun _ => rfl) (by decide) (by omega) ?_
        refine j_top ((hF (nTo a l) (by omega)).trans (congrArg c4 hto)) ?_
        refine j_bipush (v := -4) C dX8_isEvened_27 rfl ?_
        refine j_icmp_eq (tgt := 36) C dX8_isEvened_29 rfl (fun h => absurd h (nI_neg (by omega) (by decide))) (fun _ => ?_)
        refine j_iconst (v := nI 1) C dX8_isEvened_32 rfl ?_
        refine j_goto (tgt := 37) C dX8_isEvened_33 rfl ?_
        refine j_retz M dX8_isEvened_37 rfl ?_
        refine ⟨rfl, ?_⟩
        unfold ldOn
        first
          | (rw [show (nFr a l == x) = false from beq_false_of_ne (by omega)]; rfl)
          | (rw [show (nFr a l == x) = true from beq_iff_eq.mpr (by omega), hul]; first | rfl | (rw [hto]; rfl))
set_option maxHeartbeats 4000000 in
set_option maxRecDepth 100000 in
theorem tX8_even {g : jG} (hN : 97 ≤ gN g) {σ : Sg} {tx : Nat → Int32} {len : Nat} {a : ND} {wt : Nat → Nat} {u : Nat → Bool} {tl : List Int32} {le : Nat} {p : List SD} (hC : RI σ (tx, len, a, (wt, u, tl, le), p)) (hA : AOk (tx, len, a, (wt, u, tl, le), p)) (h1m : 1 ≤ nM a) (h1d : 1 ≤ nD a) (x0 t0 : Int32) : MS g yX8_even cX8_even 9 (some .int) rmX8_even [.ref (gad g (84)), .int (x0), .int (t0)] σ (fun r σ' => r = (abEven x0 t0 (tx, len, a, (wt, u, tl, le), p)).1 ∧ RI σ' (abEven x0 t0 (tx, len, a, (wt, u, tl, le), p)).2 ∧ ∀ j n, j < 84 → σ' j n = σ j n) := by
  refine MJ_of (by decide) (Nat.le_of_ble_eq_true rfl) (List.forall_mem_cons.mpr ⟨rfl, List.forall_mem_cons.mpr ⟨rfl, List.forall_mem_cons.mpr ⟨rfl, fun _ h => absurd h List.not_mem_nil⟩⟩⟩) ?_
  intro κ M
  have C := M.1
  show J g κ 9 0 [some (.ref (gad g (84))), some (.int (x0)), some (.int (t0)), none, none, none, none, none, none] [] σ
  have hI : RNet σ a := hC.2.1
  have hO : NOk a := hA.1
  have hS : RS1 σ 90 0 (nM a) (wt, u, tl, le) := hC.2.2.1
  have hW : RW σ (nM a) wt u := hS.w
  have hw : WOk (nM a) wt := hA.2.1.1
  have htl6 : tl.length ≤ 6 := hA.2.1.2.1
  have hle31 : le < 2 ^ 31 := hA.2.1.2.2
  have hlen : len ≤ 200 := hC.1.2.1
  have hCl : σ 84 1 = nI len := hC.1.1
  have hCt : ∀ k, k < len → σ 85 k = tx k := hC.1.2.2
  have hn2 := hO.1
  have hn7 := hO.2.1
  have hm12 := hO.2.2.1
  have hd6 := hO.2.2.2.1
  have hle : σ 90 13 = nI le := hS.2.2.1
  have hT : RT σ tl := ⟨hS.2.2.2.1, fun k hk => hS.2.2.2.2 k hk⟩
  have hPl : σ 84 15 = nI p.length := hC.2.2.2.1
  have hp6 : p.length ≤ 6 := hA.2.2.2.1
  have lp1 : ∀ (x t : Nat) (σ1 : Sg), x < nN a → t < nN a → (∀ j n, ¬ (j = 93) → σ1 j n = σ j n) → (∀ y, y < 7 → σ1 93 y = c4 ((FAR a wt u t) y)) → J g κ 9 93 [some (.ref (gad g (84))), some (.int (nI (x))), some (.int (nI (t))), some (.int (nI (cnt (ldOn a u (FAR a wt u t) x) (nM a)))), some (.int (nI ((gMx a u (FAR a wt u t) x (nM a))))), some (.int (nI (nM a))), none, none, none] [] σ1 → ∀ (k l : Nat), nM a - l = k → l ≤ nM a → J g κ 9 31 [some (.ref (gad g (84))), some (.int (nI (x))), some (.int (nI (t))), some (.int (nI (cnt (ldOn a u (FAR a wt u t) x) (l)))), some (.int (nI ((gMx a u (FAR a wt u t) x (l))))), some (.int (nI (l))), none, none, none] [] σ1 := by
    intro x t σ1 hx ht hf h93 kA k
    have hBF : fBd (FAR a wt u t) 1680 := fun x v h => by have := FAR_bd (t := t) hO hw x v h; omega
    induction k using Nat.strongRecOn with
    | _ k ih =>
      intro l hk hl
      refine j_iload C dX8_even_31 rfl ?_
      refine j_aload_n C dX8_even_33 rfl rfl ?_
      refine j_get C flX8_77 dX8_even_34 (Nat.lt_of_lt_of_le (by decide) hN) rfl rfl ?_
      refine j_top ((hf _ _ (by omega)).trans (hI.1.2.1)) ?_
      refine j_icmpn_ge (tgt := 93) C dX8_even_37 rfl (by omega) (by omega) (fun h37 => ?_) (fun h37 => ?_)
      · rw [show l = nM a by omega]
        exact kA
      · obtain ⟨hb1, hb2, hb3, hb4⟩ := hO.2.2.2.2.1 l (by omega)
        have hwl := hw l (by omega)
        have hgb := gMx_bd (a := a) (u := u) (x := x) hBF l
        have hcl := cnt_le (ldOn a u (FAR a wt u t) x) l
        refine j_aload_n C dX8_even_40 rfl rfl ?_
        refine j_iload C dX8_even_41 rfl ?_
        refine j_iload_n C dX8_even_43 rfl rfl ?_
        refine j_calli (As := [.int (nI (l)), .int (nI (x))]) (rest := []) C (tX8_isEvened hN (a := a) (u := u) (hI.kept (fun j n h => hf j n (by omega))) hO ((hf _ _ (by omega)).trans hW.2) (l := l) (x := x) (f := (FAR a wt u t)) (by omega) (by omega) h93 hBF) cdX8_isEvened mlX8_192 dX8_even_44 (by decide) (by decide) (Nat.lt_of_lt_of_le (by decide) hN) rfl rfl rfl rfl rfl (Nat.le_of_ble_eq_true rfl) (fun rr_2 τ1 hp_3 => ?_)
        obtain ⟨hs, hr⟩ := hp_3
        replace hs := hs.symm
        subst hs
        rcases hle2 : (ldOn a u (FAR a wt u t) x) l with _ | _ <;> rw [hle2] at hr <;> subst hr
        · refine j_ifn_eq (tgt := 87) C dX8_even_47 rfl (by omega) (fun _ => ?_) (fun h => absurd h (by decide))
          refine j_iinc (L' := [some (.ref (gad g (84))), some (.int (nI (x))), some (.int (nI (t))), some (.int (nI (cnt (ldOn a u (FAR a wt u t) x) (l)))), some (.int (nI ((gMx a u (FAR a wt u t) x (l))))), some (.int (nI (l + 1))), none, none, none]) C dX8_even_87 rfl (nI_inc _) (by decide) rfl ?_
          refine j_goto (tgt := 31) C dX8_even_90 rfl ?_
          refine J_loc (L' := [some (.ref (gad g (84))), some (.int (nI (x))), some (.int (nI (t))), some (.int (nI (cnt (ldOn a u (FAR a wt u t) x) (l + 1)))), some (.int (nI ((gMx a u (FAR a wt u t) x (l + 1))))), some (.int (nI (l + 1))), none, none, none]) (by rw [cnt_miss hle2, show (gMx a u (FAR a wt u t) x (l + 1)) = (gMx a u (FAR a wt u t) x l) by rw [gMx, if_neg (by rw [hle2]; decide)]]) (ih (nM a - (l + 1)) (by omega) (l + 1) rfl (by omega))
        · obtain ⟨v, hfv⟩ := ldOn_ex hle2
          have hvb := hBF _ _ hfv
          refine j_ifn_eq (tgt := 87) C dX8_even_47 rfl (by omega) (fun h => absurd h (by decide)) (fun _ => ?_)
          refine j_iinc (L' := [some (.ref (gad g (84))), some (.int (nI (x))), some (.int (nI (t))), some (.int (nI (cnt (ldOn a u (FAR a wt u t) x) (l) + 1))), some (.int (nI ((gMx a u (FAR a wt u t) x (l))))), some (.int (nI (l))), none, none, none]) C dX8_even_50 rfl (nI_inc _) (by decide) rfl ?_
          refine j_aload_n C dX8_even_53 rfl rfl ?_
          refine j_get C flX8_34 dX8_even_54 (Nat.lt_of_lt_of_le (by decide) hN) rfl rfl ?_
          refine j_aload_n C dX8_even_57 rfl rfl ?_
          refine j_iload C dX8_even_58 rfl ?_
          refine j_calli (As := [.int (nI (l))]) (rest := [.ref (gad g (93))]) C (tX8_end hN (hI.kept (fun j n h => hf j n (by omega))) hO (l := l) (by omega)) cdX8_end mlX8_120 dX8_even_60 (by decide) (by decide) (Nat.lt_of_lt_of_le (by decide) hN) rfl rfl rfl rfl rfl (Nat.le_of_ble_eq_true rfl) (fun rr_5 τ4 hp_6 => ?_)
          obtain ⟨hs, hr⟩ := hp_6
          replace hs := hs.symm
          subst hs
          subst hr
          refine j_iald C dX8_even_63 (Nat.lt_of_lt_of_le (by decide) hN) (fun _ => rfl) (by decide) (by omega) ?_
          refine j_top ((h93 (nTo a l) (by omega)).trans (congrArg c4 hfv)) ?_
          refine j_iload C dX8_even_64 rfl ?_
          refine j_icmpn_le (tgt := 83) C dX8_even_66 rfl (by omega) (by omega) (fun h66 => ?_) (fun h66 => ?_)
          · refine j_iload C dX8_even_83 rfl ?_
            refine j_istore (L' := [some (.ref (gad g (84))), some (.int (nI (x))), some (.int (nI (t))), some (.int (nI (cnt (ldOn a u (FAR a wt u t) x) (l) + 1))), some (.int (nI ((gMx a u (FAR a wt u t) x (l))))), some (.int (nI (l))), none, none, none]) C dX8_even_85 (by decide) rfl ?_
            refine j_iinc (L' := [some (.ref (gad g (84))), some (.int (nI (x))), some (.int (nI (t))), some (.int (nI (cnt (ldOn a u (FAR a wt u t) x) (l) + 1))), some (.int (nI ((gMx a u (FAR a wt u t) x (l))))), some (.int (nI (l + 1))), none, none, none]) C dX8_even_87 rfl (nI_inc _) (by decide) rfl ?_
            refine j_goto (tgt := 31) C dX8_even_90 rfl ?_
            refine J_loc (L' := [some (.ref (gad g (84))), some (.int (nI (x))), some (.int (nI (t))), some (.int (nI (cnt (ldOn a u (FAR a wt u t) x) (l + 1)))), some (.int (nI ((gMx a u (FAR a wt u t) x (l + 1))))), some (.int (nI (l + 1))), none, none, none]) (by rw [cnt_hit hle2, show (gMx a u (FAR a wt u t) x (l + 1)) = max (gMx a u (FAR a wt u t) x l) v by rw [gMx, if_pos hle2, hfv]; rfl]; first | (rw [show max (gMx a u (FAR a wt u t) x l) v = v by omega]; done) | (rw [show max (gMx a u (FAR a wt u t) x l) v = (gMx a u (FAR a wt u t) x l) by omega]; done)) (ih (nM a - (l + 1)) (by omega) (l + 1) rfl (by omega))
          · refine j_aload_n C dX8_even_69 rfl rfl ?_
            refine j_get C flX8_34 dX8_even_70 (Nat.lt_of_lt_of_le (by decide) hN) rfl rfl ?_
            refine j_aload_n C dX8_even_73 rfl rfl ?_
            refine j_iload C dX8_even_74 rfl ?_
            refine j_calli (As := [.int (nI (l))]) (rest := [.ref (gad g (93))]) C (tX8_end hN (hI.kept (fun j n h => hf j n (by omega))) hO (l := l) (by omega)) cdX8_end mlX8_120 dX8_even_76 (by decide) (by decide) (Nat.lt_of_lt_of_le (by decide) hN) rfl rfl rfl rfl rfl (Nat.le_of_ble_eq_true rfl) (fun rr_8 τ7 hp_9 => ?_)
            obtain ⟨hs, hr⟩ := hp_9
            replace hs := hs.symm
            subst hs
            subst hr
            refine j_iald C dX8_even_79 (Nat.lt_of_lt_of_le (by decide) hN) (fun _ => rfl) (by decide) (by omega) ?_
            refine j_top ((h93 (nTo a l) (by omega)).trans (congrArg c4 hfv)) ?_
            refine j_goto (tgt := 85) C dX8_even_80 rfl ?_
            refine j_istore (L' := [some (.ref (gad g (84))), some (.int (nI (x))), some (.int (nI (t))), some (.int (nI (cnt (ldOn a u (FAR a wt u t) x) (l) + 1))), some (.int (nI (v))), some (.int (nI (l))), none, none, none]) C dX8_even_85 (by decide) rfl ?_
            refine j_iinc (L' := [some (.ref (gad g (84))), some (.int (nI (x))), some (.int (nI (t))), some (.int (nI (cnt (ldOn a u (FAR a wt u t) x) (l) + 1))), some (.int (nI (v))), some (.int (nI (l + 1))), none, none, none]) C dX8_even_87 rfl (nI_inc _) (by decide) rfl ?_
            refine j_goto (tgt := 31) C dX8_even_90 rfl ?_
            refine J_loc (L' := [some (.ref (gad g (84))), some (.int (nI (x))), some (.int (nI (t))), some (.int (nI (cnt (ldOn a u (FAR a wt u t) x) (l + 1)))), some (.int (nI ((gMx a u (FAR a wt u t) x (l + 1))))), some (.int (nI (l + 1))), none, none, none]) (by rw [cnt_hit hle2, show (gMx a u (FAR a wt u t) x (l + 1)) = max (gMx a u (FAR a wt u t) x l) v by rw [gMx, if_pos hle2, hfv]; rfl]; first | (rw [show max (gMx a u (FAR a wt u t) x l) v = v by omega]; done) | (rw [show max (gMx a u (FAR a wt u t) x l) v = (gMx a u (FAR a wt u t) x l) by omega]; done)) (ih (nM a - (l + 1)) (by omega) (l + 1) rfl (by omega))
  have lp2 : ∀ (x t : Nat) (σ1 : Sg), x < nN a → t < nN a → (∀ j n, ¬ (j = 93) → σ1 j n = σ j n) → (∀ y, y < 7 → σ1 93 y = c4 ((FAR a wt u t) y)) → J g κ 9 200 [some (.ref (gad g (84))), some (.int (nI (x))), some (.int (nI (t))), some (.int (nI (cnt (ldOn a u (FAR a wt u t) x) (nM a)))), some (.int (nI ((gMx a u (FAR a wt u t) x (nM a))))), some (.int (nI (cnt (fun l => decide ((evW a wt u (FAR a wt u t) x) l ≠ wt l)) (nM a)))), some (.int (bI (okE (decide (x ≠ t) && decide (2 ≤ cnt (ldOn a u (FAR a wt u t) x) (nM a))) (evW a wt u (FAR a wt u t) x) (nM a)))), some (.int (nI (nM a))), none] [] σ1 → ∀ (k l : Nat), nM a - l = k → l ≤ nM a → J g κ 9 116 [some (.ref (gad g (84))), some (.int (nI (x))), some (.int (nI (t))), some (.int (nI (cnt (ldOn a u (FAR a wt u t) x) (nM a)))), some (.int (nI ((gMx a u (FAR a wt u t) x (nM a))))), some (.int (nI (cnt (fun l => decide ((evW a wt u (FAR a wt u t) x) l ≠ wt l)) (l)))), some (.int (bI (okE (decide (x ≠ t) && decide (2 ≤ cnt (ldOn a u (FAR a wt u t) x) (nM a))) (evW a wt u (FAR a wt u t) x) (l)))), some (.int (nI (l))), none] [] σ1 := by
    intro x t σ1 hx ht hf h93 kA k
    have hBF : fBd (FAR a wt u t) 1680 := fun x v h => by have := FAR_bd (t := t) hO hw x v h; omega
    induction k using Nat.strongRecOn with
    | _ k ih =>
      intro l hk hl
      refine j_iload C dX8_even_116 rfl ?_
      refine j_aload_n C dX8_even_118 rfl rfl ?_
      refine j_get C flX8_77 dX8_even_119 (Nat.lt_of_lt_of_le (by decide) hN) rfl rfl ?_
      refine j_top ((hf _ _ (by omega)).trans (hI.1.2.1)) ?_
      refine j_icmpn_ge (tgt := 200) C dX8_even_122 rfl (by omega) (by omega) (fun h122 => ?_) (fun h122 => ?_)
      · rw [show l = nM a by omega]
        exact kA
      · obtain ⟨hb1, hb2, hb3, hb4⟩ := hO.2.2.2.2.1 l (by omega)
        have hwl := hw l (by omega)
        have hgb := gMx_bd (a := a) (u := u) (x := x) hBF (nM a)
        have hcl := cnt_le (fun l => decide ((evW a wt u (FAR a wt u t) x) l ≠ wt l)) l
        rcases (show (okE (decide (x ≠ t) && decide (2 ≤ cnt (ldOn a u (FAR a wt u t) x) (nM a))) (evW a wt u (FAR a wt u t) x) l) = true ∨ (okE (decide (x ≠ t) && decide (2 ≤ cnt (ldOn a u (FAR a wt u t) x) (nM a))) (evW a wt u (FAR a wt u t) x) l) = false by cases (okE (decide (x ≠ t) && decide (2 ≤ cnt (ldOn a u (FAR a wt u t) x) (nM a))) (evW a wt u (FAR a wt u t) x) l) <;> simp) with hok | hok
        · refine J_loc (L' := [some (.ref (gad g (84))), some (.int (nI (x))), some (.int (nI (t))), some (.int (nI (cnt (ldOn a u (FAR a wt u t) x) (nM a)))), some (.int (nI ((gMx a u (FAR a wt u t) x (nM a))))), some (.int (nI (cnt (fun l => decide ((evW a wt u (FAR a wt u t) x) l ≠ wt l)) (l)))), some (.int (nI (1))), some (.int (nI (l))), none]) (by rw [hok]; rfl) ?_
          obtain ⟨hb1, hb2, hb3, hb4⟩ := hO.2.2.2.2.1 l (by omega)
          have hwl := hw l (by omega)
          refine j_aload_n C dX8_even_125 rfl rfl ?_
          refine j_iload C dX8_even_126 rfl ?_
          refine j_iload_n C dX8_even_128 rfl rfl ?_
          refine j_calli (As := [.int (nI (l)), .int (nI (x))]) (rest := []) C (tX8_isEvened hN (a := a) (u := u) (hI.kept (fun j n h => hf j n (by omega))) hO ((hf _ _ (by omega)).trans hW.2) (l := l) (x := x) (f := (FAR a wt u t)) (by omega) (by omega) h93 hBF) cdX8_isEvened mlX8_192 dX8_even_129 (by decide) (by decide) (Nat.lt_of_lt_of_le (by decide) hN) rfl rfl rfl rfl rfl (Nat.le_of_ble_eq_true rfl) (fun rr_2 τ1 hp_3 => ?_)
          obtain ⟨hs, hr⟩ := hp_3
          replace hs := hs.symm
          subst hs
          rcases hle2 : (ldOn a u (FAR a wt u t) x) l with _ | _ <;> rw [hle2] at hr <;> subst hr
          · refine j_ifn_eq (tgt := 194) C dX8_even_132 rfl (by omega) (fun _ => ?_) (fun h => absurd h (by decide))
            refine j_iinc (L' := [some (.ref (gad g (84))), some (.int (nI (x))), some (.int (nI (t))), some (.int (nI (cnt (ldOn a u (FAR a wt u t) x) (nM a)))), some (.int (nI ((gMx a u (FAR a wt u t) x (nM a))))), some (.int (nI (cnt (fun l => decide ((evW a wt u (FAR a wt u t) x) l ≠ wt l)) (l)))), some (.int (nI (1))), some (.int (nI (l + 1))), none]) C dX8_even_194 rfl (nI_inc _) (by decide) rfl ?_
            refine j_goto (tgt := 116) C dX8_even_197 rfl ?_
            have hev : (evW a wt u (FAR a wt u t) x) l = wt l := by unfold evW; rw [if_neg (by rw [hle2]; decide)]
            refine J_loc (L' := [some (.ref (gad g (84))), some (.int (nI (x))), some (.int (nI (t))), some (.int (nI (cnt (ldOn a u (FAR a wt u t) x) (nM a)))), some (.int (nI ((gMx a u (FAR a wt u t) x (nM a))))), some (.int (nI (cnt (fun l => decide ((evW a wt u (FAR a wt u t) x) l ≠ wt l)) (l + 1)))), some (.int (bI (okE (decide (x ≠ t) && decide (2 ≤ cnt (ldOn a u (FAR a wt u t) x) (nM a))) (evW a wt u (FAR a wt u t) x) (l + 1)))), some (.int (nI (l + 1))), none]) (by
              rw [show (okE (decide (x ≠ t) && decide (2 ≤ cnt (ldOn a u (FAR a wt u t) x) (nM a))) (evW a wt u (FAR a wt u t) x) (l + 1)) = ((okE (decide (x ≠ t) && decide (2 ≤ cnt (ldOn a u (FAR a wt u t) x) (nM a))) (evW a wt u (FAR a wt u t) x) l) && decide ((evW a wt u (FAR a wt u t) x) l ≤ 20)) from rfl, hok]
              first
                | (rw [cnt_miss (p := (fun l => decide ((evW a wt u (FAR a wt u t) x) l ≠ wt l))) (decide_eq_false (by omega)), show decide ((evW a wt u (FAR a wt u t) x) l ≤ 20) = true from decide_eq_true (by omega)]; rfl)
                | (rw [cnt_miss (p := (fun l => decide ((evW a wt u (FAR a wt u t) x) l ≠ wt l))) (decide_eq_false (by omega)), show decide ((evW a wt u (FAR a wt u t) x) l ≤ 20) = false from decide_eq_false (by omega)]; rfl)
                | (rw [cnt_hit (p := (fun l => decide ((evW a wt u (FAR a wt u t) x) l ≠ wt l))) (decide_eq_true (by omega)), show decide ((evW a wt u (FAR a wt u t) x) l ≤ 20) = true from decide_eq_true (by omega)]; rfl)
                | (rw [cnt_hit (p := (fun l => decide ((evW a wt u (FAR a wt u t) x) l ≠ wt l))) (decide_eq_true (by omega)), show decide ((evW a wt u (FAR a wt u t) x) l ≤ 20) = false from decide_eq_false (by omega)]; rfl)
                | (rw [cnt_miss (p := (fun l => decide ((evW a wt u (FAR a wt u t) x) l ≠ wt l))) (decide_eq_false (by omega))]; rfl)
                | (rw [cnt_hit (p := (fun l => decide ((evW a wt u (FAR a wt u t) x) l ≠ wt l))) (decide_eq_true (by omega))]; rfl)) (ih (nM a - (l + 1)) (by omega) (l + 1) rfl (by omega))
          · obtain ⟨v, hfv⟩ := ldOn_ex hle2
            have hvb := hBF _ _ hfv
            refine j_ifn_eq (tgt := 194) C dX8_even_132 rfl (by omega) (fun h => absurd h (by decide)) (fun _ => ?_)
            have hvg := gMx_ge hle2 hfv (show l < nM a by omega)
            have hev : (evW a wt u (FAR a wt u t) x) l = (gMx a u (FAR a wt u t) x (nM a)) + 1 - v := by unfold evW; rw [if_pos hle2, hfv]; rfl
            refine j_iload C dX8_even_135 rfl ?_
            refine j_iconst (v := nI 1) C dX8_even_137 rfl ?_
            refine j_iadd C dX8_even_138 ?_
            refine j_top (nI_add _ _) ?_
            refine j_aload_n C dX8_even_139 rfl rfl ?_
            refine j_get C flX8_34 dX8_even_140 (Nat.lt_of_lt_of_le (by decide) hN) rfl rfl ?_
            refine j_aload_n C dX8_even_143 rfl rfl ?_
            refine j_iload C dX8_even_144 rfl ?_
            refine j_calli (As := [.int (nI (l))]) (rest := [.ref (gad g (93)), .int (nI (((gMx a u (FAR a wt u t) x (nM a)) + 1)))]) C (tX8_end hN (hI.kept (fun j n h => hf j n (by omega))) hO (l := l) (by omega)) cdX8_end mlX8_120 dX8_even_146 (by decide) (by decide) (Nat.lt_of_lt_of_le (by decide) hN) rfl rfl rfl rfl rfl (Nat.le_of_ble_eq_true rfl) (fun rr_5 τ4 hp_6 => ?_)
            obtain ⟨hs, hr⟩ := hp_6
            replace hs := hs.symm
            subst hs
            subst hr
            refine j_iald C dX8_even_149 (Nat.lt_of_lt_of_le (by decide) hN) (fun _ => rfl) (by decide) (by omega) ?_
            refine j_top ((h93 (nTo a l) (by omega)).trans (congrArg c4 hfv)) ?_
            refine j_isub C dX8_even_150 ?_
            refine j_top (pk_sub (by omega)) ?_
            refine j_istore (L' := [some (.ref (gad g (84))), some (.int (nI (x))), some (.int (nI (t))), some (.int (nI (cnt (ldOn a u (FAR a wt u t) x) (nM a)))), some (.int (nI ((gMx a u (FAR a wt u t) x (nM a))))), some (.int (nI (cnt (fun l => decide ((evW a wt u (FAR a wt u t) x) l ≠ wt l)) (l)))), some (.int (nI (1))), some (.int (nI (l))), some (.int (nI (((gMx a u (FAR a wt u t) x (nM a)) + 1 - v))))]) C dX8_even_151 (by decide) rfl ?_
            refine j_iload C dX8_even_153 rfl ?_
            refine j_ifn_eq (tgt := 169) C dX8_even_155 rfl (by omega) (fun h => absurd h (by decide)) (fun _ => ?_)
            refine j_iload C dX8_even_158 rfl ?_
            refine j_bipush (v := nI 20) C dX8_even_160 rfl ?_
            refine j_icmpn_gt (tgt := 169) C dX8_even_162 rfl (by omega) (by omega) (fun h162 => ?_) (fun h162 => ?_)
            · refine j_iconst (v := nI 0) C dX8_even_169 rfl ?_
              refine j_istore (L' := [some (.ref (gad g (84))), some (.int (nI (x))), some (.int (nI (t))), some (.int (nI (cnt (ldOn a u (FAR a wt u t) x) (nM a)))), some (.int (nI ((gMx a u (FAR a wt u t) x (nM a))))), some (.int (nI (cnt (fun l => decide ((evW a wt u (FAR a wt u t) x) l ≠ wt l)) (l)))), some (.int (nI (0))), some (.int (nI (l))), some (.int (nI (((gMx a u (FAR a wt u t) x (nM a)) + 1 - v))))]) C dX8_even_170 (by decide) rfl ?_
              refine j_iload C dX8_even_172 rfl ?_
              refine j_iload C dX8_even_174 rfl ?_
              refine j_aload_n C dX8_even_176 rfl rfl ?_
              refine j_get C flX8_25 dX8_even_177 (Nat.lt_of_lt_of_le (by decide) hN) rfl rfl ?_
              refine j_iload C dX8_even_180 rfl ?_
              refine j_iald C dX8_even_182 (Nat.lt_of_lt_of_le (by decide) hN) (fun _ => rfl) (by decide) (by omega) ?_
              refine j_top ((hf _ _ (by omega)).trans (hW.1 l (by omega))) ?_
              refine j_icmpn_eq (tgt := 190) C dX8_even_183 rfl (by omega) (by omega) (fun h183 => ?_) (fun h183 => ?_)
              · refine j_iconst (v := nI 0) C dX8_even_190 rfl ?_
                refine j_iadd C dX8_even_191 ?_
                refine j_top (nI_add _ _) ?_
                refine j_istore (L' := [some (.ref (gad g (84))), some (.int (nI (x))), some (.int (nI (t))), some (.int (nI (cnt (ldOn a u (FAR a wt u t) x) (nM a)))), some (.int (nI ((gMx a u (FAR a wt u t) x (nM a))))), some (.int (nI ((cnt (fun l => decide ((evW a wt u (FAR a wt u t) x) l ≠ wt l)) (l) + 0)))), some (.int (nI (0))), some (.int (nI (l))), some (.int (nI (((gMx a u (FAR a wt u t) x (nM a)) + 1 - v))))]) C dX8_even_192 (by decide) rfl ?_
                refine j_iinc (L' := [some (.ref (gad g (84))), some (.int (nI (x))), some (.int (nI (t))), some (.int (nI (cnt (ldOn a u (FAR a wt u t) x) (nM a)))), some (.int (nI ((gMx a u (FAR a wt u t) x (nM a))))), some (.int (nI ((cnt (fun l => decide ((evW a wt u (FAR a wt u t) x) l ≠ wt l)) (l) + 0)))), some (.int (nI (0))), some (.int (nI (l + 1))), some (.int (nI (((gMx a u (FAR a wt u t) x (nM a)) + 1 - v))))]) C dX8_even_194 rfl (nI_inc _) (by decide) rfl ?_
                refine j_goto (tgt := 116) C dX8_even_197 rfl ?_
                refine J_clr 8 (L' := [some (.ref (gad g (84))), some (.int (nI (x))), some (.int (nI (t))), some (.int (nI (cnt (ldOn a u (FAR a wt u t) x) (nM a)))), some (.int (nI ((gMx a u (FAR a wt u t) x (nM a))))), some (.int (nI ((cnt (fun l => decide ((evW a wt u (FAR a wt u t) x) l ≠ wt l)) (l) + 0)))), some (.int (nI (0))), some (.int (nI (l + 1))), none]) rfl ?_
                refine J_loc (L' := [some (.ref (gad g (84))), some (.int (nI (x))), some (.int (nI (t))), some (.int (nI (cnt (ldOn a u (FAR a wt u t) x) (nM a)))), some (.int (nI ((gMx a u (FAR a wt u t) x (nM a))))), some (.int (nI (cnt (fun l => decide ((evW a wt u (FAR a wt u t) x) l ≠ wt l)) (l + 1)))), some (.int (bI (okE (decide (x ≠ t) && decide (2 ≤ cnt (ldOn a u (FAR a wt u t) x) (nM a))) (evW a wt u (FAR a wt u t) x) (l + 1)))), some (.int (nI (l + 1))), none]) (by
                  rw [show (okE (decide (x ≠ t) && decide (2 ≤ cnt (ldOn a u (FAR a wt u t) x) (nM a))) (evW a wt u (FAR a wt u t) x) (l + 1)) = ((okE (decide (x ≠ t) && decide (2 ≤ cnt (ldOn a u (FAR a wt u t) x) (nM a))) (evW a wt u (FAR a wt u t) x) l) && decide ((evW a wt u (FAR a wt u t) x) l ≤ 20)) from rfl, hok]
                  first
                    | (rw [cnt_miss (p := (fun l => decide ((evW a wt u (FAR a wt u t) x) l ≠ wt l))) (decide_eq_false (by omega)), show decide ((evW a wt u (FAR a wt u t) x) l ≤ 20) = true from decide_eq_true (by omega)]; rfl)
                    | (rw [cnt_miss (p := (fun l => decide ((evW a wt u (FAR a wt u t) x) l ≠ wt l))) (decide_eq_false (by omega)), show decide ((evW a wt u (FAR a wt u t) x) l ≤ 20) = false from decide_eq_false (by omega)]; rfl)
                    | (rw [cnt_hit (p := (fun l => decide ((evW a wt u (FAR a wt u t) x) l ≠ wt l))) (decide_eq_true (by omega)), show decide ((evW a wt u (FAR a wt u t) x) l ≤ 20) = true from decide_eq_true (by omega)]; rfl)
                    | (rw [cnt_hit (p := (fun l => decide ((evW a wt u (FAR a wt u t) x) l ≠ wt l))) (decide_eq_true (by omega)), show decide ((evW a wt u (FAR a wt u t) x) l ≤ 20) = false from decide_eq_false (by omega)]; rfl)
                    | (rw [cnt_miss (p := (fun l => decide ((evW a wt u (FAR a wt u t) x) l ≠ wt l))) (decide_eq_false (by omega))]; rfl)
                    | (rw [cnt_hit (p := (fun l => decide ((evW a wt u (FAR a wt u t) x) l ≠ wt l))) (decide_eq_true (by omega))]; rfl)) (ih (nM a - (l + 1)) (by omega) (l + 1) rfl (by omega))
              · refine j_iconst (v := nI 1) C dX8_even_186 rfl ?_
                refine j_goto (tgt := 191) C dX8_even_187 rfl ?_
                refine j_iadd C dX8_even_191 ?_
                refine j_top (nI_add _ _) ?_
                refine j_istore (L' := [some (.ref (gad g (84))), some (.int (nI (x))), some (.int (nI (t))), some (.int (nI (cnt (ldOn a u (FAR a wt u t) x) (nM a)))), some (.int (nI ((gMx a u (FAR a wt u t) x (nM a))))), some (.int (nI ((cnt (fun l => decide ((evW a wt u (FAR a wt u t) x) l ≠ wt l)) (l) + 1)))), some (.int (nI (0))), some (.int (nI (l))), some (.int (nI (((gMx a u (FAR a wt u t) x (nM a)) + 1 - v))))]) C dX8_even_192 (by decide) rfl ?_
                refine j_iinc (L' := [some (.ref (gad g (84))), some (.int (nI (x))), some (.int (nI (t))), some (.int (nI (cnt (ldOn a u (FAR a wt u t) x) (nM a)))), some (.int (nI ((gMx a u (FAR a wt u t) x (nM a))))), some (.int (nI ((cnt (fun l => decide ((evW a wt u (FAR a wt u t) x) l ≠ wt l)) (l) + 1)))), some (.int (nI (0))), some (.int (nI (l + 1))), some (.int (nI (((gMx a u (FAR a wt u t) x (nM a)) + 1 - v))))]) C dX8_even_194 rfl (nI_inc _) (by decide) rfl ?_
                refine j_goto (tgt := 116) C dX8_even_197 rfl ?_
                refine J_clr 8 (L' := [some (.ref (gad g (84))), some (.int (nI (x))), some (.int (nI (t))), some (.int (nI (cnt (ldOn a u (FAR a wt u t) x) (nM a)))), some (.int (nI ((gMx a u (FAR a wt u t) x (nM a))))), some (.int (nI ((cnt (fun l => decide ((evW a wt u (FAR a wt u t) x) l ≠ wt l)) (l) + 1)))), some (.int (nI (0))), some (.int (nI (l + 1))), none]) rfl ?_
                refine J_loc (L' := [some (.ref (gad g (84))), some (.int (nI (x))), some (.int (nI (t))), some (.int (nI (cnt (ldOn a u (FAR a wt u t) x) (nM a)))), some (.int (nI ((gMx a u (FAR a wt u t) x (nM a))))), some (.int (nI (cnt (fun l => decide ((evW a wt u (FAR a wt u t) x) l ≠ wt l)) (l + 1)))), some (.int (bI (okE (decide (x ≠ t) && decide (2 ≤ cnt (ldOn a u (FAR a wt u t) x) (nM a))) (evW a wt u (FAR a wt u t) x) (l + 1)))), some (.int (nI (l + 1))), none]) (by
                  rw [show (okE (decide (x ≠ t) && decide (2 ≤ cnt (ldOn a u (FAR a wt u t) x) (nM a))) (evW a wt u (FAR a wt u t) x) (l + 1)) = ((okE (decide (x ≠ t) && decide (2 ≤ cnt (ldOn a u (FAR a wt u t) x) (nM a))) (evW a wt u (FAR a wt u t) x) l) && decide ((evW a wt u (FAR a wt u t) x) l ≤ 20)) from rfl, hok]
                  first
                    | (rw [cnt_miss (p := (fun l => decide ((evW a wt u (FAR a wt u t) x) l ≠ wt l))) (decide_eq_false (by omega)), show decide ((evW a wt u (FAR a wt u t) x) l ≤ 20) = true from decide_eq_true (by omega)]; rfl)
                    | (rw [cnt_miss (p := (fun l => decide ((evW a wt u (FAR a wt u t) x) l ≠ wt l))) (decide_eq_false (by omega)), show decide ((evW a wt u (FAR a wt u t) x) l ≤ 20) = false from decide_eq_false (by omega)]; rfl)
                    | (rw [cnt_hit (p := (fun l => decide ((evW a wt u (FAR a wt u t) x) l ≠ wt l))) (decide_eq_true (by omega)), show decide ((evW a wt u (FAR a wt u t) x) l ≤ 20) = true from decide_eq_true (by omega)]; rfl)
                    | (rw [cnt_hit (p := (fun l => decide ((evW a wt u (FAR a wt u t) x) l ≠ wt l))) (decide_eq_true (by omega)), show decide ((evW a wt u (FAR a wt u t) x) l ≤ 20) = false from decide_eq_false (by omega)]; rfl)
                    | (rw [cnt_miss (p := (fun l => decide ((evW a wt u (FAR a wt u t) x) l ≠ wt l))) (decide_eq_false (by omega))]; rfl)
                    | (rw [cnt_hit (p := (fun l => decide ((evW a wt u (FAR a wt u t) x) l ≠ wt l))) (decide_eq_true (by omega))]; rfl)) (ih (nM a - (l + 1)) (by omega) (l + 1) rfl (by omega))
            · refine j_iconst (v := nI 1) C dX8_even_165 rfl ?_
              refine j_goto (tgt := 170) C dX8_even_166 rfl ?_
              refine j_istore (L' := [some (.ref (gad g (84))), some (.int (nI (x))), some (.int (nI (t))), some (.int (nI (cnt (ldOn a u (FAR a wt u t) x) (nM a)))), some (.int (nI ((gMx a u (FAR a wt u t) x (nM a))))), some (.int (nI (cnt (fun l => decide ((evW a wt u (FAR a wt u t) x) l ≠ wt l)) (l)))), some (.int (nI (1))), some (.int (nI (l))), some (.int (nI (((gMx a u (FAR a wt u t) x (nM a)) + 1 - v))))]) C dX8_even_170 (by decide) rfl ?_
              refine j_iload C dX8_even_172 rfl ?_
              refine j_iload C dX8_even_174 rfl ?_
              refine j_aload_n C dX8_even_176 rfl rfl ?_
              refine j_get C flX8_25 dX8_even_177 (Nat.lt_of_lt_of_le (by decide) hN) rfl rfl ?_
              refine j_iload C dX8_even_180 rfl ?_
              refine j_iald C dX8_even_182 (Nat.lt_of_lt_of_le (by decide) hN) (fun _ => rfl) (by decide) (by omega) ?_
              refine j_top ((hf _ _ (by omega)).trans (hW.1 l (by omega))) ?_
              refine j_icmpn_eq (tgt := 190) C dX8_even_183 rfl (by omega) (by omega) (fun h183 => ?_) (fun h183 => ?_)
              · refine j_iconst (v := nI 0) C dX8_even_190 rfl ?_
                refine j_iadd C dX8_even_191 ?_
                refine j_top (nI_add _ _) ?_
                refine j_istore (L' := [some (.ref (gad g (84))), some (.int (nI (x))), some (.int (nI (t))), some (.int (nI (cnt (ldOn a u (FAR a wt u t) x) (nM a)))), some (.int (nI ((gMx a u (FAR a wt u t) x (nM a))))), some (.int (nI ((cnt (fun l => decide ((evW a wt u (FAR a wt u t) x) l ≠ wt l)) (l) + 0)))), some (.int (nI (1))), some (.int (nI (l))), some (.int (nI (((gMx a u (FAR a wt u t) x (nM a)) + 1 - v))))]) C dX8_even_192 (by decide) rfl ?_
                refine j_iinc (L' := [some (.ref (gad g (84))), some (.int (nI (x))), some (.int (nI (t))), some (.int (nI (cnt (ldOn a u (FAR a wt u t) x) (nM a)))), some (.int (nI ((gMx a u (FAR a wt u t) x (nM a))))), some (.int (nI ((cnt (fun l => decide ((evW a wt u (FAR a wt u t) x) l ≠ wt l)) (l) + 0)))), some (.int (nI (1))), some (.int (nI (l + 1))), some (.int (nI (((gMx a u (FAR a wt u t) x (nM a)) + 1 - v))))]) C dX8_even_194 rfl (nI_inc _) (by decide) rfl ?_
                refine j_goto (tgt := 116) C dX8_even_197 rfl ?_
                refine J_clr 8 (L' := [some (.ref (gad g (84))), some (.int (nI (x))), some (.int (nI (t))), some (.int (nI (cnt (ldOn a u (FAR a wt u t) x) (nM a)))), some (.int (nI ((gMx a u (FAR a wt u t) x (nM a))))), some (.int (nI ((cnt (fun l => decide ((evW a wt u (FAR a wt u t) x) l ≠ wt l)) (l) + 0)))), some (.int (nI (1))), some (.int (nI (l + 1))), none]) rfl ?_
                refine J_loc (L' := [some (.ref (gad g (84))), some (.int (nI (x))), some (.int (nI (t))), some (.int (nI (cnt (ldOn a u (FAR a wt u t) x) (nM a)))), some (.int (nI ((gMx a u (FAR a wt u t) x (nM a))))), some (.int (nI (cnt (fun l => decide ((evW a wt u (FAR a wt u t) x) l ≠ wt l)) (l + 1)))), some (.int (bI (okE (decide (x ≠ t) && decide (2 ≤ cnt (ldOn a u (FAR a wt u t) x) (nM a))) (evW a wt u (FAR a wt u t) x) (l + 1)))), some (.int (nI (l + 1))), none]) (by
                  rw [show (okE (decide (x ≠ t) && decide (2 ≤ cnt (ldOn a u (FAR a wt u t) x) (nM a))) (evW a wt u (FAR a wt u t) x) (l + 1)) = ((okE (decide (x ≠ t) && decide (2 ≤ cnt (ldOn a u (FAR a wt u t) x) (nM a))) (evW a wt u (FAR a wt u t) x) l) && decide ((evW a wt u (FAR a wt u t) x) l ≤ 20)) from rfl, hok]
                  first
                    | (rw [cnt_miss (p := (fun l => decide ((evW a wt u (FAR a wt u t) x) l ≠ wt l))) (decide_eq_false (by omega)), show decide ((evW a wt u (FAR a wt u t) x) l ≤ 20) = true from decide_eq_true (by omega)]; rfl)
                    | (rw [cnt_miss (p := (fun l => decide ((evW a wt u (FAR a wt u t) x) l ≠ wt l))) (decide_eq_false (by omega)), show decide ((evW a wt u (FAR a wt u t) x) l ≤ 20) = false from decide_eq_false (by omega)]; rfl)
                    | (rw [cnt_hit (p := (fun l => decide ((evW a wt u (FAR a wt u t) x) l ≠ wt l))) (decide_eq_true (by omega)), show decide ((evW a wt u (FAR a wt u t) x) l ≤ 20) = true from decide_eq_true (by omega)]; rfl)
                    | (rw [cnt_hit (p := (fun l => decide ((evW a wt u (FAR a wt u t) x) l ≠ wt l))) (decide_eq_true (by omega)), show decide ((evW a wt u (FAR a wt u t) x) l ≤ 20) = false from decide_eq_false (by omega)]; rfl)
                    | (rw [cnt_miss (p := (fun l => decide ((evW a wt u (FAR a wt u t) x) l ≠ wt l))) (decide_eq_false (by omega))]; rfl)
                    | (rw [cnt_hit (p := (fun l => decide ((evW a wt u (FAR a wt u t) x) l ≠ wt l))) (decide_eq_true (by omega))]; rfl)) (ih (nM a - (l + 1)) (by omega) (l + 1) rfl (by omega))
              · refine j_iconst (v := nI 1) C dX8_even_186 rfl ?_
                refine j_goto (tgt := 191) C dX8_even_187 rfl ?_
                refine j_iadd C dX8_even_191 ?_
                refine j_top (nI_add _ _) ?_
                refine j_istore (L' := [some (.ref (gad g (84))), some (.int (nI (x))), some (.int (nI (t))), some (.int (nI (cnt (ldOn a u (FAR a wt u t) x) (nM a)))), some (.int (nI ((gMx a u (FAR a wt u t) x (nM a))))), some (.int (nI ((cnt (fun l => decide ((evW a wt u (FAR a wt u t) x) l ≠ wt l)) (l) + 1)))), some (.int (nI (1))), some (.int (nI (l))), some (.int (nI (((gMx a u (FAR a wt u t) x (nM a)) + 1 - v))))]) C dX8_even_192 (by decide) rfl ?_
                refine j_iinc (L' := [some (.ref (gad g (84))), some (.int (nI (x))), some (.int (nI (t))), some (.int (nI (cnt (ldOn a u (FAR a wt u t) x) (nM a)))), some (.int (nI ((gMx a u (FAR a wt u t) x (nM a))))), some (.int (nI ((cnt (fun l => decide ((evW a wt u (FAR a wt u t) x) l ≠ wt l)) (l) + 1)))), some (.int (nI (1))), some (.int (nI (l + 1))), some (.int (nI (((gMx a u (FAR a wt u t) x (nM a)) + 1 - v))))]) C dX8_even_194 rfl (nI_inc _) (by decide) rfl ?_
                refine j_goto (tgt := 116) C dX8_even_197 rfl ?_
                refine J_clr 8 (L' := [some (.ref (gad g (84))), some (.int (nI (x))), some (.int (nI (t))), some (.int (nI (cnt (ldOn a u (FAR a wt u t) x) (nM a)))), some (.int (nI ((gMx a u (FAR a wt u t) x (nM a))))), some (.int (nI ((cnt (fun l => decide ((evW a wt u (FAR a wt u t) x) l ≠ wt l)) (l) + 1)))), some (.int (nI (1))), some (.int (nI (l + 1))), none]) rfl ?_
                refine J_loc (L' := [some (.ref (gad g (84))), some (.int (nI (x))), some (.int (nI (t))), some (.int (nI (cnt (ldOn a u (FAR a wt u t) x) (nM a)))), some (.int (nI ((gMx a u (FAR a wt u t) x (nM a))))), some (.int (nI (cnt (fun l => decide ((evW a wt u (FAR a wt u t) x) l ≠ wt l)) (l + 1)))), some (.int (bI (okE (decide (x ≠ t) && decide (2 ≤ cnt (ldOn a u (FAR a wt u t) x) (nM a))) (evW a wt u (FAR a wt u t) x) (l + 1)))), some (.int (nI (l + 1))), none]) (by
                  rw [show (okE (decide (x ≠ t) && decide (2 ≤ cnt (ldOn a u (FAR a wt u t) x) (nM a))) (evW a wt u (FAR a wt u t) x) (l + 1)) = ((okE (decide (x ≠ t) && decide (2 ≤ cnt (ldOn a u (FAR a wt u t) x) (nM a))) (evW a wt u (FAR a wt u t) x) l) && decide ((evW a wt u (FAR a wt u t) x) l ≤ 20)) from rfl, hok]
                  first
                    | (rw [cnt_miss (p := (fun l => decide ((evW a wt u (FAR a wt u t) x) l ≠ wt l))) (decide_eq_false (by omega)), show decide ((evW a wt u (FAR a wt u t) x) l ≤ 20) = true from decide_eq_true (by omega)]; rfl)
                    | (rw [cnt_miss (p := (fun l => decide ((evW a wt u (FAR a wt u t) x) l ≠ wt l))) (decide_eq_false (by omega)), show decide ((evW a wt u (FAR a wt u t) x) l ≤ 20) = false from decide_eq_false (by omega)]; rfl)
                    | (rw [cnt_hit (p := (fun l => decide ((evW a wt u (FAR a wt u t) x) l ≠ wt l))) (decide_eq_true (by omega)), show decide ((evW a wt u (FAR a wt u t) x) l ≤ 20) = true from decide_eq_true (by omega)]; rfl)
                    | (rw [cnt_hit (p := (fun l => decide ((evW a wt u (FAR a wt u t) x) l ≠ wt l))) (decide_eq_true (by omega)), show decide ((evW a wt u (FAR a wt u t) x) l ≤ 20) = false from decide_eq_false (by omega)]; rfl)
                    | (rw [cnt_miss (p := (fun l => decide ((evW a wt u (FAR a wt u t) x) l ≠ wt l))) (decide_eq_false (by omega))]; rfl)
                    | (rw [cnt_hit (p := (fun l => decide ((evW a wt u (FAR a wt u t) x) l ≠ wt l))) (decide_eq_true (by omega))]; rfl)) (ih (nM a - (l + 1)) (by omega) (l + 1) rfl (by omega))
        · refine J_loc (L' := [some (.ref (gad g (84))), some (.int (nI (x))), some (.int (nI (t))), some (.int (nI (cnt (ldOn a u (FAR a wt u t) x) (nM a)))), some (.int (nI ((gMx a u (FAR a wt u t) x (nM a))))), some (.int (nI (cnt (fun l => decide ((evW a wt u (FAR a wt u t) x) l ≠ wt l)) (l)))), some (.int (nI (0))), some (.int (nI (l))), none]) (by rw [hok]; rfl) ?_
          obtain ⟨hb1, hb2, hb3, hb4⟩ := hO.2.2.2.2.1 l (by omega)
          have hwl := hw l (by omega)
          refine j_aload_n C dX8_even_125 rfl rfl ?_
          refine j_iload C dX8_even_126 rfl ?_
          refine j_iload_n C dX8_even_128 rfl rfl ?_
          refine j_calli (As := [.int (nI (l)), .int (nI (x))]) (rest := []) C (tX8_isEvened hN (a := a) (u := u) (hI.kept (fun j n h => hf j n (by omega))) hO ((hf _ _ (by omega)).trans hW.2) (l := l) (x := x) (f := (FAR a wt u t)) (by omega) (by omega) h93 hBF) cdX8_isEvened mlX8_192 dX8_even_129 (by decide) (by decide) (Nat.lt_of_lt_of_le (by decide) hN) rfl rfl rfl rfl rfl (Nat.le_of_ble_eq_true rfl) (fun rr_8 τ7 hp_9 => ?_)
          obtain ⟨hs, hr⟩ := hp_9
          replace hs := hs.symm
          subst hs
          rcases hle2 : (ldOn a u (FAR a wt u t) x) l with _ | _ <;> rw [hle2] at hr <;> subst hr
          · refine j_ifn_eq (tgt := 194) C dX8_even_132 rfl (by omega) (fun _ => ?_) (fun h => absurd h (by decide))
            refine j_iinc (L' := [some (.ref (gad g (84))), some (.int (nI (x))), some (.int (nI (t))), some (.int (nI (cnt (ldOn a u (FAR a wt u t) x) (nM a)))), some (.int (nI ((gMx a u (FAR a wt u t) x (nM a))))), some (.int (nI (cnt (fun l => decide ((evW a wt u (FAR a wt u t) x) l ≠ wt l)) (l)))), some (.int (nI (0))), some (.int (nI (l + 1))), none]) C dX8_even_194 rfl (nI_inc _) (by decide) rfl ?_
            refine j_goto (tgt := 116) C dX8_even_197 rfl ?_
            have hev : (evW a wt u (FAR a wt u t) x) l = wt l := by unfold evW; rw [if_neg (by rw [hle2]; decide)]
            refine J_loc (L' := [some (.ref (gad g (84))), some (.int (nI (x))), some (.int (nI (t))), some (.int (nI (cnt (ldOn a u (FAR a wt u t) x) (nM a)))), some (.int (nI ((gMx a u (FAR a wt u t) x (nM a))))), some (.int (nI (cnt (fun l => decide ((evW a wt u (FAR a wt u t) x) l ≠ wt l)) (l + 1)))), some (.int (bI (okE (decide (x ≠ t) && decide (2 ≤ cnt (ldOn a u (FAR a wt u t) x) (nM a))) (evW a wt u (FAR a wt u t) x) (l + 1)))), some (.int (nI (l + 1))), none]) (by
              rw [show (okE (decide (x ≠ t) && decide (2 ≤ cnt (ldOn a u (FAR a wt u t) x) (nM a))) (evW a wt u (FAR a wt u t) x) (l + 1)) = ((okE (decide (x ≠ t) && decide (2 ≤ cnt (ldOn a u (FAR a wt u t) x) (nM a))) (evW a wt u (FAR a wt u t) x) l) && decide ((evW a wt u (FAR a wt u t) x) l ≤ 20)) from rfl, hok]
              first
                | (rw [cnt_miss (p := (fun l => decide ((evW a wt u (FAR a wt u t) x) l ≠ wt l))) (decide_eq_false (by omega)), show decide ((evW a wt u (FAR a wt u t) x) l ≤ 20) = true from decide_eq_true (by omega)]; rfl)
                | (rw [cnt_miss (p := (fun l => decide ((evW a wt u (FAR a wt u t) x) l ≠ wt l))) (decide_eq_false (by omega)), show decide ((evW a wt u (FAR a wt u t) x) l ≤ 20) = false from decide_eq_false (by omega)]; rfl)
                | (rw [cnt_hit (p := (fun l => decide ((evW a wt u (FAR a wt u t) x) l ≠ wt l))) (decide_eq_true (by omega)), show decide ((evW a wt u (FAR a wt u t) x) l ≤ 20) = true from decide_eq_true (by omega)]; rfl)
                | (rw [cnt_hit (p := (fun l => decide ((evW a wt u (FAR a wt u t) x) l ≠ wt l))) (decide_eq_true (by omega)), show decide ((evW a wt u (FAR a wt u t) x) l ≤ 20) = false from decide_eq_false (by omega)]; rfl)
                | (rw [cnt_miss (p := (fun l => decide ((evW a wt u (FAR a wt u t) x) l ≠ wt l))) (decide_eq_false (by omega))]; rfl)
                | (rw [cnt_hit (p := (fun l => decide ((evW a wt u (FAR a wt u t) x) l ≠ wt l))) (decide_eq_true (by omega))]; rfl)) (ih (nM a - (l + 1)) (by omega) (l + 1) rfl (by omega))
          · obtain ⟨v, hfv⟩ := ldOn_ex hle2
            have hvb := hBF _ _ hfv
            refine j_ifn_eq (tgt := 194) C dX8_even_132 rfl (by omega) (fun h => absurd h (by decide)) (fun _ => ?_)
            have hvg := gMx_ge hle2 hfv (show l < nM a by omega)
            have hev : (evW a wt u (FAR a wt u t) x) l = (gMx a u (FAR a wt u t) x (nM a)) + 1 - v := by unfold evW; rw [if_pos hle2, hfv]; rfl
            refine j_iload C dX8_even_135 rfl ?_
            refine j_iconst (v := nI 1) C dX8_even_137 rfl ?_
            refine j_iadd C dX8_even_138 ?_
            refine j_top (nI_add _ _) ?_
            refine j_aload_n C dX8_even_139 rfl rfl ?_
            refine j_get C flX8_34 dX8_even_140 (Nat.lt_of_lt_of_le (by decide) hN) rfl rfl ?_
            refine j_aload_n C dX8_even_143 rfl rfl ?_
            refine j_iload C dX8_even_144 rfl ?_
            refine j_calli (As := [.int (nI (l))]) (rest := [.ref (gad g (93)), .int (nI (((gMx a u (FAR a wt u t) x (nM a)) + 1)))]) C (tX8_end hN (hI.kept (fun j n h => hf j n (by omega))) hO (l := l) (by omega)) cdX8_end mlX8_120 dX8_even_146 (by decide) (by decide) (Nat.lt_of_lt_of_le (by decide) hN) rfl rfl rfl rfl rfl (Nat.le_of_ble_eq_true rfl) (fun rr_11 τ10 hp_12 => ?_)
            obtain ⟨hs, hr⟩ := hp_12
            replace hs := hs.symm
            subst hs
            subst hr
            refine j_iald C dX8_even_149 (Nat.lt_of_lt_of_le (by decide) hN) (fun _ => rfl) (by decide) (by omega) ?_
            refine j_top ((h93 (nTo a l) (by omega)).trans (congrArg c4 hfv)) ?_
            refine j_isub C dX8_even_150 ?_
            refine j_top (pk_sub (by omega)) ?_
            refine j_istore (L' := [some (.ref (gad g (84))), some (.int (nI (x))), some (.int (nI (t))), some (.int (nI (cnt (ldOn a u (FAR a wt u t) x) (nM a)))), some (.int (nI ((gMx a u (FAR a wt u t) x (nM a))))), some (.int (nI (cnt (fun l => decide ((evW a wt u (FAR a wt u t) x) l ≠ wt l)) (l)))), some (.int (nI (0))), some (.int (nI (l))), some (.int (nI (((gMx a u (FAR a wt u t) x (nM a)) + 1 - v))))]) C dX8_even_151 (by decide) rfl ?_
            refine j_iload C dX8_even_153 rfl ?_
            refine j_ifn_eq (tgt := 169) C dX8_even_155 rfl (by omega) (fun _ => ?_) (fun h => absurd h (by decide))
            refine j_iconst (v := nI 0) C dX8_even_169 rfl ?_
            refine j_istore (L' := [some (.ref (gad g (84))), some (.int (nI (x))), some (.int (nI (t))), some (.int (nI (cnt (ldOn a u (FAR a wt u t) x) (nM a)))), some (.int (nI ((gMx a u (FAR a wt u t) x (nM a))))), some (.int (nI (cnt (fun l => decide ((evW a wt u (FAR a wt u t) x) l ≠ wt l)) (l)))), some (.int (nI (0))), some (.int (nI (l))), some (.int (nI (((gMx a u (FAR a wt u t) x (nM a)) + 1 - v))))]) C dX8_even_170 (by decide) rfl ?_
            refine j_iload C dX8_even_172 rfl ?_
            refine j_iload C dX8_even_174 rfl ?_
            refine j_aload_n C dX8_even_176 rfl rfl ?_
            refine j_get C flX8_25 dX8_even_177 (Nat.lt_of_lt_of_le (by decide) hN) rfl rfl ?_
            refine j_iload C dX8_even_180 rfl ?_
            refine j_iald C dX8_even_182 (Nat.lt_of_lt_of_le (by decide) hN) (fun _ => rfl) (by decide) (by omega) ?_
            refine j_top ((hf _ _ (by omega)).trans (hW.1 l (by omega))) ?_
            refine j_icmpn_eq (tgt := 190) C dX8_even_183 rfl (by omega) (by omega) (fun h183 => ?_) (fun h183 => ?_)
            · refine j_iconst (v := nI 0) C dX8_even_190 rfl ?_
              refine j_iadd C dX8_even_191 ?_
              refine j_top (nI_add _ _) ?_
              refine j_istore (L' := [some (.ref (gad g (84))), some (.int (nI (x))), some (.int (nI (t))), some (.int (nI (cnt (ldOn a u (FAR a wt u t) x) (nM a)))), some (.int (nI ((gMx a u (FAR a wt u t) x (nM a))))), some (.int (nI ((cnt (fun l => decide ((evW a wt u (FAR a wt u t) x) l ≠ wt l)) (l) + 0)))), some (.int (nI (0))), some (.int (nI (l))), some (.int (nI (((gMx a u (FAR a wt u t) x (nM a)) + 1 - v))))]) C dX8_even_192 (by decide) rfl ?_
              refine j_iinc (L' := [some (.ref (gad g (84))), some (.int (nI (x))), some (.int (nI (t))), some (.int (nI (cnt (ldOn a u (FAR a wt u t) x) (nM a)))), some (.int (nI ((gMx a u (FAR a wt u t) x (nM a))))), some (.int (nI ((cnt (fun l => decide ((evW a wt u (FAR a wt u t) x) l ≠ wt l)) (l) + 0)))), some (.int (nI (0))), some (.int (nI (l + 1))), some (.int (nI (((gMx a u (FAR a wt u t) x (nM a)) + 1 - v))))]) C dX8_even_194 rfl (nI_inc _) (by decide) rfl ?_
              refine j_goto (tgt := 116) C dX8_even_197 rfl ?_
              refine J_clr 8 (L' := [some (.ref (gad g (84))), some (.int (nI (x))), some (.int (nI (t))), some (.int (nI (cnt (ldOn a u (FAR a wt u t) x) (nM a)))), some (.int (nI ((gMx a u (FAR a wt u t) x (nM a))))), some (.int (nI ((cnt (fun l => decide ((evW a wt u (FAR a wt u t) x) l ≠ wt l)) (l) + 0)))), some (.int (nI (0))), some (.int (nI (l + 1))), none]) rfl ?_
              refine J_loc (L' := [some (.ref (gad g (84))), some (.int (nI (x))), some (.int (nI (t))), some (.int (nI (cnt (ldOn a u (FAR a wt u t) x) (nM a)))), some (.int (nI ((gMx a u (FAR a wt u t) x (nM a))))), some (.int (nI (cnt (fun l => decide ((evW a wt u (FAR a wt u t) x) l ≠ wt l)) (l + 1)))), some (.int (bI (okE (decide (x ≠ t) && decide (2 ≤ cnt (ldOn a u (FAR a wt u t) x) (nM a))) (evW a wt u (FAR a wt u t) x) (l + 1)))), some (.int (nI (l + 1))), none]) (by
                rw [show (okE (decide (x ≠ t) && decide (2 ≤ cnt (ldOn a u (FAR a wt u t) x) (nM a))) (evW a wt u (FAR a wt u t) x) (l + 1)) = ((okE (decide (x ≠ t) && decide (2 ≤ cnt (ldOn a u (FAR a wt u t) x) (nM a))) (evW a wt u (FAR a wt u t) x) l) && decide ((evW a wt u (FAR a wt u t) x) l ≤ 20)) from rfl, hok]
                first
                  | (rw [cnt_miss (p := (fun l => decide ((evW a wt u (FAR a wt u t) x) l ≠ wt l))) (decide_eq_false (by omega)), show decide ((evW a wt u (FAR a wt u t) x) l ≤ 20) = true from decide_eq_true (by omega)]; rfl)
                  | (rw [cnt_miss (p := (fun l => decide ((evW a wt u (FAR a wt u t) x) l ≠ wt l))) (decide_eq_false (by omega)), show decide ((evW a wt u (FAR a wt u t) x) l ≤ 20) = false from decide_eq_false (by omega)]; rfl)
                  | (rw [cnt_hit (p := (fun l => decide ((evW a wt u (FAR a wt u t) x) l ≠ wt l))) (decide_eq_true (by omega)), show decide ((evW a wt u (FAR a wt u t) x) l ≤ 20) = true from decide_eq_true (by omega)]; rfl)
                  | (rw [cnt_hit (p := (fun l => decide ((evW a wt u (FAR a wt u t) x) l ≠ wt l))) (decide_eq_true (by omega)), show decide ((evW a wt u (FAR a wt u t) x) l ≤ 20) = false from decide_eq_false (by omega)]; rfl)
                  | (rw [cnt_miss (p := (fun l => decide ((evW a wt u (FAR a wt u t) x) l ≠ wt l))) (decide_eq_false (by omega))]; rfl)
                  | (rw [cnt_hit (p := (fun l => decide ((evW a wt u (FAR a wt u t) x) l ≠ wt l))) (decide_eq_true (by omega))]; rfl)) (ih (nM a - (l + 1)) (by omega) (l + 1) rfl (by omega))
            · refine j_iconst (v := nI 1) C dX8_even_186 rfl ?_
              refine j_goto (tgt := 191) C dX8_even_187 rfl ?_
              refine j_iadd C dX8_even_191 ?_
              refine j_top (nI_add _ _) ?_
              refine j_istore (L' := [some (.ref (gad g (84))), some (.int (nI (x))), some (.int (nI (t))), some (.int (nI (cnt (ldOn a u (FAR a wt u t) x) (nM a)))), some (.int (nI ((gMx a u (FAR a wt u t) x (nM a))))), some (.int (nI ((cnt (fun l => decide ((evW a wt u (FAR a wt u t) x) l ≠ wt l)) (l) + 1)))), some (.int (nI (0))), some (.int (nI (l))), some (.int (nI (((gMx a u (FAR a wt u t) x (nM a)) + 1 - v))))]) C dX8_even_192 (by decide) rfl ?_
              refine j_iinc (L' := [some (.ref (gad g (84))), some (.int (nI (x))), some (.int (nI (t))), some (.int (nI (cnt (ldOn a u (FAR a wt u t) x) (nM a)))), some (.int (nI ((gMx a u (FAR a wt u t) x (nM a))))), some (.int (nI ((cnt (fun l => decide ((evW a wt u (FAR a wt u t) x) l ≠ wt l)) (l) + 1)))), some (.int (nI (0))), some (.int (nI (l + 1))), some (.int (nI (((gMx a u (FAR a wt u t) x (nM a)) + 1 - v))))]) C dX8_even_194 rfl (nI_inc _) (by decide) rfl ?_
              refine j_goto (tgt := 116) C dX8_even_197 rfl ?_
              refine J_clr 8 (L' := [some (.ref (gad g (84))), some (.int (nI (x))), some (.int (nI (t))), some (.int (nI (cnt (ldOn a u (FAR a wt u t) x) (nM a)))), some (.int (nI ((gMx a u (FAR a wt u t) x (nM a))))), some (.int (nI ((cnt (fun l => decide ((evW a wt u (FAR a wt u t) x) l ≠ wt l)) (l) + 1)))), some (.int (nI (0))), some (.int (nI (l + 1))), none]) rfl ?_
              refine J_loc (L' := [some (.ref (gad g (84))), some (.int (nI (x))), some (.int (nI (t))), some (.int (nI (cnt (ldOn a u (FAR a wt u t) x) (nM a)))), some (.int (nI ((gMx a u (FAR a wt u t) x (nM a))))), some (.int (nI (cnt (fun l => decide ((evW a wt u (FAR a wt u t) x) l ≠ wt l)) (l + 1)))), some (.int (bI (okE (decide (x ≠ t) && decide (2 ≤ cnt (ldOn a u (FAR a wt u t) x) (nM a))) (evW a wt u (FAR a wt u t) x) (l + 1)))), some (.int (nI (l + 1))), none]) (by
                rw [show (okE (decide (x ≠ t) && decide (2 ≤ cnt (ldOn a u (FAR a wt u t) x) (nM a))) (evW a wt u (FAR a wt u t) x) (l + 1)) = ((okE (decide (x ≠ t) && decide (2 ≤ cnt (ldOn a u (FAR a wt u t) x) (nM a))) (evW a wt u (FAR a wt u t) x) l) && decide ((evW a wt u (FAR a wt u t) x) l ≤ 20)) from rfl, hok]
                first
                  | (rw [cnt_miss (p := (fun l => decide ((evW a wt u (FAR a wt u t) x) l ≠ wt l))) (decide_eq_false (by omega)), show decide ((evW a wt u (FAR a wt u t) x) l ≤ 20) = true from decide_eq_true (by omega)]; rfl)
                  | (rw [cnt_miss (p := (fun l => decide ((evW a wt u (FAR a wt u t) x) l ≠ wt l))) (decide_eq_false (by omega)), show decide ((evW a wt u (FAR a wt u t) x) l ≤ 20) = false from decide_eq_false (by omega)]; rfl)
                  | (rw [cnt_hit (p := (fun l => decide ((evW a wt u (FAR a wt u t) x) l ≠ wt l))) (decide_eq_true (by omega)), show decide ((evW a wt u (FAR a wt u t) x) l ≤ 20) = true from decide_eq_true (by omega)]; rfl)
                  | (rw [cnt_hit (p := (fun l => decide ((evW a wt u (FAR a wt u t) x) l ≠ wt l))) (decide_eq_true (by omega)), show decide ((evW a wt u (FAR a wt u t) x) l ≤ 20) = false from decide_eq_false (by omega)]; rfl)
                  | (rw [cnt_miss (p := (fun l => decide ((evW a wt u (FAR a wt u t) x) l ≠ wt l))) (decide_eq_false (by omega))]; rfl)
                  | (rw [cnt_hit (p := (fun l => decide ((evW a wt u (FAR a wt u t) x) l ≠ wt l))) (decide_eq_true (by omega))]; rfl)) (ih (nM a - (l + 1)) (by omega) (l + 1) rfl (by omega))
  have lp3 : ∀ (x t : Nat) (σ0 : Sg), x < nN a → t < nN a → WOk (nM a) (evW a wt u (FAR a wt u t) x) → RNet σ0 a → σ0 90 12 = nI (ub u (nM a)) → σ0 90 13 = nI le → RT σ0 tl → (∀ y, y < 7 → σ0 93 y = c4 ((FAR a wt u t) y)) → (∀ (σ1 : Sg), (∀ j n, ¬ (j = 90 ∨ 94 ≤ j ∧ j ≤ 96 ∨ j = 93 ∨ j = 84 ∧ n = 22) → σ1 j n = σ0 j n) → RS1 σ1 90 0 (nM a) ((evW a wt u (FAR a wt u t) x), u, tl, min le (costN a (evW a wt u (FAR a wt u t) x) u)) → nI (cnt (fun l => decide ((evW a wt u (FAR a wt u t) x) l ≠ wt l)) (nM a)) = (abEven x0 t0 (tx, len, a, (wt, u, tl, le), p)).1 ∧ RI σ1 (abEven x0 t0 (tx, len, a, (wt, u, tl, le), p)).2 ∧ ∀ j n, j < 84 → σ1 j n = σ j n) → ∀ (k l : Nat) (σ1 : Sg), nM a - l = k → l ≤ nM a → (∀ j n, ¬ (j = 90 ∧ n < nM a) → σ1 j n = σ0 j n) → (∀ z, z < l → σ1 90 z = nI ((evW a wt u (FAR a wt u t) x) z)) → (∀ z, l ≤ z → z < nM a → σ1 90 z = nI (wt z)) → J g κ 9 220 [some (.ref (gad g (84))), some (.int (nI (x))), some (.int (nI (t))), some (.int (nI (cnt (ldOn a u (FAR a wt u t) x) (nM a)))), some (.int (nI ((gMx a u (FAR a wt u t) x (nM a))))), some (.int (nI (cnt (fun l => decide ((evW a wt u (FAR a wt u t) x) l ≠ wt l)) (nM a)))), some (.int (nI (1))), some (.int (nI (l))), none] [] σ1 := by
    intro x t σ0 hx ht hwe hI0 hU0 hl0 hT0 h930 kE k
    have hBF : fBd (FAR a wt u t) 1680 := fun x v h => by have := FAR_bd (t := t) hO hw x v h; omega
    induction k using Nat.strongRecOn with
    | _ k ih =>
      intro l σ1 hk hl hf ha hb
      refine j_iload C dX8_even_220 rfl ?_
      refine j_aload_n C dX8_even_222 rfl rfl ?_
      refine j_get C flX8_77 dX8_even_223 (Nat.lt_of_lt_of_le (by decide) hN) rfl rfl ?_
      refine j_top ((hf _ _ (by omega)).trans (hI0.1.2.1)) ?_
      refine j_icmpn_ge (tgt := 278) C dX8_even_226 rfl (by omega) (by omega) (fun h226 => ?_) (fun h226 => ?_)
      · have hIx : RNet σ1 a := hI0.kept (fun j n h => hf j n (by omega))
        have hWx : RW σ1 (nM a) (evW a wt u (FAR a wt u t) x) u := ⟨fun k hk => ha k (by omega), (hf _ _ (by omega)).trans hU0⟩
        have hlx : σ1 90 13 = nI le := (hf _ _ (by omega)).trans hl0
        refine j_aload_n C dX8_even_278 rfl rfl ?_
        refine j_callv (As := []) (rest := []) C (tX8_tellLeast hN (a := a) (w := (evW a wt u (FAR a wt u t) x)) (u := u) (le := le) hIx hO hWx hwe hlx hle31) cdX8_tellLeast mlX8_186 dX8_even_279 (by decide) (by decide) (Nat.lt_of_lt_of_le (by decide) hN) rfl rfl rfl rfl rfl (Nat.le_of_ble_eq_true rfl) (fun τ1 hp_3 => ?_)
        obtain ⟨htf, ht13⟩ := hp_3
        refine j_iload C dX8_even_282 rfl ?_
        refine j_ret M dX8_even_284 ?_
        exact kE τ1 (fun j n h => by rw [htf _ _ (by omega)]; exact hf j n (by omega)) (RS1_mk (hWx.kept hm12 (fun n h => by rw [htf _ _ (by omega)])) ht13 (hT0.kept (fun n h => by rw [htf _ _ (by omega)]; exact hf _ _ (by omega))))
      · obtain ⟨hb1, hb2, hb3, hb4⟩ := hO.2.2.2.2.1 l (by omega)
        have hwl := hw l (by omega)
        have h93 : ∀ y, y < 7 → σ1 93 y = c4 ((FAR a wt u t) y) := fun y hy => (hf _ _ (by omega)).trans (h930 y hy)
        have hgb := gMx_bd (a := a) (u := u) (x := x) hBF (nM a)
        refine j_aload_n C dX8_even_229 rfl rfl ?_
        refine j_get C flX8_25 dX8_even_230 (Nat.lt_of_lt_of_le (by decide) hN) rfl rfl ?_
        refine j_iload C dX8_even_233 rfl ?_
        refine j_aload_n C dX8_even_235 rfl rfl ?_
        refine j_iload C dX8_even_236 rfl ?_
        refine j_iload_n C dX8_even_238 rfl rfl ?_
        refine j_calli (As := [.int (nI (l)), .int (nI (x))]) (rest := [.int (nI (l)), .ref (gad g (90))]) C (tX8_isEvened hN (a := a) (u := u) (hI0.kept (fun j n h => hf j n (by omega))) hO ((hf _ _ (by omega)).trans hU0) (l := l) (x := x) (f := (FAR a wt u t)) (by omega) (by omega) h93 hBF) cdX8_isEvened mlX8_192 dX8_even_239 (by decide) (by decide) (Nat.lt_of_lt_of_le (by decide) hN) rfl rfl rfl rfl rfl (Nat.le_of_ble_eq_true rfl) (fun rr_5 τ4 hp_6 => ?_)
        obtain ⟨hs, hr⟩ := hp_6
        replace hs := hs.symm
        subst hs
        rcases hle2 : (ldOn a u (FAR a wt u t) x) l with _ | _ <;> rw [hle2] at hr <;> subst hr
        · refine j_ifn_eq (tgt := 264) C dX8_even_242 rfl (by omega) (fun _ => ?_) (fun h => absurd h (by decide))
          refine j_aload_n C dX8_even_264 rfl rfl ?_
          refine j_get C flX8_25 dX8_even_265 (Nat.lt_of_lt_of_le (by decide) hN) rfl rfl ?_
          refine j_iload C dX8_even_268 rfl ?_
          refine j_iald C dX8_even_270 (Nat.lt_of_lt_of_le (by decide) hN) (fun _ => rfl) (by decide) (by omega) ?_
          refine j_top (hb l (by omega) (by omega)) ?_
          refine j_iast' C dX8_even_271 (Nat.lt_of_lt_of_le (by decide) hN) (fun _ => rfl) (by decide) (by omega) (fun τ7 hz_8 hw_9 => ?_)
          refine j_iinc (L' := [some (.ref (gad g (84))), some (.int (nI (x))), some (.int (nI (t))), some (.int (nI (cnt (ldOn a u (FAR a wt u t) x) (nM a)))), some (.int (nI ((gMx a u (FAR a wt u t) x (nM a))))), some (.int (nI (cnt (fun l => decide ((evW a wt u (FAR a wt u t) x) l ≠ wt l)) (nM a)))), some (.int (nI (1))), some (.int (nI (l + 1))), none]) C dX8_even_272 rfl (nI_inc _) (by decide) rfl ?_
          refine j_goto (tgt := 220) C dX8_even_275 rfl ?_
          have hev : (evW a wt u (FAR a wt u t) x) l = wt l := by unfold evW; rw [if_neg (by rw [hle2]; decide)]
          refine ih (nM a - (l + 1)) (by omega) (l + 1) τ7 rfl (by omega) (fun j n h => by rw [hz_8 _ _ (by omega)]; exact hf j n h) (fun z hz => ?_) (fun z h1 h2 => by rw [hz_8 _ _ (by omega)]; exact hb z (by omega) h2)
          by_cases e : z = l
          · subst e; rw [hev]; exact hw_9
          · rw [hz_8 _ _ (by omega)]; exact ha z (by omega)
        · obtain ⟨v, hfv⟩ := ldOn_ex hle2
          have hvb := hBF _ _ hfv
          refine j_ifn_eq (tgt := 264) C dX8_even_242 rfl (by omega) (fun h => absurd h (by decide)) (fun _ => ?_)
          have hvg := gMx_ge hle2 hfv (show l < nM a by omega)
          refine j_iload C dX8_even_245 rfl ?_
          refine j_iconst (v := nI 1) C dX8_even_247 rfl ?_
          refine j_iadd C dX8_even_248 ?_
          refine j_top (nI_add _ _) ?_
          refine j_aload_n C dX8_even_249 rfl rfl ?_
          refine j_get C flX8_34 dX8_even_250 (Nat.lt_of_lt_of_le (by decide) hN) rfl rfl ?_
          refine j_aload_n C dX8_even_253 rfl rfl ?_
          refine j_iload C dX8_even_254 rfl ?_
          refine j_calli (As := [.int (nI (l))]) (rest := [.ref (gad g (93)), .int (nI (((gMx a u (FAR a wt u t) x (nM a)) + 1))), .int (nI (l)), .ref (gad g (90))]) C (tX8_end hN (hI0.kept (fun j n h => hf j n (by omega))) hO (l := l) (by omega)) cdX8_end mlX8_120 dX8_even_256 (by decide) (by decide) (Nat.lt_of_lt_of_le (by decide) hN) rfl rfl rfl rfl rfl (Nat.le_of_ble_eq_true rfl) (fun rr_11 τ10 hp_12 => ?_)
          obtain ⟨hs, hr⟩ := hp_12
          replace hs := hs.symm
          subst hs
          subst hr
          refine j_iald C dX8_even_259 (Nat.lt_of_lt_of_le (by decide) hN) (fun _ => rfl) (by decide) (by omega) ?_
          refine j_top ((h93 (nTo a l) (by omega)).trans (congrArg c4 hfv)) ?_
          refine j_isub C dX8_even_260 ?_
          refine j_top (pk_sub (by omega)) ?_
          refine j_goto (tgt := 271) C dX8_even_261 rfl ?_
          refine j_iast' C dX8_even_271 (Nat.lt_of_lt_of_le (by decide) hN) (fun _ => rfl) (by decide) (by omega) (fun τ13 hz_14 hw_15 => ?_)
          refine j_iinc (L' := [some (.ref (gad g (84))), some (.int (nI (x))), some (.int (nI (t))), some (.int (nI (cnt (ldOn a u (FAR a wt u t) x) (nM a)))), some (.int (nI ((gMx a u (FAR a wt u t) x (nM a))))), some (.int (nI (cnt (fun l => decide ((evW a wt u (FAR a wt u t) x) l ≠ wt l)) (nM a)))), some (.int (nI (1))), some (.int (nI (l + 1))), none]) C dX8_even_272 rfl (nI_inc _) (by decide) rfl ?_
          refine j_goto (tgt := 220) C dX8_even_275 rfl ?_
          have hev : (evW a wt u (FAR a wt u t) x) l = (gMx a u (FAR a wt u t) x (nM a)) + 1 - v := by unfold evW; rw [if_pos hle2, hfv]; rfl
          refine ih (nM a - (l + 1)) (by omega) (l + 1) τ13 rfl (by omega) (fun j n h => by rw [hz_14 _ _ (by omega)]; exact hf j n h) (fun z hz => ?_) (fun z h1 h2 => by rw [hz_14 _ _ (by omega)]; exact hb z (by omega) h2)
          by_cases e : z = l
          · subst e; rw [hev]; exact hw_15
          · rw [hz_14 _ _ (by omega)]; exact ha z (by omega)
  refine j_aload_n C dX8_even_0 rfl rfl ?_
  refine j_iload_n C dX8_even_1 rfl rfl ?_
  refine j_calli (As := [.int (x0)]) (rest := []) C (tX8_isNode hN (b := nN a) hI.1.1 (by omega) (by omega) _) cdX8_isNode mlX8_189 dX8_even_2 (by decide) (by decide) (Nat.lt_of_lt_of_le (by decide) hN) rfl rfl rfl rfl rfl (Nat.le_of_ble_eq_true rfl) (fun rr_2 τ1 hp_3 => ?_)
  obtain ⟨hs, hc⟩ := hp_3
  replace hs := hs.symm
  subst hs
  rcases hc with ⟨rfl, x, hx, rfl⟩ | ⟨rfl, hno⟩
  · refine j_ifn_eq (tgt := 16) C dX8_even_5 rfl (by omega) (fun h => absurd h (by decide)) (fun _ => ?_)
    refine j_aload_n C dX8_even_8 rfl rfl ?_
    refine j_iload_n C dX8_even_9 rfl rfl ?_
    refine j_calli (As := [.int (t0)]) (rest := []) C (tX8_isNode hN (b := nN a) hI.1.1 (by omega) (by omega) _) cdX8_isNode mlX8_189 dX8_even_10 (by decide) (by decide) (Nat.lt_of_lt_of_le (by decide) hN) rfl rfl rfl rfl rfl (Nat.le_of_ble_eq_true rfl) (fun rr_5 τ4 hp_6 => ?_)
    obtain ⟨hs, hc⟩ := hp_6
    replace hs := hs.symm
    subst hs
    rcases hc with ⟨rfl, t, ht, rfl⟩ | ⟨rfl, hno2⟩
    · refine j_ifn_ne (tgt := 18) C dX8_even_13 rfl (by omega) (fun _ => ?_) (fun h => absurd h (by decide))
      refine j_aload_n C dX8_even_18 rfl rfl ?_
      refine j_iload_n C dX8_even_19 rfl rfl ?_
      refine j_callv (As := [.int (nI (t))]) (rest := []) C (tX8_findFar hN hI hO hW hw (t := t) (by omega)) cdX8_findFar mlX8_133 dX8_even_20 (by decide) (by decide) (Nat.lt_of_lt_of_le (by decide) hN) rfl rfl rfl rfl rfl (Nat.le_of_ble_eq_true rfl) (fun τ7 hp_9 => ?_)
      obtain ⟨hff, h93⟩ := hp_9
      refine j_iconst (v := nI 0) C dX8_even_23 rfl ?_
      refine j_istore_n (L' := [some (.ref (gad g (84))), some (.int (nI (x))), some (.int (nI (t))), some (.int (nI (0))), none, none, none, none, none]) C dX8_even_24 rfl (by decide) rfl ?_
      refine j_iconst (v := nI 0) C dX8_even_25 rfl ?_
      refine j_istore (L' := [some (.ref (gad g (84))), some (.int (nI (x))), some (.int (nI (t))), some (.int (nI (0))), some (.int (nI (0))), none, none, none, none]) C dX8_even_26 (by decide) rfl ?_
      refine j_iconst (v := nI 0) C dX8_even_28 rfl ?_
      refine j_istore (L' := [some (.ref (gad g (84))), some (.int (nI (x))), some (.int (nI (t))), some (.int (nI (0))), some (.int (nI (0))), some (.int (nI (0))), none, none, none]) C dX8_even_29 (by decide) rfl ?_
      have k200 : J g κ 9 200 [some (.ref (gad g (84))), some (.int (nI (x))), some (.int (nI (t))), some (.int (nI (cnt (ldOn a u (FAR a wt u t) x) (nM a)))), some (.int (nI ((gMx a u (FAR a wt u t) x (nM a))))), some (.int (nI (cnt (fun l => decide ((evW a wt u (FAR a wt u t) x) l ≠ wt l)) (nM a)))), some (.int (bI (okE (decide (x ≠ t) && decide (2 ≤ cnt (ldOn a u (FAR a wt u t) x) (nM a))) (evW a wt u (FAR a wt u t) x) (nM a)))), some (.int (nI (nM a))), none] [] τ7 := by
        have hcl := cnt_le (fun l => decide ((evW a wt u (FAR a wt u t) x) l ≠ wt l)) (nM a)
        rcases (show (okE (decide (x ≠ t) && decide (2 ≤ cnt (ldOn a u (FAR a wt u t) x) (nM a))) (evW a wt u (FAR a wt u t) x) (nM a)) = true ∨ (okE (decide (x ≠ t) && decide (2 ≤ cnt (ldOn a u (FAR a wt u t) x) (nM a))) (evW a wt u (FAR a wt u t) x) (nM a)) = false by cases (okE (decide (x ≠ t) && decide (2 ≤ cnt (ldOn a u (FAR a wt u t) x) (nM a))) (evW a wt u (FAR a wt u t) x) (nM a)) <;> simp) with hok | hok
        · refine J_loc (L' := [some (.ref (gad g (84))), some (.int (nI (x))), some (.int (nI (t))), some (.int (nI (cnt (ldOn a u (FAR a wt u t) x) (nM a)))), some (.int (nI ((gMx a u (FAR a wt u t) x (nM a))))), some (.int (nI (cnt (fun l => decide ((evW a wt u (FAR a wt u t) x) l ≠ wt l)) (nM a)))), some (.int (nI (1))), some (.int (nI (nM a))), none]) (by rw [hok]; rfl) ?_
          obtain ⟨hok1, hok2⟩ := okE_iff.mp hok
          rw [Bool.and_eq_true, decide_eq_true_iff, decide_eq_true_iff] at hok1
          refine j_iload C dX8_even_200 rfl ?_
          refine j_ifn_eq (tgt := 210) C dX8_even_202 rfl (by omega) (fun h => absurd h (by decide)) (fun _ => ?_)
          refine j_iload C dX8_even_205 rfl ?_
          refine j_ifn_ne (tgt := 213) C dX8_even_207 rfl (by omega) (fun h207 => ?_) (fun h207 => ?_)
          · refine j_aload_n C dX8_even_213 rfl rfl ?_
            refine j_callv (As := []) (rest := []) C (tX8_note hN (c := p.length) (by rw [hff _ _ (by omega)]; exact hPl) hp6) cdX8_note mlX8_183 dX8_even_214 (by decide) (by decide) (Nat.lt_of_lt_of_le (by decide) hN) rfl rfl rfl rfl rfl (Nat.le_of_ble_eq_true rfl) (fun τ201 hp_203 => ?_)
            obtain ⟨hnf, hn15, hnk, hnb⟩ := hp_203
            refine j_iconst (v := nI 0) C dX8_even_217 rfl ?_
            refine j_istore (L' := [some (.ref (gad g (84))), some (.int (nI (x))), some (.int (nI (t))), some (.int (nI (cnt (ldOn a u (FAR a wt u t) x) (nM a)))), some (.int (nI ((gMx a u (FAR a wt u t) x (nM a))))), some (.int (nI (cnt (fun l => decide ((evW a wt u (FAR a wt u t) x) l ≠ wt l)) (nM a)))), some (.int (nI (1))), some (.int (nI (0))), none]) C dX8_even_218 (by decide) rfl ?_
            refine lp3 x t τ201 hx ht (fun l hl => ⟨evW_ge hw hl, hok2 l hl⟩) (hI.kept (fun j n h => by rw [hnf _ _ (by omega), hff _ _ (by omega)])) (by rw [hnf _ _ (by omega), hff _ _ (by omega)]; exact hW.2) (by rw [hnf _ _ (by omega), hff _ _ (by omega)]; exact hle) (hT.kept (fun n h => by rw [hnf _ _ (by omega), hff _ _ (by omega)])) (fun y hy => by rw [hnf _ _ (by omega)]; exact h93 y hy) ?_ (nM a - 0) 0 τ201 rfl (by omega) (fun _ _ _ => rfl) (fun z hz => by omega) (fun z _ hz => by rw [hnf _ _ (by omega), hff _ _ (by omega)]; exact hW.1 z hz)
            intro σ1 hf hR
            rw [abEven, pIf_t ⟨⟨x, hx, rfl⟩, ⟨t, ht, rfl⟩⟩, idx_nI (by omega), idx_nI (by omega)]
            dsimp only
            rw [pIf_t ⟨hok1.1, hok1.2, hok2, by omega⟩]
            exact ⟨rfl, RI_chg hC hA (fun j n h => by rw [hf _ _ (by omega), hnf _ _ (by omega), hff _ _ (by omega)]) (by rw [hf _ _ (by omega)]; exact hn15) (fun k hk => by rw [hf _ _ (by omega), hnk k hk, hff _ _ (by omega)]) (fun n hn => by rw [hf _ _ (by omega), hnb n hn, hff _ _ (by omega), hff _ _ (by omega)]) hR, fun j n h => by rw [hf _ _ (by omega), hnf _ _ (by omega), hff _ _ (by omega)]⟩
          · refine j_bipush (v := -2) C dX8_even_210 rfl ?_
            refine j_ret M dX8_even_212 ?_
            rw [abEven, pIf_t ⟨⟨x, hx, rfl⟩, ⟨t, ht, rfl⟩⟩, idx_nI (by omega), idx_nI (by omega)]
            dsimp only
            rw [pIf_f (fun q => by
              first
                | (have q1 : (okE (decide (x ≠ t) && decide (2 ≤ cnt (ldOn a u (FAR a wt u t) x) (nM a))) (evW a wt u (FAR a wt u t) x) (nM a)) = true := okE_iff.mpr ⟨by rw [Bool.and_eq_true, decide_eq_true_iff, decide_eq_true_iff]; exact ⟨q.1, q.2.1⟩, q.2.2.1⟩; rw [hok] at q1; cases q1; done)
                | (have q1 := q.2.2.2; omega))]
            exact ⟨rfl, hC.kept hA (fun j n h => by rw [hff _ _ (by omega)]), fun j n h => by rw [hff _ _ (by omega)]⟩
        · refine J_loc (L' := [some (.ref (gad g (84))), some (.int (nI (x))), some (.int (nI (t))), some (.int (nI (cnt (ldOn a u (FAR a wt u t) x) (nM a)))), some (.int (nI ((gMx a u (FAR a wt u t) x (nM a))))), some (.int (nI (cnt (fun l => decide ((evW a wt u (FAR a wt u t) x) l ≠ wt l)) (nM a)))), some (.int (nI (0))), some (.int (nI (nM a))), none]) (by rw [hok]; rfl) ?_
          refine j_iload C dX8_even_200 rfl ?_
          refine j_ifn_eq (tgt := 210) C dX8_even_202 rfl (by omega) (fun _ => ?_) (fun h => absurd h (by decide))
          refine j_bipush (v := -2) C dX8_even_210 rfl ?_
          refine j_ret M dX8_even_212 ?_
          rw [abEven, pIf_t ⟨⟨x, hx, rfl⟩, ⟨t, ht, rfl⟩⟩, idx_nI (by omega), idx_nI (by omega)]
          dsimp only
          rw [pIf_f (fun q => by
            first
              | (have q1 : (okE (decide (x ≠ t) && decide (2 ≤ cnt (ldOn a u (FAR a wt u t) x) (nM a))) (evW a wt u (FAR a wt u t) x) (nM a)) = true := okE_iff.mpr ⟨by rw [Bool.and_eq_true, decide_eq_true_iff, decide_eq_true_iff]; exact ⟨q.1, q.2.1⟩, q.2.2.1⟩; rw [hok] at q1; cases q1; done)
              | (have q1 := q.2.2.2; omega))]
          exact ⟨rfl, hC.kept hA (fun j n h => by rw [hff _ _ (by omega)]), fun j n h => by rw [hff _ _ (by omega)]⟩
      refine lp1 x t τ7 hx ht hff h93 ?_ (nM a - 0) 0 rfl (by omega)
      have hcl2 := cnt_le (ldOn a u (FAR a wt u t) x) (nM a)
      refine j_iconst (v := nI 0) C dX8_even_93 rfl ?_
      refine j_istore (L' := [some (.ref (gad g (84))), some (.int (nI (x))), some (.int (nI (t))), some (.int (nI (cnt (ldOn a u (FAR a wt u t) x) (nM a)))), some (.int (nI ((gMx a u (FAR a wt u t) x (nM a))))), some (.int (nI (0))), none, none, none]) C dX8_even_94 (by decide) rfl ?_
      refine j_iload_n C dX8_even_96 rfl rfl ?_
      refine j_iload_n C dX8_even_97 rfl rfl ?_
      refine j_icmpn_eq (tgt := 110) C dX8_even_98 rfl (by omega) (by omega) (fun h98 => ?_) (fun h98 => ?_)
      · refine j_iconst (v := nI 0) C dX8_even_110 rfl ?_
        refine j_istore (L' := [some (.ref (gad g (84))), some (.int (nI (x))), some (.int (nI (t))), some (.int (nI (cnt (ldOn a u (FAR a wt u t) x) (nM a)))), some (.int (nI ((gMx a u (FAR a wt u t) x (nM a))))), some (.int (nI (0))), some (.int (nI (0))), none, none]) C dX8_even_111 (by decide) rfl ?_
        refine j_iconst (v := nI 0) C dX8_even_113 rfl ?_
        refine j_istore (L' := [some (.ref (gad g (84))), some (.int (nI (x))), some (.int (nI (t))), some (.int (nI (cnt (ldOn a u (FAR a wt u t) x) (nM a)))), some (.int (nI ((gMx a u (FAR a wt u t) x (nM a))))), some (.int (nI (0))), some (.int (nI (0))), some (.int (nI (0))), none]) C dX8_even_114 (by decide) rfl ?_
        refine J_loc (L' := [some (.ref (gad g (84))), some (.int (nI (x))), some (.int (nI (t))), some (.int (nI (cnt (ldOn a u (FAR a wt u t) x) (nM a)))), some (.int (nI ((gMx a u (FAR a wt u t) x (nM a))))), some (.int (nI (cnt (fun l => decide ((evW a wt u (FAR a wt u t) x) l ≠ wt l)) (0)))), some (.int (bI (okE (decide (x ≠ t) && decide (2 ≤ cnt (ldOn a u (FAR a wt u t) x) (nM a))) (evW a wt u (FAR a wt u t) x) (0)))), some (.int (nI (0))), none]) (by rw [show (okE (decide (x ≠ t) && decide (2 ≤ cnt (ldOn a u (FAR a wt u t) x) (nM a))) (evW a wt u (FAR a wt u t) x) 0) = false from (show (decide (x ≠ t) && decide (2 ≤ cnt (ldOn a u (FAR a wt u t) x) (nM a))) = false by first | (rw [show decide (x ≠ t) = false from decide_eq_false (by omega)]; rfl) | (rw [show decide (2 ≤ cnt (ldOn a u (FAR a wt u t) x) (nM a)) = false from decide_eq_false (by omega), Bool.and_false]))]; rfl) (lp2 x t τ7 hx ht hff h93 k200 (nM a - 0) 0 rfl (by omega))
      · refine j_iload_n C dX8_even_101 rfl rfl ?_
        refine j_iconst (v := nI 1) C dX8_even_102 rfl ?_
        refine j_icmpn_le (tgt := 110) C dX8_even_103 rfl (by omega) (by omega) (fun h103 => ?_) (fun h103 => ?_)
        · refine j_iconst (v := nI 0) C dX8_even_110 rfl ?_
          refine j_istore (L' := [some (.ref (gad g (84))), some (.int (nI (x))), some (.int (nI (t))), some (.int (nI (cnt (ldOn a u (FAR a wt u t) x) (nM a)))), some (.int (nI ((gMx a u (FAR a wt u t) x (nM a))))), some (.int (nI (0))), some (.int (nI (0))), none, none]) C dX8_even_111 (by decide) rfl ?_
          refine j_iconst (v := nI 0) C dX8_even_113 rfl ?_
          refine j_istore (L' := [some (.ref (gad g (84))), some (.int (nI (x))), some (.int (nI (t))), some (.int (nI (cnt (ldOn a u (FAR a wt u t) x) (nM a)))), some (.int (nI ((gMx a u (FAR a wt u t) x (nM a))))), some (.int (nI (0))), some (.int (nI (0))), some (.int (nI (0))), none]) C dX8_even_114 (by decide) rfl ?_
          refine J_loc (L' := [some (.ref (gad g (84))), some (.int (nI (x))), some (.int (nI (t))), some (.int (nI (cnt (ldOn a u (FAR a wt u t) x) (nM a)))), some (.int (nI ((gMx a u (FAR a wt u t) x (nM a))))), some (.int (nI (cnt (fun l => decide ((evW a wt u (FAR a wt u t) x) l ≠ wt l)) (0)))), some (.int (bI (okE (decide (x ≠ t) && decide (2 ≤ cnt (ldOn a u (FAR a wt u t) x) (nM a))) (evW a wt u (FAR a wt u t) x) (0)))), some (.int (nI (0))), none]) (by rw [show (okE (decide (x ≠ t) && decide (2 ≤ cnt (ldOn a u (FAR a wt u t) x) (nM a))) (evW a wt u (FAR a wt u t) x) 0) = false from (show (decide (x ≠ t) && decide (2 ≤ cnt (ldOn a u (FAR a wt u t) x) (nM a))) = false by first | (rw [show decide (x ≠ t) = false from decide_eq_false (by omega)]; rfl) | (rw [show decide (2 ≤ cnt (ldOn a u (FAR a wt u t) x) (nM a)) = false from decide_eq_false (by omega), Bool.and_false]))]; rfl) (lp2 x t τ7 hx ht hff h93 k200 (nM a - 0) 0 rfl (by omega))
        · refine j_iconst (v := nI 1) C dX8_even_106 rfl ?_
          refine j_goto (tgt := 111) C dX8_even_107 rfl ?_
          refine j_istore (L' := [some (.ref (gad g (84))), some (.int (nI (x))), some (.int (nI (t))), some (.int (nI (cnt (ldOn a u (FAR a wt u t) x) (nM a)))), some (.int (nI ((gMx a u (FAR a wt u t) x (nM a))))), some (.int (nI (0))), some (.int (nI (1))), none, none]) C dX8_even_111 (by decide) rfl ?_
          refine j_iconst (v := nI 0) C dX8_even_113 rfl ?_
          refine j_istore (L' := [some (.ref (gad g (84))), some (.int (nI (x))), some (.int (nI (t))), some (.int (nI (cnt (ldOn a u (FAR a wt u t) x) (nM a)))), some (.int (nI ((gMx a u (FAR a wt u t) x (nM a))))), some (.int (nI (0))), some (.int (nI (1))), some (.int (nI (0))), none]) C dX8_even_114 (by decide) rfl ?_
          refine J_loc (L' := [some (.ref (gad g (84))), some (.int (nI (x))), some (.int (nI (t))), some (.int (nI (cnt (ldOn a u (FAR a wt u t) x) (nM a)))), some (.int (nI ((gMx a u (FAR a wt u t) x (nM a))))), some (.int (nI (cnt (fun l => decide ((evW a wt u (FAR a wt u t) x) l ≠ wt l)) (0)))), some (.int (bI (okE (decide (x ≠ t) && decide (2 ≤ cnt (ldOn a u (FAR a wt u t) x) (nM a))) (evW a wt u (FAR a wt u t) x) (0)))), some (.int (nI (0))), none]) (by rw [show (okE (decide (x ≠ t) && decide (2 ≤ cnt (ldOn a u (FAR a wt u t) x) (nM a))) (evW a wt u (FAR a wt u t) x) 0) = true from (show (decide (x ≠ t) && decide (2 ≤ cnt (ldOn a u (FAR a wt u t) x) (nM a))) = true by rw [decide_eq_true (by omega), decide_eq_true (by omega)]; rfl)]; rfl) (lp2 x t τ7 hx ht hff h93 k200 (nM a - 0) 0 rfl (by omega))
    · refine j_ifn_ne (tgt := 18) C dX8_even_13 rfl (by omega) (fun h => absurd h (by decide)) (fun _ => ?_)
      refine j_iconst (v := -1) C dX8_even_16 rfl ?_
      refine j_ret M dX8_even_17 ?_
      rw [abEven, pIf_f (by first | exact hno | exact fun q => hno q.1 | exact fun q => hRno q.2 | exact fun q => hno2 q.2)]
      exact ⟨rfl, hC, fun _ _ _ => rfl⟩
  · refine j_ifn_eq (tgt := 16) C dX8_even_5 rfl (by omega) (fun _ => ?_) (fun h => absurd h (by decide))
    refine j_iconst (v := -1) C dX8_even_16 rfl ?_
    refine j_ret M dX8_even_17 ?_
    rw [abEven, pIf_f (by first | exact hno | exact fun q => hno q.1 | exact fun q => hRno q.2 | exact fun q => hno2 q.2)]
    exact ⟨rfl, hC, fun _ _ _ => rfl⟩
