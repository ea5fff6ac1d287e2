set_option maxHeartbeats 4000000 in
set_option maxRecDepth 100000 in
theorem tX2_found {g : jG} (hN : 84 ≤ gN g) {σ : Sg} {q l x c : Nat} (hq : q < 3) (hb : bsI σ (some (l, x, c))) : MS g yX2_found cX2_found 2 (some .int) rmX2_found [.ref (gad g (44)), .int (nI (q))] σ (fun r σ' => σ' = σ ∧ r = nI (if q = 0 then l else if q = 1 then x else c)) := by
  refine MJ_of (by decide) (Nat.le_of_ble_eq_true rfl) (List.forall_mem_cons.mpr ⟨rfl, List.forall_mem_cons.mpr ⟨rfl, fun _ h => absurd h List.not_mem_nil⟩⟩) ?_
  intro κ M
  have C := M.1
  show J g κ 2 0 [some (.ref (gad g (44))), some (.int (nI (q)))] [] σ
  refine j_iload_n C dX2_found_0 rfl rfl ?_
  refine j_ifn_ne (tgt := 11) C dX2_found_1 rfl (by omega) (fun h1 => ?_) (fun h1 => ?_)
  · refine j_iload_n C dX2_found_11 rfl rfl ?_
    refine j_iconst (v := nI 1) C dX2_found_12 rfl ?_
    refine j_icmpn_ne (tgt := 23) C dX2_found_13 rfl (by omega) (by omega) (fun h13 => ?_) (fun h13 => ?_)
    · refine j_aload_n C dX2_found_23 rfl rfl ?_
      refine j_get C flX2_49 dX2_found_24 (Nat.lt_of_lt_of_le (by decide) hN) rfl rfl ?_
      refine j_top (hb.1.2.2) ?_
      refine j_ret M dX2_found_27 ?_
      refine ⟨rfl, ?_⟩
      first | (rw [if_pos (by omega)]; done) | (rw [if_neg (by omega), if_pos (by omega)]; done) | (rw [if_neg (by omega), if_neg (by omega)])
    · refine j_aload_n C dX2_found_16 rfl rfl ?_
      refine j_get C flX2_47 dX2_found_17 (Nat.lt_of_lt_of_le (by decide) hN) rfl rfl ?_
      refine j_top (hb.1.2.1) ?_
      refine j_goto (tgt := 27) C dX2_found_20 rfl ?_
      refine j_ret M dX2_found_27 ?_
      refine ⟨rfl, ?_⟩
      first | (rw [if_pos (by omega)]; done) | (rw [if_neg (by omega), if_pos (by omega)]; done) | (rw [if_neg (by omega), if_neg (by omega)])
  · refine j_aload_n C dX2_found_4 rfl rfl ?_
    refine j_get C flX2_26 dX2_found_5 (Nat.lt_of_lt_of_le (by decide) hN) rfl rfl ?_
    refine j_top (hb.1.1) ?_
    refine j_goto (tgt := 27) C dX2_found_8 rfl ?_
    refine j_ret M dX2_found_27 ?_
    refine ⟨rfl, ?_⟩
    first | (rw [if_pos (by omega)]; done) | (rw [if_neg (by omega), if_pos (by omega)]; done) | (rw [if_neg (by omega), if_neg (by omega)])
set_option maxHeartbeats 4000000 in
set_option maxRecDepth 100000 in
theorem tX2_isFree {g : jG} (hN : 84 ≤ gN g) {σ : Sg} {m tc le : Nat} {tl : List Int32} {wt : Nat → Nat} (hm : σ 48 0 = nI m) (hm12 : m ≤ 12) (hwt : ∀ k, k < m → σ 49 k = nI (wt k)) (htc : σ 48 4 = nI tc) (ht6 : tc ≤ 6) (htl : ∀ z, (∃ k, k < tc ∧ σ 51 k = z) ↔ z ∈ tl) (hle : σ 48 6 = nI le) (hle1 : le < 2 ^ 31) {l x c : Nat} (hl : l < 12) (hx : x ≤ 20) (hc : c < 2 ^ 31) : MS g yX2_isFree cX2_isFree 4 (some .boolean) rmX2_isFree [.ref (gad g (48)), .int (nI (l)), .int (nI (x)), .int (nI (c))] σ (fun r σ' => σ' = σ ∧ r = bI (decide (c < le) || !decide (mkW (updN wt l x) m ∈ tl))) := by
  refine MJ_of (by decide) (Nat.le_of_ble_eq_true rfl) (List.forall_mem_cons.mpr ⟨rfl, List.forall_mem_cons.mpr ⟨rfl, List.forall_mem_cons.mpr ⟨rfl, List.forall_mem_cons.mpr ⟨rfl, fun _ h => absurd h List.not_mem_nil⟩⟩⟩⟩) ?_
  intro κ M
  have C := M.1
  show J g κ 4 0 [some (.ref (gad g (48))), some (.int (nI (l))), some (.int (nI (x))), some (.int (nI (c)))] [] σ
  refine j_iload_n C dX2_isFree_0 rfl rfl ?_
  refine j_aload_n C dX2_isFree_1 rfl rfl ?_
  refine j_get C flX2_66 dX2_isFree_2 (Nat.lt_of_lt_of_le (by decide) hN) rfl rfl ?_
  refine j_top (hle) ?_
  refine j_icmpn_lt (tgt := 21) C dX2_isFree_5 rfl (by omega) (by omega) (fun h5 => ?_) (fun h5 => ?_)
  · refine j_iconst (v := nI 1) C dX2_isFree_21 rfl ?_
    refine j_goto (tgt := 26) C dX2_isFree_22 rfl ?_
    refine j_retz M dX2_isFree_26 rfl ?_
    refine ⟨rfl, ?_⟩
    first | (rw [decide_eq_true (show c < le by omega)]; rfl) | (rw [decide_eq_false (show ¬ mkW (updN wt l x) m ∈ tl from fun q => by obtain ⟨k, k1, k2⟩ := (htl _).mpr q; exact hout k k1 k2), Bool.not_false, Bool.or_true]; rfl)
  · refine j_aload_n C dX2_isFree_8 rfl rfl ?_
    refine j_aload_n C dX2_isFree_9 rfl rfl ?_
    refine j_iload_n C dX2_isFree_10 rfl rfl ?_
    refine j_iload_n C dX2_isFree_11 rfl rfl ?_
    refine j_calli (As := [.int (nI (l)), .int (nI (x))]) (rest := [.ref (gad g (48))]) C (tX6_markWith (i := 0) hN (by omega) hm hm12 (nI l) (nI x)) cdX6_markWith mlX2_69 dX2_isFree_12 (by decide) (by decide) (Nat.lt_of_lt_of_le (by decide) hN) rfl rfl rfl rfl rfl (Nat.le_of_ble_eq_true rfl) (fun rr_2 τ1 hp_3 => ?_)
    obtain ⟨hs, hr⟩ := hp_3
    replace hs := hs.symm
    subst hs
    have hmk : rr_2 = mkW (updN wt l x) m := by
      rw [hr]
      refine mkL_congr (fun k hk => ?_)
      by_cases e : k = l
      · subst e; rw [if_pos rfl, updN_s]
      · rw [if_neg (fun q => e ((nI_eq (by omega) (by omega)).mp q)), updN_n e]; exact hwt k hk
    clear hr
    subst hmk
    refine j_calli (As := [.int (mkW (updN wt l x) m)]) (rest := []) C (tX6_isTabu hN htc ht6 (mkW (updN wt l x) m)) cdX6_isTabu mlX2_73 dX2_isFree_15 (by decide) (by decide) (Nat.lt_of_lt_of_le (by decide) hN) rfl rfl rfl rfl rfl (Nat.le_of_ble_eq_true rfl) (fun rr_5 τ4 hp_6 => ?_)
    obtain ⟨hs, hc2⟩ := hp_6
    replace hs := hs.symm
    subst hs
    rcases hc2 with ⟨rfl, hin⟩ | ⟨rfl, hout⟩
    · refine j_ifn_ne (tgt := 25) C dX2_isFree_18 rfl (by omega) (fun _ => ?_) (fun h => absurd h (by decide))
      refine j_iconst (v := nI 0) C dX2_isFree_25 rfl ?_
      refine j_retz M dX2_isFree_26 rfl ?_
      refine ⟨rfl, ?_⟩
      rw [decide_eq_false (by omega), decide_eq_true ((htl _).mp hin)]
      rfl
    · refine j_ifn_ne (tgt := 25) C dX2_isFree_18 rfl (by omega) (fun h => absurd h (by decide)) (fun _ => ?_)
      refine j_iconst (v := nI 1) C dX2_isFree_21 rfl ?_
      refine j_goto (tgt := 26) C dX2_isFree_22 rfl ?_
      refine j_retz M dX2_isFree_26 rfl ?_
      refine ⟨rfl, ?_⟩
      first | (rw [decide_eq_true (show c < le by omega)]; rfl) | (rw [decide_eq_false (show ¬ mkW (updN wt l x) m ∈ tl from fun q => by obtain ⟨k, k1, k2⟩ := (htl _).mpr q; exact hout k k1 k2), Bool.not_false, Bool.or_true]; rfl)
set_option maxHeartbeats 4000000 in
set_option maxRecDepth 100000 in
theorem tX2_tryWeights {g : jG} (hN : 84 ≤ gN g) {σ : Sg} {bs le : Nat} {a : ND} {wt : Nat → Nat} {u : Nat → Bool} {hd : Bool} {tl : List Int32} (hbs : bs < 2) (hI : NetI σ 3 a) (hO : NOk a) (hW : StW σ bs (nM a) wt u) (hw : WOk (nM a) wt) (hh : hd = true → bs = 0 ∧ ∃ tc, tc ≤ 6 ∧ σ 48 4 = nI tc ∧ (∀ z, (∃ k, k < tc ∧ σ 51 k = z) ↔ z ∈ tl) ∧ σ 48 6 = nI le ∧ le < 2 ^ 31 ∧ σ 48 0 = nI (nM a)) {l : Nat} (hl : l < nM a) (hT : StW σ 2 (nM a) wt u) {b : BS} (hb : bsI σ b) : MS g yX2_tryWeights cX2_tryWeights 8 none rmX2_tryWeights [.ref (gad g (44)), .ref (gad g (48 + 4 * bs)), .int (nI (l)), .int (bI hd)] σ (fun r σ' => (∀ j n, ¬ (25 ≤ j ∧ j ≤ 43 ∨ j = 44 ∧ 3 ≤ n ∧ n ≤ 5 ∨ j = 57) → σ' j n = σ j n) ∧ (∃ y, StW σ' 2 (nM a) (updN wt l y) u) ∧ bsI σ' (tryF a wt u hd le tl l 20 b)) := by
  refine MJ_of (by decide) (Nat.le_of_ble_eq_true rfl) (List.forall_mem_cons.mpr ⟨rfl, List.forall_mem_cons.mpr ⟨rfl, List.forall_mem_cons.mpr ⟨rfl, List.forall_mem_cons.mpr ⟨rfl, fun _ h => absurd h List.not_mem_nil⟩⟩⟩⟩) ?_
  intro κ M
  have C := M.1
  show J g κ 8 0 [some (.ref (gad g (44))), some (.ref (gad g (48 + 4 * bs))), some (.int (nI (l))), some (.int (bI hd)), none, none, none, none] [] σ
  have hn7 := hO.2.1
  have hm12 := hO.2.2.1
  have hd6 := hO.2.2.2.1
  have hwl := hw l hl
  have p81 : ∀ (x : Nat), 1 ≤ x → x ≤ 20 → x ≠ wt l → (∀ (sd2 : Bool) (y2 : Nat) (σ2 : Sg), (∀ j n, ¬ (25 ≤ j ∧ j ≤ 43 ∨ j = 44 ∧ 3 ≤ n ∧ n ≤ 5 ∨ j = 57) → σ2 j n = σ j n) → StW σ2 2 (nM a) (updN wt l y2) u → bsI σ2 (tryF a wt u hd le tl l x b) → (sd2 = true → ∀ x', x + 1 ≤ x' → x' ≤ 20 → costN a (updN wt l x') u = (costN a (updN wt l x) u)) → J g κ 8 9 [some (.ref (gad g (44))), some (.ref (gad g (48 + 4 * bs))), some (.int (nI (l))), some (.int (bI hd)), some (.int (bI sd2)), some (.int (nI ((costN a (updN wt l x) u)))), some (.int (nI (x + 1))), none] [] σ2) → ∀ (sd2 : Bool) (y2 : Nat) (σ2 : Sg), (∀ j n, ¬ (25 ≤ j ∧ j ≤ 43 ∨ j = 44 ∧ 3 ≤ n ∧ n ≤ 5 ∨ j = 57) → σ2 j n = σ j n) → StW σ2 2 (nM a) (updN wt l y2) u → bsI σ2 (tryF a wt u hd le tl l (x - 1) b) → (sd2 = true → ∀ x', x + 1 ≤ x' → x' ≤ 20 → costN a (updN wt l x') u = (costN a (updN wt l x) u)) → J g κ 8 81 [some (.ref (gad g (44))), some (.ref (gad g (48 + 4 * bs))), some (.int (nI (l))), some (.int (bI hd)), some (.int (bI sd2)), some (.int (nI ((costN a (updN wt l x) u)))), some (.int (nI (x))), none] [] σ2 := by
    intro x hx1 hx2 hxw kk sd2 y2 σ2 hf2 hT1 hb2 hsd2
    have hcb := costN_bd (w := updN wt l x) (u := u) hO
    rcases hbe : (tryF a wt u hd le tl l (x - 1) b) with _ | ⟨l0, x0, c0⟩ <;> rw [hbe] at hb2
    · refine j_aload_n C dX2_tryWeights_81 rfl rfl ?_
      refine j_get C flX2_26 dX2_tryWeights_82 (Nat.lt_of_lt_of_le (by decide) hN) rfl rfl ?_
      refine j_top (hb2) ?_
      refine j_iconst (v := -1) C dX2_tryWeights_85 rfl ?_
      refine j_icmp_eq (tgt := 98) C dX2_tryWeights_86 rfl (fun _ => ?_) (fun h => absurd h (by decide))
      refine j_iconst (v := nI 1) C dX2_tryWeights_98 rfl ?_
      refine j_goto (tgt := 103) C dX2_tryWeights_99 rfl ?_
      refine j_istore (L' := [some (.ref (gad g (44))), some (.ref (gad g (48 + 4 * bs))), some (.int (nI (l))), some (.int (bI hd)), some (.int (bI sd2)), some (.int (nI ((costN a (updN wt l x) u)))), some (.int (nI (x))), some (.int (nI (1)))]) C dX2_tryWeights_103 (by decide) rfl ?_
      refine j_iload C dX2_tryWeights_105 rfl ?_
      refine j_ifn_eq (tgt := 143) C dX2_tryWeights_107 rfl (by omega) (fun h => absurd h (by decide)) (fun _ => ?_)
      refine j_iload_n C dX2_tryWeights_110 rfl rfl ?_
      rcases Bool.eq_false_or_eq_true hd with hhd | hhd
      · refine j_top (y := nI 1) (by rw [hhd]; rfl) ?_
        refine j_ifn_eq (tgt := 126) C dX2_tryWeights_111 rfl (by omega) (fun h => absurd h (by decide)) (fun _ => ?_)
        obtain ⟨rfl, tc, q0, q1, q2, q3, q4, q5⟩ := hh hhd
        refine j_aload_n C dX2_tryWeights_114 rfl rfl ?_
        refine j_iload_n C dX2_tryWeights_115 rfl rfl ?_
        refine j_iload C dX2_tryWeights_116 rfl ?_
        refine j_iload C dX2_tryWeights_118 rfl ?_
        refine j_calls (As := [.ref (gad g (48)), .int (nI (l)), .int (nI (x)), .int (nI ((costN a (updN wt l x) u)))]) (rest := []) C (tX2_isFree hN (m := nM a) (tc := tc) (le := le) (tl := tl) (wt := wt) ((hf2 _ _ (by omega)).trans q5) hm12 (fun k hk => (hf2 _ _ (by omega)).trans (hW k hk).1) ((hf2 _ _ (by omega)).trans q1) q0 (fun z => Iff.trans ⟨fun ⟨k, k1, k2⟩ => ⟨k, k1, (hf2 _ _ (by omega)).symm.trans k2⟩, fun ⟨k, k1, k2⟩ => ⟨k, k1, (hf2 _ _ (by omega)).trans k2⟩⟩ (q2 z)) ((hf2 _ _ (by omega)).trans q3) q4 (l := l) (x := x) (by omega) (by omega) (by omega)) cdX2_isFree msX2_62 dX2_tryWeights_120 (by decide) (by decide) rfl rfl (Nat.le_of_ble_eq_true rfl) (fun rr_2 τ1 hp_3 => ?_)
        obtain ⟨hs, hr⟩ := hp_3
        replace hs := hs.symm
        subst hs
        rcases hfb : (decide ((costN a (updN wt l x) u) < le) || !decide (mkW (updN wt l x) (nM a) ∈ tl)) with _ | _ <;> rw [hfb] at hr <;> subst hr
        · refine j_ifn_eq (tgt := 143) C dX2_tryWeights_123 rfl (by omega) (fun _ => ?_) (fun h => absurd h (by decide))
          refine j_iinc (L' := [some (.ref (gad g (44))), some (.ref (gad g (48))), some (.int (nI (l))), some (.int (bI hd)), some (.int (bI sd2)), some (.int (nI ((costN a (updN wt l x) u)))), some (.int (nI (x + 1))), some (.int (nI (1)))]) C dX2_tryWeights_143 rfl (nI_inc _) (by decide) rfl ?_
          refine j_goto (tgt := 9) C dX2_tryWeights_146 rfl ?_
          have hT2 : (tryF a wt u hd le tl l x b) = (tryF a wt u hd le tl l (x - 1) b) := by
            rw [show x = (x - 1) + 1 by omega, tryF, if_neg (by omega), show x - 1 + 1 = x by omega]
            rw [hbe]
            exact if_neg (by first | (simp [lessB]; omega) | (simp only [okT, hfb, hhd]; simp; done))
          refine J_clr 7 (L' := [some (.ref (gad g (44))), some (.ref (gad g (48))), some (.int (nI (l))), some (.int (bI hd)), some (.int (bI sd2)), some (.int (nI ((costN a (updN wt l x) u)))), some (.int (nI (x + 1))), none]) rfl ?_
          exact kk sd2 y2 σ2 hf2 hT1 (by rw [hT2, hbe]; exact hb2) hsd2
        · refine j_ifn_eq (tgt := 143) C dX2_tryWeights_123 rfl (by omega) (fun h => absurd h (by decide)) (fun _ => ?_)
          refine j_aload_n C dX2_tryWeights_126 rfl rfl ?_
          refine j_iload_n C dX2_tryWeights_127 rfl rfl ?_
          refine j_put' C fpX2_26 dX2_tryWeights_128 (Nat.lt_of_lt_of_le (by decide) hN) (fun _ => rfl) rfl (Nat.le_of_ble_eq_true rfl) rfl rfl (fun τ4 hz_5 hw_6 => ?_)
          refine j_aload_n C dX2_tryWeights_131 rfl rfl ?_
          refine j_iload C dX2_tryWeights_132 rfl ?_
          refine j_put' C fpX2_47 dX2_tryWeights_134 (Nat.lt_of_lt_of_le (by decide) hN) (fun _ => rfl) rfl (Nat.le_of_ble_eq_true rfl) rfl rfl (fun τ7 hz_8 hw_9 => ?_)
          refine j_aload_n C dX2_tryWeights_137 rfl rfl ?_
          refine j_iload C dX2_tryWeights_138 rfl ?_
          refine j_put' C fpX2_49 dX2_tryWeights_140 (Nat.lt_of_lt_of_le (by decide) hN) (fun _ => rfl) rfl (Nat.le_of_ble_eq_true rfl) rfl rfl (fun τ10 hz_11 hw_12 => ?_)
          refine j_iinc (L' := [some (.ref (gad g (44))), some (.ref (gad g (48))), some (.int (nI (l))), some (.int (bI hd)), some (.int (bI sd2)), some (.int (nI ((costN a (updN wt l x) u)))), some (.int (nI (x + 1))), some (.int (nI (1)))]) C dX2_tryWeights_143 rfl (nI_inc _) (by decide) rfl ?_
          refine j_goto (tgt := 9) C dX2_tryWeights_146 rfl ?_
          have hT2 : (tryF a wt u hd le tl l x b) = some (l, x, (costN a (updN wt l x) u)) := by
            rw [show x = (x - 1) + 1 by omega, tryF, if_neg (by omega), show x - 1 + 1 = x by omega, hbe]
            exact if_pos (by first | (simp [lessB, okT, hhd]; done) | (simp [lessB, okT, hhd]; omega) | (simp only [okT, hfb]; simp [lessB]; done) | (simp only [okT, hfb]; simp [lessB]; omega))
          refine J_clr 7 (L' := [some (.ref (gad g (44))), some (.ref (gad g (48))), some (.int (nI (l))), some (.int (bI hd)), some (.int (bI sd2)), some (.int (nI ((costN a (updN wt l x) u)))), some (.int (nI (x + 1))), none]) rfl ?_
          refine kk sd2 y2 τ10 (fun j n h => by rw [hz_11 _ _ (by omega), hz_8 _ _ (by omega), hz_5 _ _ (by omega)]; exact hf2 j n h) (hT1.kept (fun j n h => by rw [hz_11 _ _ (by omega), hz_8 _ _ (by omega), hz_5 _ _ (by omega)])) ?_ hsd2
          rw [hT2]
          exact ⟨⟨by rw [hz_11 _ _ (by omega), hz_8 _ _ (by omega)]; assumption, by rw [hz_11 _ _ (by omega)]; assumption, by assumption⟩, by omega, by omega, by omega⟩
      · refine j_top (y := nI 0) (by rw [hhd]; rfl) ?_
        refine j_ifn_eq (tgt := 126) C dX2_tryWeights_111 rfl (by omega) (fun _ => ?_) (fun h => absurd h (by decide))
        refine j_aload_n C dX2_tryWeights_126 rfl rfl ?_
        refine j_iload_n C dX2_tryWeights_127 rfl rfl ?_
        refine j_put' C fpX2_26 dX2_tryWeights_128 (Nat.lt_of_lt_of_le (by decide) hN) (fun _ => rfl) rfl (Nat.le_of_ble_eq_true rfl) rfl rfl (fun τ13 hz_14 hw_15 => ?_)
        refine j_aload_n C dX2_tryWeights_131 rfl rfl ?_
        refine j_iload C dX2_tryWeights_132 rfl ?_
        refine j_put' C fpX2_47 dX2_tryWeights_134 (Nat.lt_of_lt_of_le (by decide) hN) (fun _ => rfl) rfl (Nat.le_of_ble_eq_true rfl) rfl rfl (fun τ16 hz_17 hw_18 => ?_)
        refine j_aload_n C dX2_tryWeights_137 rfl rfl ?_
        refine j_iload C dX2_tryWeights_138 rfl ?_
        refine j_put' C fpX2_49 dX2_tryWeights_140 (Nat.lt_of_lt_of_le (by decide) hN) (fun _ => rfl) rfl (Nat.le_of_ble_eq_true rfl) rfl rfl (fun τ19 hz_20 hw_21 => ?_)
        refine j_iinc (L' := [some (.ref (gad g (44))), some (.ref (gad g (48 + 4 * bs))), some (.int (nI (l))), some (.int (bI hd)), some (.int (bI sd2)), some (.int (nI ((costN a (updN wt l x) u)))), some (.int (nI (x + 1))), some (.int (nI (1)))]) C dX2_tryWeights_143 rfl (nI_inc _) (by decide) rfl ?_
        refine j_goto (tgt := 9) C dX2_tryWeights_146 rfl ?_
        have hT2 : (tryF a wt u hd le tl l x b) = some (l, x, (costN a (updN wt l x) u)) := by
          rw [show x = (x - 1) + 1 by omega, tryF, if_neg (by omega), show x - 1 + 1 = x by omega, hbe]
          exact if_pos (by first | (simp [lessB, okT, hhd]; done) | (simp [lessB, okT, hhd]; omega) | (simp only [okT, hfb]; simp [lessB]; done) | (simp only [okT, hfb]; simp [lessB]; omega))
        refine J_clr 7 (L' := [some (.ref (gad g (44))), some (.ref (gad g (48 + 4 * bs))), some (.int (nI (l))), some (.int (bI hd)), some (.int (bI sd2)), some (.int (nI ((costN a (updN wt l x) u)))), some (.int (nI (x + 1))), none]) rfl ?_
        refine kk sd2 y2 τ19 (fun j n h => by rw [hz_20 _ _ (by omega), hz_17 _ _ (by omega), hz_14 _ _ (by omega)]; exact hf2 j n h) (hT1.kept (fun j n h => by rw [hz_20 _ _ (by omega), hz_17 _ _ (by omega), hz_14 _ _ (by omega)])) ?_ hsd2
        rw [hT2]
        exact ⟨⟨by rw [hz_20 _ _ (by omega), hz_17 _ _ (by omega)]; assumption, by rw [hz_20 _ _ (by omega)]; assumption, by assumption⟩, by omega, by omega, by omega⟩
    · have hb21 := hb2.2
      refine j_aload_n C dX2_tryWeights_81 rfl rfl ?_
      refine j_get C flX2_26 dX2_tryWeights_82 (Nat.lt_of_lt_of_le (by decide) hN) rfl rfl ?_
      refine j_top (hb2.1.1) ?_
      refine j_iconst (v := -1) C dX2_tryWeights_85 rfl ?_
      refine j_icmp_eq (tgt := 98) C dX2_tryWeights_86 rfl (fun h => absurd h (nI_neg (by omega) (by decide))) (fun _ => ?_)
      refine j_iload C dX2_tryWeights_89 rfl ?_
      refine j_aload_n C dX2_tryWeights_91 rfl rfl ?_
      refine j_get C flX2_49 dX2_tryWeights_92 (Nat.lt_of_lt_of_le (by decide) hN) rfl rfl ?_
      refine j_top (hb2.1.2.2) ?_
      refine j_icmpn_ge (tgt := 102) C dX2_tryWeights_95 rfl (by omega) (by omega) (fun h95 => ?_) (fun h95 => ?_)
      · refine j_iconst (v := nI 0) C dX2_tryWeights_102 rfl ?_
        refine j_istore (L' := [some (.ref (gad g (44))), some (.ref (gad g (48 + 4 * bs))), some (.int (nI (l))), some (.int (bI hd)), some (.int (bI sd2)), some (.int (nI ((costN a (updN wt l x) u)))), some (.int (nI (x))), some (.int (nI (0)))]) C dX2_tryWeights_103 (by decide) rfl ?_
        refine j_iload C dX2_tryWeights_105 rfl ?_
        refine j_ifn_eq (tgt := 143) C dX2_tryWeights_107 rfl (by omega) (fun _ => ?_) (fun h => absurd h (by decide))
        refine j_iinc (L' := [some (.ref (gad g (44))), some (.ref (gad g (48 + 4 * bs))), some (.int (nI (l))), some (.int (bI hd)), some (.int (bI sd2)), some (.int (nI ((costN a (updN wt l x) u)))), some (.int (nI (x + 1))), some (.int (nI (0)))]) C dX2_tryWeights_143 rfl (nI_inc _) (by decide) rfl ?_
        refine j_goto (tgt := 9) C dX2_tryWeights_146 rfl ?_
        have hT2 : (tryF a wt u hd le tl l x b) = (tryF a wt u hd le tl l (x - 1) b) := by
          rw [show x = (x - 1) + 1 by omega, tryF, if_neg (by omega), show x - 1 + 1 = x by omega]
          rw [hbe]
          exact if_neg (by first | (simp [lessB]; omega) | (simp only [okT, hfb, hhd]; simp; done))
        refine J_clr 7 (L' := [some (.ref (gad g (44))), some (.ref (gad g (48 + 4 * bs))), some (.int (nI (l))), some (.int (bI hd)), some (.int (bI sd2)), some (.int (nI ((costN a (updN wt l x) u)))), some (.int (nI (x + 1))), none]) rfl ?_
        exact kk sd2 y2 σ2 hf2 hT1 (by rw [hT2, hbe]; exact hb2) hsd2
      · refine j_iconst (v := nI 1) C dX2_tryWeights_98 rfl ?_
        refine j_goto (tgt := 103) C dX2_tryWeights_99 rfl ?_
        refine j_istore (L' := [some (.ref (gad g (44))), some (.ref (gad g (48 + 4 * bs))), some (.int (nI (l))), some (.int (bI hd)), some (.int (bI sd2)), some (.int (nI ((costN a (updN wt l x) u)))), some (.int (nI (x))), some (.int (nI (1)))]) C dX2_tryWeights_103 (by decide) rfl ?_
        refine j_iload C dX2_tryWeights_105 rfl ?_
        refine j_ifn_eq (tgt := 143) C dX2_tryWeights_107 rfl (by omega) (fun h => absurd h (by decide)) (fun _ => ?_)
        refine j_iload_n C dX2_tryWeights_110 rfl rfl ?_
        rcases Bool.eq_false_or_eq_true hd with hhd | hhd
        · refine j_top (y := nI 1) (by rw [hhd]; rfl) ?_
          refine j_ifn_eq (tgt := 126) C dX2_tryWeights_111 rfl (by omega) (fun h => absurd h (by decide)) (fun _ => ?_)
          obtain ⟨rfl, tc, q0, q1, q2, q3, q4, q5⟩ := hh hhd
          refine j_aload_n C dX2_tryWeights_114 rfl rfl ?_
          refine j_iload_n C dX2_tryWeights_115 rfl rfl ?_
          refine j_iload C dX2_tryWeights_116 rfl ?_
          refine j_iload C dX2_tryWeights_118 rfl ?_
          refine j_calls (As := [.ref (gad g (48)), .int (nI (l)), .int (nI (x)), .int (nI ((costN a (updN wt l x) u)))]) (rest := []) C (tX2_isFree hN (m := nM a) (tc := tc) (le := le) (tl := tl) (wt := wt) ((hf2 _ _ (by omega)).trans q5) hm12 (fun k hk => (hf2 _ _ (by omega)).trans (hW k hk).1) ((hf2 _ _ (by omega)).trans q1) q0 (fun z => Iff.trans ⟨fun ⟨k, k1, k2⟩ => ⟨k, k1, (hf2 _ _ (by omega)).symm.trans k2⟩, fun ⟨k, k1, k2⟩ => ⟨k, k1, (hf2 _ _ (by omega)).trans k2⟩⟩ (q2 z)) ((hf2 _ _ (by omega)).trans q3) q4 (l := l) (x := x) (by omega) (by omega) (by omega)) cdX2_isFree msX2_62 dX2_tryWeights_120 (by decide) (by decide) rfl rfl (Nat.le_of_ble_eq_true rfl) (fun rr_23 τ22 hp_24 => ?_)
          obtain ⟨hs, hr⟩ := hp_24
          replace hs := hs.symm
          subst hs
          rcases hfb : (decide ((costN a (updN wt l x) u) < le) || !decide (mkW (updN wt l x) (nM a) ∈ tl)) with _ | _ <;> rw [hfb] at hr <;> subst hr
          · refine j_ifn_eq (tgt := 143) C dX2_tryWeights_123 rfl (by omega) (fun _ => ?_) (fun h => absurd h (by decide))
            refine j_iinc (L' := [some (.ref (gad g (44))), some (.ref (gad g (48))), some (.int (nI (l))), some (.int (bI hd)), some (.int (bI sd2)), some (.int (nI ((costN a (updN wt l x) u)))), some (.int (nI (x + 1))), some (.int (nI (1)))]) C dX2_tryWeights_143 rfl (nI_inc _) (by decide) rfl ?_
            refine j_goto (tgt := 9) C dX2_tryWeights_146 rfl ?_
            have hT2 : (tryF a wt u hd le tl l x b) = (tryF a wt u hd le tl l (x - 1) b) := by
              rw [show x = (x - 1) + 1 by omega, tryF, if_neg (by omega), show x - 1 + 1 = x by omega]
              rw [hbe]
              exact if_neg (by first | (simp [lessB]; omega) | (simp only [okT, hfb, hhd]; simp; done))
            refine J_clr 7 (L' := [some (.ref (gad g (44))), some (.ref (gad g (48))), some (.int (nI (l))), some (.int (bI hd)), some (.int (bI sd2)), some (.int (nI ((costN a (updN wt l x) u)))), some (.int (nI (x + 1))), none]) rfl ?_
            exact kk sd2 y2 σ2 hf2 hT1 (by rw [hT2, hbe]; exact hb2) hsd2
          · refine j_ifn_eq (tgt := 143) C dX2_tryWeights_123 rfl (by omega) (fun h => absurd h (by decide)) (fun _ => ?_)
            refine j_aload_n C dX2_tryWeights_126 rfl rfl ?_
            refine j_iload_n C dX2_tryWeights_127 rfl rfl ?_
            refine j_put' C fpX2_26 dX2_tryWeights_128 (Nat.lt_of_lt_of_le (by decide) hN) (fun _ => rfl) rfl (Nat.le_of_ble_eq_true rfl) rfl rfl (fun τ25 hz_26 hw_27 => ?_)
            refine j_aload_n C dX2_tryWeights_131 rfl rfl ?_
            refine j_iload C dX2_tryWeights_132 rfl ?_
            refine j_put' C fpX2_47 dX2_tryWeights_134 (Nat.lt_of_lt_of_le (by decide) hN) (fun _ => rfl) rfl (Nat.le_of_ble_eq_true rfl) rfl rfl (fun τ28 hz_29 hw_30 => ?_)
            refine j_aload_n C dX2_tryWeights_137 rfl rfl ?_
            refine j_iload C dX2_tryWeights_138 rfl ?_
            refine j_put' C fpX2_49 dX2_tryWeights_140 (Nat.lt_of_lt_of_le (by decide) hN) (fun _ => rfl) rfl (Nat.le_of_ble_eq_true rfl) rfl rfl (fun τ31 hz_32 hw_33 => ?_)
            refine j_iinc (L' := [some (.ref (gad g (44))), some (.ref (gad g (48))), some (.int (nI (l))), some (.int (bI hd)), some (.int (bI sd2)), some (.int (nI ((costN a (updN wt l x) u)))), some (.int (nI (x + 1))), some (.int (nI (1)))]) C dX2_tryWeights_143 rfl (nI_inc _) (by decide) rfl ?_
            refine j_goto (tgt := 9) C dX2_tryWeights_146 rfl ?_
            have hT2 : (tryF a wt u hd le tl l x b) = some (l, x, (costN a (updN wt l x) u)) := by
              rw [show x = (x - 1) + 1 by omega, tryF, if_neg (by omega), show x - 1 + 1 = x by omega, hbe]
              exact if_pos (by first | (simp [lessB, okT, hhd]; done) | (simp [lessB, okT, hhd]; omega) | (simp only [okT, hfb]; simp [lessB]; done) | (simp only [okT, hfb]; simp [lessB]; omega))
            refine J_clr 7 (L' := [some (.ref (gad g (44))), some (.ref (gad g (48))), some (.int (nI (l))), some (.int (bI hd)), some (.int (bI sd2)), some (.int (nI ((costN a (updN wt l x) u)))), some (.int (nI (x + 1))), none]) rfl ?_
            refine kk sd2 y2 τ31 (fun j n h => by rw [hz_32 _ _ (by omega), hz_29 _ _ (by omega), hz_26 _ _ (by omega)]; exact hf2 j n h) (hT1.kept (fun j n h => by rw [hz_32 _ _ (by omega), hz_29 _ _ (by omega), hz_26 _ _ (by omega)])) ?_ hsd2
            rw [hT2]
            exact ⟨⟨by rw [hz_32 _ _ (by omega), hz_29 _ _ (by omega)]; assumption, by rw [hz_32 _ _ (by omega)]; assumption, by assumption⟩, by omega, by omega, by omega⟩
        · refine j_top (y := nI 0) (by rw [hhd]; rfl) ?_
          refine j_ifn_eq (tgt := 126) C dX2_tryWeights_111 rfl (by omega) (fun _ => ?_) (fun h => absurd h (by decide))
          refine j_aload_n C dX2_tryWeights_126 rfl rfl ?_
          refine j_iload_n C dX2_tryWeights_127 rfl rfl ?_
          refine j_put' C fpX2_26 dX2_tryWeights_128 (Nat.lt_of_lt_of_le (by decide) hN) (fun _ => rfl) rfl (Nat.le_of_ble_eq_true rfl) rfl rfl (fun τ34 hz_35 hw_36 => ?_)
          refine j_aload_n C dX2_tryWeights_131 rfl rfl ?_
          refine j_iload C dX2_tryWeights_132 rfl ?_
          refine j_put' C fpX2_47 dX2_tryWeights_134 (Nat.lt_of_lt_of_le (by decide) hN) (fun _ => rfl) rfl (Nat.le_of_ble_eq_true rfl) rfl rfl (fun τ37 hz_38 hw_39 => ?_)
          refine j_aload_n C dX2_tryWeights_137 rfl rfl ?_
          refine j_iload C dX2_tryWeights_138 rfl ?_
          refine j_put' C fpX2_49 dX2_tryWeights_140 (Nat.lt_of_lt_of_le (by decide) hN) (fun _ => rfl) rfl (Nat.le_of_ble_eq_true rfl) rfl rfl (fun τ40 hz_41 hw_42 => ?_)
          refine j_iinc (L' := [some (.ref (gad g (44))), some (.ref (gad g (48 + 4 * bs))), some (.int (nI (l))), some (.int (bI hd)), some (.int (bI sd2)), some (.int (nI ((costN a (updN wt l x) u)))), some (.int (nI (x + 1))), some (.int (nI (1)))]) C dX2_tryWeights_143 rfl (nI_inc _) (by decide) rfl ?_
          refine j_goto (tgt := 9) C dX2_tryWeights_146 rfl ?_
          have hT2 : (tryF a wt u hd le tl l x b) = some (l, x, (costN a (updN wt l x) u)) := by
            rw [show x = (x - 1) + 1 by omega, tryF, if_neg (by omega), show x - 1 + 1 = x by omega, hbe]
            exact if_pos (by first | (simp [lessB, okT, hhd]; done) | (simp [lessB, okT, hhd]; omega) | (simp only [okT, hfb]; simp [lessB]; done) | (simp only [okT, hfb]; simp [lessB]; omega))
          refine J_clr 7 (L' := [some (.ref (gad g (44))), some (.ref (gad g (48 + 4 * bs))), some (.int (nI (l))), some (.int (bI hd)), some (.int (bI sd2)), some (.int (nI ((costN a (updN wt l x) u)))), some (.int (nI (x + 1))), none]) rfl ?_
          refine kk sd2 y2 τ40 (fun j n h => by rw [hz_41 _ _ (by omega), hz_38 _ _ (by omega), hz_35 _ _ (by omega)]; exact hf2 j n h) (hT1.kept (fun j n h => by rw [hz_41 _ _ (by omega), hz_38 _ _ (by omega), hz_35 _ _ (by omega)])) ?_ hsd2
          rw [hT2]
          exact ⟨⟨by rw [hz_41 _ _ (by omega), hz_38 _ _ (by omega)]; assumption, by rw [hz_41 _ _ (by omega)]; assumption, by assumption⟩, by omega, by omega, by omega⟩
  have lp : ∀ (k : Nat) (x th y : Nat) (sd : Bool) (σ1 : Sg), 21 - x = k → 1 ≤ x → x ≤ 21 → th < 2 ^ 31 → (∀ j n, ¬ (25 ≤ j ∧ j ≤ 43 ∨ j = 44 ∧ 3 ≤ n ∧ n ≤ 5 ∨ j = 57) → σ1 j n = σ j n) → StW σ1 2 (nM a) (updN wt l y) u → bsI σ1 (tryF a wt u hd le tl l (x - 1) b) → (sd = true → ∀ x', x ≤ x' → x' ≤ 20 → costN a (updN wt l x') u = th) → J g κ 8 9 [some (.ref (gad g (44))), some (.ref (gad g (48 + 4 * bs))), some (.int (nI (l))), some (.int (bI hd)), some (.int (bI sd)), some (.int (nI (th))), some (.int (nI (x))), none] [] σ1 := by
    intro k
    induction k using Nat.strongRecOn with
    | _ k ih =>
      intro x th y sd σ1 hk hx1 hx2 hth hf hT0 hb1 hsd
      refine j_iload C dX2_tryWeights_9 rfl ?_
      refine j_bipush (v := nI 20) C dX2_tryWeights_11 rfl ?_
      refine j_icmpn_gt (tgt := 149) C dX2_tryWeights_13 rfl (by omega) (by omega) (fun h13 => ?_) (fun h13 => ?_)
      · refine j_retv M dX2_tryWeights_149 ?_
        refine ⟨hf, ⟨y, hT0⟩, ?_⟩
        rw [show (20 : Nat) = x - 1 by omega]
        exact hb1
      · refine j_iload C dX2_tryWeights_16 rfl ?_
        refine j_aload_n C dX2_tryWeights_18 rfl rfl ?_
        refine j_get C flX2_43 dX2_tryWeights_19 (by omega) (cf_st (by omega) _) rfl ?_
        refine j_iload_n C dX2_tryWeights_22 rfl rfl ?_
        refine j_iald C dX2_tryWeights_23 (by omega) (cf_st1 (by omega)) (by decide) (by omega) ?_
        refine j_top ((hf _ _ (by omega)).trans (hW (l) (by omega)).1) ?_
        refine j_icmpn_ne (tgt := 30) C dX2_tryWeights_24 rfl (by omega) (by omega) (fun h24 => ?_) (fun h24 => ?_)
        · have hcb := costN_bd (w := updN wt l x) (u := u) hO
          rcases sd with _ | _
          · refine j_iload C dX2_tryWeights_30 rfl ?_
            refine j_ifn_ne (tgt := 81) C dX2_tryWeights_32 rfl (by omega) (fun h => absurd h (by decide)) (fun _ => ?_)
            refine j_aload_n C dX2_tryWeights_35 rfl rfl ?_
            refine j_get C flX2_12 dX2_tryWeights_36 (Nat.lt_of_lt_of_le (by decide) hN) rfl rfl ?_
            refine j_get C flX2_43 dX2_tryWeights_39 (Nat.lt_of_lt_of_le (by decide) hN) rfl rfl ?_
            refine j_iload_n C dX2_tryWeights_42 rfl rfl ?_
            refine j_iload C dX2_tryWeights_43 rfl ?_
            refine j_iast' C dX2_tryWeights_45 (Nat.lt_of_lt_of_le (by decide) hN) (fun _ => rfl) (by decide) (by omega) (fun τ1 hz_2 hw_3 => ?_)
            have hwx : WOk (nM a) (updN wt l x) := fun k hk => by
              by_cases e : k = l
              · subst e; rw [updN_s]; omega
              · rw [updN_n e]; exact hw k hk
            have hTx : StW τ1 2 (nM a) (updN wt l x) u := fun k hk => by
              refine ⟨?_, by rw [hz_2 _ _ (by omega)]; exact (hT0 k hk).2⟩
              by_cases e : k = l
              · subst e; rw [updN_s]; assumption
              · rw [hz_2 _ _ (by omega), updN_n e, (hT0 k hk).1, updN_n e]
            refine j_aload_n C dX2_tryWeights_46 rfl rfl ?_
            refine j_get C flX2_22 dX2_tryWeights_47 (Nat.lt_of_lt_of_le (by decide) hN) rfl rfl ?_
            refine j_aload_n C dX2_tryWeights_50 rfl rfl ?_
            refine j_get C flX2_12 dX2_tryWeights_51 (Nat.lt_of_lt_of_le (by decide) hN) rfl rfl ?_
            refine j_calli (As := [.ref (gad g (56))]) (rest := []) C (tX0_costOf (i := 2) (u := u) hN (σ := τ1) (w := updN wt l x) (by omega) (hI.kept (fun j n h1 h2 => by rw [hz_2 _ _ (by omega)]; exact hf j n (by omega))) hO hTx hwx) cdX0_costOf mlX2_52 dX2_tryWeights_54 (by decide) (by decide) (Nat.lt_of_lt_of_le (by decide) hN) rfl rfl rfl rfl rfl (Nat.le_of_ble_eq_true rfl) (fun rr_5 τ4 hp_6 => ?_)
            obtain ⟨hf9, hFl9, hr9⟩ := hp_6
            subst hr9
            refine j_istore (L' := [some (.ref (gad g (44))), some (.ref (gad g (48 + 4 * bs))), some (.int (nI (l))), some (.int (bI hd)), some (.int (nI (0))), some (.int (nI (costN a (updN wt l x) u))), some (.int (nI (x))), none]) C dX2_tryWeights_57 (by decide) rfl ?_
            refine j_aload_n C dX2_tryWeights_59 rfl rfl ?_
            refine j_get C flX2_22 dX2_tryWeights_60 (Nat.lt_of_lt_of_le (by decide) hN) rfl rfl ?_
            refine j_aload_n C dX2_tryWeights_63 rfl rfl ?_
            refine j_get C flX2_12 dX2_tryWeights_64 (Nat.lt_of_lt_of_le (by decide) hN) rfl rfl ?_
            refine j_iload_n C dX2_tryWeights_67 rfl rfl ?_
            refine j_calli (As := [.ref (gad g (56)), .int (nI (l))]) (rest := []) C (tX0_isShortForAGoal (i := 2) (u := u) hN (σ := τ4) (w := updN wt l x) (by omega) (hI.kept (fun j n h1 h2 => by rw [hf9 _ _ (by omega), hz_2 _ _ (by omega)]; exact hf j n (by omega))) hO (hTx.kept (fun j n h => hf9 j n (by omega))) hwx (l := l) hl hFl9.1) cdX0_isShortForAGoal mlX2_58 dX2_tryWeights_68 (by decide) (by decide) (Nat.lt_of_lt_of_le (by decide) hN) rfl rfl rfl rfl rfl (Nat.le_of_ble_eq_true rfl) (fun rr_8 τ7 hp_9 => ?_)
            obtain ⟨hs, hr⟩ := hp_9
            replace hs := hs.symm
            subst hs
            rcases hsg : sgA a (updN wt l x) u l (nN a) with _ | _ <;> rw [hsg] at hr <;> subst hr
            · refine j_ifn_ne (tgt := 78) C dX2_tryWeights_71 rfl (by omega) (fun h => absurd h (by decide)) (fun _ => ?_)
              refine j_iconst (v := nI 1) C dX2_tryWeights_74 rfl ?_
              refine j_goto (tgt := 79) C dX2_tryWeights_75 rfl ?_
              refine j_istore (L' := [some (.ref (gad g (44))), some (.ref (gad g (48 + 4 * bs))), some (.int (nI (l))), some (.int (bI hd)), some (.int (nI (1))), some (.int (nI (costN a (updN wt l x) u))), some (.int (nI (x))), none]) C dX2_tryWeights_79 (by decide) rfl ?_
              exact p81 x (by omega) (by omega) h24 (fun sd3 y3 σ3 hf3 hT3 hb3 hsd3 => ih (21 - (x + 1)) (by omega) (x + 1) (costN a (updN wt l x) u) y3 sd3 σ3 rfl (by omega) (by omega) (by omega) hf3 hT3 (by rw [Nat.add_sub_cancel]; exact hb3) hsd3) true x τ4 (fun j n h => by rw [hf9 _ _ (by omega), hz_2 _ _ (by omega)]; exact hf j n h) (hTx.kept (fun j n h => hf9 j n (by omega))) (hb1.kept (fun n h1 h2 => by rw [hf9 _ _ (by omega), hz_2 _ _ (by omega)])) (fun _ x' h1 h2 => set_cost hO hwx (fun k hk => by
                  by_cases e : k = l
                  · subst e; rw [updN_s]; omega
                  · rw [updN_n e]; exact hw k hk) (fun k => by
                  by_cases e : k = l
                  · subst e; rw [updN_s, updN_s]; omega
                  · rw [updN_n e, updN_n e]; exact Nat.le_refl _) (fun k e => by rw [updN_n e, updN_n e]) hl hsg)
            · refine j_ifn_ne (tgt := 78) C dX2_tryWeights_71 rfl (by omega) (fun _ => ?_) (fun h => absurd h (by decide))
              refine j_iconst (v := nI 0) C dX2_tryWeights_78 rfl ?_
              refine j_istore (L' := [some (.ref (gad g (44))), some (.ref (gad g (48 + 4 * bs))), some (.int (nI (l))), some (.int (bI hd)), some (.int (nI (0))), some (.int (nI (costN a (updN wt l x) u))), some (.int (nI (x))), none]) C dX2_tryWeights_79 (by decide) rfl ?_
              exact p81 x (by omega) (by omega) h24 (fun sd3 y3 σ3 hf3 hT3 hb3 hsd3 => ih (21 - (x + 1)) (by omega) (x + 1) (costN a (updN wt l x) u) y3 sd3 σ3 rfl (by omega) (by omega) (by omega) hf3 hT3 (by rw [Nat.add_sub_cancel]; exact hb3) hsd3) false x τ4 (fun j n h => by rw [hf9 _ _ (by omega), hz_2 _ _ (by omega)]; exact hf j n h) (hTx.kept (fun j n h => hf9 j n (by omega))) (hb1.kept (fun n h1 h2 => by rw [hf9 _ _ (by omega), hz_2 _ _ (by omega)])) (fun h => by cases h)
          · refine j_iload C dX2_tryWeights_30 rfl ?_
            refine j_ifn_ne (tgt := 81) C dX2_tryWeights_32 rfl (by omega) (fun _ => ?_) (fun h => absurd h (by decide))
            have e : th = (costN a (updN wt l x) u) := (hsd rfl x (Nat.le_refl _) (by omega)).symm
            refine J_loc (L' := [some (.ref (gad g (44))), some (.ref (gad g (48 + 4 * bs))), some (.int (nI (l))), some (.int (bI hd)), some (.int (bI true)), some (.int (nI ((costN a (updN wt l x) u)))), some (.int (nI (x))), none]) (by rw [e]) (p81 x (by omega) (by omega) h24 (fun sd3 y3 σ3 hf3 hT3 hb3 hsd3 => ih (21 - (x + 1)) (by omega) (x + 1) (costN a (updN wt l x) u) y3 sd3 σ3 rfl (by omega) (by omega) (by omega) hf3 hT3 (by rw [Nat.add_sub_cancel]; exact hb3) hsd3) true y σ1 hf hT0 hb1 (fun _ x' h1 h2 => by rw [← e]; exact hsd rfl x' (by omega) h2))
        · refine j_goto (tgt := 143) C dX2_tryWeights_27 rfl ?_
          refine j_iinc (L' := [some (.ref (gad g (44))), some (.ref (gad g (48 + 4 * bs))), some (.int (nI (l))), some (.int (bI hd)), some (.int (bI sd)), some (.int (nI (th))), some (.int (nI (x + 1))), none]) C dX2_tryWeights_143 rfl (nI_inc _) (by decide) rfl ?_
          refine j_goto (tgt := 9) C dX2_tryWeights_146 rfl ?_
          have e : (tryF a wt u hd le tl l x b) = (tryF a wt u hd le tl l (x - 1) b) := by
            rw [show x = (x - 1) + 1 by omega, tryF, if_pos (by omega), show x - 1 + 1 = x by omega]
          exact ih (21 - (x + 1)) (by omega) (x + 1) th y sd σ1 rfl (by omega) (by omega) hth hf hT0 (by rw [Nat.add_sub_cancel, e]; exact hb1) (fun h x' h1 h2 => hsd h x' (by omega) h2)
  refine j_iconst (v := nI 0) C dX2_tryWeights_0 rfl ?_
  refine j_istore (L' := [some (.ref (gad g (44))), some (.ref (gad g (48 + 4 * bs))), some (.int (nI (l))), some (.int (bI hd)), some (.int (nI (0))), none, none, none]) C dX2_tryWeights_1 (by decide) rfl ?_
  refine j_iconst (v := nI 0) C dX2_tryWeights_3 rfl ?_
  refine j_istore (L' := [some (.ref (gad g (44))), some (.ref (gad g (48 + 4 * bs))), some (.int (nI (l))), some (.int (bI hd)), some (.int (nI (0))), some (.int (nI (0))), none, none]) C dX2_tryWeights_4 (by decide) rfl ?_
  refine j_iconst (v := nI 1) C dX2_tryWeights_6 rfl ?_
  refine j_istore (L' := [some (.ref (gad g (44))), some (.ref (gad g (48 + 4 * bs))), some (.int (nI (l))), some (.int (bI hd)), some (.int (nI (0))), some (.int (nI (0))), some (.int (nI (1))), none]) C dX2_tryWeights_7 (by decide) rfl ?_
  refine lp (21 - 1) 1 0 (wt l) false σ rfl (by omega) (by omega) (by decide) (fun _ _ _ => rfl) (fun k hk => ?_) hb (fun h => by cases h)
  by_cases e : k = l
  · subst e; rw [updN_s]; exact hT k hk
  · rw [updN_n e]; exact hT k hk
set_option maxHeartbeats 4000000 in
set_option maxRecDepth 100000 in
theorem tX2_find {g : jG} (hN : 84 ≤ gN g) {σ : Sg} {bs le : Nat} {a : ND} {wt : Nat → Nat} {u : Nat → Bool} {hd : Bool} {tl : List Int32} (hbs : bs < 2) (hI : NetI σ 3 a) (hO : NOk a) (hW : StW σ bs (nM a) wt u) (hw : WOk (nM a) wt) (hh : hd = true → bs = 0 ∧ ∃ tc, tc ≤ 6 ∧ σ 48 4 = nI tc ∧ (∀ z, (∃ k, k < tc ∧ σ 51 k = z) ↔ z ∈ tl) ∧ σ 48 6 = nI le ∧ le < 2 ^ 31 ∧ σ 48 0 = nI (nM a)) (ps : Int32) : MS g yX2_find cX2_find 5 (some .boolean) rmX2_find [.ref (gad g (44)), .ref (gad g (48 + 4 * bs)), .int (ps), .int (bI hd)] σ (fun r σ' => (∀ j n, ¬ (25 ≤ j ∧ j ≤ 43 ∨ j = 44 ∧ 3 ≤ n ∧ n ≤ 5 ∨ 56 ≤ j ∧ j ≤ 59) → σ' j n = σ j n) ∧ r = bI (fndF a wt u hd le tl ps (nM a)).isSome ∧ bsI σ' (fndF a wt u hd le tl ps (nM a))) := by
  refine MJ_of (by decide) (Nat.le_of_ble_eq_true rfl) (List.forall_mem_cons.mpr ⟨rfl, List.forall_mem_cons.mpr ⟨rfl, List.forall_mem_cons.mpr ⟨rfl, List.forall_mem_cons.mpr ⟨rfl, fun _ h => absurd h List.not_mem_nil⟩⟩⟩⟩) ?_
  intro κ M
  have C := M.1
  show J g κ 5 0 [some (.ref (gad g (44))), some (.ref (gad g (48 + 4 * bs))), some (.int (ps)), some (.int (bI hd)), none] [] σ
  have hn7 := hO.2.1
  have hm12 := hO.2.2.1
  have hd6 := hO.2.2.2.1
  have lp : ∀ (k : Nat) (l : Nat) (σ1 : Sg), nM a - l = k → l ≤ nM a → (∀ j n, ¬ (25 ≤ j ∧ j ≤ 43 ∨ j = 44 ∧ 3 ≤ n ∧ n ≤ 5 ∨ 56 ≤ j ∧ j ≤ 59) → σ1 j n = σ j n) → StW σ1 2 (nM a) wt u → bsI σ1 (fndF a wt u hd le tl ps l) → J g κ 5 16 [some (.ref (gad g (44))), some (.ref (gad g (48 + 4 * bs))), some (.int (ps)), some (.int (bI hd)), some (.int (nI (l)))] [] σ1 := by
    intro k
    induction k using Nat.strongRecOn with
    | _ k ih =>
      intro l σ1 hk hl hf hT hb
      refine j_iload C dX2_find_16 rfl ?_
      refine j_aload_n C dX2_find_18 rfl rfl ?_
      refine j_get C flX2_18 dX2_find_19 (Nat.lt_of_lt_of_le (by decide) hN) rfl rfl ?_
      refine j_get C flX2_34 dX2_find_22 (Nat.lt_of_lt_of_le (by decide) hN) rfl rfl ?_
      refine j_top ((hf _ _ (by omega)).trans (hI.m)) ?_
      refine j_icmpn_ge (tgt := 65) C dX2_find_25 rfl (by omega) (by omega) (fun h25 => ?_) (fun h25 => ?_)
      · have el : l = nM a := by omega
        rw [el] at hb
        rcases hbe : (fndF a wt u hd le tl ps (nM a)) with _ | ⟨l0, x0, c0⟩ <;> rw [hbe] at hb
        · refine j_aload_n C dX2_find_65 rfl rfl ?_
          refine j_get C flX2_26 dX2_find_66 (Nat.lt_of_lt_of_le (by decide) hN) rfl rfl ?_
          refine j_top (hb) ?_
          refine j_iconst (v := -1) C dX2_find_69 rfl ?_
          refine j_icmp_eq (tgt := 77) C dX2_find_70 rfl (fun _ => ?_) (fun h => absurd h (by decide))
          refine j_iconst (v := nI 0) C dX2_find_77 rfl ?_
          refine j_retz M dX2_find_78 rfl ?_
          refine ⟨hf, ?_, ?_⟩
          · rw [hbe]; rfl
          · rw [hbe]; exact hb
        · have hb21 := hb.2
          refine j_aload_n C dX2_find_65 rfl rfl ?_
          refine j_get C flX2_26 dX2_find_66 (Nat.lt_of_lt_of_le (by decide) hN) rfl rfl ?_
          refine j_top (hb.1.1) ?_
          refine j_iconst (v := -1) C dX2_find_69 rfl ?_
          refine j_icmp_eq (tgt := 77) C dX2_find_70 rfl (fun h => absurd h (nI_neg (by omega) (by decide))) (fun _ => ?_)
          refine j_iconst (v := nI 1) C dX2_find_73 rfl ?_
          refine j_goto (tgt := 78) C dX2_find_74 rfl ?_
          refine j_retz M dX2_find_78 rfl ?_
          refine ⟨hf, ?_, ?_⟩
          · rw [hbe]; rfl
          · rw [hbe]; exact hb
      · refine j_iload C dX2_find_28 rfl ?_
        refine j_iload_n C dX2_find_30 rfl rfl ?_
        refine j_icmp_eq (tgt := 59) C dX2_find_31 rfl (fun h31 => ?_) (fun h31 => ?_)
        · refine j_iinc (L' := [some (.ref (gad g (44))), some (.ref (gad g (48 + 4 * bs))), some (.int (ps)), some (.int (bI hd)), some (.int (nI (l + 1)))]) C dX2_find_59 rfl (nI_inc _) (by decide) rfl ?_
          refine j_goto (tgt := 16) C dX2_find_62 rfl ?_
          have e : (fndF a wt u hd le tl ps (l + 1)) = (fndF a wt u hd le tl ps l) := by rw [fndF, if_pos h31]
          exact ih (nM a - (l + 1)) (by omega) (l + 1) σ1 rfl (by omega) hf hT (by rw [e]; exact hb)
        · refine j_aload_n C dX2_find_34 rfl rfl ?_
          refine j_aload_n C dX2_find_35 rfl rfl ?_
          refine j_iload C dX2_find_36 rfl ?_
          refine j_iload_n C dX2_find_38 rfl rfl ?_
          refine j_callv (As := [.ref (gad g (48 + 4 * bs)), .int (nI (l)), .int (bI hd)]) (rest := []) C (tX2_tryWeights hN (bs := bs) (le := le) (wt := wt) (u := u) (hd := hd) (tl := tl) hbs (hI.kept (fun j n h1 h2 => hf j n (by omega))) hO (fun k hk => ⟨(hf _ _ (by omega)).trans (hW k hk).1, (hf _ _ (by omega)).trans (hW k hk).2⟩) hw (fun q => by
          obtain ⟨q0, tc, q1, q2, q3, q4, q5, q6⟩ := hh q
          exact ⟨q0, tc, q1, (hf _ _ (by omega)).trans q2, fun z => Iff.trans ⟨fun ⟨k, k1, k2⟩ => ⟨k, k1, (hf _ _ (by omega)).symm.trans k2⟩, fun ⟨k, k1, k2⟩ => ⟨k, k1, (hf _ _ (by omega)).trans k2⟩⟩ (q3 z), (hf _ _ (by omega)).trans q4, q5, (hf _ _ (by omega)).trans q6⟩) (l := l) (by omega) hT hb) cdX2_tryWeights mlX2_39 dX2_find_39 (by decide) (by decide) (Nat.lt_of_lt_of_le (by decide) hN) rfl rfl rfl rfl rfl (Nat.le_of_ble_eq_true rfl) (fun τ1 hp_3 => ?_)
          obtain ⟨hf9, ⟨y, hT9⟩, hb9⟩ := hp_3
          refine j_aload_n C dX2_find_42 rfl rfl ?_
          refine j_get C flX2_12 dX2_find_43 (Nat.lt_of_lt_of_le (by decide) hN) rfl rfl ?_
          refine j_get C flX2_43 dX2_find_46 (Nat.lt_of_lt_of_le (by decide) hN) rfl rfl ?_
          refine j_iload C dX2_find_49 rfl ?_
          refine j_aload_n C dX2_find_51 rfl rfl ?_
          refine j_get C flX2_43 dX2_find_52 (by omega) (cf_st (by omega) _) rfl ?_
          refine j_iload C dX2_find_55 rfl ?_
          refine j_iald C dX2_find_57 (by omega) (cf_st1 (by omega)) (by decide) (by omega) ?_
          refine j_top ((hf9 _ _ (by omega)).trans ((hf _ _ (by omega)).trans (hW (l) (by omega)).1)) ?_
          refine j_iast' C dX2_find_58 (Nat.lt_of_lt_of_le (by decide) hN) (fun _ => rfl) (by decide) (by omega) (fun τ4 hz_5 hw_6 => ?_)
          refine j_iinc (L' := [some (.ref (gad g (44))), some (.ref (gad g (48 + 4 * bs))), some (.int (ps)), some (.int (bI hd)), some (.int (nI (l + 1)))]) C dX2_find_59 rfl (nI_inc _) (by decide) rfl ?_
          refine j_goto (tgt := 16) C dX2_find_62 rfl ?_
          have e : (fndF a wt u hd le tl ps (l + 1)) = tryF a wt u hd le tl l 20 (fndF a wt u hd le tl ps l) := by rw [fndF, if_neg h31]
          refine ih (nM a - (l + 1)) (by omega) (l + 1) τ4 rfl (by omega) (fun j n h => by rw [hz_5 _ _ (by omega), hf9 _ _ (by omega)]; exact hf j n h) (fun k hk => ?_) (by rw [e]; exact hb9.kept (fun n h1 h2 => by rw [hz_5 _ _ (by omega)]))
          refine ⟨?_, by rw [hz_5 _ _ (by omega)]; exact (hT9 k hk).2⟩
          by_cases q : k = l
          · subst q; assumption
          · rw [hz_5 _ _ (by omega)]; exact (hT9 k hk).1.trans (by rw [updN_n q])
  refine j_aload_n C dX2_find_0 rfl rfl ?_
  refine j_iconst (v := -1) C dX2_find_1 rfl ?_
  refine j_put' C fpX2_26 dX2_find_2 (Nat.lt_of_lt_of_le (by decide) hN) (fun _ => rfl) rfl (Nat.le_of_ble_eq_true rfl) rfl rfl (fun τ1 hz_2 hw_3 => ?_)
  refine j_aload_n C dX2_find_5 rfl rfl ?_
  refine j_get C flX2_12 dX2_find_6 (Nat.lt_of_lt_of_le (by decide) hN) rfl rfl ?_
  refine j_aload_n C dX2_find_9 rfl rfl ?_
  refine j_callv (As := [.ref (gad g (48 + 4 * bs))]) (rest := []) C (tX6_copyFrom (i := 2) (c := bs) hN (by omega) (by omega) (by omega)) cdX6_copyFrom mlX2_30 dX2_find_10 (by decide) (by decide) (Nat.lt_of_lt_of_le (by decide) hN) rfl rfl rfl rfl rfl (Nat.le_of_ble_eq_true rfl) (fun τ4 hp_6 => ?_)
  obtain ⟨hf8, c0, c4, c5, c6, c7, c8⟩ := hp_6
  refine j_iconst (v := nI 0) C dX2_find_13 rfl ?_
  refine j_istore (L' := [some (.ref (gad g (44))), some (.ref (gad g (48 + 4 * bs))), some (.int (ps)), some (.int (bI hd)), some (.int (nI (0)))]) C dX2_find_14 (by decide) rfl ?_
  refine lp (nM a - 0) 0 τ4 rfl (by omega) (fun j n h => by rw [hf8 _ _ (by omega), hz_2 _ _ (by omega)]) (fun k hk => ?_) (by show τ4 44 3 = -1; rw [hf8 _ _ (by omega)]; assumption)
  obtain ⟨e1, e2⟩ := c7 k (by omega)
  refine ⟨e1.trans (by rw [hz_2 _ _ (by omega)]; exact (hW k hk).1), e2.trans ?_⟩
  rw [hz_2 _ _ (by omega), (hW k hk).2]
  exact bI_nar _
