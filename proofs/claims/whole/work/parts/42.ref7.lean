set_option maxHeartbeats 4000000 in
set_option maxRecDepth 100000 in
theorem tX8_moreThanFull {g : jG} (hN : 97 ≤ gN g) {σ : Sg} {a : ND} {w : Nat → Nat} {u : Nat → Bool} (hI : RNet σ a) (hO : NOk a) (hW : RW σ (nM a) w u) (hw : WOk (nM a) w) : MS g yX8_moreThanFull cX8_moreThanFull 3 (some .int) rmX8_moreThanFull [.ref (gad g (84))] σ (fun r σ' => (∀ j n, ¬ (93 ≤ j ∧ j ≤ 96 ∨ j = 84 ∧ n = 22) → σ' j n = σ j n) ∧ r = nI (cnt (fun l => decide (12 * nRm a l < LDD a w u (nD a) l)) (nM a))) := by
  refine MJ_of (by decide) (Nat.le_of_ble_eq_true rfl) (List.forall_mem_cons.mpr ⟨rfl, fun _ h => absurd h List.not_mem_nil⟩) ?_
  intro κ M
  have C := M.1
  show J g κ 3 0 [some (.ref (gad g (84))), none, none] [] σ
  have hn7 := hO.2.1
  have hm12 := hO.2.2.1
  have hd6 := hO.2.2.2.1
  have lp : ∀ (σ1 : Sg), (∀ j n, ¬ (93 ≤ j ∧ j ≤ 96 ∨ j = 84 ∧ n = 22) → σ1 j n = σ j n) → (∀ l, l < nM a → σ1 96 l = nI (LDD a w u (nD a) l)) → ∀ (k l : Nat), nM a - l = k → l ≤ nM a → J g κ 3 8 [some (.ref (gad g (84))), some (.int (nI (cnt (fun l => decide (12 * nRm a l < LDD a w u (nD a) l)) (l)))), some (.int (nI (l)))] [] σ1 := by
    intro σ1 hf h96 k
    induction k using Nat.strongRecOn with
    | _ k ih =>
      intro l hk hl
      refine j_iload_n C dX8_moreThanFull_8 rfl rfl ?_
      refine j_aload_n C dX8_moreThanFull_9 rfl rfl ?_
      refine j_get C flX8_77 dX8_moreThanFull_10 (Nat.lt_of_lt_of_le (by decide) hN) rfl rfl ?_
      refine j_top ((hf _ _ (by omega)).trans (hI.1.2.1)) ?_
      refine j_icmpn_ge (tgt := 52) C dX8_moreThanFull_13 rfl (by omega) (by omega) (fun h13 => ?_) (fun h13 => ?_)
      · refine j_iload_n C dX8_moreThanFull_52 rfl rfl ?_
        refine j_ret M dX8_moreThanFull_53 ?_
        exact ⟨hf, by rw [show l = nM a by omega]⟩
      · obtain ⟨hb1, hb2, hb3, hb4, hb5⟩ := hO.2.2.2.2.1 l (by omega)
        have hlb := LDD_bd (w := w) (u := u) hO (Nat.le_refl (nD a)) (show l < nM a by omega)
        refine j_iload_n C dX8_moreThanFull_16 rfl rfl ?_
        refine j_aload_n C dX8_moreThanFull_17 rfl rfl ?_
        refine j_get C flX8_43 dX8_moreThanFull_18 (Nat.lt_of_lt_of_le (by decide) hN) rfl rfl ?_
        refine j_iload_n C dX8_moreThanFull_21 rfl rfl ?_
        refine j_iald C dX8_moreThanFull_22 (Nat.lt_of_lt_of_le (by decide) hN) (fun _ => rfl) (by decide) (by omega) ?_
        refine j_top (h96 l (by omega)) ?_
        refine j_bipush (v := nI 12) C dX8_moreThanFull_23 rfl ?_
        refine j_aload_n C dX8_moreThanFull_25 rfl rfl ?_
        refine j_get C flX8_19 dX8_moreThanFull_26 (Nat.lt_of_lt_of_le (by decide) hN) rfl rfl ?_
        refine j_iconst (v := nI 4) C dX8_moreThanFull_29 rfl ?_
        refine j_iload_n C dX8_moreThanFull_30 rfl rfl ?_
        refine j_imul C dX8_moreThanFull_31 ?_
        refine j_top (pk_mul _ _) ?_
        refine j_iconst (v := nI 2) C dX8_moreThanFull_32 rfl ?_
        refine j_iadd C dX8_moreThanFull_33 ?_
        refine j_top (nI_add _ _) ?_
        refine j_iald C dX8_moreThanFull_34 (Nat.lt_of_lt_of_le (by decide) hN) (fun _ => rfl) (by decide) (by omega) ?_
        refine j_top ((hf _ _ (by omega)).trans (hI.2.1 l (by omega)).2.2) ?_
        refine j_imul C dX8_moreThanFull_35 ?_
        refine j_top (pk_mul _ _) ?_
        refine j_icmpn_le (tgt := 43) C dX8_moreThanFull_36 rfl (by omega) (by omega) (fun h36 => ?_) (fun h36 => ?_)
        · refine j_iconst (v := nI 0) C dX8_moreThanFull_43 rfl ?_
          refine j_iadd C dX8_moreThanFull_44 ?_
          refine j_top (nI_add _ _) ?_
          refine j_istore_n (L' := [some (.ref (gad g (84))), some (.int (nI ((cnt (fun l => decide (12 * nRm a l < LDD a w u (nD a) l)) (l) + 0)))), some (.int (nI (l)))]) C dX8_moreThanFull_45 rfl (by decide) rfl ?_
          refine j_iinc (L' := [some (.ref (gad g (84))), some (.int (nI ((cnt (fun l => decide (12 * nRm a l < LDD a w u (nD a) l)) (l) + 0)))), some (.int (nI (l + 1)))]) C dX8_moreThanFull_46 rfl (nI_inc _) (by decide) rfl ?_
          refine j_goto (tgt := 8) C dX8_moreThanFull_49 rfl ?_
          refine J_loc (L' := [some (.ref (gad g (84))), some (.int (nI (cnt (fun l => decide (12 * nRm a l < LDD a w u (nD a) l)) (l + 1)))), some (.int (nI (l + 1)))]) (by
            first | (rw [cnt_hit (p := (fun l => decide (12 * nRm a l < LDD a w u (nD a) l))) (decide_eq_true (by omega))]; done) | (rw [cnt_miss (p := (fun l => decide (12 * nRm a l < LDD a w u (nD a) l))) (decide_eq_false (by omega))]; rfl)) (ih (nM a - (l + 1)) (by omega) (l + 1) rfl (by omega))
        · refine j_iconst (v := nI 1) C dX8_moreThanFull_39 rfl ?_
          refine j_goto (tgt := 44) C dX8_moreThanFull_40 rfl ?_
          refine j_iadd C dX8_moreThanFull_44 ?_
          refine j_top (nI_add _ _) ?_
          refine j_istore_n (L' := [some (.ref (gad g (84))), some (.int (nI ((cnt (fun l => decide (12 * nRm a l < LDD a w u (nD a) l)) (l) + 1)))), some (.int (nI (l)))]) C dX8_moreThanFull_45 rfl (by decide) rfl ?_
          refine j_iinc (L' := [some (.ref (gad g (84))), some (.int (nI ((cnt (fun l => decide (12 * nRm a l < LDD a w u (nD a) l)) (l) + 1)))), some (.int (nI (l + 1)))]) C dX8_moreThanFull_46 rfl (nI_inc _) (by decide) rfl ?_
          refine j_goto (tgt := 8) C dX8_moreThanFull_49 rfl ?_
          refine J_loc (L' := [some (.ref (gad g (84))), some (.int (nI (cnt (fun l => decide (12 * nRm a l < LDD a w u (nD a) l)) (l + 1)))), some (.int (nI (l + 1)))]) (by
            first | (rw [cnt_hit (p := (fun l => decide (12 * nRm a l < LDD a w u (nD a) l))) (decide_eq_true (by omega))]; done) | (rw [cnt_miss (p := (fun l => decide (12 * nRm a l < LDD a w u (nD a) l))) (decide_eq_false (by omega))]; rfl)) (ih (nM a - (l + 1)) (by omega) (l + 1) rfl (by omega))
  refine j_aload_n C dX8_moreThanFull_0 rfl rfl ?_
  refine j_callv (As := []) (rest := []) C (tX8_layLoads hN hI hO hW hw) cdX8_layLoads mlX8_151 dX8_moreThanFull_1 (by decide) (by decide) (Nat.lt_of_lt_of_le (by decide) hN) rfl rfl rfl rfl rfl (Nat.le_of_ble_eq_true rfl) (fun τ1 hp_3 => ?_)
  refine j_iconst (v := nI 0) C dX8_moreThanFull_4 rfl ?_
  refine j_istore_n (L' := [some (.ref (gad g (84))), some (.int (nI (0))), none]) C dX8_moreThanFull_5 rfl (by decide) rfl ?_
  refine j_iconst (v := nI 0) C dX8_moreThanFull_6 rfl ?_
  refine j_istore_n (L' := [some (.ref (gad g (84))), some (.int (nI (0))), some (.int (nI (0)))]) C dX8_moreThanFull_7 rfl (by decide) rfl ?_
  exact lp τ1 hp_3.1 hp_3.2.1 (nM a - 0) 0 rfl (by omega)
set_option maxHeartbeats 4000000 in
set_option maxRecDepth 100000 in
theorem tX8_ones {g : jG} (hN : 97 ≤ gN g) {σ : Sg} {B : Nat} (hB : B < 2 ^ 31) : MS g yX8_ones cX8_ones 3 (some .int) rmX8_ones [.int (nI (B))] σ (fun r σ' => σ' = σ ∧ r = nI (sumN (fun k => B / 2 ^ k % 2) 12)) := by
  refine MJ_of (by decide) (Nat.le_of_ble_eq_true rfl) (List.forall_mem_cons.mpr ⟨rfl, fun _ h => absurd h List.not_mem_nil⟩) ?_
  intro κ M
  have C := M.1
  show J g κ 3 0 [some (.int (nI (B))), none, none] [] σ
  have lp : ∀ (k : Nat) (i : Nat), 12 - i = k → i ≤ 12 → J g κ 3 4 [some (.int (nI (B))), some (.int (nI (sumN (fun k => B / 2 ^ k % 2) (i)))), some (.int (nI (i)))] [] σ := by
    intro k
    induction k using Nat.strongRecOn with
    | _ k ih =>
      intro i hk hi
      refine j_iload_n C dX8_ones_4 rfl rfl ?_
      refine j_bipush (v := nI 12) C dX8_ones_5 rfl ?_
      refine j_icmpn_ge (tgt := 24) C dX8_ones_7 rfl (by omega) (by omega) (fun h7 => ?_) (fun h7 => ?_)
      · refine j_iload_n C dX8_ones_24 rfl rfl ?_
        refine j_ret M dX8_ones_25 ?_
        exact ⟨rfl, by rw [show i = 12 by omega]⟩
      · refine j_iload_n C dX8_ones_10 rfl rfl ?_
        refine j_iload_n C dX8_ones_11 rfl rfl ?_
        refine j_iload_n C dX8_ones_12 rfl rfl ?_
        refine j_ishr C dX8_ones_13 ?_
        refine j_top rfl ?_
        refine j_iconst (v := nI 1) C dX8_ones_14 rfl ?_
        refine j_iand C dX8_ones_15 ?_
        refine j_top (bit_rd (by omega) (by omega)) ?_
        refine j_iadd C dX8_ones_16 ?_
        refine j_top (nI_add _ _) ?_
        refine j_istore_n (L' := [some (.int (nI (B))), some (.int (nI ((sumN (fun k => B / 2 ^ k % 2) (i) + B / 2 ^ i % 2)))), some (.int (nI (i)))]) C dX8_ones_17 rfl (by decide) rfl ?_
        refine j_iinc (L' := [some (.int (nI (B))), some (.int (nI ((sumN (fun k => B / 2 ^ k % 2) (i) + B / 2 ^ i % 2)))), some (.int (nI (i + 1)))]) C dX8_ones_18 rfl (nI_inc _) (by decide) rfl ?_
        refine j_goto (tgt := 4) C dX8_ones_21 rfl ?_
        exact ih (12 - (i + 1)) (by omega) (i + 1) rfl (by omega)
  refine j_iconst (v := nI 0) C dX8_ones_0 rfl ?_
  refine j_istore_n (L' := [some (.int (nI (B))), some (.int (nI (0))), none]) C dX8_ones_1 rfl (by decide) rfl ?_
  refine j_iconst (v := nI 0) C dX8_ones_2 rfl ?_
  refine j_istore_n (L' := [some (.int (nI (B))), some (.int (nI (0))), some (.int (nI (0)))]) C dX8_ones_3 rfl (by decide) rfl ?_
  exact lp (12 - 0) 0 rfl (by omega)
set_option maxHeartbeats 4000000 in
set_option maxRecDepth 100000 in
theorem tX8_shortFor {g : jG} (hN : 97 ≤ gN g) {σ : Sg} {a : ND} {w : Nat → Nat} {u : Nat → Bool} (hI : RNet σ a) (hO : NOk a) (hW : RW σ (nM a) w u) (hw : WOk (nM a) w) {l : Nat} (hl : l < nM a) : MS g yX8_shortFor cX8_shortFor 4 (some .int) rmX8_shortFor [.ref (gad g (84)), .int (nI (l))] σ (fun r σ' => (∀ j n, ¬ (j = 93) → σ' j n = σ j n) ∧ r = nI (cnt (fun d => !lostB a w u d && shb a w u (FAR a w u (nGo a d)) l) (nD a))) := by
  refine MJ_of (by decide) (Nat.le_of_ble_eq_true rfl) (List.forall_mem_cons.mpr ⟨rfl, List.forall_mem_cons.mpr ⟨rfl, fun _ h => absurd h List.not_mem_nil⟩⟩) ?_
  intro κ M
  have C := M.1
  show J g κ 4 0 [some (.ref (gad g (84))), some (.int (nI (l))), none, none] [] σ
  have hn7 := hO.2.1
  have hm12 := hO.2.2.1
  have hd6 := hO.2.2.2.1
  have hD6 := hO.2.2.2.1
  have lp : ∀ (k : Nat) (d : Nat) (σ1 : Sg), nD a - d = k → d ≤ nD a → (∀ j n, ¬ (j = 93) → σ1 j n = σ j n) → J g κ 4 4 [some (.ref (gad g (84))), some (.int (nI (l))), some (.int (nI (cnt (fun d => !lostB a w u d && shb a w u (FAR a w u (nGo a d)) l) (d)))), some (.int (nI (d)))] [] σ1 := by
    intro k
    induction k using Nat.strongRecOn with
    | _ k ih =>
      intro d σ1 hk hd hf
      refine j_iload_n C dX8_shortFor_4 rfl rfl ?_
      refine j_aload_n C dX8_shortFor_5 rfl rfl ?_
      refine j_get C flX8_80 dX8_shortFor_6 (Nat.lt_of_lt_of_le (by decide) hN) rfl rfl ?_
      refine j_top ((hf _ _ (by omega)).trans (hI.1.2.2)) ?_
      refine j_icmpn_ge (tgt := 66) C dX8_shortFor_9 rfl (by omega) (by omega) (fun h9 => ?_) (fun h9 => ?_)
      · refine j_iload_n C dX8_shortFor_66 rfl rfl ?_
        refine j_ret M dX8_shortFor_67 ?_
        exact ⟨hf, by rw [show d = nD a by omega]⟩
      · obtain ⟨hd1, hd2, hd3, hd4, hd5⟩ := hO.2.2.2.2.2 d (by omega)
        refine j_aload_n C dX8_shortFor_12 rfl rfl ?_
        refine j_aload_n C dX8_shortFor_13 rfl rfl ?_
        refine j_get C flX8_22 dX8_shortFor_14 (Nat.lt_of_lt_of_le (by decide) hN) rfl rfl ?_
        refine j_iconst (v := nI 3) C dX8_shortFor_17 rfl ?_
        refine j_iload_n C dX8_shortFor_18 rfl rfl ?_
        refine j_imul C dX8_shortFor_19 ?_
        refine j_top (pk_mul _ _) ?_
        refine j_iconst (v := nI 1) C dX8_shortFor_20 rfl ?_
        refine j_iadd C dX8_shortFor_21 ?_
        refine j_top (nI_add _ _) ?_
        refine j_iald C dX8_shortFor_22 (Nat.lt_of_lt_of_le (by decide) hN) (fun _ => rfl) (by decide) (by omega) ?_
        refine j_top ((hf _ _ (by omega)).trans ((hI.2.2 d (by omega)).2.1)) ?_
        refine j_callv (As := [.int (nI (nGo a d))]) (rest := []) C (tX8_findFar hN (hI.kept (fun j n h => hf j n (by omega))) hO (hW.kept hm12 (fun n h => hf _ _ (by omega))) hw (t := nGo a d) (by omega)) cdX8_findFar mlX8_133 dX8_shortFor_23 (by decide) (by decide) (Nat.lt_of_lt_of_le (by decide) hN) rfl rfl rfl rfl rfl (Nat.le_of_ble_eq_true rfl) (fun τ1 hp_3 => ?_)
        obtain ⟨hqf, hq93⟩ := hp_3
        rcases hn : FAR a w u (nGo a d) (nSt a d) with _ | v
        · have hlo : lostB a w u d = true := by unfold lostB; rw [hn]; rfl
          refine j_iload_n C dX8_shortFor_26 rfl rfl ?_
          refine j_aload_n C dX8_shortFor_27 rfl rfl ?_
          refine j_get C flX8_34 dX8_shortFor_28 (Nat.lt_of_lt_of_le (by decide) hN) rfl rfl ?_
          refine j_aload_n C dX8_shortFor_31 rfl rfl ?_
          refine j_get C flX8_22 dX8_shortFor_32 (Nat.lt_of_lt_of_le (by decide) hN) rfl rfl ?_
          refine j_iconst (v := nI 3) C dX8_shortFor_35 rfl ?_
          refine j_iload_n C dX8_shortFor_36 rfl rfl ?_
          refine j_imul C dX8_shortFor_37 ?_
          refine j_top (pk_mul _ _) ?_
          refine j_iald C dX8_shortFor_38 (Nat.lt_of_lt_of_le (by decide) hN) (fun _ => rfl) (by decide) (by omega) ?_
          refine j_top ((hqf _ _ (by omega)).trans ((hf _ _ (by omega)).trans ((hI.2.2 d (by omega)).1))) ?_
          refine j_iald C dX8_shortFor_39 (Nat.lt_of_lt_of_le (by decide) hN) (fun _ => rfl) (by decide) (by omega) ?_
          refine j_top ((hq93 _ (by omega)).trans (congrArg c4 hn)) ?_
          refine j_bipush (v := -4) C dX8_shortFor_40 rfl ?_
          refine j_icmp_eq (tgt := 57) C dX8_shortFor_42 rfl (fun _ => ?_) (fun h => absurd h (by decide))
          refine j_iconst (v := nI 0) C dX8_shortFor_57 rfl ?_
          refine j_iadd C dX8_shortFor_58 ?_
          refine j_top (nI_add _ _) ?_
          refine j_istore_n (L' := [some (.ref (gad g (84))), some (.int (nI (l))), some (.int (nI ((cnt (fun d => !lostB a w u d && shb a w u (FAR a w u (nGo a d)) l) (d) + 0)))), some (.int (nI (d)))]) C dX8_shortFor_59 rfl (by decide) rfl ?_
          refine j_iinc (L' := [some (.ref (gad g (84))), some (.int (nI (l))), some (.int (nI ((cnt (fun d => !lostB a w u d && shb a w u (FAR a w u (nGo a d)) l) (d) + 0)))), some (.int (nI (d + 1)))]) C dX8_shortFor_60 rfl (nI_inc _) (by decide) rfl ?_
          refine j_goto (tgt := 4) C dX8_shortFor_63 rfl ?_
          refine J_loc (L' := [some (.ref (gad g (84))), some (.int (nI (l))), some (.int (nI (cnt (fun d => !lostB a w u d && shb a w u (FAR a w u (nGo a d)) l) (d + 1)))), some (.int (nI (d + 1)))]) (by
            first | (rw [cnt_hit (p := (fun d => !lostB a w u d && shb a w u (FAR a w u (nGo a d)) l)) (by rw [hlo, hsb]; rfl)]; done) | (rw [cnt_miss (p := (fun d => !lostB a w u d && shb a w u (FAR a w u (nGo a d)) l)) (by rw [hlo, hsb]; rfl)]; rfl) | (rw [cnt_miss (p := (fun d => !lostB a w u d && shb a w u (FAR a w u (nGo a d)) l)) (by rw [hlo]; rfl)]; rfl)) (ih (nD a - (d + 1)) (by omega) (d + 1) τ1 rfl (by omega) (fun j n h => by rw [hqf j n (by omega)]; exact hf j n h))
        · have hlo : lostB a w u d = false := by unfold lostB; rw [hn]; rfl
          have hv := FAR_bd (t := nGo a d) hO hw _ _ hn
          refine j_iload_n C dX8_shortFor_26 rfl rfl ?_
          refine j_aload_n C dX8_shortFor_27 rfl rfl ?_
          refine j_get C flX8_34 dX8_shortFor_28 (Nat.lt_of_lt_of_le (by decide) hN) rfl rfl ?_
          refine j_aload_n C dX8_shortFor_31 rfl rfl ?_
          refine j_get C flX8_22 dX8_shortFor_32 (Nat.lt_of_lt_of_le (by decide) hN) rfl rfl ?_
          refine j_iconst (v := nI 3) C dX8_shortFor_35 rfl ?_
          refine j_iload_n C dX8_shortFor_36 rfl rfl ?_
          refine j_imul C dX8_shortFor_37 ?_
          refine j_top (pk_mul _ _) ?_
          refine j_iald C dX8_shortFor_38 (Nat.lt_of_lt_of_le (by decide) hN) (fun _ => rfl) (by decide) (by omega) ?_
          refine j_top ((hqf _ _ (by omega)).trans ((hf _ _ (by omega)).trans ((hI.2.2 d (by omega)).1))) ?_
          refine j_iald C dX8_shortFor_39 (Nat.lt_of_lt_of_le (by decide) hN) (fun _ => rfl) (by decide) (by omega) ?_
          refine j_top ((hq93 _ (by omega)).trans (congrArg c4 hn)) ?_
          refine j_bipush (v := -4) C dX8_shortFor_40 rfl ?_
          refine j_icmp_eq (tgt := 57) C dX8_shortFor_42 rfl (fun h => absurd h (nI_neg (by omega) (by decide))) (fun _ => ?_)
          refine j_aload_n C dX8_shortFor_45 rfl rfl ?_
          refine j_iload_n C dX8_shortFor_46 rfl rfl ?_
          refine j_calli (As := [.int (nI (l))]) (rest := [.int (nI (cnt (fun d => !lostB a w u d && shb a w u (FAR a w u (nGo a d)) l) (d)))]) C (tX8_isShort hN (hI.kept (fun j n h => by rw [hqf j n (by omega)]; exact hf j n (by omega))) hO (hW.kept hm12 (fun n h => by rw [hqf _ _ (by omega)]; exact hf _ _ (by omega))) hw (l := l) (f := FAR a w u (nGo a d)) (by omega) hq93 (fun x v h => by have := FAR_bd (t := nGo a d) hO hw x v h; omega)) cdX8_isShort mlX8_130 dX8_shortFor_47 (by decide) (by decide) (Nat.lt_of_lt_of_le (by decide) hN) rfl rfl rfl rfl rfl (Nat.le_of_ble_eq_true rfl) (fun rr_5 τ4 hp_6 => ?_)
          obtain ⟨hs, hr⟩ := hp_6
          replace hs := hs.symm
          subst hs
          rcases hsb : shb a w u (FAR a w u (nGo a d)) l with _ | _ <;> rw [hsb] at hr <;> subst hr
          · refine j_ifn_eq (tgt := 57) C dX8_shortFor_50 rfl (by omega) (fun _ => ?_) (fun h => absurd h (by decide))
            refine j_iconst (v := nI 0) C dX8_shortFor_57 rfl ?_
            refine j_iadd C dX8_shortFor_58 ?_
            refine j_top (nI_add _ _) ?_
            refine j_istore_n (L' := [some (.ref (gad g (84))), some (.int (nI (l))), some (.int (nI ((cnt (fun d => !lostB a w u d && shb a w u (FAR a w u (nGo a d)) l) (d) + 0)))), some (.int (nI (d)))]) C dX8_shortFor_59 rfl (by decide) rfl ?_
            refine j_iinc (L' := [some (.ref (gad g (84))), some (.int (nI (l))), some (.int (nI ((cnt (fun d => !lostB a w u d && shb a w u (FAR a w u (nGo a d)) l) (d) + 0)))), some (.int (nI (d + 1)))]) C dX8_shortFor_60 rfl (nI_inc _) (by decide) rfl ?_
            refine j_goto (tgt := 4) C dX8_shortFor_63 rfl ?_
            refine J_loc (L' := [some (.ref (gad g (84))), some (.int (nI (l))), some (.int (nI (cnt (fun d => !lostB a w u d && shb a w u (FAR a w u (nGo a d)) l) (d + 1)))), some (.int (nI (d + 1)))]) (by
              first | (rw [cnt_hit (p := (fun d => !lostB a w u d && shb a w u (FAR a w u (nGo a d)) l)) (by rw [hlo, hsb]; rfl)]; done) | (rw [cnt_miss (p := (fun d => !lostB a w u d && shb a w u (FAR a w u (nGo a d)) l)) (by rw [hlo, hsb]; rfl)]; rfl) | (rw [cnt_miss (p := (fun d => !lostB a w u d && shb a w u (FAR a w u (nGo a d)) l)) (by rw [hlo]; rfl)]; rfl)) (ih (nD a - (d + 1)) (by omega) (d + 1) τ1 rfl (by omega) (fun j n h => by rw [hqf j n (by omega)]; exact hf j n h))
          · refine j_ifn_eq (tgt := 57) C dX8_shortFor_50 rfl (by omega) (fun h => absurd h (by decide)) (fun _ => ?_)
            refine j_iconst (v := nI 1) C dX8_shortFor_53 rfl ?_
            refine j_goto (tgt := 58) C dX8_shortFor_54 rfl ?_
            refine j_iadd C dX8_shortFor_58 ?_
            refine j_top (nI_add _ _) ?_
            refine j_istore_n (L' := [some (.ref (gad g (84))), some (.int (nI (l))), some (.int (nI ((cnt (fun d => !lostB a w u d && shb a w u (FAR a w u (nGo a d)) l) (d) + 1)))), some (.int (nI (d)))]) C dX8_shortFor_59 rfl (by decide) rfl ?_
            refine j_iinc (L' := [some (.ref (gad g (84))), some (.int (nI (l))), some (.int (nI ((cnt (fun d => !lostB a w u d && shb a w u (FAR a w u (nGo a d)) l) (d) + 1)))), some (.int (nI (d + 1)))]) C dX8_shortFor_60 rfl (nI_inc _) (by decide) rfl ?_
            refine j_goto (tgt := 4) C dX8_shortFor_63 rfl ?_
            refine J_loc (L' := [some (.ref (gad g (84))), some (.int (nI (l))), some (.int (nI (cnt (fun d => !lostB a w u d && shb a w u (FAR a w u (nGo a d)) l) (d + 1)))), some (.int (nI (d + 1)))]) (by
              first | (rw [cnt_hit (p := (fun d => !lostB a w u d && shb a w u (FAR a w u (nGo a d)) l)) (by rw [hlo, hsb]; rfl)]; done) | (rw [cnt_miss (p := (fun d => !lostB a w u d && shb a w u (FAR a w u (nGo a d)) l)) (by rw [hlo, hsb]; rfl)]; rfl) | (rw [cnt_miss (p := (fun d => !lostB a w u d && shb a w u (FAR a w u (nGo a d)) l)) (by rw [hlo]; rfl)]; rfl)) (ih (nD a - (d + 1)) (by omega) (d + 1) τ1 rfl (by omega) (fun j n h => by rw [hqf j n (by omega)]; exact hf j n h))
  refine j_iconst (v := nI 0) C dX8_shortFor_0 rfl ?_
  refine j_istore_n (L' := [some (.ref (gad g (84))), some (.int (nI (l))), some (.int (nI (0))), none]) C dX8_shortFor_1 rfl (by decide) rfl ?_
  refine j_iconst (v := nI 0) C dX8_shortFor_2 rfl ?_
  refine j_istore_n (L' := [some (.ref (gad g (84))), some (.int (nI (l))), some (.int (nI (0))), some (.int (nI (0)))]) C dX8_shortFor_3 rfl (by decide) rfl ?_
  exact lp (nD a - 0) 0 σ rfl (by omega) (fun _ _ _ => rfl)
set_option maxHeartbeats 4000000 in
set_option maxRecDepth 100000 in
theorem tX8_link {g : jG} (hN : 97 ≤ gN g) {σ : Sg} {tx : Nat → Int32} {len : Nat} {a : ND} {wt : Nat → Nat} {u : Nat → Bool} {tl : List Int32} {le : Nat} {p : List SD} (hC : RI σ (tx, len, a, (wt, u, tl, le), p)) (hA : AOk (tx, len, a, (wt, u, tl, le), p)) (h1m : 1 ≤ nM a) (h1d : 1 ≤ nD a) (l0 x0 : Int32) : MS g yX8_link cX8_link 3 (some .int) rmX8_link [.ref (gad g (84)), .int (l0), .int (x0)] σ (fun r σ' => r = (abLink l0 x0 (tx, len, a, (wt, u, tl, le), p)).1 ∧ RI σ' (abLink l0 x0 (tx, len, a, (wt, u, tl, le), p)).2 ∧ ∀ j n, j < 84 → σ' j n = σ j n) := by
  refine MJ_of (by decide) (Nat.le_of_ble_eq_true rfl) (List.forall_mem_cons.mpr ⟨rfl, List.forall_mem_cons.mpr ⟨rfl, List.forall_mem_cons.mpr ⟨rfl, fun _ h => absurd h List.not_mem_nil⟩⟩⟩) ?_
  intro κ M
  have C := M.1
  show J g κ 3 0 [some (.ref (gad g (84))), some (.int (l0)), some (.int (x0))] [] σ
  have hI : RNet σ a := hC.2.1
  have hO : NOk a := hA.1
  have hS : RS1 σ 90 0 (nM a) (wt, u, tl, le) := hC.2.2.1
  have hW : RW σ (nM a) wt u := hS.w
  have hw : WOk (nM a) wt := hA.2.1.1
  have htl6 : tl.length ≤ 6 := hA.2.1.2.1
  have hle31 : le < 2 ^ 31 := hA.2.1.2.2
  have hlen : len ≤ 200 := hC.1.2.1
  have hCl : σ 84 1 = nI len := hC.1.1
  have hCt : ∀ k, k < len → σ 85 k = tx k := hC.1.2.2
  have hn2 := hO.1
  have hn7 := hO.2.1
  have hm12 := hO.2.2.1
  have hd6 := hO.2.2.2.1
  have hle : σ 90 13 = nI le := hS.2.2.1
  have hT : RT σ tl := ⟨hS.2.2.2.1, fun k hk => hS.2.2.2.2 k hk⟩
  have hPl : σ 84 15 = nI p.length := hC.2.2.2.1
  have hp6 : p.length ≤ 6 := hA.2.2.2.1
  refine j_aload_n C dX8_link_0 rfl rfl ?_
  refine j_iload_n C dX8_link_1 rfl rfl ?_
  refine j_calli (As := [.int (l0)]) (rest := []) C (tX8_isLink hN (b := nM a) hI.1.2.1 (by omega) (by omega) _) cdX8_isLink mlX8_180 dX8_link_2 (by decide) (by decide) (Nat.lt_of_lt_of_le (by decide) hN) rfl rfl rfl rfl rfl (Nat.le_of_ble_eq_true rfl) (fun rr_2 τ1 hp_3 => ?_)
  obtain ⟨hs, hc⟩ := hp_3
  replace hs := hs.symm
  subst hs
  rcases hc with ⟨rfl, l, hl, rfl⟩ | ⟨rfl, hno⟩
  · refine j_ifn_eq (tgt := 18) C dX8_link_5 rfl (by omega) (fun h => absurd h (by decide)) (fun _ => ?_)
    refine j_iload_n C dX8_link_8 rfl rfl ?_
    refine j_iconst (v := nI 0) C dX8_link_9 rfl ?_
    refine j_bipush (v := nI 7) C dX8_link_10 rfl ?_
    refine j_calls (As := [.int (x0), .int (nI (0)), .int (nI (7))]) (rest := []) C (tX8_in hN _ (lo := 0) (hi := 7) (by omega) (by omega)) cdX8_in msX8_96 dX8_link_12 (by decide) (by decide) rfl rfl (Nat.le_of_ble_eq_true rfl) (fun rr_5 τ4 hp_6 => ?_)
    obtain ⟨hs, hc⟩ := hp_6
    replace hs := hs.symm
    subst hs
    rcases hc with ⟨rfl, x, hx1, hx2, rfl⟩ | ⟨rfl, hRno⟩
    · refine j_ifn_ne (tgt := 20) C dX8_link_15 rfl (by omega) (fun _ => ?_) (fun h => absurd h (by decide))
      refine j_aload_n C dX8_link_20 rfl rfl ?_
      refine j_callv (As := []) (rest := []) C (tX8_layLoads hN hI hO hW hw) cdX8_layLoads mlX8_151 dX8_link_21 (by decide) (by decide) (Nat.lt_of_lt_of_le (by decide) hN) rfl rfl rfl rfl rfl (Nat.le_of_ble_eq_true rfl) (fun τ7 hp_9 => ?_)
      obtain ⟨hfc, h96, h22⟩ := hp_9
      refine j_iload_n C dX8_link_24 rfl rfl ?_
      rcases (by omega : x = 0 ∨ x = 1 ∨ x = 2 ∨ x = 3 ∨ x = 4 ∨ x = 5 ∨ x = 6 ∨ x = 7) with rfl | rfl | rfl | rfl | rfl | rfl | rfl | rfl
      · refine j_tableOut (tgt := 100) C dX8_link_25 (Or.inl (by decide)) rfl ?_
        refine j_aload_n C dX8_link_100 rfl rfl ?_
        refine j_get C flX8_19 dX8_link_101 (Nat.lt_of_lt_of_le (by decide) hN) rfl rfl ?_
        refine j_iconst (v := nI 4) C dX8_link_104 rfl ?_
        refine j_iload_n C dX8_link_105 rfl rfl ?_
        refine j_imul C dX8_link_106 ?_
        refine j_top (pk_mul _ _) ?_
        refine j_iload_n C dX8_link_107 rfl rfl ?_
        refine j_iadd C dX8_link_108 ?_
        refine j_top (nI_add _ _) ?_
        refine j_iald C dX8_link_109 (Nat.lt_of_lt_of_le (by decide) hN) (fun _ => rfl) (by decide) (by omega) ?_
        refine j_top ((hfc _ _ (by omega)).trans ((hI.2.1 l hl).1)) ?_
        refine j_ret M dX8_link_110 ?_
        rw [abLink, pIf_t ⟨⟨l, hl, rfl⟩, ⟨0, by decide, by decide, rfl⟩⟩, idx_nI (by omega), idx_nI (by omega)]
        exact ⟨rfl, hC.kept hA (fun j n h => by rw [hfc _ _ (by omega)]), fun j n h => by rw [hfc _ _ (by omega)]⟩
      · refine j_tableOut (tgt := 100) C dX8_link_25 (Or.inl (by decide)) rfl ?_
        refine j_aload_n C dX8_link_100 rfl rfl ?_
        refine j_get C flX8_19 dX8_link_101 (Nat.lt_of_lt_of_le (by decide) hN) rfl rfl ?_
        refine j_iconst (v := nI 4) C dX8_link_104 rfl ?_
        refine j_iload_n C dX8_link_105 rfl rfl ?_
        refine j_imul C dX8_link_106 ?_
        refine j_top (pk_mul _ _) ?_
        refine j_iload_n C dX8_link_107 rfl rfl ?_
        refine j_iadd C dX8_link_108 ?_
        refine j_top (nI_add _ _) ?_
        refine j_iald C dX8_link_109 (Nat.lt_of_lt_of_le (by decide) hN) (fun _ => rfl) (by decide) (by omega) ?_
        refine j_top ((hfc _ _ (by omega)).trans ((hI.2.1 l hl).2.1)) ?_
        refine j_ret M dX8_link_110 ?_
        rw [abLink, pIf_t ⟨⟨l, hl, rfl⟩, ⟨1, by decide, by decide, rfl⟩⟩, idx_nI (by omega), idx_nI (by omega)]
        exact ⟨rfl, hC.kept hA (fun j n h => by rw [hfc _ _ (by omega)]), fun j n h => by rw [hfc _ _ (by omega)]⟩
      · refine j_tableOut (tgt := 100) C dX8_link_25 (Or.inl (by decide)) rfl ?_
        refine j_aload_n C dX8_link_100 rfl rfl ?_
        refine j_get C flX8_19 dX8_link_101 (Nat.lt_of_lt_of_le (by decide) hN) rfl rfl ?_
        refine j_iconst (v := nI 4) C dX8_link_104 rfl ?_
        refine j_iload_n C dX8_link_105 rfl rfl ?_
        refine j_imul C dX8_link_106 ?_
        refine j_top (pk_mul _ _) ?_
        refine j_iload_n C dX8_link_107 rfl rfl ?_
        refine j_iadd C dX8_link_108 ?_
        refine j_top (nI_add _ _) ?_
        refine j_iald C dX8_link_109 (Nat.lt_of_lt_of_le (by decide) hN) (fun _ => rfl) (by decide) (by omega) ?_
        refine j_top ((hfc _ _ (by omega)).trans ((hI.2.1 l hl).2.2)) ?_
        refine j_ret M dX8_link_110 ?_
        rw [abLink, pIf_t ⟨⟨l, hl, rfl⟩, ⟨2, by decide, by decide, rfl⟩⟩, idx_nI (by omega), idx_nI (by omega)]
        exact ⟨rfl, hC.kept hA (fun j n h => by rw [hfc _ _ (by omega)]), fun j n h => by rw [hfc _ _ (by omega)]⟩
      · refine j_tableIn (tgt := 60) C dX8_link_25 (by decide) (by decide) rfl rfl ?_
        refine j_aload_n C dX8_link_60 rfl rfl ?_
        refine j_get C flX8_25 dX8_link_61 (Nat.lt_of_lt_of_le (by decide) hN) rfl rfl ?_
        refine j_iload_n C dX8_link_64 rfl rfl ?_
        refine j_iald C dX8_link_65 (Nat.lt_of_lt_of_le (by decide) hN) (fun _ => rfl) (by decide) (by omega) ?_
        refine j_top ((hfc _ _ (by omega)).trans (hW.1 l (by omega))) ?_
        refine j_ret M dX8_link_66 ?_
        rw [abLink, pIf_t ⟨⟨l, hl, rfl⟩, ⟨3, by decide, by decide, rfl⟩⟩, idx_nI (by omega), idx_nI (by omega)]
        exact ⟨rfl, hC.kept hA (fun j n h => by rw [hfc _ _ (by omega)]), fun j n h => by rw [hfc _ _ (by omega)]⟩
      · refine j_tableIn (tgt := 67) C dX8_link_25 (by decide) (by decide) rfl rfl ?_
        refine j_aload_n C dX8_link_67 rfl rfl ?_
        refine j_iload_n C dX8_link_68 rfl rfl ?_
        refine j_calli (As := [.int (nI (l))]) (rest := []) C (tX8_isUp hN (m := nM a) (u := u) (by omega) ((hfc _ _ (by omega)).trans hW.2) (l := l) (by omega)) cdX8_isUp mlX8_124 dX8_link_69 (by decide) (by decide) (Nat.lt_of_lt_of_le (by decide) hN) rfl rfl rfl rfl rfl (Nat.le_of_ble_eq_true rfl) (fun rr_302 τ301 hp_303 => ?_)
        obtain ⟨hs, hr⟩ := hp_303
        replace hs := hs.symm
        subst hs
        rcases hul : u l with _ | _ <;> rw [hul] at hr <;> subst hr
        · refine j_ifn_eq (tgt := 79) C dX8_link_72 rfl (by omega) (fun _ => ?_) (fun h => absurd h (by decide))
          refine j_iconst (v := nI 0) C dX8_link_79 rfl ?_
          refine j_ret M dX8_link_80 ?_
          rw [abLink, pIf_t ⟨⟨l, hl, rfl⟩, ⟨4, by decide, by decide, rfl⟩⟩, idx_nI (by omega), idx_nI (by omega)]
          dsimp only
          rw [hul]
          exact ⟨rfl, hC.kept hA (fun j n h => by rw [hfc _ _ (by omega)]), fun j n h => by rw [hfc _ _ (by omega)]⟩
        · refine j_ifn_eq (tgt := 79) C dX8_link_72 rfl (by omega) (fun h => absurd h (by decide)) (fun _ => ?_)
          refine j_iconst (v := nI 1) C dX8_link_75 rfl ?_
          refine j_goto (tgt := 80) C dX8_link_76 rfl ?_
          refine j_ret M dX8_link_80 ?_
          rw [abLink, pIf_t ⟨⟨l, hl, rfl⟩, ⟨4, by decide, by decide, rfl⟩⟩, idx_nI (by omega), idx_nI (by omega)]
          dsimp only
          rw [hul]
          exact ⟨rfl, hC.kept hA (fun j n h => by rw [hfc _ _ (by omega)]), fun j n h => by rw [hfc _ _ (by omega)]⟩
      · refine j_tableIn (tgt := 81) C dX8_link_25 (by decide) (by decide) rfl rfl ?_
        refine j_aload_n C dX8_link_81 rfl rfl ?_
        refine j_get C flX8_43 dX8_link_82 (Nat.lt_of_lt_of_le (by decide) hN) rfl rfl ?_
        refine j_iload_n C dX8_link_85 rfl rfl ?_
        refine j_iald C dX8_link_86 (Nat.lt_of_lt_of_le (by decide) hN) (fun _ => rfl) (by decide) (by omega) ?_
        refine j_top (h96 l (by omega)) ?_
        refine j_ret M dX8_link_87 ?_
        rw [abLink, pIf_t ⟨⟨l, hl, rfl⟩, ⟨5, by decide, by decide, rfl⟩⟩, idx_nI (by omega), idx_nI (by omega)]
        exact ⟨rfl, hC.kept hA (fun j n h => by rw [hfc _ _ (by omega)]), fun j n h => by rw [hfc _ _ (by omega)]⟩
      · refine j_tableIn (tgt := 88) C dX8_link_25 (by decide) (by decide) rfl rfl ?_
        refine j_aload_n C dX8_link_88 rfl rfl ?_
        refine j_iload_n C dX8_link_89 rfl rfl ?_
        refine j_calli (As := [.int (nI (l))]) (rest := []) C (tX8_costOf hN (hI.kept (fun j n h => by rw [hfc _ _ (by omega)])) hO (l := l) (L := LDD a wt u (nD a) l) hl (h96 l hl) (LDD_bd hO (Nat.le_refl _) hl)) cdX8_costOf mlX8_154 dX8_link_90 (by decide) (by decide) (Nat.lt_of_lt_of_le (by decide) hN) rfl rfl rfl rfl rfl (Nat.le_of_ble_eq_true rfl) (fun rr_302 τ301 hp_303 => ?_)
        obtain ⟨hs, hr⟩ := hp_303
        replace hs := hs.symm
        subst hs
        subst hr
        refine j_ret M dX8_link_93 ?_
        rw [abLink, pIf_t ⟨⟨l, hl, rfl⟩, ⟨6, by decide, by decide, rfl⟩⟩, idx_nI (by omega), idx_nI (by omega)]
        exact ⟨rfl, hC.kept hA (fun j n h => by rw [hfc _ _ (by omega)]), fun j n h => by rw [hfc _ _ (by omega)]⟩
      · refine j_tableIn (tgt := 94) C dX8_link_25 (by decide) (by decide) rfl rfl ?_
        refine j_aload_n C dX8_link_94 rfl rfl ?_
        refine j_iload_n C dX8_link_95 rfl rfl ?_
        refine j_calli (As := [.int (nI (l))]) (rest := []) C (tX8_shortFor hN (hI.kept (fun j n h => by rw [hfc _ _ (by omega)])) hO (hW.kept hm12 (fun n h => by rw [hfc _ _ (by omega)])) hw (l := l) hl) cdX8_shortFor mlX8_205 dX8_link_96 (by decide) (by decide) (Nat.lt_of_lt_of_le (by decide) hN) rfl rfl rfl rfl rfl (Nat.le_of_ble_eq_true rfl) (fun rr_302 τ301 hp_303 => ?_)
        obtain ⟨hsf, hr⟩ := hp_303
        subst hr
        refine j_ret M dX8_link_99 ?_
        rw [abLink, pIf_t ⟨⟨l, hl, rfl⟩, ⟨7, by decide, by decide, rfl⟩⟩, idx_nI (by omega), idx_nI (by omega)]
        exact ⟨rfl, hC.kept hA (fun j n h => by rw [hsf _ _ (by omega), hfc _ _ (by omega)]), fun j n h => by rw [hsf _ _ (by omega), hfc _ _ (by omega)]⟩
    · refine j_ifn_ne (tgt := 20) C dX8_link_15 rfl (by omega) (fun h => absurd h (by decide)) (fun _ => ?_)
      refine j_iconst (v := -1) C dX8_link_18 rfl ?_
      refine j_ret M dX8_link_19 ?_
      rw [abLink, pIf_f (by first | exact hno | exact fun q => hno q.1 | exact fun q => hRno q.2 | exact fun q => hno2 q.2)]
      exact ⟨rfl, hC, fun _ _ _ => rfl⟩
  · refine j_ifn_eq (tgt := 18) C dX8_link_5 rfl (by omega) (fun _ => ?_) (fun h => absurd h (by decide))
    refine j_iconst (v := -1) C dX8_link_18 rfl ?_
    refine j_ret M dX8_link_19 ?_
    rw [abLink, pIf_f (by first | exact hno | exact fun q => hno q.1 | exact fun q => hRno q.2 | exact fun q => hno2 q.2)]
    exact ⟨rfl, hC, fun _ _ _ => rfl⟩
set_option maxHeartbeats 4000000 in
set_option maxRecDepth 100000 in
theorem tX8_count {g : jG} (hN : 97 ≤ gN g) {σ : Sg} {tx : Nat → Int32} {len : Nat} {a : ND} {wt : Nat → Nat} {u : Nat → Bool} {tl : List Int32} {le : Nat} {p : List SD} (hC : RI σ (tx, len, a, (wt, u, tl, le), p)) (hA : AOk (tx, len, a, (wt, u, tl, le), p)) (h1m : 1 ≤ nM a) (h1d : 1 ≤ nD a) (x0 : Int32) : MS g yX8_count cX8_count 2 (some .int) rmX8_count [.ref (gad g (84)), .int (x0)] σ (fun r σ' => r = (abCount x0 (tx, len, a, (wt, u, tl, le), p)).1 ∧ RI σ' (abCount x0 (tx, len, a, (wt, u, tl, le), p)).2 ∧ ∀ j n, j < 84 → σ' j n = σ j n) := by
  refine MJ_of (by decide) (Nat.le_of_ble_eq_true rfl) (List.forall_mem_cons.mpr ⟨rfl, List.forall_mem_cons.mpr ⟨rfl, fun _ h => absurd h List.not_mem_nil⟩⟩) ?_
  intro κ M
  have C := M.1
  show J g κ 2 0 [some (.ref (gad g (84))), some (.int (x0))] [] σ
  have hI : RNet σ a := hC.2.1
  have hO : NOk a := hA.1
  have hS : RS1 σ 90 0 (nM a) (wt, u, tl, le) := hC.2.2.1
  have hW : RW σ (nM a) wt u := hS.w
  have hw : WOk (nM a) wt := hA.2.1.1
  have htl6 : tl.length ≤ 6 := hA.2.1.2.1
  have hle31 : le < 2 ^ 31 := hA.2.1.2.2
  have hlen : len ≤ 200 := hC.1.2.1
  have hCl : σ 84 1 = nI len := hC.1.1
  have hCt : ∀ k, k < len → σ 85 k = tx k := hC.1.2.2
  have hn2 := hO.1
  have hn7 := hO.2.1
  have hm12 := hO.2.2.1
  have hd6 := hO.2.2.2.1
  have hle : σ 90 13 = nI le := hS.2.2.1
  have hT : RT σ tl := ⟨hS.2.2.2.1, fun k hk => hS.2.2.2.2 k hk⟩
  have hPl : σ 84 15 = nI p.length := hC.2.2.2.1
  have hp6 : p.length ≤ 6 := hA.2.2.2.1
  have hub := ub_lt u (nM a)
  have hub2 : 2 ^ nM a ≤ 2 ^ 12 := Nat.pow_le_pow_right (by decide) hm12
  have hlb := ub_lt (lostB a wt u) (nD a)
  have hlb2 : 2 ^ nD a ≤ 2 ^ 6 := Nat.pow_le_pow_right (by decide) hd6
  refine j_aload_n C dX8_count_0 rfl rfl ?_
  refine j_callv (As := []) (rest := []) C (tX8_layLoads hN hI hO hW hw) cdX8_layLoads mlX8_151 dX8_count_1 (by decide) (by decide) (Nat.lt_of_lt_of_le (by decide) hN) rfl rfl rfl rfl rfl (Nat.le_of_ble_eq_true rfl) (fun τ1 hp_3 => ?_)
  obtain ⟨hfc, h96, h22⟩ := hp_3
  refine j_iload_n C dX8_count_4 rfl rfl ?_
  by_cases hin : inR x0 0 10
  · obtain ⟨q, hq1, hq2, rfl⟩ := hin
    rcases (by omega : q = 0 ∨ q = 1 ∨ q = 2 ∨ q = 3 ∨ q = 4 ∨ q = 5 ∨ q = 6 ∨ q = 7 ∨ q = 8 ∨ q = 9 ∨ q = 10) with rfl | rfl | rfl | rfl | rfl | rfl | rfl | rfl | rfl | rfl | rfl
    · refine j_tableIn (tgt := 64) C dX8_count_5 (by decide) (by decide) rfl rfl ?_
      refine j_aload_n C dX8_count_64 rfl rfl ?_
      refine j_get C flX8_74 dX8_count_65 (Nat.lt_of_lt_of_le (by decide) hN) rfl rfl ?_
      refine j_top ((hfc _ _ (by omega)).trans (hI.1.1)) ?_
      refine j_ret M dX8_count_68 ?_
      rw [abCount, pIf_t ⟨0, by decide, by decide, rfl⟩, idx_nI (by omega)]
      exact ⟨rfl, hC.kept hA (fun j n h => by rw [hfc _ _ (by omega)]), fun j n h => by rw [hfc _ _ (by omega)]⟩
    · refine j_tableIn (tgt := 69) C dX8_count_5 (by decide) (by decide) rfl rfl ?_
      refine j_aload_n C dX8_count_69 rfl rfl ?_
      refine j_get C flX8_77 dX8_count_70 (Nat.lt_of_lt_of_le (by decide) hN) rfl rfl ?_
      refine j_top ((hfc _ _ (by omega)).trans (hI.1.2.1)) ?_
      refine j_ret M dX8_count_73 ?_
      rw [abCount, pIf_t ⟨1, by decide, by decide, rfl⟩, idx_nI (by omega)]
      exact ⟨rfl, hC.kept hA (fun j n h => by rw [hfc _ _ (by omega)]), fun j n h => by rw [hfc _ _ (by omega)]⟩
    · refine j_tableIn (tgt := 74) C dX8_count_5 (by decide) (by decide) rfl rfl ?_
      refine j_aload_n C dX8_count_74 rfl rfl ?_
      refine j_get C flX8_80 dX8_count_75 (Nat.lt_of_lt_of_le (by decide) hN) rfl rfl ?_
      refine j_top ((hfc _ _ (by omega)).trans (hI.1.2.2)) ?_
      refine j_ret M dX8_count_78 ?_
      rw [abCount, pIf_t ⟨2, by decide, by decide, rfl⟩, idx_nI (by omega)]
      exact ⟨rfl, hC.kept hA (fun j n h => by rw [hfc _ _ (by omega)]), fun j n h => by rw [hfc _ _ (by omega)]⟩
    · refine j_tableIn (tgt := 79) C dX8_count_5 (by decide) (by decide) rfl rfl ?_
      refine j_aload_n C dX8_count_79 rfl rfl ?_
      refine j_get C flX8_77 dX8_count_80 (Nat.lt_of_lt_of_le (by decide) hN) rfl rfl ?_
      refine j_top ((hfc _ _ (by omega)).trans (hI.1.2.1)) ?_
      refine j_aload_n C dX8_count_83 rfl rfl ?_
      refine j_get C flX8_25 dX8_count_84 (Nat.lt_of_lt_of_le (by decide) hN) rfl rfl ?_
      refine j_bipush (v := nI 12) C dX8_count_87 rfl ?_
      refine j_iald C dX8_count_89 (Nat.lt_of_lt_of_le (by decide) hN) (fun _ => rfl) (by decide) (by omega) ?_
      refine j_top ((hfc _ _ (by omega)).trans (hW.2)) ?_
      refine j_calls (As := [.int (nI (ub u (nM a)))]) (rest := [.int (nI (nM a))]) C (tX8_ones hN (B := ub u (nM a)) (by omega)) cdX8_ones msX8_214 dX8_count_90 (by decide) (by decide) rfl rfl (Nat.le_of_ble_eq_true rfl) (fun rr_302 τ301 hp_303 => ?_)
      obtain ⟨hs, hr⟩ := hp_303
      replace hs := hs.symm
      subst hs
      rw [ub_ones 12, show min 12 (nM a) = nM a by omega] at hr
      subst hr
      refine j_isub C dX8_count_93 ?_
      refine j_top ((pk_sub (by have := cnt_not u (nM a); omega)).trans (congrArg nI (show nM a - cnt u (nM a) = cnt (fun l => !u l) (nM a) by have := cnt_not u (nM a); omega))) ?_
      refine j_ret M dX8_count_94 ?_
      rw [abCount, pIf_t ⟨3, by decide, by decide, rfl⟩, idx_nI (by omega)]
      exact ⟨rfl, hC.kept hA (fun j n h => by rw [hfc _ _ (by omega)]), fun j n h => by rw [hfc _ _ (by omega)]⟩
    · refine j_tableIn (tgt := 95) C dX8_count_5 (by decide) (by decide) rfl rfl ?_
      refine j_aload_n C dX8_count_95 rfl rfl ?_
      refine j_get C flX8_140 dX8_count_96 (Nat.lt_of_lt_of_le (by decide) hN) rfl rfl ?_
      refine j_top (h22) ?_
      refine j_calls (As := [.int (nI (ub (lostB a wt u) (nD a)))]) (rest := []) C (tX8_ones hN (B := ub (lostB a wt u) (nD a)) (by omega)) cdX8_ones msX8_214 dX8_count_99 (by decide) (by decide) rfl rfl (Nat.le_of_ble_eq_true rfl) (fun rr_302 τ301 hp_303 => ?_)
      obtain ⟨hs, hr⟩ := hp_303
      replace hs := hs.symm
      subst hs
      rw [ub_ones 12, show min 12 (nD a) = nD a by omega] at hr
      subst hr
      refine j_ret M dX8_count_102 ?_
      rw [abCount, pIf_t ⟨4, by decide, by decide, rfl⟩, idx_nI (by omega)]
      exact ⟨rfl, hC.kept hA (fun j n h => by rw [hfc _ _ (by omega)]), fun j n h => by rw [hfc _ _ (by omega)]⟩
    · refine j_tableIn (tgt := 103) C dX8_count_5 (by decide) (by decide) rfl rfl ?_
      refine j_aload_n C dX8_count_103 rfl rfl ?_
      refine j_calli (As := []) (rest := []) C (tX8_moreThanFull hN (hI.kept (fun j n h => by rw [hfc _ _ (by omega)])) hO (hW.kept hm12 (fun n h => by rw [hfc _ _ (by omega)])) hw) cdX8_moreThanFull mlX8_217 dX8_count_104 (by decide) (by decide) (Nat.lt_of_lt_of_le (by decide) hN) rfl rfl rfl rfl rfl (Nat.le_of_ble_eq_true rfl) (fun rr_302 τ301 hp_303 => ?_)
      obtain ⟨hsf, hr⟩ := hp_303
      subst hr
      refine j_ret M dX8_count_107 ?_
      rw [abCount, pIf_t ⟨5, by decide, by decide, rfl⟩, idx_nI (by omega)]
      exact ⟨rfl, hC.kept hA (fun j n h => by rw [hsf _ _ (by omega), hfc _ _ (by omega)]), fun j n h => by rw [hsf _ _ (by omega), hfc _ _ (by omega)]⟩
    · refine j_tableIn (tgt := 108) C dX8_count_5 (by decide) (by decide) rfl rfl ?_
      refine j_aload_n C dX8_count_108 rfl rfl ?_
      refine j_get C flX8_25 dX8_count_109 (Nat.lt_of_lt_of_le (by decide) hN) rfl rfl ?_
      refine j_bipush (v := nI 13) C dX8_count_112 rfl ?_
      refine j_iald C dX8_count_114 (Nat.lt_of_lt_of_le (by decide) hN) (fun _ => rfl) (by decide) (by omega) ?_
      refine j_top ((hfc _ _ (by omega)).trans (hle)) ?_
      refine j_ret M dX8_count_115 ?_
      rw [abCount, pIf_t ⟨6, by decide, by decide, rfl⟩, idx_nI (by omega)]
      exact ⟨rfl, hC.kept hA (fun j n h => by rw [hfc _ _ (by omega)]), fun j n h => by rw [hfc _ _ (by omega)]⟩
    · refine j_tableIn (tgt := 116) C dX8_count_5 (by decide) (by decide) rfl rfl ?_
      refine j_aload_n C dX8_count_116 rfl rfl ?_
      refine j_calli (As := []) (rest := []) C (tX8_markNow hN (m := nM a) (by rw [hfc _ _ (by omega)]; exact hI.1.2.1) hm12) cdX8_markNow mlX8_157 dX8_count_117 (by decide) (by decide) (Nat.lt_of_lt_of_le (by decide) hN) rfl rfl rfl rfl rfl (Nat.le_of_ble_eq_true rfl) (fun rr_302 τ301 hp_303 => ?_)
      obtain ⟨hs, hr⟩ := hp_303
      replace hs := hs.symm
      subst hs
      rw [mkW_is (w := wt) (fun k hk => by rw [hfc _ _ (by omega)]; exact hW.1 k hk)] at hr
      subst hr
      refine j_ret M dX8_count_120 ?_
      rw [abCount, pIf_t ⟨7, by decide, by decide, rfl⟩, idx_nI (by omega)]
      exact ⟨rfl, hC.kept hA (fun j n h => by rw [hfc _ _ (by omega)]), fun j n h => by rw [hfc _ _ (by omega)]⟩
    · refine j_tableIn (tgt := 121) C dX8_count_5 (by decide) (by decide) rfl rfl ?_
      refine j_aload_n C dX8_count_121 rfl rfl ?_
      refine j_get C flX8_25 dX8_count_122 (Nat.lt_of_lt_of_le (by decide) hN) rfl rfl ?_
      refine j_bipush (v := nI 14) C dX8_count_125 rfl ?_
      refine j_iald C dX8_count_127 (Nat.lt_of_lt_of_le (by decide) hN) (fun _ => rfl) (by decide) (by omega) ?_
      refine j_top ((hfc _ _ (by omega)).trans (hT.1)) ?_
      refine j_ret M dX8_count_128 ?_
      rw [abCount, pIf_t ⟨8, by decide, by decide, rfl⟩, idx_nI (by omega)]
      exact ⟨rfl, hC.kept hA (fun j n h => by rw [hfc _ _ (by omega)]), fun j n h => by rw [hfc _ _ (by omega)]⟩
    · refine j_tableIn (tgt := 129) C dX8_count_5 (by decide) (by decide) rfl rfl ?_
      refine j_aload_n C dX8_count_129 rfl rfl ?_
      refine j_get C flX8_87 dX8_count_130 (Nat.lt_of_lt_of_le (by decide) hN) rfl rfl ?_
      refine j_top ((hfc _ _ (by omega)).trans (hPl)) ?_
      refine j_ret M dX8_count_133 ?_
      rw [abCount, pIf_t ⟨9, by decide, by decide, rfl⟩, idx_nI (by omega)]
      exact ⟨rfl, hC.kept hA (fun j n h => by rw [hfc _ _ (by omega)]), fun j n h => by rw [hfc _ _ (by omega)]⟩
    · refine j_tableIn (tgt := 134) C dX8_count_5 (by decide) (by decide) rfl rfl ?_
      refine j_aload_n C dX8_count_134 rfl rfl ?_
      refine j_get C flX8_93 dX8_count_135 (Nat.lt_of_lt_of_le (by decide) hN) rfl rfl ?_
      refine j_top ((hfc _ _ (by omega)).trans (hCl)) ?_
      refine j_ret M dX8_count_138 ?_
      rw [abCount, pIf_t ⟨10, by decide, by decide, rfl⟩, idx_nI (by omega)]
      exact ⟨rfl, hC.kept hA (fun j n h => by rw [hfc _ _ (by omega)]), fun j n h => by rw [hfc _ _ (by omega)]⟩
  · refine j_tableOut (tgt := 139) C dX8_count_5 (not_inR (by decide) (by decide) hin) rfl ?_
    refine j_iconst (v := -1) C dX8_count_139 rfl ?_
    refine j_ret M dX8_count_140 ?_
    rw [abCount, pIf_f hin]
    exact ⟨rfl, hC.kept hA (fun j n h => by rw [hfc _ _ (by omega)]), fun j n h => by rw [hfc _ _ (by omega)]⟩
