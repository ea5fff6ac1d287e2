theorem ub_next {u : Nat → Bool} {d : Nat} (h : u d = true) : ub u d ||| 2 ^ d = ub u (d + 1) := by
  apply Nat.eq_of_testBit_eq
  intro i
  rw [Nat.testBit_or, ub_test, ub_test, Nat.testBit_two_pow]
  by_cases e : i = d
  · subst e; rw [h, decide_eq_true (show i < i + 1 by omega), decide_eq_true rfl, Bool.or_true]; rfl
  · rw [decide_eq_false (show ¬ d = i from fun q => e q.symm), Bool.or_false]
    by_cases e2 : i < d
    · rw [decide_eq_true e2, decide_eq_true (show i < d + 1 by omega)]
    · rw [decide_eq_false e2, decide_eq_false (show ¬ i < d + 1 by omega)]
theorem ub_same {u : Nat → Bool} {d : Nat} (h : u d = false) : ub u d = ub u (d + 1) := by
  show _ = ub u d + (if u d = true then 2 ^ d else 0)
  rw [h]
  rfl
theorem lst_hit {a : ND} {w : Nat → Nat} {u : Nat → Bool} {d : Nat} (h : lostB a w u d = true) : lstN a w u (d + 1) = lstN a w u d + 12000 * nSz a d := by
  show lstN a w u d + (if lostB a w u d = true then 12000 * nSz a d else 0) = _
  rw [if_pos h]
theorem lst_miss {a : ND} {w : Nat → Nat} {u : Nat → Bool} {d : Nat} (h : lostB a w u d = false) : lstN a w u (d + 1) = lstN a w u d := by
  show lstN a w u d + (if lostB a w u d = true then 12000 * nSz a d else 0) = _
  rw [h]
  rfl
theorem wok_upd {w : Nat → Nat} {m l x : Nat} (h : WOk m w) (h1 : 1 ≤ x) (h2 : x ≤ 20) : WOk m (updN w l x) := fun k hk => by
  unfold updN
  split
  · omega
  · exact h k hk
theorem fl1_fl1 (u : Nat → Bool) (l : Nat) : fl1 (fl1 u l) l = u := by
  funext k
  unfold fl1
  by_cases e : k = l
  · rw [if_pos e, if_pos e, Bool.not_not]
  · rw [if_neg e, if_neg e]
set_option maxHeartbeats 4000000 in
set_option maxRecDepth 100000 in
theorem tX8_layLoads {g : jG} (hN : 97 ≤ gN g) {σ : Sg} {a : ND} {w : Nat → Nat} {u : Nat → Bool} (hI : RNet σ a) (hO : NOk a) (hW : RW σ (nM a) w u) (hw : WOk (nM a) w) : MS g yX8_layLoads cX8_layLoads 3 none rmX8_layLoads [.ref (gad g (84))] σ (fun r σ' => (∀ j n, ¬ (93 ≤ j ∧ j ≤ 96 ∨ j = 84 ∧ n = 22) → σ' j n = σ j n) ∧ (∀ l, l < nM a → σ' 96 l = nI (LDD a w u (nD a) l)) ∧ σ' 84 22 = nI (ub (lostB a w u) (nD a))) := by
  refine MJ_of (by decide) (Nat.le_of_ble_eq_true rfl) (List.forall_mem_cons.mpr ⟨rfl, fun _ h => absurd h List.not_mem_nil⟩) ?_
  intro κ M
  have C := M.1
  show J g κ 3 0 [some (.ref (gad g (84))), none, none] [] σ
  have hn7 := hO.2.1
  have hm12 := hO.2.2.1
  have hd6 := hO.2.2.2.1
  have hD6 := hO.2.2.2.1
  have lpI : ∀ (d : Nat), (∀ (σ1 : Sg), (∀ j n, ¬ (93 ≤ j ∧ j ≤ 96 ∨ j = 84 ∧ n = 22) → σ1 j n = σ j n) → σ1 84 22 = nI (ub (lostB a w u) d) → (∀ z, z < nM a → σ1 96 z = nI (LDD a w u (d + 1) z)) → J g κ 3 90 [some (.ref (gad g (84))), some (.int (nI (d))), none] [] σ1) → ∀ (k l : Nat) (σ1 : Sg), nM a - l = k → l ≤ nM a → (∀ j n, ¬ (93 ≤ j ∧ j ≤ 96 ∨ j = 84 ∧ n = 22) → σ1 j n = σ j n) → (∀ z, z < nM a → σ1 94 z = nI (SHR a w u d z)) → σ1 84 22 = nI (ub (lostB a w u) d) → (∀ z, z < nM a → σ1 96 z = nI (LDD a w u d (z) + (if z < l then SHR a w u d (z) else 0))) → J g κ 3 46 [some (.ref (gad g (84))), some (.int (nI (d))), some (.int (nI (l)))] [] σ1 := by
    intro d kI k
    induction k using Nat.strongRecOn with
    | _ k ih =>
      intro l σ1 hk hl hf h94 h22 h96
      refine j_iload_n C dX8_layLoads_46 rfl rfl ?_
      refine j_aload_n C dX8_layLoads_47 rfl rfl ?_
      refine j_get C flX8_77 dX8_layLoads_48 (Nat.lt_of_lt_of_le (by decide) hN) rfl rfl ?_
      refine j_top ((hf _ _ (by omega)).trans (hI.1.2.1)) ?_
      refine j_icmpn_ge (tgt := 75) C dX8_layLoads_51 rfl (by omega) (by omega) (fun h51 => ?_) (fun h51 => ?_)
      · refine j_goto (tgt := 90) C dX8_layLoads_75 rfl ?_
        refine J_clr 2 (L' := [some (.ref (gad g (84))), some (.int (nI (d))), none]) rfl ?_
        refine kI σ1 hf h22 (fun z hz => ?_)
        rw [h96 z hz, if_pos (by omega)]
        rfl
      · refine j_aload_n C dX8_layLoads_54 rfl rfl ?_
        refine j_get C flX8_43 dX8_layLoads_55 (Nat.lt_of_lt_of_le (by decide) hN) rfl rfl ?_
        refine j_iload_n C dX8_layLoads_58 rfl rfl ?_
        refine j_dup2 C dX8_layLoads_59 rfl rfl ?_
        refine j_iald C dX8_layLoads_60 (Nat.lt_of_lt_of_le (by decide) hN) (fun _ => rfl) (by decide) (by omega) ?_
        refine j_top ((h96 (l) (by omega)).trans (congrArg nI (by rw [if_neg (by omega)]))) ?_
        refine j_aload_n C dX8_layLoads_61 rfl rfl ?_
        refine j_get C flX8_37 dX8_layLoads_62 (Nat.lt_of_lt_of_le (by decide) hN) rfl rfl ?_
        refine j_iload_n C dX8_layLoads_65 rfl rfl ?_
        refine j_iald C dX8_layLoads_66 (Nat.lt_of_lt_of_le (by decide) hN) (fun _ => rfl) (by decide) (by omega) ?_
        refine j_top (h94 (l) (by omega)) ?_
        refine j_iadd C dX8_layLoads_67 ?_
        refine j_top (nI_add _ _) ?_
        refine j_iast' C dX8_layLoads_68 (Nat.lt_of_lt_of_le (by decide) hN) (fun _ => rfl) (by decide) (by omega) (fun τ1 hz_2 hw_3 => ?_)
        refine j_iinc (L' := [some (.ref (gad g (84))), some (.int (nI (d))), some (.int (nI (l + 1)))]) C dX8_layLoads_69 rfl (nI_inc _) (by decide) rfl ?_
        refine j_goto (tgt := 46) C dX8_layLoads_72 rfl ?_
        refine ih (nM a - (l + 1)) (by omega) (l + 1) τ1 rfl (by omega) (fun j n h => by rw [hz_2 _ _ (by omega)]; exact hf j n h) (fun z hz => by rw [hz_2 _ _ (by omega)]; exact h94 z hz) (by rw [hz_2 _ _ (by omega)]; exact h22) (fun z hz => ?_)
        by_cases e : z = l
        · subst e
          rw [if_pos (by omega)]
          assumption
        · rw [hz_2 _ _ (by omega), h96 z hz]
          by_cases e2 : z < l
          · rw [if_pos e2, if_pos (by omega)]
          · rw [if_neg e2, if_neg (by omega)]
  have lpO : ∀ (k : Nat) (d : Nat) (σ1 : Sg), nD a - d = k → d ≤ nD a → (∀ j n, ¬ (93 ≤ j ∧ j ≤ 96 ∨ j = 84 ∧ n = 22) → σ1 j n = σ j n) → σ1 84 22 = nI (ub (lostB a w u) d) → (∀ z, z < nM a → σ1 96 z = nI (LDD a w u d z)) → J g κ 3 28 [some (.ref (gad g (84))), some (.int (nI (d))), none] [] σ1 := by
    intro k
    induction k using Nat.strongRecOn with
    | _ k ih =>
      intro d σ1 hk hd hf h22 h96
      refine j_iload_n C dX8_layLoads_28 rfl rfl ?_
      refine j_aload_n C dX8_layLoads_29 rfl rfl ?_
      refine j_get C flX8_80 dX8_layLoads_30 (Nat.lt_of_lt_of_le (by decide) hN) rfl rfl ?_
      refine j_top ((hf _ _ (by omega)).trans (hI.1.2.2)) ?_
      refine j_icmpn_ge (tgt := 96) C dX8_layLoads_33 rfl (by omega) (by omega) (fun h33 => ?_) (fun h33 => ?_)
      · refine j_retv M dX8_layLoads_96 ?_
        have ed : d = nD a := by omega
        rw [ed] at h22 h96
        exact ⟨hf, h96, h22⟩
      · refine j_aload_n C dX8_layLoads_36 rfl rfl ?_
        refine j_iload_n C dX8_layLoads_37 rfl rfl ?_
        refine j_calli (As := [.int (nI (d))]) (rest := []) C (tX8_layShares hN (hI.kept (fun j n h => hf j n (by omega))) hO (hW.kept hm12 (fun n h => hf _ _ (by omega))) hw (d := d) (by omega)) cdX8_layShares mlX8_143 dX8_layLoads_38 (by decide) (by decide) (Nat.lt_of_lt_of_le (by decide) hN) rfl rfl rfl rfl rfl (Nat.le_of_ble_eq_true rfl) (fun rr_2 τ1 hp_3 => ?_)
        obtain ⟨hsf, ⟨rfl, hno⟩ | ⟨rfl, hno, hsh⟩⟩ := hp_3
        · have hlo : lostB a w u d = true := by unfold lostB; rw [hno]; rfl
          refine j_ifn_eq (tgt := 78) C dX8_layLoads_41 rfl (by omega) (fun _ => ?_) (fun h => absurd h (by decide))
          refine j_aload_n C dX8_layLoads_78 rfl rfl ?_
          refine j_dup C dX8_layLoads_79 rfl ?_
          refine j_get C flX8_140 dX8_layLoads_80 (Nat.lt_of_lt_of_le (by decide) hN) rfl rfl ?_
          refine j_top ((hsf _ _ (by omega)).trans (h22)) ?_
          refine j_iconst (v := nI 1) C dX8_layLoads_83 rfl ?_
          refine j_iload_n C dX8_layLoads_84 rfl rfl ?_
          refine j_ishl C dX8_layLoads_85 ?_
          refine j_top (bit_sh (by omega)) ?_
          refine j_ior C dX8_layLoads_86 ?_
          refine j_top ((bit_or _ _).trans (congrArg nI (ub_next hlo))) ?_
          refine j_put' C fpX8_140 dX8_layLoads_87 (Nat.lt_of_lt_of_le (by decide) hN) (fun _ => rfl) rfl (Nat.le_of_ble_eq_true rfl) rfl rfl (fun τ4 hz_5 hw_6 => ?_)
          refine j_iinc (L' := [some (.ref (gad g (84))), some (.int (nI (d + 1))), none]) C dX8_layLoads_90 rfl (nI_inc _) (by decide) rfl ?_
          refine j_goto (tgt := 28) C dX8_layLoads_93 rfl ?_
          refine ih (nD a - (d + 1)) (by omega) (d + 1) τ4 rfl (by omega) (fun j n h => by rw [hz_5 _ _ (by omega), hsf _ _ (by omega)]; exact hf j n h) (by assumption) (fun z hz => ?_)
          rw [hz_5 _ _ (by omega), hsf _ _ (by omega), h96 z hz]
          show _ = nI (LDD a w u d z + SHR a w u d z)
          unfold SHR
          rw [if_pos hno]
          rfl
        · have hlo : lostB a w u d = false := by
            unfold lostB
            cases e : FAR a w u (nGo a d) (nSt a d) with
            | none => exact absurd e hno
            | some v => rfl
          refine j_ifn_eq (tgt := 78) C dX8_layLoads_41 rfl (by omega) (fun h => absurd h (by decide)) (fun _ => ?_)
          refine j_iconst (v := nI 0) C dX8_layLoads_44 rfl ?_
          refine j_istore_n (L' := [some (.ref (gad g (84))), some (.int (nI (d))), some (.int (nI (0)))]) C dX8_layLoads_45 rfl (by decide) rfl ?_
          refine lpI d ?_ (nM a - 0) 0 τ1 rfl (by omega) (fun j n h => by rw [hsf _ _ (by omega)]; exact hf j n h) hsh (by rw [hsf _ _ (by omega)]; exact h22) (fun z hz => by rw [hsf _ _ (by omega), h96 z hz, if_neg (by omega)]; rfl)
          intro σ2 hf2 h222 h962
          refine j_iinc (L' := [some (.ref (gad g (84))), some (.int (nI (d + 1))), none]) C dX8_layLoads_90 rfl (nI_inc _) (by decide) rfl ?_
          refine j_goto (tgt := 28) C dX8_layLoads_93 rfl ?_
          exact ih (nD a - (d + 1)) (by omega) (d + 1) σ2 rfl (by omega) hf2 (h222.trans (congrArg nI (ub_same hlo))) h962
  have lp1 : ∀ (k : Nat) (l : Nat) (σ1 : Sg), 12 - l = k → l ≤ 12 → (∀ j n, ¬ (93 ≤ j ∧ j ≤ 96 ∨ j = 84 ∧ n = 22) → σ1 j n = σ j n) → σ1 84 22 = nI 0 → (∀ z, z < l → σ1 96 z = nI 0) → J g κ 3 7 [some (.ref (gad g (84))), some (.int (nI (l))), none] [] σ1 := by
    intro k
    induction k using Nat.strongRecOn with
    | _ k ih =>
      intro l σ1 hk hl hf h22 h96
      refine j_iload_n C dX8_layLoads_7 rfl rfl ?_
      refine j_bipush (v := nI 12) C dX8_layLoads_8 rfl ?_
      refine j_icmpn_ge (tgt := 26) C dX8_layLoads_10 rfl (by omega) (by omega) (fun h10 => ?_) (fun h10 => ?_)
      · refine j_iconst (v := nI 0) C dX8_layLoads_26 rfl ?_
        refine j_istore_n (L' := [some (.ref (gad g (84))), some (.int (nI (0))), none]) C dX8_layLoads_27 rfl (by decide) rfl ?_
        exact lpO (nD a - 0) 0 σ1 rfl (by omega) hf h22 (fun z hz => h96 z (by omega))
      · refine j_aload_n C dX8_layLoads_13 rfl rfl ?_
        refine j_get C flX8_43 dX8_layLoads_14 (Nat.lt_of_lt_of_le (by decide) hN) rfl rfl ?_
        refine j_iload_n C dX8_layLoads_17 rfl rfl ?_
        refine j_iconst (v := nI 0) C dX8_layLoads_18 rfl ?_
        refine j_iast' C dX8_layLoads_19 (Nat.lt_of_lt_of_le (by decide) hN) (fun _ => rfl) (by decide) (by omega) (fun τ1 hz_2 hw_3 => ?_)
        refine j_iinc (L' := [some (.ref (gad g (84))), some (.int (nI (l + 1))), none]) C dX8_layLoads_20 rfl (nI_inc _) (by decide) rfl ?_
        refine j_goto (tgt := 7) C dX8_layLoads_23 rfl ?_
        refine ih (12 - (l + 1)) (by omega) (l + 1) τ1 rfl (by omega) (fun j n h => by rw [hz_2 _ _ (by omega)]; exact hf j n h) (by rw [hz_2 _ _ (by omega)]; exact h22) (fun z hz => ?_)
        by_cases e : z = l
        · subst e; assumption
        · rw [hz_2 _ _ (by omega)]; exact h96 z (by omega)
  refine j_aload_n C dX8_layLoads_0 rfl rfl ?_
  refine j_iconst (v := nI 0) C dX8_layLoads_1 rfl ?_
  refine j_put' C fpX8_140 dX8_layLoads_2 (Nat.lt_of_lt_of_le (by decide) hN) (fun _ => rfl) rfl (Nat.le_of_ble_eq_true rfl) rfl rfl (fun τ1 hz_2 hw_3 => ?_)
  refine j_iconst (v := nI 0) C dX8_layLoads_5 rfl ?_
  refine j_istore_n (L' := [some (.ref (gad g (84))), some (.int (nI (0))), none]) C dX8_layLoads_6 rfl (by decide) rfl ?_
  exact lp1 (12 - 0) 0 τ1 rfl (by omega) (fun j n h => hz_2 j n (by omega)) (by assumption) (fun z hz => by omega)
set_option maxHeartbeats 4000000 in
set_option maxRecDepth 100000 in
theorem tX8_piece {g : jG} (hN : 97 ≤ gN g) {σ : Sg} {L lo hi : Nat} (h1 : L < 2 ^ 31) (h2 : lo ≤ hi) (h3 : hi < 2 ^ 31) : MS g yX8_piece cX8_piece 3 (some .int) rmX8_piece [.int (nI (L)), .int (nI (lo)), .int (nI (hi))] σ (fun r σ' => σ' = σ ∧ r = nI (min L hi - lo)) := by
  refine MJ_of (by decide) (Nat.le_of_ble_eq_true rfl) (List.forall_mem_cons.mpr ⟨rfl, List.forall_mem_cons.mpr ⟨rfl, List.forall_mem_cons.mpr ⟨rfl, fun _ h => absurd h List.not_mem_nil⟩⟩⟩) ?_
  intro κ M
  have C := M.1
  show J g κ 3 0 [some (.int (nI (L))), some (.int (nI (lo))), some (.int (nI (hi)))] [] σ
  refine j_iload_n C dX8_piece_0 rfl rfl ?_
  refine j_iload_n C dX8_piece_1 rfl rfl ?_
  refine j_icmpn_gt (tgt := 9) C dX8_piece_2 rfl (by omega) (by omega) (fun hc2 => ?_) (fun hc2 => ?_)
  · refine j_iload_n C dX8_piece_9 rfl rfl ?_
    refine j_iload_n C dX8_piece_10 rfl rfl ?_
    refine j_icmpn_ge (tgt := 18) C dX8_piece_11 rfl (by omega) (by omega) (fun hc11 => ?_) (fun hc11 => ?_)
    · refine j_iload_n C dX8_piece_18 rfl rfl ?_
      refine j_iload_n C dX8_piece_19 rfl rfl ?_
      refine j_isub C dX8_piece_20 ?_
      refine j_top (pk_sub (by omega)) ?_
      refine j_ret M dX8_piece_21 ?_
      exact ⟨rfl, congrArg nI (by omega)⟩
    · refine j_iload_n C dX8_piece_14 rfl rfl ?_
      refine j_goto (tgt := 19) C dX8_piece_15 rfl ?_
      refine j_iload_n C dX8_piece_19 rfl rfl ?_
      refine j_isub C dX8_piece_20 ?_
      refine j_top (pk_sub (by omega)) ?_
      refine j_ret M dX8_piece_21 ?_
      exact ⟨rfl, congrArg nI (by omega)⟩
  · refine j_iconst (v := nI 0) C dX8_piece_5 rfl ?_
    refine j_goto (tgt := 21) C dX8_piece_6 rfl ?_
    refine j_ret M dX8_piece_21 ?_
    exact ⟨rfl, congrArg nI (by omega)⟩
set_option maxHeartbeats 4000000 in
set_option maxRecDepth 100000 in
theorem tX8_costOf {g : jG} (hN : 97 ≤ gN g) {σ : Sg} {a : ND} (hI : RNet σ a) (hO : NOk a) {l L : Nat} (hl : l < nM a) (hL : σ 96 l = nI L) (hL2 : L ≤ 905256) : MS g yX8_costOf cX8_costOf 5 (some .int) rmX8_costOf [.ref (gad g (84)), .int (nI (l))] σ (fun r σ' => σ' = σ ∧ r = nI (lcN (nRm a l) L)) := by
  refine MJ_of (by decide) (Nat.le_of_ble_eq_true rfl) (List.forall_mem_cons.mpr ⟨rfl, List.forall_mem_cons.mpr ⟨rfl, fun _ h => absurd h List.not_mem_nil⟩⟩) ?_
  intro κ M
  have C := M.1
  show J g κ 5 0 [some (.ref (gad g (84))), some (.int (nI (l))), none, none, none] [] σ
  have hn7 := hO.2.1
  have hm12 := hO.2.2.1
  have hd6 := hO.2.2.2.1
  obtain ⟨hb1, hb2, hb3, hb4⟩ := hO.2.2.2.2.1 l hl
  refine j_aload_n C dX8_costOf_0 rfl rfl ?_
  refine j_get C flX8_19 dX8_costOf_1 (Nat.lt_of_lt_of_le (by decide) hN) rfl rfl ?_
  refine j_iconst (v := nI 4) C dX8_costOf_4 rfl ?_
  refine j_iload_n C dX8_costOf_5 rfl rfl ?_
  refine j_imul C dX8_costOf_6 ?_
  refine j_top (pk_mul _ _) ?_
  refine j_iconst (v := nI 2) C dX8_costOf_7 rfl ?_
  refine j_iadd C dX8_costOf_8 ?_
  refine j_top (nI_add _ _) ?_
  refine j_iald C dX8_costOf_9 (Nat.lt_of_lt_of_le (by decide) hN) (fun _ => rfl) (by decide) (by omega) ?_
  refine j_top ((hI.2.1 l hl).2.2) ?_
  refine j_istore_n (L' := [some (.ref (gad g (84))), some (.int (nI (l))), some (.int (nI (nRm a l))), none, none]) C dX8_costOf_10 rfl (by decide) rfl ?_
  refine j_aload_n C dX8_costOf_11 rfl rfl ?_
  refine j_get C flX8_43 dX8_costOf_12 (Nat.lt_of_lt_of_le (by decide) hN) rfl rfl ?_
  refine j_iload_n C dX8_costOf_15 rfl rfl ?_
  refine j_iald C dX8_costOf_16 (Nat.lt_of_lt_of_le (by decide) hN) (fun _ => rfl) (by decide) (by omega) ?_
  refine j_top (hL) ?_
  refine j_istore_n (L' := [some (.ref (gad g (84))), some (.int (nI (l))), some (.int (nI (nRm a l))), some (.int (nI (L))), none]) C dX8_costOf_17 rfl (by decide) rfl ?_
  refine j_iload_n C dX8_costOf_18 rfl rfl ?_
  refine j_iconst (v := nI 0) C dX8_costOf_19 rfl ?_
  refine j_iconst (v := nI 4) C dX8_costOf_20 rfl ?_
  refine j_iload_n C dX8_costOf_21 rfl rfl ?_
  refine j_imul C dX8_costOf_22 ?_
  refine j_top (pk_mul _ _) ?_
  refine j_calls (As := [.int (nI (L)), .int (nI (0)), .int (nI ((4 * nRm a l)))]) (rest := []) C (tX8_piece hN (L := L) (lo := 0) (hi := (4 * nRm a l)) (by omega) (by omega) (by omega)) cdX8_piece msX8_146 dX8_costOf_23 (by decide) (by decide) rfl rfl (Nat.le_of_ble_eq_true rfl) (fun rr_2 τ1 hp_3 => ?_)
  obtain ⟨hs, hr⟩ := hp_3
  replace hs := hs.symm
  subst hs
  subst hr
  refine j_iconst (v := nI 3) C dX8_costOf_26 rfl ?_
  refine j_iload_n C dX8_costOf_27 rfl rfl ?_
  refine j_iconst (v := nI 4) C dX8_costOf_28 rfl ?_
  refine j_iload_n C dX8_costOf_29 rfl rfl ?_
  refine j_imul C dX8_costOf_30 ?_
  refine j_top (pk_mul _ _) ?_
  refine j_bipush (v := nI 8) C dX8_costOf_31 rfl ?_
  refine j_iload_n C dX8_costOf_33 rfl rfl ?_
  refine j_imul C dX8_costOf_34 ?_
  refine j_top (pk_mul _ _) ?_
  refine j_calls (As := [.int (nI (L)), .int (nI ((4 * nRm a l))), .int (nI ((8 * nRm a l)))]) (rest := [.int (nI (3)), .int (nI ((min L ((4 * nRm a l)) - (0))))]) C (tX8_piece hN (L := L) (lo := (4 * nRm a l)) (hi := (8 * nRm a l)) (by omega) (by omega) (by omega)) cdX8_piece msX8_146 dX8_costOf_35 (by decide) (by decide) rfl rfl (Nat.le_of_ble_eq_true rfl) (fun rr_5 τ4 hp_6 => ?_)
  obtain ⟨hs, hr⟩ := hp_6
  replace hs := hs.symm
  subst hs
  subst hr
  refine j_imul C dX8_costOf_38 ?_
  refine j_top (pk_mul _ _) ?_
  refine j_iadd C dX8_costOf_39 ?_
  refine j_top (nI_add _ _) ?_
  refine j_bipush (v := nI 10) C dX8_costOf_40 rfl ?_
  refine j_iload_n C dX8_costOf_42 rfl rfl ?_
  refine j_bipush (v := nI 8) C dX8_costOf_43 rfl ?_
  refine j_iload_n C dX8_costOf_45 rfl rfl ?_
  refine j_imul C dX8_costOf_46 ?_
  refine j_top (pk_mul _ _) ?_
  refine j_bipush (v := nI 11) C dX8_costOf_47 rfl ?_
  refine j_iload_n C dX8_costOf_49 rfl rfl ?_
  refine j_imul C dX8_costOf_50 ?_
  refine j_top (pk_mul _ _) ?_
  refine j_calls (As := [.int (nI (L)), .int (nI ((8 * nRm a l))), .int (nI ((11 * nRm a l)))]) (rest := [.int (nI (10)), .int (nI (((min L ((4 * nRm a l)) - (0)) + (3 * (min L ((8 * nRm a l)) - ((4 * nRm a l)))))))]) C (tX8_piece hN (L := L) (lo := (8 * nRm a l)) (hi := (11 * nRm a l)) (by omega) (by omega) (by omega)) cdX8_piece msX8_146 dX8_costOf_51 (by decide) (by decide) rfl rfl (Nat.le_of_ble_eq_true rfl) (fun rr_8 τ7 hp_9 => ?_)
  obtain ⟨hs, hr⟩ := hp_9
  replace hs := hs.symm
  subst hs
  subst hr
  refine j_imul C dX8_costOf_54 ?_
  refine j_top (pk_mul _ _) ?_
  refine j_iadd C dX8_costOf_55 ?_
  refine j_top (nI_add _ _) ?_
  refine j_istore (L' := [some (.ref (gad g (84))), some (.int (nI (l))), some (.int (nI (nRm a l))), some (.int (nI (L))), some (.int (nI ((((min L ((4 * nRm a l)) - (0)) + (3 * (min L ((8 * nRm a l)) - ((4 * nRm a l))))) + (10 * (min L ((11 * nRm a l)) - ((8 * nRm a l))))))))]) C dX8_costOf_56 (by decide) rfl ?_
  refine j_iload C dX8_costOf_58 rfl ?_
  refine j_bipush (v := nI 70) C dX8_costOf_60 rfl ?_
  refine j_iload_n C dX8_costOf_62 rfl rfl ?_
  refine j_bipush (v := nI 11) C dX8_costOf_63 rfl ?_
  refine j_iload_n C dX8_costOf_65 rfl rfl ?_
  refine j_imul C dX8_costOf_66 ?_
  refine j_top (pk_mul _ _) ?_
  refine j_bipush (v := nI 12) C dX8_costOf_67 rfl ?_
  refine j_iload_n C dX8_costOf_69 rfl rfl ?_
  refine j_imul C dX8_costOf_70 ?_
  refine j_top (pk_mul _ _) ?_
  refine j_calls (As := [.int (nI (L)), .int (nI ((11 * nRm a l))), .int (nI ((12 * nRm a l)))]) (rest := [.int (nI (70)), .int (nI ((((min L ((4 * nRm a l)) - (0)) + (3 * (min L ((8 * nRm a l)) - ((4 * nRm a l))))) + (10 * (min L ((11 * nRm a l)) - ((8 * nRm a l)))))))]) C (tX8_piece hN (L := L) (lo := (11 * nRm a l)) (hi := (12 * nRm a l)) (by omega) (by omega) (by omega)) cdX8_piece msX8_146 dX8_costOf_71 (by decide) (by decide) rfl rfl (Nat.le_of_ble_eq_true rfl) (fun rr_11 τ10 hp_12 => ?_)
  obtain ⟨hs, hr⟩ := hp_12
  replace hs := hs.symm
  subst hs
  subst hr
  refine j_imul C dX8_costOf_74 ?_
  refine j_top (pk_mul _ _) ?_
  refine j_iadd C dX8_costOf_75 ?_
  refine j_top (nI_add _ _) ?_
  refine j_sipush (v := nI 500) C dX8_costOf_76 rfl ?_
  refine j_iload_n C dX8_costOf_79 rfl rfl ?_
  refine j_bipush (v := nI 12) C dX8_costOf_80 rfl ?_
  refine j_iload_n C dX8_costOf_82 rfl rfl ?_
  refine j_imul C dX8_costOf_83 ?_
  refine j_top (pk_mul _ _) ?_
  refine j_ldc C kX8_150 dX8_costOf_84 ?_
  refine j_top (y := nI 2000000000) rfl ?_
  refine j_calls (As := [.int (nI (L)), .int (nI ((12 * nRm a l))), .int (nI (2000000000))]) (rest := [.int (nI (500)), .int (nI (((((min L ((4 * nRm a l)) - (0)) + (3 * (min L ((8 * nRm a l)) - ((4 * nRm a l))))) + (10 * (min L ((11 * nRm a l)) - ((8 * nRm a l))))) + (70 * (min L ((12 * nRm a l)) - ((11 * nRm a l)))))))]) C (tX8_piece hN (L := L) (lo := (12 * nRm a l)) (hi := 2000000000) (by omega) (by omega) (by omega)) cdX8_piece msX8_146 dX8_costOf_86 (by decide) (by decide) rfl rfl (Nat.le_of_ble_eq_true rfl) (fun rr_14 τ13 hp_15 => ?_)
  obtain ⟨hs, hr⟩ := hp_15
  replace hs := hs.symm
  subst hs
  subst hr
  refine j_imul C dX8_costOf_89 ?_
  refine j_top (pk_mul _ _) ?_
  refine j_iadd C dX8_costOf_90 ?_
  refine j_top (nI_add _ _) ?_
  refine j_ret M dX8_costOf_91 ?_
  refine ⟨rfl, congrArg nI ?_⟩
  rw [← lcN_eq (show L ≤ 2000000000 by omega)]
set_option maxHeartbeats 4000000 in
set_option maxRecDepth 100000 in
theorem tX8_costNow {g : jG} (hN : 97 ≤ gN g) {σ : Sg} {a : ND} {w : Nat → Nat} {u : Nat → Bool} (hI : RNet σ a) (hO : NOk a) (hW : RW σ (nM a) w u) (hw : WOk (nM a) w) : MS g yX8_costNow cX8_costNow 3 (some .int) rmX8_costNow [.ref (gad g (84))] σ (fun r σ' => (∀ j n, ¬ (93 ≤ j ∧ j ≤ 96 ∨ j = 84 ∧ n = 22) → σ' j n = σ j n) ∧ r = nI (costN a w u)) := by
  refine MJ_of (by decide) (Nat.le_of_ble_eq_true rfl) (List.forall_mem_cons.mpr ⟨rfl, fun _ h => absurd h List.not_mem_nil⟩) ?_
  intro κ M
  have C := M.1
  show J g κ 3 0 [some (.ref (gad g (84))), none, none] [] σ
  have hn7 := hO.2.1
  have hm12 := hO.2.2.1
  have hd6 := hO.2.2.2.1
  have hD6 := hO.2.2.2.1
  have lpB : ∀ (σ1 : Sg), (∀ j n, ¬ (93 ≤ j ∧ j ≤ 96 ∨ j = 84 ∧ n = 22) → σ1 j n = σ j n) → (∀ l, l < nM a → σ1 96 l = nI (LDD a w u (nD a) l)) → σ1 84 22 = nI (ub (lostB a w u) (nD a)) → ∀ (k d : Nat), nD a - d = k → d ≤ nD a → J g κ 3 32 [some (.ref (gad g (84))), some (.int (nI (sumN (fun l => lcN (nRm a l) (LDD a w u (nD a) l)) (nM a) + lstN a w u (d)))), some (.int (nI (d)))] [] σ1 := by
    intro σ1 hf h96 h22 k
    have hub := ub_lt (lostB a w u) (nD a)
    have hub2 : 2 ^ nD a ≤ 2 ^ 6 := Nat.pow_le_pow_right (by decide) hD6
    induction k using Nat.strongRecOn with
    | _ k ih =>
      intro d hk hd
      refine j_iload_n C dX8_costNow_32 rfl rfl ?_
      refine j_aload_n C dX8_costNow_33 rfl rfl ?_
      refine j_get C flX8_80 dX8_costNow_34 (Nat.lt_of_lt_of_le (by decide) hN) rfl rfl ?_
      refine j_top ((hf _ _ (by omega)).trans (hI.1.2.2)) ?_
      refine j_icmpn_ge (tgt := 79) C dX8_costNow_37 rfl (by omega) (by omega) (fun h37 => ?_) (fun h37 => ?_)
      · refine j_iload_n C dX8_costNow_79 rfl rfl ?_
        refine j_ret M dX8_costNow_80 ?_
        refine ⟨hf, congrArg nI ?_⟩
        rw [show d = nD a by omega, Nat.add_comm]
        rfl
      · refine j_iload_n C dX8_costNow_40 rfl rfl ?_
        refine j_aload_n C dX8_costNow_41 rfl rfl ?_
        refine j_get C flX8_140 dX8_costNow_42 (Nat.lt_of_lt_of_le (by decide) hN) rfl rfl ?_
        refine j_top (h22) ?_
        refine j_iload_n C dX8_costNow_45 rfl rfl ?_
        refine j_ishr C dX8_costNow_46 ?_
        refine j_top rfl ?_
        refine j_iconst (v := nI 1) C dX8_costNow_47 rfl ?_
        refine j_iand C dX8_costNow_48 ?_
        refine j_top (bit_rd (by omega) (by omega)) ?_
        have hbit := ub_bit (lostB a w u) (nD a) d
        rcases hdx : lostB a w u d with _ | _
        · rw [if_neg (fun q => by rw [hdx] at q; exact absurd q.2 (by decide))] at hbit
          refine j_top (y := nI 0) (by rw [hbit]) ?_
          refine j_iconst (v := nI 1) C dX8_costNow_49 rfl ?_
          refine j_icmpn_ne (tgt := 70) C dX8_costNow_50 rfl (by omega) (by omega) (fun _ => ?_) (fun h => absurd h (by decide))
          refine j_iconst (v := nI 0) C dX8_costNow_70 rfl ?_
          refine j_iadd C dX8_costNow_71 ?_
          refine j_top (nI_add _ _) ?_
          refine j_istore_n (L' := [some (.ref (gad g (84))), some (.int (nI ((sumN (fun l => lcN (nRm a l) (LDD a w u (nD a) l)) (nM a) + lstN a w u (d) + 0)))), some (.int (nI (d)))]) C dX8_costNow_72 rfl (by decide) rfl ?_
          refine j_iinc (L' := [some (.ref (gad g (84))), some (.int (nI ((sumN (fun l => lcN (nRm a l) (LDD a w u (nD a) l)) (nM a) + lstN a w u (d) + 0)))), some (.int (nI (d + 1)))]) C dX8_costNow_73 rfl (nI_inc _) (by decide) rfl ?_
          refine j_goto (tgt := 32) C dX8_costNow_76 rfl ?_
          refine J_loc (L' := [some (.ref (gad g (84))), some (.int (nI (sumN (fun l => lcN (nRm a l) (LDD a w u (nD a) l)) (nM a) + lstN a w u (d + 1)))), some (.int (nI (d + 1)))]) (by first | rw [lst_hit hdx, Nat.add_assoc] | rw [lst_miss hdx]; rfl) (ih (nD a - (d + 1)) (by omega) (d + 1) rfl (by omega))
        · rw [if_pos ⟨by omega, hdx⟩] at hbit
          refine j_top (y := nI 1) (by rw [hbit]) ?_
          refine j_iconst (v := nI 1) C dX8_costNow_49 rfl ?_
          refine j_icmpn_ne (tgt := 70) C dX8_costNow_50 rfl (by omega) (by omega) (fun h => absurd h (by decide)) (fun _ => ?_)
          refine j_sipush (v := nI 12000) C dX8_costNow_53 rfl ?_
          refine j_aload_n C dX8_costNow_56 rfl rfl ?_
          refine j_get C flX8_22 dX8_costNow_57 (Nat.lt_of_lt_of_le (by decide) hN) rfl rfl ?_
          refine j_iconst (v := nI 3) C dX8_costNow_60 rfl ?_
          refine j_iload_n C dX8_costNow_61 rfl rfl ?_
          refine j_imul C dX8_costNow_62 ?_
          refine j_top (pk_mul _ _) ?_
          refine j_iconst (v := nI 2) C dX8_costNow_63 rfl ?_
          refine j_iadd C dX8_costNow_64 ?_
          refine j_top (nI_add _ _) ?_
          refine j_iald C dX8_costNow_65 (Nat.lt_of_lt_of_le (by decide) hN) (fun _ => rfl) (by decide) (by omega) ?_
          refine j_top ((hf _ _ (by omega)).trans ((hI.2.2 d (by omega)).2.2)) ?_
          refine j_imul C dX8_costNow_66 ?_
          refine j_top (pk_mul _ _) ?_
          refine j_goto (tgt := 71) C dX8_costNow_67 rfl ?_
          refine j_iadd C dX8_costNow_71 ?_
          refine j_top (nI_add _ _) ?_
          refine j_istore_n (L' := [some (.ref (gad g (84))), some (.int (nI ((sumN (fun l => lcN (nRm a l) (LDD a w u (nD a) l)) (nM a) + lstN a w u (d) + (12000 * nSz a d))))), some (.int (nI (d)))]) C dX8_costNow_72 rfl (by decide) rfl ?_
          refine j_iinc (L' := [some (.ref (gad g (84))), some (.int (nI ((sumN (fun l => lcN (nRm a l) (LDD a w u (nD a) l)) (nM a) + lstN a w u (d) + (12000 * nSz a d))))), some (.int (nI (d + 1)))]) C dX8_costNow_73 rfl (nI_inc _) (by decide) rfl ?_
          refine j_goto (tgt := 32) C dX8_costNow_76 rfl ?_
          refine J_loc (L' := [some (.ref (gad g (84))), some (.int (nI (sumN (fun l => lcN (nRm a l) (LDD a w u (nD a) l)) (nM a) + lstN a w u (d + 1)))), some (.int (nI (d + 1)))]) (by first | rw [lst_hit hdx, Nat.add_assoc] | rw [lst_miss hdx]; rfl) (ih (nD a - (d + 1)) (by omega) (d + 1) rfl (by omega))
  have lpA : ∀ (σ1 : Sg), (∀ j n, ¬ (93 ≤ j ∧ j ≤ 96 ∨ j = 84 ∧ n = 22) → σ1 j n = σ j n) → (∀ l, l < nM a → σ1 96 l = nI (LDD a w u (nD a) l)) → σ1 84 22 = nI (ub (lostB a w u) (nD a)) → ∀ (k l : Nat), nM a - l = k → l ≤ nM a → J g κ 3 8 [some (.ref (gad g (84))), some (.int (nI (sumN (fun l => lcN (nRm a l) (LDD a w u (nD a) l)) (l)))), some (.int (nI (l)))] [] σ1 := by
    intro σ1 hf h96 h22 k
    induction k using Nat.strongRecOn with
    | _ k ih =>
      intro l hk hl
      refine j_iload_n C dX8_costNow_8 rfl rfl ?_
      refine j_aload_n C dX8_costNow_9 rfl rfl ?_
      refine j_get C flX8_77 dX8_costNow_10 (Nat.lt_of_lt_of_le (by decide) hN) rfl rfl ?_
      refine j_top ((hf _ _ (by omega)).trans (hI.1.2.1)) ?_
      refine j_icmpn_ge (tgt := 30) C dX8_costNow_13 rfl (by omega) (by omega) (fun h13 => ?_) (fun h13 => ?_)
      · refine j_iconst (v := nI 0) C dX8_costNow_30 rfl ?_
        refine j_istore_n (L' := [some (.ref (gad g (84))), some (.int (nI (sumN (fun l => lcN (nRm a l) (LDD a w u (nD a) l)) (l)))), some (.int (nI (0)))]) C dX8_costNow_31 rfl (by decide) rfl ?_
        refine J_loc (L' := [some (.ref (gad g (84))), some (.int (nI (sumN (fun l => lcN (nRm a l) (LDD a w u (nD a) l)) (nM a) + lstN a w u (0)))), some (.int (nI (0)))]) (by rw [show l = nM a by omega]; rfl) (lpB σ1 hf h96 h22 (nD a - 0) 0 rfl (by omega))
      · refine j_iload_n C dX8_costNow_16 rfl rfl ?_
        refine j_aload_n C dX8_costNow_17 rfl rfl ?_
        refine j_iload_n C dX8_costNow_18 rfl rfl ?_
        refine j_calli (As := [.int (nI (l))]) (rest := [.int (nI (sumN (fun l => lcN (nRm a l) (LDD a w u (nD a) l)) (l)))]) C (tX8_costOf hN (hI.kept (fun j n h => hf j n (by omega))) hO (l := l) (L := LDD a w u (nD a) l) (by omega) (h96 l (by omega)) (LDD_bd hO (Nat.le_refl _) (by omega))) cdX8_costOf mlX8_154 dX8_costNow_19 (by decide) (by decide) (Nat.lt_of_lt_of_le (by decide) hN) rfl rfl rfl rfl rfl (Nat.le_of_ble_eq_true rfl) (fun rr_2 τ1 hp_3 => ?_)
        obtain ⟨hs, hr⟩ := hp_3
        replace hs := hs.symm
        subst hs
        subst hr
        refine j_iadd C dX8_costNow_22 ?_
        refine j_top (nI_add _ _) ?_
        refine j_istore_n (L' := [some (.ref (gad g (84))), some (.int (nI ((sumN (fun l => lcN (nRm a l) (LDD a w u (nD a) l)) (l) + lcN (nRm a l) (LDD a w u (nD a) l))))), some (.int (nI (l)))]) C dX8_costNow_23 rfl (by decide) rfl ?_
        refine j_iinc (L' := [some (.ref (gad g (84))), some (.int (nI ((sumN (fun l => lcN (nRm a l) (LDD a w u (nD a) l)) (l) + lcN (nRm a l) (LDD a w u (nD a) l))))), some (.int (nI (l + 1)))]) C dX8_costNow_24 rfl (nI_inc _) (by decide) rfl ?_
        refine j_goto (tgt := 8) C dX8_costNow_27 rfl ?_
        exact ih (nM a - (l + 1)) (by omega) (l + 1) rfl (by omega)
  refine j_aload_n C dX8_costNow_0 rfl rfl ?_
  refine j_callv (As := []) (rest := []) C (tX8_layLoads hN hI hO hW hw) cdX8_layLoads mlX8_151 dX8_costNow_1 (by decide) (by decide) (Nat.lt_of_lt_of_le (by decide) hN) rfl rfl rfl rfl rfl (Nat.le_of_ble_eq_true rfl) (fun τ1 hp_3 => ?_)
  refine j_iconst (v := nI 0) C dX8_costNow_4 rfl ?_
  refine j_istore_n (L' := [some (.ref (gad g (84))), some (.int (nI (0))), none]) C dX8_costNow_5 rfl (by decide) rfl ?_
  refine j_iconst (v := nI 0) C dX8_costNow_6 rfl ?_
  refine j_istore_n (L' := [some (.ref (gad g (84))), some (.int (nI (0))), some (.int (nI (0)))]) C dX8_costNow_7 rfl (by decide) rfl ?_
  exact lpA τ1 hp_3.1 hp_3.2.1 hp_3.2.2 (nM a - 0) 0 rfl (by omega)
set_option maxHeartbeats 4000000 in
set_option maxRecDepth 100000 in
theorem tX8_costBy {g : jG} (hN : 97 ≤ gN g) {σ : Sg} {a : ND} {w : Nat → Nat} {u : Nat → Bool} (hI : RNet σ a) (hO : NOk a) (hW : RW σ (nM a) w u) (hw : WOk (nM a) w) {l x : Nat} (hl : l < nM a) (hx1 : 1 ≤ x) (hx2 : x ≤ 20) : MS g yX8_costBy cX8_costBy 5 (some .int) rmX8_costBy [.ref (gad g (84)), .int (nI (l)), .int (nI (x))] σ (fun r σ' => (∀ j n, ¬ (93 ≤ j ∧ j ≤ 96 ∨ j = 84 ∧ n = 22) → σ' j n = σ j n) ∧ r = nI (costN a (updN w l x) u)) := by
  refine MJ_of (by decide) (Nat.le_of_ble_eq_true rfl) (List.forall_mem_cons.mpr ⟨rfl, List.forall_mem_cons.mpr ⟨rfl, List.forall_mem_cons.mpr ⟨rfl, fun _ h => absurd h List.not_mem_nil⟩⟩⟩) ?_
  intro κ M
  have C := M.1
  show J g κ 5 0 [some (.ref (gad g (84))), some (.int (nI (l))), some (.int (nI (x))), none, none] [] σ
  have hn7 := hO.2.1
  have hm12 := hO.2.2.1
  have hd6 := hO.2.2.2.1
  refine j_aload_n C dX8_costBy_0 rfl rfl ?_
  refine j_get C flX8_25 dX8_costBy_1 (Nat.lt_of_lt_of_le (by decide) hN) rfl rfl ?_
  refine j_iload_n C dX8_costBy_4 rfl rfl ?_
  refine j_iald C dX8_costBy_5 (Nat.lt_of_lt_of_le (by decide) hN) (fun _ => rfl) (by decide) (by omega) ?_
  refine j_top (hW.1 l hl) ?_
  refine j_istore_n (L' := [some (.ref (gad g (84))), some (.int (nI (l))), some (.int (nI (x))), some (.int (nI (w l))), none]) C dX8_costBy_6 rfl (by decide) rfl ?_
  refine j_aload_n C dX8_costBy_7 rfl rfl ?_
  refine j_get C flX8_25 dX8_costBy_8 (Nat.lt_of_lt_of_le (by decide) hN) rfl rfl ?_
  refine j_iload_n C dX8_costBy_11 rfl rfl ?_
  refine j_iload_n C dX8_costBy_12 rfl rfl ?_
  refine j_iast' C dX8_costBy_13 (Nat.lt_of_lt_of_le (by decide) hN) (fun _ => rfl) (by decide) (by omega) (fun τ1 hz_2 hw_3 => ?_)
  refine j_aload_n C dX8_costBy_14 rfl rfl ?_
  refine j_calli (As := []) (rest := []) C (tX8_costNow hN (a := a) (w := (updN w l x)) (u := u) (hI.kept (fun j n h => by rw [hz_2 _ _ (by omega)])) hO ⟨fun k hk => by
      unfold updN
      by_cases e : k = l
      · subst e; rw [if_pos rfl]; exact hw_3
      · rw [if_neg e, hz_2 _ _ (by omega)]; exact hW.1 k hk, by rw [hz_2 _ _ (by omega)]; exact hW.2⟩ (wok_upd hw hx1 hx2)) cdX8_costNow mlX8_83 dX8_costBy_15 (by decide) (by decide) (Nat.lt_of_lt_of_le (by decide) hN) rfl rfl rfl rfl rfl (Nat.le_of_ble_eq_true rfl) (fun rr_5 τ4 hp_6 => ?_)
  have hr := hp_6.2
  subst hr
  refine j_istore (L' := [some (.ref (gad g (84))), some (.int (nI (l))), some (.int (nI (x))), some (.int (nI (w l))), some (.int (nI (costN a (updN w l x) u)))]) C dX8_costBy_18 (by decide) rfl ?_
  refine j_aload_n C dX8_costBy_20 rfl rfl ?_
  refine j_get C flX8_25 dX8_costBy_21 (Nat.lt_of_lt_of_le (by decide) hN) rfl rfl ?_
  refine j_iload_n C dX8_costBy_24 rfl rfl ?_
  refine j_iload_n C dX8_costBy_25 rfl rfl ?_
  refine j_iast' C dX8_costBy_26 (Nat.lt_of_lt_of_le (by decide) hN) (fun _ => rfl) (by decide) (by omega) (fun τ7 hz_8 hw_9 => ?_)
  refine j_iload C dX8_costBy_27 rfl ?_
  refine j_ret M dX8_costBy_29 ?_
  refine ⟨fun j n h => ?_, rfl⟩
  by_cases e : j = 90 ∧ n = l
  · obtain ⟨rfl, rfl⟩ := e
    rw [hw_9]; exact (hW.1 n hl).symm
  · rw [hz_8 _ _ (by omega), hp_6.1 _ _ (by omega), hz_2 _ _ (by omega)]
set_option maxHeartbeats 4000000 in
set_option maxRecDepth 100000 in
theorem tX8_costTurned {g : jG} (hN : 97 ≤ gN g) {σ : Sg} {a : ND} {w : Nat → Nat} {u : Nat → Bool} (hI : RNet σ a) (hO : NOk a) (hW : RW σ (nM a) w u) (hw : WOk (nM a) w) {l : Nat} (hl : l < nM a) : MS g yX8_costTurned cX8_costTurned 3 (some .int) rmX8_costTurned [.ref (gad g (84)), .int (nI (l))] σ (fun r σ' => (∀ j n, ¬ (93 ≤ j ∧ j ≤ 96 ∨ j = 84 ∧ n = 22) → σ' j n = σ j n) ∧ r = nI (costN a w (fl1 u l))) := by
  refine MJ_of (by decide) (Nat.le_of_ble_eq_true rfl) (List.forall_mem_cons.mpr ⟨rfl, List.forall_mem_cons.mpr ⟨rfl, fun _ h => absurd h List.not_mem_nil⟩⟩) ?_
  intro κ M
  have C := M.1
  show J g κ 3 0 [some (.ref (gad g (84))), some (.int (nI (l))), none] [] σ
  have hn7 := hO.2.1
  have hm12 := hO.2.2.1
  have hd6 := hO.2.2.2.1
  refine j_aload_n C dX8_costTurned_0 rfl rfl ?_
  refine j_get C flX8_25 dX8_costTurned_1 (Nat.lt_of_lt_of_le (by decide) hN) rfl rfl ?_
  refine j_bipush (v := nI 12) C dX8_costTurned_4 rfl ?_
  refine j_dup2 C dX8_costTurned_6 rfl rfl ?_
  refine j_iald C dX8_costTurned_7 (Nat.lt_of_lt_of_le (by decide) hN) (fun _ => rfl) (by decide) (by omega) ?_
  refine j_top (hW.2) ?_
  refine j_iconst (v := nI 1) C dX8_costTurned_8 rfl ?_
  refine j_iload_n C dX8_costTurned_9 rfl rfl ?_
  refine j_ishl C dX8_costTurned_10 ?_
  refine j_top (bit_sh (by omega)) ?_
  refine j_ixor C dX8_costTurned_11 ?_
  refine j_top ((bit_xor _ _).trans (congrArg nI (ub_xor hl))) ?_
  refine j_iast' C dX8_costTurned_12 (Nat.lt_of_lt_of_le (by decide) hN) (fun _ => rfl) (by decide) (by omega) (fun τ1 hz_2 hw_3 => ?_)
  refine j_aload_n C dX8_costTurned_13 rfl rfl ?_
  refine j_calli (As := []) (rest := []) C (tX8_costNow hN (a := a) (w := w) (u := fl1 u l) (hI.kept (fun j n h => by rw [hz_2 _ _ (by omega)])) hO ⟨fun k hk => by rw [hz_2 _ _ (by omega)]; exact hW.1 k hk, hw_3⟩ hw) cdX8_costNow mlX8_83 dX8_costTurned_14 (by decide) (by decide) (Nat.lt_of_lt_of_le (by decide) hN) rfl rfl rfl rfl rfl (Nat.le_of_ble_eq_true rfl) (fun rr_5 τ4 hp_6 => ?_)
  have hr := hp_6.2
  subst hr
  refine j_istore_n (L' := [some (.ref (gad g (84))), some (.int (nI (l))), some (.int (nI (costN a w (fl1 u l))))]) C dX8_costTurned_17 rfl (by decide) rfl ?_
  refine j_aload_n C dX8_costTurned_18 rfl rfl ?_
  refine j_get C flX8_25 dX8_costTurned_19 (Nat.lt_of_lt_of_le (by decide) hN) rfl rfl ?_
  refine j_bipush (v := nI 12) C dX8_costTurned_22 rfl ?_
  refine j_dup2 C dX8_costTurned_24 rfl rfl ?_
  refine j_iald C dX8_costTurned_25 (Nat.lt_of_lt_of_le (by decide) hN) (fun _ => rfl) (by decide) (by omega) ?_
  refine j_top ((hp_6.1 _ _ (by omega)).trans (hw_3)) ?_
  refine j_iconst (v := nI 1) C dX8_costTurned_26 rfl ?_
  refine j_iload_n C dX8_costTurned_27 rfl rfl ?_
  refine j_ishl C dX8_costTurned_28 ?_
  refine j_top (bit_sh (by omega)) ?_
  refine j_ixor C dX8_costTurned_29 ?_
  refine j_top ((bit_xor _ _).trans (congrArg nI ((ub_xor hl).trans (by rw [fl1_fl1])))) ?_
  refine j_iast' C dX8_costTurned_30 (Nat.lt_of_lt_of_le (by decide) hN) (fun _ => rfl) (by decide) (by omega) (fun τ7 hz_8 hw_9 => ?_)
  refine j_iload_n C dX8_costTurned_31 rfl rfl ?_
  refine j_ret M dX8_costTurned_32 ?_
  refine ⟨fun j n h => ?_, rfl⟩
  by_cases e : j = 90 ∧ n = 12
  · obtain ⟨rfl, rfl⟩ := e
    rw [hw_9]; exact hW.2.symm
  · rw [hz_8 _ _ (by omega), hp_6.1 _ _ (by omega), hz_2 _ _ (by omega)]
