set_option maxHeartbeats 4000000 in
set_option maxRecDepth 100000 in
theorem tX8_note {g : jG} (hN : 97 ≤ gN g) {σ : Sg} {c : Nat} (hc : σ 84 15 = nI c) (hc6 : c ≤ 6) : MS g yX8_note cX8_note 2 none rmX8_note [.ref (gad g (84))] σ (fun r σ' => (∀ j n, ¬ (j = 91 ∨ j = 84 ∧ n = 15) → σ' j n = σ j n) ∧ σ' 84 15 = nI (min (c + 1) 6) ∧ (∀ k, k < 21 → σ' 91 (21 * min c 5 + k) = σ 90 k) ∧ ∀ n, n < 21 * min c 5 → σ' 91 n = if c = 6 then σ 91 (n + 21) else σ 91 n) := by
  refine MJ_of (by decide) (Nat.le_of_ble_eq_true rfl) (List.forall_mem_cons.mpr ⟨rfl, fun _ h => absurd h List.not_mem_nil⟩) ?_
  intro κ M
  have C := M.1
  show J g κ 2 0 [some (.ref (gad g (84))), none] [] σ
  have lp2 : ∀ (q : Nat), q = min c 5 → ∀ (k i : Nat) (σ1 : Sg), 21 - i = k → i ≤ 21 → (∀ j n, ¬ (j = 91 ∨ j = 84 ∧ n = 15) → σ1 j n = σ j n) → σ1 84 15 = nI q → (∀ z, z < i → σ1 91 (21 * q + z) = σ 90 z) → (∀ n, n < 21 * q → σ1 91 n = if c = 6 then σ 91 (n + 21) else σ 91 n) → J g κ 2 50 [some (.ref (gad g (84))), some (.int (nI (i)))] [] σ1 := by
    intro q hqc k
    induction k using Nat.strongRecOn with
    | _ k ih =>
      intro i σ1 hk hi hf h15 ha hb
      refine j_iload_n C dX8_note_50 rfl rfl ?_
      refine j_bipush (v := nI 21) C dX8_note_51 rfl ?_
      refine j_icmpn_ge (tgt := 82) C dX8_note_53 rfl (by omega) (by omega) (fun h53 => ?_) (fun h53 => ?_)
      · refine j_aload_n C dX8_note_82 rfl rfl ?_
        refine j_dup C dX8_note_83 rfl ?_
        refine j_get C flX8_87 dX8_note_84 (Nat.lt_of_lt_of_le (by decide) hN) rfl rfl ?_
        refine j_top (h15) ?_
        refine j_iconst (v := nI 1) C dX8_note_87 rfl ?_
        refine j_iadd C dX8_note_88 ?_
        refine j_top (nI_add _ _) ?_
        refine j_put' C fpX8_87 dX8_note_89 (Nat.lt_of_lt_of_le (by decide) hN) (fun _ => rfl) rfl (Nat.le_of_ble_eq_true rfl) rfl rfl (fun τ1 hz_2 hw_3 => ?_)
        refine j_retv M dX8_note_92 ?_
        refine ⟨fun j n h => by rw [hz_2 _ _ (by omega)]; exact hf j n h, ?_, fun k hk => ?_, fun n hn => ?_⟩
        · rw [hw_3, hqc]; exact congrArg nI (by omega)
        · rw [hz_2 _ _ (by omega), ← hqc]; exact ha k (by omega)
        · rw [hz_2 _ _ (by omega)]; exact hb n (by omega)
      · refine j_aload_n C dX8_note_56 rfl rfl ?_
        refine j_get C flX8_28 dX8_note_57 (Nat.lt_of_lt_of_le (by decide) hN) rfl rfl ?_
        refine j_bipush (v := nI 21) C dX8_note_60 rfl ?_
        refine j_aload_n C dX8_note_62 rfl rfl ?_
        refine j_get C flX8_87 dX8_note_63 (Nat.lt_of_lt_of_le (by decide) hN) rfl rfl ?_
        refine j_top (h15) ?_
        refine j_imul C dX8_note_66 ?_
        refine j_top (pk_mul _ _) ?_
        refine j_iload_n C dX8_note_67 rfl rfl ?_
        refine j_iadd C dX8_note_68 ?_
        refine j_top (nI_add _ _) ?_
        refine j_aload_n C dX8_note_69 rfl rfl ?_
        refine j_get C flX8_25 dX8_note_70 (Nat.lt_of_lt_of_le (by decide) hN) rfl rfl ?_
        refine j_iload_n C dX8_note_73 rfl rfl ?_
        refine j_iald C dX8_note_74 (Nat.lt_of_lt_of_le (by decide) hN) (fun _ => rfl) (by decide) (by omega) ?_
        refine j_top (hf _ _ (by omega)) ?_
        refine j_iast' C dX8_note_75 (Nat.lt_of_lt_of_le (by decide) hN) (fun _ => rfl) (by decide) (by omega) (fun τ4 hz_5 hw_6 => ?_)
        refine j_iinc (L' := [some (.ref (gad g (84))), some (.int (nI (i + 1)))]) C dX8_note_76 rfl (nI_inc _) (by decide) rfl ?_
        refine j_goto (tgt := 50) C dX8_note_79 rfl ?_
        refine ih (21 - (i + 1)) (by omega) (i + 1) τ4 rfl (by omega) (fun j n h => by rw [hz_5 _ _ (by omega)]; exact hf j n h) (by rw [hz_5 _ _ (by omega)]; exact h15) (fun z hz => ?_) (fun n hn => by rw [hz_5 _ _ (by omega)]; exact hb n hn)
        by_cases e : z = i
        · subst e; exact hw_6
        · rw [hz_5 _ _ (by omega)]; exact ha z (by omega)
  have lp1 : c = 6 → ∀ (k i : Nat) (σ1 : Sg), 105 - i = k → i ≤ 105 → (∀ j n, ¬ (j = 91 ∨ j = 84 ∧ n = 15) → σ1 j n = σ j n) → σ1 84 15 = nI 6 → (∀ n, n < i → σ1 91 n = σ 91 (n + 21)) → (∀ n, i ≤ n → σ1 91 n = σ 91 n) → J g κ 2 11 [some (.ref (gad g (84))), some (.int (nI (i)))] [] σ1 := by
    intro hc6e k
    induction k using Nat.strongRecOn with
    | _ k ih =>
      intro i σ1 hk hi hf h15 ha hb
      refine j_iload_n C dX8_note_11 rfl rfl ?_
      refine j_bipush (v := nI 105) C dX8_note_12 rfl ?_
      refine j_icmpn_ge (tgt := 38) C dX8_note_14 rfl (by omega) (by omega) (fun h14 => ?_) (fun h14 => ?_)
      · refine j_aload_n C dX8_note_38 rfl rfl ?_
        refine j_dup C dX8_note_39 rfl ?_
        refine j_get C flX8_87 dX8_note_40 (Nat.lt_of_lt_of_le (by decide) hN) rfl rfl ?_
        refine j_top (h15) ?_
        refine j_iconst (v := nI 1) C dX8_note_43 rfl ?_
        refine j_isub C dX8_note_44 ?_
        refine j_top (pk_sub (by omega)) ?_
        refine j_put' C fpX8_87 dX8_note_45 (Nat.lt_of_lt_of_le (by decide) hN) (fun _ => rfl) rfl (Nat.le_of_ble_eq_true rfl) rfl rfl (fun τ1 hz_2 hw_3 => ?_)
        refine j_iconst (v := nI 0) C dX8_note_48 rfl ?_
        refine j_istore_n (L' := [some (.ref (gad g (84))), some (.int (nI (0)))]) C dX8_note_49 rfl (by decide) rfl ?_
        exact lp2 5 (by omega) (21 - 0) 0 τ1 rfl (by omega) (fun j n h => by rw [hz_2 _ _ (by omega)]; exact hf j n h) hw_3 (fun z hz => by omega) (fun n hn => by rw [hz_2 _ _ (by omega), if_pos hc6e]; exact ha n (by omega))
      · refine j_aload_n C dX8_note_17 rfl rfl ?_
        refine j_get C flX8_28 dX8_note_18 (Nat.lt_of_lt_of_le (by decide) hN) rfl rfl ?_
        refine j_iload_n C dX8_note_21 rfl rfl ?_
        refine j_aload_n C dX8_note_22 rfl rfl ?_
        refine j_get C flX8_28 dX8_note_23 (Nat.lt_of_lt_of_le (by decide) hN) rfl rfl ?_
        refine j_iload_n C dX8_note_26 rfl rfl ?_
        refine j_bipush (v := nI 21) C dX8_note_27 rfl ?_
        refine j_iadd C dX8_note_29 ?_
        refine j_top (nI_add _ _) ?_
        refine j_iald C dX8_note_30 (Nat.lt_of_lt_of_le (by decide) hN) (fun _ => rfl) (by decide) (by omega) ?_
        refine j_top (hb _ (by omega)) ?_
        refine j_iast' C dX8_note_31 (Nat.lt_of_lt_of_le (by decide) hN) (fun _ => rfl) (by decide) (by omega) (fun τ4 hz_5 hw_6 => ?_)
        refine j_iinc (L' := [some (.ref (gad g (84))), some (.int (nI (i + 1)))]) C dX8_note_32 rfl (nI_inc _) (by decide) rfl ?_
        refine j_goto (tgt := 11) C dX8_note_35 rfl ?_
        refine ih (105 - (i + 1)) (by omega) (i + 1) τ4 rfl (by omega) (fun j n h => by rw [hz_5 _ _ (by omega)]; exact hf j n h) (by rw [hz_5 _ _ (by omega)]; exact h15) (fun n hn => ?_) (fun n hn => by rw [hz_5 _ _ (by omega)]; exact hb n (by omega))
        by_cases e : n = i
        · subst e; exact hw_6
        · rw [hz_5 _ _ (by omega)]; exact ha n (by omega)
  refine j_aload_n C dX8_note_0 rfl rfl ?_
  refine j_get C flX8_87 dX8_note_1 (Nat.lt_of_lt_of_le (by decide) hN) rfl rfl ?_
  refine j_top (hc) ?_
  refine j_bipush (v := nI 6) C dX8_note_4 rfl ?_
  refine j_icmpn_ne (tgt := 48) C dX8_note_6 rfl (by omega) (by omega) (fun h6 => ?_) (fun h6 => ?_)
  · refine j_iconst (v := nI 0) C dX8_note_48 rfl ?_
    refine j_istore_n (L' := [some (.ref (gad g (84))), some (.int (nI (0)))]) C dX8_note_49 rfl (by decide) rfl ?_
    exact lp2 c (by omega) (21 - 0) 0 σ rfl (by omega) (fun _ _ _ => rfl) hc (fun z hz => by omega) (fun n hn => by rw [if_neg (by omega)])
  · refine j_iconst (v := nI 0) C dX8_note_9 rfl ?_
    refine j_istore_n (L' := [some (.ref (gad g (84))), some (.int (nI (0)))]) C dX8_note_10 rfl (by decide) rfl ?_
    exact lp1 (by omega) (105 - 0) 0 σ rfl (by omega) (fun _ _ _ => rfl) (hc.trans (congrArg nI (by omega))) (fun n hn => by omega) (fun _ _ => rfl)
set_option maxHeartbeats 4000000 in
set_option maxRecDepth 100000 in
theorem tX8_undo {g : jG} (hN : 97 ≤ gN g) {σ : Sg} {tx : Nat → Int32} {len : Nat} {a : ND} {wt : Nat → Nat} {u : Nat → Bool} {tl : List Int32} {le : Nat} {p : List SD} (hC : RI σ (tx, len, a, (wt, u, tl, le), p)) (hA : AOk (tx, len, a, (wt, u, tl, le), p)) (h1m : 1 ≤ nM a) (h1d : 1 ≤ nD a) : MS g yX8_undo cX8_undo 2 (some .int) rmX8_undo [.ref (gad g (84))] σ (fun r σ' => r = (abUndo (tx, len, a, (wt, u, tl, le), p)).1 ∧ RI σ' (abUndo (tx, len, a, (wt, u, tl, le), p)).2 ∧ ∀ j n, j < 84 → σ' j n = σ j n) := by
  refine MJ_of (by decide) (Nat.le_of_ble_eq_true rfl) (List.forall_mem_cons.mpr ⟨rfl, fun _ h => absurd h List.not_mem_nil⟩) ?_
  intro κ M
  have C := M.1
  show J g κ 2 0 [some (.ref (gad g (84))), none] [] σ
  have hI : RNet σ a := hC.2.1
  have hO : NOk a := hA.1
  have hS : RS1 σ 90 0 (nM a) (wt, u, tl, le) := hC.2.2.1
  have hW : RW σ (nM a) wt u := hS.w
  have hw : WOk (nM a) wt := hA.2.1.1
  have htl6 : tl.length ≤ 6 := hA.2.1.2.1
  have hle31 : le < 2 ^ 31 := hA.2.1.2.2
  have hlen : len ≤ 200 := hC.1.2.1
  have hCl : σ 84 1 = nI len := hC.1.1
  have hCt : ∀ k, k < len → σ 85 k = tx k := hC.1.2.2
  have hn2 := hO.1
  have hn7 := hO.2.1
  have hm12 := hO.2.2.1
  have hd6 := hO.2.2.2.1
  have hle : σ 90 13 = nI le := hS.2.2.1
  have hT : RT σ tl := ⟨hS.2.2.2.1, fun k hk => hS.2.2.2.2 k hk⟩
  have hPl : σ 84 15 = nI p.length := hC.2.2.2.1
  have hp6 : p.length ≤ 6 := hA.2.2.2.1
  have lp : ¬ p.length = 0 → ∀ (k i : Nat) (σ1 : Sg), 21 - i = k → i ≤ 21 → (∀ j n, ¬ (j = 90 ∨ j = 84 ∧ n = 15) → σ1 j n = σ j n) → σ1 84 15 = nI (p.length - 1) → (∀ z, z < i → σ1 90 z = σ 91 (21 * (p.length - 1) + z)) → J g κ 2 22 [some (.ref (gad g (84))), some (.int (nI (i)))] [] σ1 := by
    intro hp0 k
    induction k using Nat.strongRecOn with
    | _ k ih =>
      intro i σ1 hk hi hf h15 ha
      refine j_iload_n C dX8_undo_22 rfl rfl ?_
      refine j_bipush (v := nI 21) C dX8_undo_23 rfl ?_
      refine j_icmpn_ge (tgt := 54) C dX8_undo_25 rfl (by omega) (by omega) (fun h25 => ?_) (fun h25 => ?_)
      · refine j_aload_n C dX8_undo_54 rfl rfl ?_
        refine j_get C flX8_87 dX8_undo_55 (Nat.lt_of_lt_of_le (by decide) hN) rfl rfl ?_
        refine j_top (h15) ?_
        refine j_ret M dX8_undo_58 ?_
        obtain ⟨s, hs⟩ : ∃ s, p[p.length - 1]? = some s := ⟨p[p.length - 1]'(by omega), List.getElem?_eq_getElem (by omega)⟩
        have e : abUndo (tx, len, a, (wt, u, tl, le), p) = (nI (p.length - 1), (tx, len, a, s, p.dropLast)) := by
          unfold abUndo
          dsimp only
          rw [show p.getLast? = some s by rw [List.getLast?_eq_getElem?]; exact hs]
        rw [e]
        refine ⟨rfl, ⟨⟨(hf _ _ (by omega)).trans hC.1.1, hlen, fun k hk => (hf _ _ (by omega)).trans (hC.1.2.2 k hk)⟩, hI.kept (fun j n h => hf j n (by omega)), ?_, ?_, fun k s2 hs2 => ?_⟩, fun j n h => hf j n (by omega)⟩
        · refine (hC.2.2.2.2 _ s hs).move hm12 (hA.2.2.2.2 s (List.mem_of_getElem? hs)).2.1 (fun n hn => ?_)
          rw [Nat.zero_add]; exact ha n (by omega)
        · show σ1 84 15 = nI p.dropLast.length
          rw [List.length_dropLast]; exact h15
        · have hs3 : p.dropLast[k]? = some s2 := hs2
          have hk : k < p.length - 1 := by
            by_cases q : k < p.dropLast.length
            · rwa [List.length_dropLast] at q
            · rw [List.getElem?_eq_none (by omega)] at hs3; cases hs3
          rw [List.getElem?_dropLast, if_pos hk] at hs3
          exact (hC.2.2.2.2 k s2 hs3).kept hm12 (hA.2.2.2.2 s2 (List.mem_of_getElem? hs3)).2.1 (fun n _ _ => hf _ _ (by omega))
      · refine j_aload_n C dX8_undo_28 rfl rfl ?_
        refine j_get C flX8_25 dX8_undo_29 (Nat.lt_of_lt_of_le (by decide) hN) rfl rfl ?_
        refine j_iload_n C dX8_undo_32 rfl rfl ?_
        refine j_aload_n C dX8_undo_33 rfl rfl ?_
        refine j_get C flX8_28 dX8_undo_34 (Nat.lt_of_lt_of_le (by decide) hN) rfl rfl ?_
        refine j_bipush (v := nI 21) C dX8_undo_37 rfl ?_
        refine j_aload_n C dX8_undo_39 rfl rfl ?_
        refine j_get C flX8_87 dX8_undo_40 (Nat.lt_of_lt_of_le (by decide) hN) rfl rfl ?_
        refine j_top (h15) ?_
        refine j_imul C dX8_undo_43 ?_
        refine j_top (pk_mul _ _) ?_
        refine j_iload_n C dX8_undo_44 rfl rfl ?_
        refine j_iadd C dX8_undo_45 ?_
        refine j_top (nI_add _ _) ?_
        refine j_iald C dX8_undo_46 (Nat.lt_of_lt_of_le (by decide) hN) (fun _ => rfl) (by decide) (by omega) ?_
        refine j_top (hf _ _ (by omega)) ?_
        refine j_iast' C dX8_undo_47 (Nat.lt_of_lt_of_le (by decide) hN) (fun _ => rfl) (by decide) (by omega) (fun τ1 hz_2 hw_3 => ?_)
        refine j_iinc (L' := [some (.ref (gad g (84))), some (.int (nI (i + 1)))]) C dX8_undo_48 rfl (nI_inc _) (by decide) rfl ?_
        refine j_goto (tgt := 22) C dX8_undo_51 rfl ?_
        refine ih (21 - (i + 1)) (by omega) (i + 1) τ1 rfl (by omega) (fun j n h => by rw [hz_2 _ _ (by omega)]; exact hf j n h) (by rw [hz_2 _ _ (by omega)]; exact h15) (fun z hz => ?_)
        by_cases e : z = i
        · subst e; exact hw_3
        · rw [hz_2 _ _ (by omega)]; exact ha z (by omega)
  refine j_aload_n C dX8_undo_0 rfl rfl ?_
  refine j_get C flX8_87 dX8_undo_1 (Nat.lt_of_lt_of_le (by decide) hN) rfl rfl ?_
  refine j_top (hPl) ?_
  refine j_ifn_ne (tgt := 10) C dX8_undo_4 rfl (by omega) (fun h4 => ?_) (fun h4 => ?_)
  · refine j_aload_n C dX8_undo_10 rfl rfl ?_
    refine j_dup C dX8_undo_11 rfl ?_
    refine j_get C flX8_87 dX8_undo_12 (Nat.lt_of_lt_of_le (by decide) hN) rfl rfl ?_
    refine j_top (hPl) ?_
    refine j_iconst (v := nI 1) C dX8_undo_15 rfl ?_
    refine j_isub C dX8_undo_16 ?_
    refine j_top (pk_sub (by omega)) ?_
    refine j_put' C fpX8_87 dX8_undo_17 (Nat.lt_of_lt_of_le (by decide) hN) (fun _ => rfl) rfl (Nat.le_of_ble_eq_true rfl) rfl rfl (fun τ1 hz_2 hw_3 => ?_)
    refine j_iconst (v := nI 0) C dX8_undo_20 rfl ?_
    refine j_istore_n (L' := [some (.ref (gad g (84))), some (.int (nI (0)))]) C dX8_undo_21 rfl (by decide) rfl ?_
    exact lp (by omega) (21 - 0) 0 τ1 rfl (by omega) (fun j n h => by rw [hz_2 _ _ (by omega)]) hw_3 (fun z hz => by omega)
  · refine j_bipush (v := -2) C dX8_undo_7 rfl ?_
    refine j_ret M dX8_undo_9 ?_
    have hp0 : p = [] := List.eq_nil_of_length_eq_zero (by omega)
    have e : abUndo (tx, len, a, (wt, u, tl, le), p) = (-2, (tx, len, a, (wt, u, tl, le), p)) := by unfold abUndo; rw [show (tx, len, a, (wt, u, tl, le), p).2.2.2.2 = [] from hp0]; rfl
    rw [e]
    exact ⟨rfl, hC, fun _ _ _ => rfl⟩
set_option maxHeartbeats 4000000 in
set_option maxRecDepth 100000 in
theorem tX8_move {g : jG} (hN : 97 ≤ gN g) {σ : Sg} {tx : Nat → Int32} {len : Nat} {a : ND} {wt : Nat → Nat} {u : Nat → Bool} {tl : List Int32} {le : Nat} {p : List SD} (hC : RI σ (tx, len, a, (wt, u, tl, le), p)) (hA : AOk (tx, len, a, (wt, u, tl, le), p)) (h1m : 1 ≤ nM a) (h1d : 1 ≤ nD a) (l0 x0 : Int32) : MS g yX8_move cX8_move 4 (some .int) rmX8_move [.ref (gad g (84)), .int (l0), .int (x0)] σ (fun r σ' => r = (abMove l0 x0 (tx, len, a, (wt, u, tl, le), p)).1 ∧ RI σ' (abMove l0 x0 (tx, len, a, (wt, u, tl, le), p)).2 ∧ ∀ j n, j < 84 → σ' j n = σ j n) := by
  refine MJ_of (by decide) (Nat.le_of_ble_eq_true rfl) (List.forall_mem_cons.mpr ⟨rfl, List.forall_mem_cons.mpr ⟨rfl, List.forall_mem_cons.mpr ⟨rfl, fun _ h => absurd h List.not_mem_nil⟩⟩⟩) ?_
  intro κ M
  have C := M.1
  show J g κ 4 0 [some (.ref (gad g (84))), some (.int (l0)), some (.int (x0)), none] [] σ
  have hI : RNet σ a := hC.2.1
  have hO : NOk a := hA.1
  have hS : RS1 σ 90 0 (nM a) (wt, u, tl, le) := hC.2.2.1
  have hW : RW σ (nM a) wt u := hS.w
  have hw : WOk (nM a) wt := hA.2.1.1
  have htl6 : tl.length ≤ 6 := hA.2.1.2.1
  have hle31 : le < 2 ^ 31 := hA.2.1.2.2
  have hlen : len ≤ 200 := hC.1.2.1
  have hCl : σ 84 1 = nI len := hC.1.1
  have hCt : ∀ k, k < len → σ 85 k = tx k := hC.1.2.2
  have hn2 := hO.1
  have hn7 := hO.2.1
  have hm12 := hO.2.2.1
  have hd6 := hO.2.2.2.1
  have hle : σ 90 13 = nI le := hS.2.2.1
  have hT : RT σ tl := ⟨hS.2.2.2.1, fun k hk => hS.2.2.2.2 k hk⟩
  have hPl : σ 84 15 = nI p.length := hC.2.2.2.1
  have hp6 : p.length ≤ 6 := hA.2.2.2.1
  refine j_aload_n C dX8_move_0 rfl rfl ?_
  refine j_iload_n C dX8_move_1 rfl rfl ?_
  refine j_calli (As := [.int (l0)]) (rest := []) C (tX8_isLink hN (b := nM a) hI.1.2.1 (by omega) (by omega) _) cdX8_isLink mlX8_180 dX8_move_2 (by decide) (by decide) (Nat.lt_of_lt_of_le (by decide) hN) rfl rfl rfl rfl rfl (Nat.le_of_ble_eq_true rfl) (fun rr_2 τ1 hp_3 => ?_)
  obtain ⟨hs, hc⟩ := hp_3
  replace hs := hs.symm
  subst hs
  rcases hc with ⟨rfl, l, hl, rfl⟩ | ⟨rfl, hno⟩
  · refine j_ifn_eq (tgt := 18) C dX8_move_5 rfl (by omega) (fun h => absurd h (by decide)) (fun _ => ?_)
    refine j_iload_n C dX8_move_8 rfl rfl ?_
    refine j_iconst (v := nI 1) C dX8_move_9 rfl ?_
    refine j_bipush (v := nI 20) C dX8_move_10 rfl ?_
    refine j_calls (As := [.int (x0), .int (nI (1)), .int (nI (20))]) (rest := []) C (tX8_in hN _ (lo := 1) (hi := 20) (by omega) (by omega)) cdX8_in msX8_96 dX8_move_12 (by decide) (by decide) rfl rfl (Nat.le_of_ble_eq_true rfl) (fun rr_5 τ4 hp_6 => ?_)
    obtain ⟨hs, hc⟩ := hp_6
    replace hs := hs.symm
    subst hs
    rcases hc with ⟨rfl, x, hx1, hx2, rfl⟩ | ⟨rfl, hRno⟩
    · refine j_ifn_ne (tgt := 20) C dX8_move_15 rfl (by omega) (fun _ => ?_) (fun h => absurd h (by decide))
      have hwl := hw l hl
      refine j_aload_n C dX8_move_20 rfl rfl ?_
      refine j_get C flX8_25 dX8_move_21 (Nat.lt_of_lt_of_le (by decide) hN) rfl rfl ?_
      refine j_iload_n C dX8_move_24 rfl rfl ?_
      refine j_iald C dX8_move_25 (Nat.lt_of_lt_of_le (by decide) hN) (fun _ => rfl) (by decide) (by omega) ?_
      refine j_top (hW.1 l (by omega)) ?_
      refine j_istore_n (L' := [some (.ref (gad g (84))), some (.int (nI (l))), some (.int (nI (x))), some (.int (nI (wt l)))]) C dX8_move_26 rfl (by decide) rfl ?_
      refine j_iload_n C dX8_move_27 rfl rfl ?_
      refine j_iload_n C dX8_move_28 rfl rfl ?_
      refine j_icmpn_ne (tgt := 35) C dX8_move_29 rfl (by omega) (by omega) (fun h29 => ?_) (fun h29 => ?_)
      · refine j_aload_n C dX8_move_35 rfl rfl ?_
        refine j_callv (As := []) (rest := []) C (tX8_note hN (c := p.length) hPl hp6) cdX8_note mlX8_183 dX8_move_36 (by decide) (by decide) (Nat.lt_of_lt_of_le (by decide) hN) rfl rfl rfl rfl rfl (Nat.le_of_ble_eq_true rfl) (fun τ7 hp_9 => ?_)
        obtain ⟨hnf, hn15, hnk, hnb⟩ := hp_9
        refine j_aload_n C dX8_move_39 rfl rfl ?_
        refine j_get C flX8_25 dX8_move_40 (Nat.lt_of_lt_of_le (by decide) hN) rfl rfl ?_
        refine j_iload_n C dX8_move_43 rfl rfl ?_
        refine j_iload_n C dX8_move_44 rfl rfl ?_
        refine j_iast' C dX8_move_45 (Nat.lt_of_lt_of_le (by decide) hN) (fun _ => rfl) (by decide) (by omega) (fun τ10 hz_11 hw_12 => ?_)
        have hIx : RNet τ10 a := hI.kept (fun j n h => by rw [hz_11 _ _ (by omega), hnf _ _ (by omega)])
        have hWx : RW τ10 (nM a) (updN wt l x) u := ⟨fun k hk => by
          unfold updN
          by_cases e : k = l
          · subst e; rw [if_pos rfl]; exact hw_12
          · rw [if_neg e, hz_11 _ _ (by omega), hnf _ _ (by omega)]; exact hW.1 k hk, by rw [hz_11 _ _ (by omega), hnf _ _ (by omega)]; exact hW.2⟩
        have hlx : τ10 90 13 = nI le := by rw [hz_11 _ _ (by omega), hnf _ _ (by omega)]; exact hle
        have hTx : RT τ10 tl := hT.kept (fun n h => by rw [hz_11 _ _ (by omega), hnf _ _ (by omega)])
        refine j_aload_n C dX8_move_46 rfl rfl ?_
        refine j_callv (As := []) (rest := []) C (tX8_tellLeast hN (a := a) (w := (updN wt l x)) (u := u) (le := le) hIx hO hWx (wok_upd hw hx1 hx2) hlx hle31) cdX8_tellLeast mlX8_186 dX8_move_47 (by decide) (by decide) (Nat.lt_of_lt_of_le (by decide) hN) rfl rfl rfl rfl rfl (Nat.le_of_ble_eq_true rfl) (fun τ13 hp_15 => ?_)
        obtain ⟨htf, ht13⟩ := hp_15
        refine j_iload_n C dX8_move_50 rfl rfl ?_
        refine j_ret M dX8_move_51 ?_
        rw [abMove, pIf_t ⟨⟨l, hl, rfl⟩, ⟨x, hx1, hx2, rfl⟩⟩, idx_nI (by omega), idx_nI (by omega)]
        dsimp only
        rw [if_neg (by omega)]
        refine ⟨rfl, RI_chg hC hA (fun j n h => by rw [htf _ _ (by omega), hz_11 _ _ (by omega), hnf _ _ (by omega)]) (by rw [htf _ _ (by omega), hz_11 _ _ (by omega)]; exact hn15) (fun k hk => by rw [htf _ _ (by omega), hz_11 _ _ (by omega)]; exact (hnk k hk)) (fun n hn => by rw [htf _ _ (by omega), hz_11 _ _ (by omega)]; exact hnb n hn) ?_, fun j n h => by rw [htf _ _ (by omega), hz_11 _ _ (by omega), hnf _ _ (by omega)]⟩
        exact RS1_mk (hWx.kept hm12 (fun n h => by rw [htf _ _ (by omega)])) ht13 (hTx.kept (fun n h => by rw [htf _ _ (by omega)]))
      · refine j_bipush (v := -2) C dX8_move_32 rfl ?_
        refine j_ret M dX8_move_34 ?_
        rw [abMove, pIf_t ⟨⟨l, hl, rfl⟩, ⟨x, hx1, hx2, rfl⟩⟩, idx_nI (by omega), idx_nI (by omega)]
        dsimp only
        rw [if_pos (by omega)]
        exact ⟨rfl, hC, fun _ _ _ => rfl⟩
    · refine j_ifn_ne (tgt := 20) C dX8_move_15 rfl (by omega) (fun h => absurd h (by decide)) (fun _ => ?_)
      refine j_iconst (v := -1) C dX8_move_18 rfl ?_
      refine j_ret M dX8_move_19 ?_
      rw [abMove, pIf_f (by first | exact hno | exact fun q => hno q.1 | exact fun q => hRno q.2 | exact fun q => hno2 q.2)]
      exact ⟨rfl, hC, fun _ _ _ => rfl⟩
  · refine j_ifn_eq (tgt := 18) C dX8_move_5 rfl (by omega) (fun _ => ?_) (fun h => absurd h (by decide))
    refine j_iconst (v := -1) C dX8_move_18 rfl ?_
    refine j_ret M dX8_move_19 ?_
    rw [abMove, pIf_f (by first | exact hno | exact fun q => hno q.1 | exact fun q => hRno q.2 | exact fun q => hno2 q.2)]
    exact ⟨rfl, hC, fun _ _ _ => rfl⟩
set_option maxHeartbeats 4000000 in
set_option maxRecDepth 100000 in
theorem tX8_turn {g : jG} (hN : 97 ≤ gN g) {σ : Sg} {tx : Nat → Int32} {len : Nat} {a : ND} {wt : Nat → Nat} {u : Nat → Bool} {tl : List Int32} {le : Nat} {p : List SD} (hC : RI σ (tx, len, a, (wt, u, tl, le), p)) (hA : AOk (tx, len, a, (wt, u, tl, le), p)) (h1m : 1 ≤ nM a) (h1d : 1 ≤ nD a) (l0 x0 : Int32) : MS g yX8_turn cX8_turn 3 (some .int) rmX8_turn [.ref (gad g (84)), .int (l0), .int (x0)] σ (fun r σ' => r = (abTurn l0 x0 (tx, len, a, (wt, u, tl, le), p)).1 ∧ RI σ' (abTurn l0 x0 (tx, len, a, (wt, u, tl, le), p)).2 ∧ ∀ j n, j < 84 → σ' j n = σ j n) := by
  refine MJ_of (by decide) (Nat.le_of_ble_eq_true rfl) (List.forall_mem_cons.mpr ⟨rfl, List.forall_mem_cons.mpr ⟨rfl, List.forall_mem_cons.mpr ⟨rfl, fun _ h => absurd h List.not_mem_nil⟩⟩⟩) ?_
  intro κ M
  have C := M.1
  show J g κ 3 0 [some (.ref (gad g (84))), some (.int (l0)), some (.int (x0))] [] σ
  have hI : RNet σ a := hC.2.1
  have hO : NOk a := hA.1
  have hS : RS1 σ 90 0 (nM a) (wt, u, tl, le) := hC.2.2.1
  have hW : RW σ (nM a) wt u := hS.w
  have hw : WOk (nM a) wt := hA.2.1.1
  have htl6 : tl.length ≤ 6 := hA.2.1.2.1
  have hle31 : le < 2 ^ 31 := hA.2.1.2.2
  have hlen : len ≤ 200 := hC.1.2.1
  have hCl : σ 84 1 = nI len := hC.1.1
  have hCt : ∀ k, k < len → σ 85 k = tx k := hC.1.2.2
  have hn2 := hO.1
  have hn7 := hO.2.1
  have hm12 := hO.2.2.1
  have hd6 := hO.2.2.2.1
  have hle : σ 90 13 = nI le := hS.2.2.1
  have hT : RT σ tl := ⟨hS.2.2.2.1, fun k hk => hS.2.2.2.2 k hk⟩
  have hPl : σ 84 15 = nI p.length := hC.2.2.2.1
  have hp6 : p.length ≤ 6 := hA.2.2.2.1
  refine j_aload_n C dX8_turn_0 rfl rfl ?_
  refine j_iload_n C dX8_turn_1 rfl rfl ?_
  refine j_calli (As := [.int (l0)]) (rest := []) C (tX8_isLink hN (b := nM a) hI.1.2.1 (by omega) (by omega) _) cdX8_isLink mlX8_180 dX8_turn_2 (by decide) (by decide) (Nat.lt_of_lt_of_le (by decide) hN) rfl rfl rfl rfl rfl (Nat.le_of_ble_eq_true rfl) (fun rr_2 τ1 hp_3 => ?_)
  obtain ⟨hs, hc⟩ := hp_3
  replace hs := hs.symm
  subst hs
  rcases hc with ⟨rfl, l, hl, rfl⟩ | ⟨rfl, hno⟩
  · refine j_ifn_eq (tgt := 17) C dX8_turn_5 rfl (by omega) (fun h => absurd h (by decide)) (fun _ => ?_)
    refine j_iload_n C dX8_turn_8 rfl rfl ?_
    refine j_iconst (v := nI 0) C dX8_turn_9 rfl ?_
    refine j_iconst (v := nI 1) C dX8_turn_10 rfl ?_
    refine j_calls (As := [.int (x0), .int (nI (0)), .int (nI (1))]) (rest := []) C (tX8_in hN _ (lo := 0) (hi := 1) (by omega) (by omega)) cdX8_in msX8_96 dX8_turn_11 (by decide) (by decide) rfl rfl (Nat.le_of_ble_eq_true rfl) (fun rr_5 τ4 hp_6 => ?_)
    obtain ⟨hs, hc⟩ := hp_6
    replace hs := hs.symm
    subst hs
    rcases hc with ⟨rfl, x, hx1, hx2, rfl⟩ | ⟨rfl, hRno⟩
    · refine j_ifn_ne (tgt := 19) C dX8_turn_14 rfl (by omega) (fun _ => ?_) (fun h => absurd h (by decide))
      refine j_aload_n C dX8_turn_19 rfl rfl ?_
      refine j_iload_n C dX8_turn_20 rfl rfl ?_
      refine j_calli (As := [.int (nI (l))]) (rest := []) C (tX8_isUp hN (m := nM a) (u := u) (by omega) hW.2 (l := l) (by omega)) cdX8_isUp mlX8_124 dX8_turn_21 (by decide) (by decide) (Nat.lt_of_lt_of_le (by decide) hN) rfl rfl rfl rfl rfl (Nat.le_of_ble_eq_true rfl) (fun rr_8 τ7 hp_9 => ?_)
      obtain ⟨hs, hr⟩ := hp_9
      replace hs := hs.symm
      subst hs
      rcases hul : u l with _ | _ <;> rw [hul] at hr <;> subst hr
      · refine j_iload_n C dX8_turn_24 rfl rfl ?_
        refine j_iconst (v := nI 1) C dX8_turn_25 rfl ?_
        refine j_icmpn_ne (tgt := 33) C dX8_turn_26 rfl (by omega) (by omega) (fun h26 => ?_) (fun h26 => ?_)
        · refine j_iconst (v := nI 0) C dX8_turn_33 rfl ?_
          refine j_icmpn_ne (tgt := 40) C dX8_turn_34 rfl (by omega) (by omega) (fun h => absurd h (by decide)) (fun _ => ?_)
          refine j_bipush (v := -2) C dX8_turn_37 rfl ?_
          refine j_ret M dX8_turn_39 ?_
          rw [abTurn, pIf_t ⟨⟨l, hl, rfl⟩, ⟨x, by omega, by omega, rfl⟩⟩, idx_nI (by omega), idx_nI (by omega)]
          dsimp only
          first | rw [show decide (x = 1) = true from decide_eq_true (by omega)] | rw [show decide (x = 1) = false from decide_eq_false (by omega)]
          rw [if_pos hul]
          exact ⟨rfl, hC, fun _ _ _ => rfl⟩
        · refine j_iconst (v := nI 1) C dX8_turn_29 rfl ?_
          refine j_goto (tgt := 34) C dX8_turn_30 rfl ?_
          refine j_icmpn_ne (tgt := 40) C dX8_turn_34 rfl (by omega) (by omega) (fun _ => ?_) (fun h => absurd h (by decide))
          refine j_aload_n C dX8_turn_40 rfl rfl ?_
          refine j_callv (As := []) (rest := []) C (tX8_note hN (c := p.length) hPl hp6) cdX8_note mlX8_183 dX8_turn_41 (by decide) (by decide) (Nat.lt_of_lt_of_le (by decide) hN) rfl rfl rfl rfl rfl (Nat.le_of_ble_eq_true rfl) (fun τ10 hp_12 => ?_)
          obtain ⟨hnf, hn15, hnk, hnb⟩ := hp_12
          refine j_aload_n C dX8_turn_44 rfl rfl ?_
          refine j_get C flX8_25 dX8_turn_45 (Nat.lt_of_lt_of_le (by decide) hN) rfl rfl ?_
          refine j_bipush (v := nI 12) C dX8_turn_48 rfl ?_
          refine j_dup2 C dX8_turn_50 rfl rfl ?_
          refine j_iald C dX8_turn_51 (Nat.lt_of_lt_of_le (by decide) hN) (fun _ => rfl) (by decide) (by omega) ?_
          refine j_top ((hnf _ _ (by omega)).trans (hW.2)) ?_
          refine j_iconst (v := nI 1) C dX8_turn_52 rfl ?_
          refine j_iload_n C dX8_turn_53 rfl rfl ?_
          refine j_ishl C dX8_turn_54 ?_
          refine j_top (bit_sh (by omega)) ?_
          refine j_ixor C dX8_turn_55 ?_
          refine j_top ((bit_xor _ _).trans (congrArg nI (ub_xor hl))) ?_
          refine j_iast' C dX8_turn_56 (Nat.lt_of_lt_of_le (by decide) hN) (fun _ => rfl) (by decide) (by omega) (fun τ13 hz_14 hw_15 => ?_)
          have hIx : RNet τ13 a := hI.kept (fun j n h => by rw [hz_14 _ _ (by omega), hnf _ _ (by omega)])
          have hWx : RW τ13 (nM a) wt (fl1 u l) := ⟨fun k hk => by rw [hz_14 _ _ (by omega), hnf _ _ (by omega)]; exact hW.1 k hk, hw_15⟩
          have hlx : τ13 90 13 = nI le := by rw [hz_14 _ _ (by omega), hnf _ _ (by omega)]; exact hle
          have hTx : RT τ13 tl := hT.kept (fun n h => by rw [hz_14 _ _ (by omega), hnf _ _ (by omega)])
          refine j_aload_n C dX8_turn_57 rfl rfl ?_
          refine j_calli (As := []) (rest := []) C (tX8_costNow hN (a := a) (w := wt) (u := (fl1 u l)) hIx hO hWx hw) cdX8_costNow mlX8_83 dX8_turn_58 (by decide) (by decide) (Nat.lt_of_lt_of_le (by decide) hN) rfl rfl rfl rfl rfl (Nat.le_of_ble_eq_true rfl) (fun rr_17 τ16 hp_18 => ?_)
          have hr_hp_18 := hp_18.2
          subst hr_hp_18
          refine j_ret M dX8_turn_61 ?_
          rw [abTurn, pIf_t ⟨⟨l, hl, rfl⟩, ⟨x, by omega, by omega, rfl⟩⟩, idx_nI (by omega), idx_nI (by omega)]
          dsimp only
          have eu : (fun k => if k = l then decide (x = 1) else u k) = fl1 u l := by
            funext k
            unfold fl1
            by_cases e : k = l
            · rw [if_pos e, if_pos e, e, hul]
              first | exact decide_eq_true (by omega) | exact decide_eq_false (by omega)
            · rw [if_neg e, if_neg e]
          rw [eu]
          first | rw [show decide (x = 1) = true from decide_eq_true (by omega)] | rw [show decide (x = 1) = false from decide_eq_false (by omega)]
          rw [if_neg (by rw [hul]; decide)]
          refine ⟨rfl, RI_chg hC hA (fun j n h => by rw [hp_18.1 _ _ (by omega), hz_14 _ _ (by omega), hnf _ _ (by omega)]) (by rw [hp_18.1 _ _ (by omega), hz_14 _ _ (by omega)]; exact hn15) (fun k hk => by rw [hp_18.1 _ _ (by omega), hz_14 _ _ (by omega)]; exact (hnk k hk)) (fun n hn => by rw [hp_18.1 _ _ (by omega), hz_14 _ _ (by omega)]; exact hnb n hn) ?_, fun j n h => by rw [hp_18.1 _ _ (by omega), hz_14 _ _ (by omega), hnf _ _ (by omega)]⟩
          exact RS1_mk (hWx.kept hm12 (fun n h => by rw [hp_18.1 _ _ (by omega)])) (by rw [hp_18.1 _ _ (by omega)]; exact hlx) (hTx.kept (fun n h => by rw [hp_18.1 _ _ (by omega)]))
      · refine j_iload_n C dX8_turn_24 rfl rfl ?_
        refine j_iconst (v := nI 1) C dX8_turn_25 rfl ?_
        refine j_icmpn_ne (tgt := 33) C dX8_turn_26 rfl (by omega) (by omega) (fun h26 => ?_) (fun h26 => ?_)
        · refine j_iconst (v := nI 0) C dX8_turn_33 rfl ?_
          refine j_icmpn_ne (tgt := 40) C dX8_turn_34 rfl (by omega) (by omega) (fun _ => ?_) (fun h => absurd h (by decide))
          refine j_aload_n C dX8_turn_40 rfl rfl ?_
          refine j_callv (As := []) (rest := []) C (tX8_note hN (c := p.length) hPl hp6) cdX8_note mlX8_183 dX8_turn_41 (by decide) (by decide) (Nat.lt_of_lt_of_le (by decide) hN) rfl rfl rfl rfl rfl (Nat.le_of_ble_eq_true rfl) (fun τ19 hp_21 => ?_)
          obtain ⟨hnf, hn15, hnk, hnb⟩ := hp_21
          refine j_aload_n C dX8_turn_44 rfl rfl ?_
          refine j_get C flX8_25 dX8_turn_45 (Nat.lt_of_lt_of_le (by decide) hN) rfl rfl ?_
          refine j_bipush (v := nI 12) C dX8_turn_48 rfl ?_
          refine j_dup2 C dX8_turn_50 rfl rfl ?_
          refine j_iald C dX8_turn_51 (Nat.lt_of_lt_of_le (by decide) hN) (fun _ => rfl) (by decide) (by omega) ?_
          refine j_top ((hnf _ _ (by omega)).trans (hW.2)) ?_
          refine j_iconst (v := nI 1) C dX8_turn_52 rfl ?_
          refine j_iload_n C dX8_turn_53 rfl rfl ?_
          refine j_ishl C dX8_turn_54 ?_
          refine j_top (bit_sh (by omega)) ?_
          refine j_ixor C dX8_turn_55 ?_
          refine j_top ((bit_xor _ _).trans (congrArg nI (ub_xor hl))) ?_
          refine j_iast' C dX8_turn_56 (Nat.lt_of_lt_of_le (by decide) hN) (fun _ => rfl) (by decide) (by omega) (fun τ22 hz_23 hw_24 => ?_)
          have hIx : RNet τ22 a := hI.kept (fun j n h => by rw [hz_23 _ _ (by omega), hnf _ _ (by omega)])
          have hWx : RW τ22 (nM a) wt (fl1 u l) := ⟨fun k hk => by rw [hz_23 _ _ (by omega), hnf _ _ (by omega)]; exact hW.1 k hk, hw_24⟩
          have hlx : τ22 90 13 = nI le := by rw [hz_23 _ _ (by omega), hnf _ _ (by omega)]; exact hle
          have hTx : RT τ22 tl := hT.kept (fun n h => by rw [hz_23 _ _ (by omega), hnf _ _ (by omega)])
          refine j_aload_n C dX8_turn_57 rfl rfl ?_
          refine j_calli (As := []) (rest := []) C (tX8_costNow hN (a := a) (w := wt) (u := (fl1 u l)) hIx hO hWx hw) cdX8_costNow mlX8_83 dX8_turn_58 (by decide) (by decide) (Nat.lt_of_lt_of_le (by decide) hN) rfl rfl rfl rfl rfl (Nat.le_of_ble_eq_true rfl) (fun rr_26 τ25 hp_27 => ?_)
          have hr_hp_27 := hp_27.2
          subst hr_hp_27
          refine j_ret M dX8_turn_61 ?_
          rw [abTurn, pIf_t ⟨⟨l, hl, rfl⟩, ⟨x, by omega, by omega, rfl⟩⟩, idx_nI (by omega), idx_nI (by omega)]
          dsimp only
          have eu : (fun k => if k = l then decide (x = 1) else u k) = fl1 u l := by
            funext k
            unfold fl1
            by_cases e : k = l
            · rw [if_pos e, if_pos e, e, hul]
              first | exact decide_eq_true (by omega) | exact decide_eq_false (by omega)
            · rw [if_neg e, if_neg e]
          rw [eu]
          first | rw [show decide (x = 1) = true from decide_eq_true (by omega)] | rw [show decide (x = 1) = false from decide_eq_false (by omega)]
          rw [if_neg (by rw [hul]; decide)]
          refine ⟨rfl, RI_chg hC hA (fun j n h => by rw [hp_27.1 _ _ (by omega), hz_23 _ _ (by omega), hnf _ _ (by omega)]) (by rw [hp_27.1 _ _ (by omega), hz_23 _ _ (by omega)]; exact hn15) (fun k hk => by rw [hp_27.1 _ _ (by omega), hz_23 _ _ (by omega)]; exact (hnk k hk)) (fun n hn => by rw [hp_27.1 _ _ (by omega), hz_23 _ _ (by omega)]; exact hnb n hn) ?_, fun j n h => by rw [hp_27.1 _ _ (by omega), hz_23 _ _ (by omega), hnf _ _ (by omega)]⟩
          exact RS1_mk (hWx.kept hm12 (fun n h => by rw [hp_27.1 _ _ (by omega)])) (by rw [hp_27.1 _ _ (by omega)]; exact hlx) (hTx.kept (fun n h => by rw [hp_27.1 _ _ (by omega)]))
        · refine j_iconst (v := nI 1) C dX8_turn_29 rfl ?_
          refine j_goto (tgt := 34) C dX8_turn_30 rfl ?_
          refine j_icmpn_ne (tgt := 40) C dX8_turn_34 rfl (by omega) (by omega) (fun h => absurd h (by decide)) (fun _ => ?_)
          refine j_bipush (v := -2) C dX8_turn_37 rfl ?_
          refine j_ret M dX8_turn_39 ?_
          rw [abTurn, pIf_t ⟨⟨l, hl, rfl⟩, ⟨x, by omega, by omega, rfl⟩⟩, idx_nI (by omega), idx_nI (by omega)]
          dsimp only
          first | rw [show decide (x = 1) = true from decide_eq_true (by omega)] | rw [show decide (x = 1) = false from decide_eq_false (by omega)]
          rw [if_pos hul]
          exact ⟨rfl, hC, fun _ _ _ => rfl⟩
    · refine j_ifn_ne (tgt := 19) C dX8_turn_14 rfl (by omega) (fun h => absurd h (by decide)) (fun _ => ?_)
      refine j_iconst (v := -1) C dX8_turn_17 rfl ?_
      refine j_ret M dX8_turn_18 ?_
      rw [abTurn, pIf_f (by first | exact hno | exact fun q => hno q.1 | exact fun q => hRno q.2 | exact fun q => hno2 q.2)]
      exact ⟨rfl, hC, fun _ _ _ => rfl⟩
  · refine j_ifn_eq (tgt := 17) C dX8_turn_5 rfl (by omega) (fun _ => ?_) (fun h => absurd h (by decide))
    refine j_iconst (v := -1) C dX8_turn_17 rfl ?_
    refine j_ret M dX8_turn_18 ?_
    rw [abTurn, pIf_f (by first | exact hno | exact fun q => hno q.1 | exact fun q => hRno q.2 | exact fun q => hno2 q.2)]
    exact ⟨rfl, hC, fun _ _ _ => rfl⟩
set_option maxHeartbeats 4000000 in
set_option maxRecDepth 100000 in
theorem tX8_stepOnce {g : jG} (hN : 97 ≤ gN g) {σ : Sg} {a : ND} {wt : Nat → Nat} {u : Nat → Bool} {tl : List Int32} {le : Nat} (hI : RNet σ a) (hO : NOk a) (hS : RS1 σ 90 0 (nM a) (wt, u, tl, le)) (hK : SOk (nM a) (wt, u, tl, le)) : MS g yX8_stepOnce cX8_stepOnce 1 (some .boolean) rmX8_stepOnce [.ref (gad g (84))] σ (fun r σ' => (∀ j n, ¬ (93 ≤ j ∧ j ≤ 96 ∨ j = 84 ∧ 22 ≤ n ∧ n ≤ 25 ∨ j = 90) → σ' j n = σ j n) ∧ ((r = nI 0 ∧ stp1 a (wt, u, tl, le) = none ∧ RS1 σ' 90 0 (nM a) (wt, u, tl, le)) ∨ (r = nI 1 ∧ ∃ y, stp1 a (wt, u, tl, le) = some y ∧ RS1 σ' 90 0 (nM a) y.1))) := by
  refine MJ_of (by decide) (Nat.le_of_ble_eq_true rfl) (List.forall_mem_cons.mpr ⟨rfl, fun _ h => absurd h List.not_mem_nil⟩) ?_
  intro κ M
  have C := M.1
  show J g κ 1 0 [some (.ref (gad g (84)))] [] σ
  have hW : RW σ (nM a) wt u := hS.w
  have hw : WOk (nM a) wt := hK.1
  have htl6 : tl.length ≤ 6 := hK.2.1
  have hle31 : le < 2 ^ 31 := hK.2.2
  have hn7 := hO.2.1
  have hm12 := hO.2.2.1
  have hd6 := hO.2.2.2.1
  have hle : σ 90 13 = nI le := hS.2.2.1
  have hT : RT σ tl := ⟨hS.2.2.2.1, fun k hk => hS.2.2.2.2 k hk⟩
  refine j_aload_n C dX8_stepOnce_0 rfl rfl ?_
  refine j_bipush (v := -4) C dX8_stepOnce_1 rfl ?_
  refine j_iconst (v := nI 0) C dX8_stepOnce_3 rfl ?_
  refine j_calli (As := [.int (-4), .int (nI (0))]) (rest := []) C (tX8_findMove hN (a := a) (w := wt) (u := u) (hd := true) (le := le) (tl := tl) hI hO hW hw hle hle31 hT htl6 (-4)) cdX8_findMove mlX8_195 dX8_stepOnce_4 (by decide) (by decide) (Nat.lt_of_lt_of_le (by decide) hN) rfl rfl rfl rfl rfl (Nat.le_of_ble_eq_true rfl) (fun rr_2 τ1 hp_3 => ?_)
  obtain ⟨hff, hbi, hrf⟩ := hp_3
  rcases hfd : (fndF a wt u true le tl (-4) (nM a)) with _ | ⟨l1, x1, c1⟩ <;> rw [hfd] at hrf hbi
  · subst hrf
    refine j_ifn_ne (tgt := 12) C dX8_stepOnce_7 rfl (by omega) (fun h => absurd h (by decide)) (fun _ => ?_)
    refine j_iconst (v := nI 0) C dX8_stepOnce_10 rfl ?_
    refine j_retz M dX8_stepOnce_11 rfl ?_
    have e : fnd a (wt, u, tl, le) true (-1) = fndF a wt u true le tl (-4) (nM a) := fnd_ps (by decide) (by decide) (by omega)
    refine ⟨fun j n h => by rw [hff _ _ (by omega)], Or.inl ⟨rfl, by unfold stp1; rw [e, hfd], hS.kept hm12 htl6 (fun n _ _ => by rw [hff _ _ (by omega)])⟩⟩
  · subst hrf
    have hbk := fnd_ok hfd
    obtain ⟨hb21, hb22, hb23⟩ := hbi.2
    refine j_ifn_ne (tgt := 12) C dX8_stepOnce_7 rfl (by omega) (fun _ => ?_) (fun h => absurd h (by decide))
    refine j_aload_n C dX8_stepOnce_12 rfl rfl ?_
    refine j_aload_n C dX8_stepOnce_13 rfl rfl ?_
    refine j_calli (As := []) (rest := [.ref (gad g (84))]) C (tX8_markNow hN (m := nM a) (by rw [hff _ _ (by omega)]; exact hI.1.2.1) hm12) cdX8_markNow mlX8_157 dX8_stepOnce_14 (by decide) (by decide) (Nat.lt_of_lt_of_le (by decide) hN) rfl rfl rfl rfl rfl (Nat.le_of_ble_eq_true rfl) (fun rr_5 τ4 hp_6 => ?_)
    obtain ⟨hs, hr⟩ := hp_6
    replace hs := hs.symm
    subst hs
    rw [mkW_is (w := wt) (fun k hk => by rw [hff _ _ (by omega)]; exact hW.1 k hk)] at hr
    subst hr
    refine j_callv (As := [.int (mkW wt (nM a))]) (rest := []) C (tX8_becomesTabu hN (tl := tl) (hT.kept (fun n h => by rw [hff _ _ (by omega)])) htl6 (mkW wt (nM a))) cdX8_becomesTabu mlX8_199 dX8_stepOnce_17 (by decide) (by decide) (Nat.lt_of_lt_of_le (by decide) hN) rfl rfl rfl rfl rfl (Nat.le_of_ble_eq_true rfl) (fun τ7 hp_9 => ?_)
    obtain ⟨hbf, hTb⟩ := hp_9
    refine j_aload_n C dX8_stepOnce_20 rfl rfl ?_
    refine j_get C flX8_25 dX8_stepOnce_21 (Nat.lt_of_lt_of_le (by decide) hN) rfl rfl ?_
    refine j_aload_n C dX8_stepOnce_24 rfl rfl ?_
    refine j_get C flX8_163 dX8_stepOnce_25 (Nat.lt_of_lt_of_le (by decide) hN) rfl rfl ?_
    refine j_top ((hbf _ _ (by omega)).trans (hbi.1.1)) ?_
    refine j_aload_n C dX8_stepOnce_28 rfl rfl ?_
    refine j_get C flX8_177 dX8_stepOnce_29 (Nat.lt_of_lt_of_le (by decide) hN) rfl rfl ?_
    refine j_top ((hbf _ _ (by omega)).trans (hbi.1.2.1)) ?_
    refine j_iast' C dX8_stepOnce_32 (Nat.lt_of_lt_of_le (by decide) hN) (fun _ => rfl) (by decide) (by omega) (fun τ10 hz_11 hw_12 => ?_)
    have hIx : RNet τ10 a := hI.kept (fun j n h => by rw [hz_11 _ _ (by omega), hbf _ _ (by omega), hff _ _ (by omega)])
    have hWx : RW τ10 (nM a) (updN wt l1 x1) u := ⟨fun k hk => by
      unfold updN
      by_cases e : k = l1
      · subst e; rw [if_pos rfl]; exact hw_12
      · rw [if_neg e, hz_11 _ _ (by omega), hbf _ _ (by omega), hff _ _ (by omega)]; exact hW.1 k hk, by rw [hz_11 _ _ (by omega), hbf _ _ (by omega), hff _ _ (by omega)]; exact hW.2⟩
    have hlx : τ10 90 13 = nI le := by rw [hz_11 _ _ (by omega), hbf _ _ (by omega), hff _ _ (by omega)]; exact hle
    have hTx : RT τ10 (push6 tl (mkW wt (nM a))) := hTb.kept (fun n h => by rw [hz_11 _ _ (by omega)])
    refine j_aload_n C dX8_stepOnce_33 rfl rfl ?_
    refine j_callv (As := []) (rest := []) C (tX8_tellLeast hN (a := a) (w := (updN wt l1 x1)) (u := u) (le := le) hIx hO hWx (wok_upd hw (by omega) (by omega)) hlx hle31) cdX8_tellLeast mlX8_186 dX8_stepOnce_34 (by decide) (by decide) (Nat.lt_of_lt_of_le (by decide) hN) rfl rfl rfl rfl rfl (Nat.le_of_ble_eq_true rfl) (fun τ13 hp_15 => ?_)
    obtain ⟨htf, ht13⟩ := hp_15
    refine j_iconst (v := nI 1) C dX8_stepOnce_37 rfl ?_
    refine j_retz M dX8_stepOnce_38 rfl ?_
    have e : fnd a (wt, u, tl, le) true (-1) = fndF a wt u true le tl (-4) (nM a) := fnd_ps (by decide) (by decide) (by omega)
    refine ⟨fun j n h => by rw [htf _ _ (by omega), hz_11 _ _ (by omega), hbf _ _ (by omega), hff _ _ (by omega)], Or.inr ⟨rfl, _, by unfold stp1; rw [e, hfd], ?_⟩⟩
    rw [hbk.2.2.2.2.2]
    exact RS1_mk (hWx.kept hm12 (fun n h => by rw [htf _ _ (by omega)])) ht13 (hTx.kept (fun n h => by rw [htf _ _ (by omega)]))
