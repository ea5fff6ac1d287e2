theorem bI_narV (b : Bool) : narrow FieldType.boolean (Value.int (bI b)) = Value.int (bI b) := by cases b <;> rfl
def tbB (tl : List Int32) (z : Int32) : Nat → Bool
  | 0 => false
  | k + 1 => tbB tl z k || decide (tl.getD k 0 = z)
theorem tbB_iff {tl : List Int32} {z : Int32} : ∀ {k : Nat}, tbB tl z k = true ↔ ∃ j, j < k ∧ tl.getD j 0 = z
  | 0 => ⟨(fun h => by cases h), (fun ⟨j, h, _⟩ => by omega)⟩
  | k + 1 => by
    rw [tbB, Bool.or_eq_true, tbB_iff (k := k), decide_eq_true_iff]
    constructor
    · rintro (⟨j, h1, h2⟩ | h)
      · exact ⟨j, by omega, h2⟩
      · exact ⟨k, by omega, h⟩
    · rintro ⟨j, h1, h2⟩
      by_cases e : j = k
      · subst e; exact Or.inr h2
      · exact Or.inl ⟨j, by omega, h2⟩
theorem getD_mem {tl : List Int32} {k : Nat} (hk : k < tl.length) : tl.getD k 0 ∈ tl := by
  rw [List.getD_eq_getElem?_getD, List.getElem?_eq_getElem hk]
  exact List.getElem_mem hk
theorem tbB_all {tl : List Int32} {z : Int32} : tbB tl z tl.length = decide (z ∈ tl) := by
  have h : tbB tl z tl.length = true ↔ z ∈ tl := by
    rw [tbB_iff]
    constructor
    · rintro ⟨j, h1, h2⟩
      rw [← h2]; exact getD_mem h1
    · intro h
      obtain ⟨j, h1, h2⟩ := List.getElem_of_mem h
      exact ⟨j, h1, by rw [List.getD_eq_getElem?_getD, List.getElem?_eq_getElem h1]; exact h2⟩
  cases e : tbB tl z tl.length with
  | true => exact (decide_eq_true (h.mp e)).symm
  | false => exact (decide_eq_false (fun q => by rw [h.mpr q] at e; cases e)).symm
/-- the row of tabu marks -/
def RT (σ : Sg) (tl : List Int32) : Prop := σ 90 14 = nI tl.length ∧ ∀ k, k < tl.length → σ 90 (15 + k) = tl.getD k 0
theorem RT.kept {σ σ' : Sg} {tl : List Int32} (h : RT σ tl) (hk : ∀ n, 14 ≤ n → σ' 90 n = σ 90 n) : RT σ' tl := ⟨(hk _ (by omega)).trans h.1, fun k q => (hk _ (by omega)).trans (h.2 k q)⟩
theorem mkW_is {σ : Sg} {m : Nat} {w : Nat → Nat} (h : ∀ l, l < m → σ 90 l = nI (w l)) : mkL (σ 90) m = mkW w m := mkL_congr h
/-- what is best so far, in the reference -/
def bsR (σ : Sg) (b : BS) : Prop := match b with
  | none => σ 84 23 = -4 ∧ σ 84 25 = nI 2000000000
  | some (l, x, c) => (σ 84 23 = nI l ∧ σ 84 24 = nI x ∧ σ 84 25 = nI c) ∧ l < 12 ∧ x ≤ 20 ∧ c ≤ 459756000
theorem bsR.kept {σ σ' : Sg} {b : BS} (h : bsR σ b) (hk : ∀ n, 23 ≤ n → n ≤ 25 → σ' 84 n = σ 84 n) : bsR σ' b := by
  cases b with
  | none => exact ⟨(hk 23 (by omega) (by omega)).trans h.1, (hk 25 (by omega) (by omega)).trans h.2⟩
  | some z =>
    obtain ⟨l, x, c⟩ := z
    obtain ⟨⟨h1, h2, h3⟩, h4⟩ := h
    exact ⟨⟨(hk _ (by omega) (by omega)).trans h1, (hk _ (by omega) (by omega)).trans h2, (hk _ (by omega) (by omega)).trans h3⟩, h4⟩
set_option maxHeartbeats 4000000 in
set_option maxRecDepth 100000 in
theorem tX8_markNow {g : jG} (hN : 97 ≤ gN g) {σ : Sg} {m : Nat} (hm : σ 84 11 = nI m) (hm12 : m ≤ 12) : MS g yX8_markNow cX8_markNow 3 (some .int) rmX8_markNow [.ref (gad g (84))] σ (fun r σ' => σ' = σ ∧ r = mkL (σ 90) m) := by
  refine MJ_of (by decide) (Nat.le_of_ble_eq_true rfl) (List.forall_mem_cons.mpr ⟨rfl, fun _ h => absurd h List.not_mem_nil⟩) ?_
  intro κ M
  have C := M.1
  show J g κ 3 0 [some (.ref (gad g (84))), none, none] [] σ
  have lp : ∀ (k : Nat) (l : Nat), m - l = k → l ≤ m → J g κ 3 5 [some (.ref (gad g (84))), some (.int (mkL (σ 90) (l))), some (.int (nI (l)))] [] σ := by
    intro k
    induction k using Nat.strongRecOn with
    | _ k ih =>
      intro l hk hl
      refine j_iload_n C dX8_markNow_5 rfl rfl ?_
      refine j_aload_n C dX8_markNow_6 rfl rfl ?_
      refine j_get C flX8_77 dX8_markNow_7 (Nat.lt_of_lt_of_le (by decide) hN) rfl rfl ?_
      refine j_top (hm) ?_
      refine j_icmpn_ge (tgt := 35) C dX8_markNow_10 rfl (by omega) (by omega) (fun h10 => ?_) (fun h10 => ?_)
      · refine j_iload_n C dX8_markNow_35 rfl rfl ?_
        refine j_ret M dX8_markNow_36 ?_
        exact ⟨rfl, by rw [show l = m by omega]⟩
      · refine j_bipush (v := nI 31) C dX8_markNow_13 rfl ?_
        refine j_iload_n C dX8_markNow_15 rfl rfl ?_
        refine j_imul C dX8_markNow_16 ?_
        refine j_aload_n C dX8_markNow_17 rfl rfl ?_
        refine j_get C flX8_25 dX8_markNow_18 (Nat.lt_of_lt_of_le (by decide) hN) rfl rfl ?_
        refine j_iload_n C dX8_markNow_21 rfl rfl ?_
        refine j_iald C dX8_markNow_22 (Nat.lt_of_lt_of_le (by decide) hN) (fun _ => rfl) (by decide) (by omega) ?_
        refine j_iadd C dX8_markNow_23 ?_
        refine j_sipush (v := nI 997) C dX8_markNow_24 rfl ?_
        refine j_irem C dX8_markNow_27 (by decide) ?_
        refine j_istore_n (L' := [some (.ref (gad g (84))), some (.int ((((nI (31) * mkL (σ 90) (l)) + σ (90) (l)) - ((nI (31) * mkL (σ 90) (l)) + σ (90) (l)) / nI (997) * nI (997)))), some (.int (nI (l)))]) C dX8_markNow_28 rfl (by decide) rfl ?_
        refine j_iinc (L' := [some (.ref (gad g (84))), some (.int ((((nI (31) * mkL (σ 90) (l)) + σ (90) (l)) - ((nI (31) * mkL (σ 90) (l)) + σ (90) (l)) / nI (997) * nI (997)))), some (.int (nI (l + 1)))]) C dX8_markNow_29 rfl (nI_inc _) (by decide) rfl ?_
        refine j_goto (tgt := 5) C dX8_markNow_32 rfl ?_
        exact ih (m - (l + 1)) (by omega) (l + 1) rfl (by omega)
  refine j_bipush (v := nI 7) C dX8_markNow_0 rfl ?_
  refine j_istore_n (L' := [some (.ref (gad g (84))), some (.int (nI (7))), none]) C dX8_markNow_2 rfl (by decide) rfl ?_
  refine j_iconst (v := nI 0) C dX8_markNow_3 rfl ?_
  refine j_istore_n (L' := [some (.ref (gad g (84))), some (.int (nI (7))), some (.int (nI (0)))]) C dX8_markNow_4 rfl (by decide) rfl ?_
  exact lp (m - 0) 0 rfl (by omega)
set_option maxHeartbeats 4000000 in
set_option maxRecDepth 100000 in
theorem tX8_isTabu {g : jG} (hN : 97 ≤ gN g) {σ : Sg} {tl : List Int32} (hT : RT σ tl) (hl6 : tl.length ≤ 6) (z : Int32) : MS g yX8_isTabu cX8_isTabu 4 (some .boolean) rmX8_isTabu [.ref (gad g (84)), .int (z)] σ (fun r σ' => σ' = σ ∧ r = bI (decide (z ∈ tl))) := by
  refine MJ_of (by decide) (Nat.le_of_ble_eq_true rfl) (List.forall_mem_cons.mpr ⟨rfl, List.forall_mem_cons.mpr ⟨rfl, fun _ h => absurd h List.not_mem_nil⟩⟩) ?_
  intro κ M
  have C := M.1
  show J g κ 4 0 [some (.ref (gad g (84))), some (.int (z)), none, none] [] σ
  have lp : ∀ (k : Nat) (i : Nat), tl.length - i = k → i ≤ tl.length → J g κ 4 4 [some (.ref (gad g (84))), some (.int (z)), some (.int (bI (tbB tl z (i)))), some (.int (nI (i)))] [] σ := by
    intro k
    induction k using Nat.strongRecOn with
    | _ k ih =>
      intro i hk hi
      refine j_iload_n C dX8_isTabu_4 rfl rfl ?_
      refine j_aload_n C dX8_isTabu_5 rfl rfl ?_
      refine j_get C flX8_25 dX8_isTabu_6 (Nat.lt_of_lt_of_le (by decide) hN) rfl rfl ?_
      refine j_bipush (v := nI 14) C dX8_isTabu_9 rfl ?_
      refine j_iald C dX8_isTabu_11 (Nat.lt_of_lt_of_le (by decide) hN) (fun _ => rfl) (by decide) (by omega) ?_
      refine j_top (hT.1) ?_
      refine j_icmpn_ge (tgt := 44) C dX8_isTabu_12 rfl (by omega) (by omega) (fun h12 => ?_) (fun h12 => ?_)
      · refine j_iload_n C dX8_isTabu_44 rfl rfl ?_
        refine j_retz M dX8_isTabu_45 (bI_narV _) ?_
        refine ⟨rfl, ?_⟩
        rw [show i = tl.length by omega, tbB_all]
      · rcases htb : tbB tl z i with _ | _
        · refine J_loc (L' := [some (.ref (gad g (84))), some (.int (z)), some (.int (nI (0))), some (.int (nI (i)))]) rfl ?_
          refine j_iload_n C dX8_isTabu_15 rfl rfl ?_
          refine j_ifn_ne (tgt := 32) C dX8_isTabu_16 rfl (by omega) (fun h => absurd h (by decide)) (fun _ => ?_)
          refine j_aload_n C dX8_isTabu_19 rfl rfl ?_
          refine j_get C flX8_25 dX8_isTabu_20 (Nat.lt_of_lt_of_le (by decide) hN) rfl rfl ?_
          refine j_bipush (v := nI 15) C dX8_isTabu_23 rfl ?_
          refine j_iload_n C dX8_isTabu_25 rfl rfl ?_
          refine j_iadd C dX8_isTabu_26 ?_
          refine j_top (nI_add _ _) ?_
          refine j_iald C dX8_isTabu_27 (Nat.lt_of_lt_of_le (by decide) hN) (fun _ => rfl) (by decide) (by omega) ?_
          refine j_top (hT.2 i (by omega)) ?_
          refine j_iload_n C dX8_isTabu_28 rfl rfl ?_
          refine j_icmp_ne (tgt := 36) C dX8_isTabu_29 rfl (fun h29 => ?_) (fun h29 => ?_)
          · refine j_iconst (v := nI 0) C dX8_isTabu_36 rfl ?_
            refine j_istore_n (L' := [some (.ref (gad g (84))), some (.int (z)), some (.int (nI (0))), some (.int (nI (i)))]) C dX8_isTabu_37 rfl (by decide) rfl ?_
            refine j_iinc (L' := [some (.ref (gad g (84))), some (.int (z)), some (.int (nI (0))), some (.int (nI (i + 1)))]) C dX8_isTabu_38 rfl (nI_inc _) (by decide) rfl ?_
            refine j_goto (tgt := 4) C dX8_isTabu_41 rfl ?_
            refine J_loc (L' := [some (.ref (gad g (84))), some (.int (z)), some (.int (bI (tbB tl z (i + 1)))), some (.int (nI (i + 1)))]) (by
              rw [tbB, htb]
              first | rfl | (rw [show decide (tl.getD i 0 = z) = true from decide_eq_true (by assumption)]; rfl) | (rw [show decide (tl.getD i 0 = z) = false from decide_eq_false (by assumption)]; rfl)) (ih (tl.length - (i + 1)) (by omega) (i + 1) rfl (by omega))
          · refine j_iconst (v := nI 1) C dX8_isTabu_32 rfl ?_
            refine j_goto (tgt := 37) C dX8_isTabu_33 rfl ?_
            refine j_istore_n (L' := [some (.ref (gad g (84))), some (.int (z)), some (.int (nI (1))), some (.int (nI (i)))]) C dX8_isTabu_37 rfl (by decide) rfl ?_
            refine j_iinc (L' := [some (.ref (gad g (84))), some (.int (z)), some (.int (nI (1))), some (.int (nI (i + 1)))]) C dX8_isTabu_38 rfl (nI_inc _) (by decide) rfl ?_
            refine j_goto (tgt := 4) C dX8_isTabu_41 rfl ?_
            refine J_loc (L' := [some (.ref (gad g (84))), some (.int (z)), some (.int (bI (tbB tl z (i + 1)))), some (.int (nI (i + 1)))]) (by
              rw [tbB, htb]
              first | rfl | (rw [show decide (tl.getD i 0 = z) = true from decide_eq_true (by assumption)]; rfl) | (rw [show decide (tl.getD i 0 = z) = false from decide_eq_false (by assumption)]; rfl)) (ih (tl.length - (i + 1)) (by omega) (i + 1) rfl (by omega))
        · refine J_loc (L' := [some (.ref (gad g (84))), some (.int (z)), some (.int (nI (1))), some (.int (nI (i)))]) rfl ?_
          refine j_iload_n C dX8_isTabu_15 rfl rfl ?_
          refine j_ifn_ne (tgt := 32) C dX8_isTabu_16 rfl (by omega) (fun _ => ?_) (fun h => absurd h (by decide))
          refine j_iconst (v := nI 1) C dX8_isTabu_32 rfl ?_
          refine j_goto (tgt := 37) C dX8_isTabu_33 rfl ?_
          refine j_istore_n (L' := [some (.ref (gad g (84))), some (.int (z)), some (.int (nI (1))), some (.int (nI (i)))]) C dX8_isTabu_37 rfl (by decide) rfl ?_
          refine j_iinc (L' := [some (.ref (gad g (84))), some (.int (z)), some (.int (nI (1))), some (.int (nI (i + 1)))]) C dX8_isTabu_38 rfl (nI_inc _) (by decide) rfl ?_
          refine j_goto (tgt := 4) C dX8_isTabu_41 rfl ?_
          refine J_loc (L' := [some (.ref (gad g (84))), some (.int (z)), some (.int (bI (tbB tl z (i + 1)))), some (.int (nI (i + 1)))]) (by
            rw [tbB, htb]
            first | rfl | (rw [show decide (tl.getD i 0 = z) = true from decide_eq_true (by assumption)]; rfl) | (rw [show decide (tl.getD i 0 = z) = false from decide_eq_false (by assumption)]; rfl)) (ih (tl.length - (i + 1)) (by omega) (i + 1) rfl (by omega))
  refine j_iconst (v := nI 0) C dX8_isTabu_0 rfl ?_
  refine j_istore_n (L' := [some (.ref (gad g (84))), some (.int (z)), some (.int (nI (0))), none]) C dX8_isTabu_1 rfl (by decide) rfl ?_
  refine j_iconst (v := nI 0) C dX8_isTabu_2 rfl ?_
  refine j_istore_n (L' := [some (.ref (gad g (84))), some (.int (z)), some (.int (nI (0))), some (.int (nI (0)))]) C dX8_isTabu_3 rfl (by decide) rfl ?_
  exact lp (tl.length - 0) 0 rfl (by omega)
set_option maxHeartbeats 4000000 in
set_option maxRecDepth 100000 in
theorem tX8_isTabuBy {g : jG} (hN : 97 ≤ gN g) {σ : Sg} {m : Nat} {w : Nat → Nat} {tl : List Int32} (hm : σ 84 11 = nI m) (hm12 : m ≤ 12) (hw : ∀ l, l < m → σ 90 l = nI (w l)) (hT : RT σ tl) (hl6 : tl.length ≤ 6) {l x : Nat} (hl : l < m) : MS g yX8_isTabuBy cX8_isTabuBy 5 (some .boolean) rmX8_isTabuBy [.ref (gad g (84)), .int (nI (l)), .int (nI (x))] σ (fun r σ' => σ' = σ ∧ r = bI (decide (mkW (updN w l x) m ∈ tl))) := by
  refine MJ_of (by decide) (Nat.le_of_ble_eq_true rfl) (List.forall_mem_cons.mpr ⟨rfl, List.forall_mem_cons.mpr ⟨rfl, List.forall_mem_cons.mpr ⟨rfl, fun _ h => absurd h List.not_mem_nil⟩⟩⟩) ?_
  intro κ M
  have C := M.1
  show J g κ 5 0 [some (.ref (gad g (84))), some (.int (nI (l))), some (.int (nI (x))), none, none] [] σ
  refine j_aload_n C dX8_isTabuBy_0 rfl rfl ?_
  refine j_get C flX8_25 dX8_isTabuBy_1 (Nat.lt_of_lt_of_le (by decide) hN) rfl rfl ?_
  refine j_iload_n C dX8_isTabuBy_4 rfl rfl ?_
  refine j_iald C dX8_isTabuBy_5 (Nat.lt_of_lt_of_le (by decide) hN) (fun _ => rfl) (by decide) (by omega) ?_
  refine j_top (hw l hl) ?_
  refine j_istore_n (L' := [some (.ref (gad g (84))), some (.int (nI (l))), some (.int (nI (x))), some (.int (nI (w l))), none]) C dX8_isTabuBy_6 rfl (by decide) rfl ?_
  refine j_aload_n C dX8_isTabuBy_7 rfl rfl ?_
  refine j_get C flX8_25 dX8_isTabuBy_8 (Nat.lt_of_lt_of_le (by decide) hN) rfl rfl ?_
  refine j_iload_n C dX8_isTabuBy_11 rfl rfl ?_
  refine j_iload_n C dX8_isTabuBy_12 rfl rfl ?_
  refine j_iast' C dX8_isTabuBy_13 (Nat.lt_of_lt_of_le (by decide) hN) (fun _ => rfl) (by decide) (by omega) (fun τ1 hz_2 hw_3 => ?_)
  refine j_aload_n C dX8_isTabuBy_14 rfl rfl ?_
  refine j_aload_n C dX8_isTabuBy_15 rfl rfl ?_
  refine j_calli (As := []) (rest := [.ref (gad g (84))]) C (tX8_markNow hN (m := m) (by rw [hz_2 _ _ (by omega)]; exact hm) hm12) cdX8_markNow mlX8_157 dX8_isTabuBy_16 (by decide) (by decide) (Nat.lt_of_lt_of_le (by decide) hN) rfl rfl rfl rfl rfl (Nat.le_of_ble_eq_true rfl) (fun rr_5 τ4 hp_6 => ?_)
  obtain ⟨hs, hr⟩ := hp_6
  replace hs := hs.symm
  subst hs
  rw [mkW_is (w := updN w l x) (fun k hk => by
    unfold updN
    by_cases e : k = l
    · subst e; rw [if_pos rfl]; exact hw_3
    · rw [if_neg e, hz_2 _ _ (by omega)]; exact hw k hk)] at hr
  subst hr
  refine j_calli (As := [.int (mkW (updN w l x) m)]) (rest := []) C (tX8_isTabu hN (hT.kept (fun n h => by rw [hz_2 _ _ (by omega)])) hl6 (mkW (updN w l x) m)) cdX8_isTabu mlX8_160 dX8_isTabuBy_19 (by decide) (by decide) (Nat.lt_of_lt_of_le (by decide) hN) rfl rfl rfl rfl rfl (Nat.le_of_ble_eq_true rfl) (fun rr_8 τ7 hp_9 => ?_)
  obtain ⟨hs, hr⟩ := hp_9
  replace hs := hs.symm
  subst hs
  subst hr
  refine j_istore (L' := [some (.ref (gad g (84))), some (.int (nI (l))), some (.int (nI (x))), some (.int (nI (w l))), some (.int (bI (decide (mkW (updN w l x) m ∈ tl))))]) C dX8_isTabuBy_22 (by decide) rfl ?_
  refine j_aload_n C dX8_isTabuBy_24 rfl rfl ?_
  refine j_get C flX8_25 dX8_isTabuBy_25 (Nat.lt_of_lt_of_le (by decide) hN) rfl rfl ?_
  refine j_iload_n C dX8_isTabuBy_28 rfl rfl ?_
  refine j_iload_n C dX8_isTabuBy_29 rfl rfl ?_
  refine j_iast' C dX8_isTabuBy_30 (Nat.lt_of_lt_of_le (by decide) hN) (fun _ => rfl) (by decide) (by omega) (fun τ10 hz_11 hw_12 => ?_)
  refine j_iload C dX8_isTabuBy_31 rfl ?_
  refine j_retz M dX8_isTabuBy_33 (bI_narV _) ?_
  refine ⟨funext fun j => funext fun n => ?_, rfl⟩
  by_cases e : j = 90 ∧ n = l
  · obtain ⟨rfl, rfl⟩ := e
    rw [hw_12]; exact (hw n hl).symm
  · rw [hz_11 _ _ (by omega), hz_2 _ _ (by omega)]
set_option maxHeartbeats 4000000 in
set_option maxRecDepth 100000 in
theorem tX8_becomesTabu {g : jG} (hN : 97 ≤ gN g) {σ : Sg} {tl : List Int32} (hT : RT σ tl) (hl6 : tl.length ≤ 6) (z : Int32) : MS g yX8_becomesTabu cX8_becomesTabu 3 none rmX8_becomesTabu [.ref (gad g (84)), .int (z)] σ (fun r σ' => (∀ j n, ¬ (j = 90 ∧ 14 ≤ n) → σ' j n = σ j n) ∧ RT σ' (push6 tl z)) := by
  refine MJ_of (by decide) (Nat.le_of_ble_eq_true rfl) (List.forall_mem_cons.mpr ⟨rfl, List.forall_mem_cons.mpr ⟨rfl, fun _ h => absurd h List.not_mem_nil⟩⟩) ?_
  intro κ M
  have C := M.1
  show J g κ 3 0 [some (.ref (gad g (84))), some (.int (z)), none] [] σ
  have lp : tl.length = 6 → ∀ (k i : Nat) (σ1 : Sg), 6 - i = k → 1 ≤ i → i ≤ 6 → (∀ j n, ¬ (j = 90 ∧ 14 ≤ n) → σ1 j n = σ j n) → σ1 90 14 = nI 6 → (∀ j, j + 1 < i → σ1 90 (15 + j) = tl.getD (j + 1) 0) → (∀ j, i ≤ j + 1 → j < 6 → σ1 90 (15 + j) = tl.getD j 0) → J g κ 3 14 [some (.ref (gad g (84))), some (.int (z)), some (.int (nI (i)))] [] σ1 := by
    intro h6 k
    induction k using Nat.strongRecOn with
    | _ k ih =>
      intro i σ1 hk hi1 hi hf h14 ha hb
      refine j_iload_n C dX8_becomesTabu_14 rfl rfl ?_
      refine j_bipush (v := nI 6) C dX8_becomesTabu_15 rfl ?_
      refine j_icmpn_ge (tgt := 46) C dX8_becomesTabu_17 rfl (by omega) (by omega) (fun h17 => ?_) (fun h17 => ?_)
      · refine j_aload_n C dX8_becomesTabu_46 rfl rfl ?_
        refine j_get C flX8_25 dX8_becomesTabu_47 (Nat.lt_of_lt_of_le (by decide) hN) rfl rfl ?_
        refine j_bipush (v := nI 14) C dX8_becomesTabu_50 rfl ?_
        refine j_dup2 C dX8_becomesTabu_52 rfl rfl ?_
        refine j_iald C dX8_becomesTabu_53 (Nat.lt_of_lt_of_le (by decide) hN) (fun _ => rfl) (by decide) (by omega) ?_
        refine j_top (h14) ?_
        refine j_iconst (v := nI 1) C dX8_becomesTabu_54 rfl ?_
        refine j_isub C dX8_becomesTabu_55 ?_
        refine j_top (pk_sub (by omega)) ?_
        refine j_iast' C dX8_becomesTabu_56 (Nat.lt_of_lt_of_le (by decide) hN) (fun _ => rfl) (by decide) (by omega) (fun τ1 hz_2 hw_3 => ?_)
        refine j_aload_n C dX8_becomesTabu_57 rfl rfl ?_
        refine j_get C flX8_25 dX8_becomesTabu_58 (Nat.lt_of_lt_of_le (by decide) hN) rfl rfl ?_
        refine j_bipush (v := nI 15) C dX8_becomesTabu_61 rfl ?_
        refine j_aload_n C dX8_becomesTabu_63 rfl rfl ?_
        refine j_get C flX8_25 dX8_becomesTabu_64 (Nat.lt_of_lt_of_le (by decide) hN) rfl rfl ?_
        refine j_bipush (v := nI 14) C dX8_becomesTabu_67 rfl ?_
        refine j_iald C dX8_becomesTabu_69 (Nat.lt_of_lt_of_le (by decide) hN) (fun _ => rfl) (by decide) (by omega) ?_
        refine j_top (hw_3) ?_
        refine j_iadd C dX8_becomesTabu_70 ?_
        refine j_top (nI_add _ _) ?_
        refine j_iload_n C dX8_becomesTabu_71 rfl rfl ?_
        refine j_iast' C dX8_becomesTabu_72 (Nat.lt_of_lt_of_le (by decide) hN) (fun _ => rfl) (by decide) (by omega) (fun τ4 hz_5 hw_6 => ?_)
        refine j_aload_n C dX8_becomesTabu_73 rfl rfl ?_
        refine j_get C flX8_25 dX8_becomesTabu_74 (Nat.lt_of_lt_of_le (by decide) hN) rfl rfl ?_
        refine j_bipush (v := nI 14) C dX8_becomesTabu_77 rfl ?_
        refine j_dup2 C dX8_becomesTabu_79 rfl rfl ?_
        refine j_iald C dX8_becomesTabu_80 (Nat.lt_of_lt_of_le (by decide) hN) (fun _ => rfl) (by decide) (by omega) ?_
        refine j_top ((hz_5 _ _ (by omega)).trans (hw_3)) ?_
        refine j_iconst (v := nI 1) C dX8_becomesTabu_81 rfl ?_
        refine j_iadd C dX8_becomesTabu_82 ?_
        refine j_top (nI_add _ _) ?_
        refine j_iast' C dX8_becomesTabu_83 (Nat.lt_of_lt_of_le (by decide) hN) (fun _ => rfl) (by decide) (by omega) (fun τ7 hz_8 hw_9 => ?_)
        refine j_retv M dX8_becomesTabu_84 ?_
        refine ⟨fun j n h => by rw [hz_8 _ _ (by omega), hz_5 _ _ (by omega), hz_2 _ _ (by omega)]; exact hf j n h, ?_, fun k hk => ?_⟩
        · rw [push6_len hl6, show min (tl.length + 1) 6 = 6 by omega]; exact hw_9
        · rw [push6_len hl6] at hk
          rw [push6_getD hl6 hk, if_pos h6]
          by_cases e : k < 5
          · rw [if_pos e, hz_8 _ _ (by omega), hz_5 _ _ (by omega), hz_2 _ _ (by omega)]; exact ha k (by omega)
          · rw [if_neg e, show k = 5 by omega, hz_8 _ _ (by omega)]; exact hw_6
      · refine j_aload_n C dX8_becomesTabu_20 rfl rfl ?_
        refine j_get C flX8_25 dX8_becomesTabu_21 (Nat.lt_of_lt_of_le (by decide) hN) rfl rfl ?_
        refine j_bipush (v := nI 15) C dX8_becomesTabu_24 rfl ?_
        refine j_iload_n C dX8_becomesTabu_26 rfl rfl ?_
        refine j_iadd C dX8_becomesTabu_27 ?_
        refine j_top (nI_add _ _) ?_
        refine j_iconst (v := nI 1) C dX8_becomesTabu_28 rfl ?_
        refine j_isub C dX8_becomesTabu_29 ?_
        refine j_top ((pk_sub (by omega)).trans (congrArg nI (show 15 + i - 1 = 14 + i by omega))) ?_
        refine j_aload_n C dX8_becomesTabu_30 rfl rfl ?_
        refine j_get C flX8_25 dX8_becomesTabu_31 (Nat.lt_of_lt_of_le (by decide) hN) rfl rfl ?_
        refine j_bipush (v := nI 15) C dX8_becomesTabu_34 rfl ?_
        refine j_iload_n C dX8_becomesTabu_36 rfl rfl ?_
        refine j_iadd C dX8_becomesTabu_37 ?_
        refine j_top (nI_add _ _) ?_
        refine j_iald C dX8_becomesTabu_38 (Nat.lt_of_lt_of_le (by decide) hN) (fun _ => rfl) (by decide) (by omega) ?_
        refine j_top (hb i (by omega) (by omega)) ?_
        refine j_iast' C dX8_becomesTabu_39 (Nat.lt_of_lt_of_le (by decide) hN) (fun _ => rfl) (by decide) (by omega) (fun τ10 hz_11 hw_12 => ?_)
        refine j_iinc (L' := [some (.ref (gad g (84))), some (.int (z)), some (.int (nI (i + 1)))]) C dX8_becomesTabu_40 rfl (nI_inc _) (by decide) rfl ?_
        refine j_goto (tgt := 14) C dX8_becomesTabu_43 rfl ?_
        refine ih (6 - (i + 1)) (by omega) (i + 1) τ10 rfl (by omega) (by omega) (fun j n h => by rw [hz_11 _ _ (by omega)]; exact hf j n h) (by rw [hz_11 _ _ (by omega)]; exact h14) (fun j hj => ?_) (fun j hj hj2 => by rw [hz_11 _ _ (by omega)]; exact hb j (by omega) hj2)
        by_cases e : j + 1 = i
        · subst e; rw [show 15 + j = 14 + (j + 1) by omega]; exact hw_12
        · rw [hz_11 _ _ (by omega)]; exact ha j (by omega)
  refine j_aload_n C dX8_becomesTabu_0 rfl rfl ?_
  refine j_get C flX8_25 dX8_becomesTabu_1 (Nat.lt_of_lt_of_le (by decide) hN) rfl rfl ?_
  refine j_bipush (v := nI 14) C dX8_becomesTabu_4 rfl ?_
  refine j_iald C dX8_becomesTabu_6 (Nat.lt_of_lt_of_le (by decide) hN) (fun _ => rfl) (by decide) (by omega) ?_
  refine j_top (hT.1) ?_
  refine j_bipush (v := nI 6) C dX8_becomesTabu_7 rfl ?_
  refine j_icmpn_ne (tgt := 57) C dX8_becomesTabu_9 rfl (by omega) (by omega) (fun h9 => ?_) (fun h9 => ?_)
  · refine j_aload_n C dX8_becomesTabu_57 rfl rfl ?_
    refine j_get C flX8_25 dX8_becomesTabu_58 (Nat.lt_of_lt_of_le (by decide) hN) rfl rfl ?_
    refine j_bipush (v := nI 15) C dX8_becomesTabu_61 rfl ?_
    refine j_aload_n C dX8_becomesTabu_63 rfl rfl ?_
    refine j_get C flX8_25 dX8_becomesTabu_64 (Nat.lt_of_lt_of_le (by decide) hN) rfl rfl ?_
    refine j_bipush (v := nI 14) C dX8_becomesTabu_67 rfl ?_
    refine j_iald C dX8_becomesTabu_69 (Nat.lt_of_lt_of_le (by decide) hN) (fun _ => rfl) (by decide) (by omega) ?_
    refine j_top (hT.1) ?_
    refine j_iadd C dX8_becomesTabu_70 ?_
    refine j_top (nI_add _ _) ?_
    refine j_iload_n C dX8_becomesTabu_71 rfl rfl ?_
    refine j_iast' C dX8_becomesTabu_72 (Nat.lt_of_lt_of_le (by decide) hN) (fun _ => rfl) (by decide) (by omega) (fun τ1 hz_2 hw_3 => ?_)
    refine j_aload_n C dX8_becomesTabu_73 rfl rfl ?_
    refine j_get C flX8_25 dX8_becomesTabu_74 (Nat.lt_of_lt_of_le (by decide) hN) rfl rfl ?_
    refine j_bipush (v := nI 14) C dX8_becomesTabu_77 rfl ?_
    refine j_dup2 C dX8_becomesTabu_79 rfl rfl ?_
    refine j_iald C dX8_becomesTabu_80 (Nat.lt_of_lt_of_le (by decide) hN) (fun _ => rfl) (by decide) (by omega) ?_
    refine j_top ((hz_2 _ _ (by omega)).trans (hT.1)) ?_
    refine j_iconst (v := nI 1) C dX8_becomesTabu_81 rfl ?_
    refine j_iadd C dX8_becomesTabu_82 ?_
    refine j_top (nI_add _ _) ?_
    refine j_iast' C dX8_becomesTabu_83 (Nat.lt_of_lt_of_le (by decide) hN) (fun _ => rfl) (by decide) (by omega) (fun τ4 hz_5 hw_6 => ?_)
    refine j_retv M dX8_becomesTabu_84 ?_
    refine ⟨fun j n h => by rw [hz_5 _ _ (by omega), hz_2 _ _ (by omega)], ?_, fun k hk => ?_⟩
    · rw [push6_len hl6, show min (tl.length + 1) 6 = tl.length + 1 by omega]; exact hw_6
    · rw [push6_len hl6] at hk
      rw [push6_getD hl6 hk, if_neg h9]
      by_cases e : k < tl.length
      · rw [if_pos e, hz_5 _ _ (by omega), hz_2 _ _ (by omega)]; exact hT.2 k e
      · rw [if_neg e, show k = tl.length by omega, hz_5 _ _ (by omega)]; exact hw_3
  · refine j_iconst (v := nI 1) C dX8_becomesTabu_12 rfl ?_
    refine j_istore_n (L' := [some (.ref (gad g (84))), some (.int (z)), some (.int (nI (1)))]) C dX8_becomesTabu_13 rfl (by decide) rfl ?_
    exact lp (by omega) (6 - 1) 1 σ rfl (by omega) (by omega) (fun _ _ _ => rfl) (hT.1.trans (congrArg nI (by omega))) (fun j hj => by omega) (fun j _ hj => hT.2 j (by omega))
set_option maxHeartbeats 4000000 in
set_option maxRecDepth 100000 in
theorem tX8_tellLeast {g : jG} (hN : 97 ≤ gN g) {σ : Sg} {a : ND} {w : Nat → Nat} {u : Nat → Bool} (hI : RNet σ a) (hO : NOk a) (hW : RW σ (nM a) w u) (hw : WOk (nM a) w) {le : Nat} (hle : σ 90 13 = nI le) (hle2 : le < 2 ^ 31) : MS g yX8_tellLeast cX8_tellLeast 2 none rmX8_tellLeast [.ref (gad g (84))] σ (fun r σ' => (∀ j n, ¬ (93 ≤ j ∧ j ≤ 96 ∨ j = 84 ∧ n = 22 ∨ j = 90 ∧ n = 13) → σ' j n = σ j n) ∧ σ' 90 13 = nI (min le (costN a w u))) := by
  refine MJ_of (by decide) (Nat.le_of_ble_eq_true rfl) (List.forall_mem_cons.mpr ⟨rfl, fun _ h => absurd h List.not_mem_nil⟩) ?_
  intro κ M
  have C := M.1
  show J g κ 2 0 [some (.ref (gad g (84))), none] [] σ
  have hn7 := hO.2.1
  have hm12 := hO.2.2.1
  have hd6 := hO.2.2.2.1
  have hcb := costN_bd (w := w) (u := u) hO
  refine j_aload_n C dX8_tellLeast_0 rfl rfl ?_
  refine j_calli (As := []) (rest := []) C (tX8_costNow hN (a := a) (w := w) (u := u) hI hO hW hw) cdX8_costNow mlX8_83 dX8_tellLeast_1 (by decide) (by decide) (Nat.lt_of_lt_of_le (by decide) hN) rfl rfl rfl rfl rfl (Nat.le_of_ble_eq_true rfl) (fun rr_2 τ1 hp_3 => ?_)
  have hr_hp_3 := hp_3.2
  subst hr_hp_3
  refine j_istore_n (L' := [some (.ref (gad g (84))), some (.int (nI (costN a w u)))]) C dX8_tellLeast_4 rfl (by decide) rfl ?_
  refine j_aload_n C dX8_tellLeast_5 rfl rfl ?_
  refine j_get C flX8_25 dX8_tellLeast_6 (Nat.lt_of_lt_of_le (by decide) hN) rfl rfl ?_
  refine j_bipush (v := nI 13) C dX8_tellLeast_9 rfl ?_
  refine j_iload_n C dX8_tellLeast_11 rfl rfl ?_
  refine j_aload_n C dX8_tellLeast_12 rfl rfl ?_
  refine j_get C flX8_25 dX8_tellLeast_13 (Nat.lt_of_lt_of_le (by decide) hN) rfl rfl ?_
  refine j_bipush (v := nI 13) C dX8_tellLeast_16 rfl ?_
  refine j_iald C dX8_tellLeast_18 (Nat.lt_of_lt_of_le (by decide) hN) (fun _ => rfl) (by decide) (by omega) ?_
  refine j_top ((hp_3.1 _ _ (by omega)).trans (hle)) ?_
  refine j_icmpn_ge (tgt := 26) C dX8_tellLeast_19 rfl (by omega) (by omega) (fun h19 => ?_) (fun h19 => ?_)
  · refine j_aload_n C dX8_tellLeast_26 rfl rfl ?_
    refine j_get C flX8_25 dX8_tellLeast_27 (Nat.lt_of_lt_of_le (by decide) hN) rfl rfl ?_
    refine j_bipush (v := nI 13) C dX8_tellLeast_30 rfl ?_
    refine j_iald C dX8_tellLeast_32 (Nat.lt_of_lt_of_le (by decide) hN) (fun _ => rfl) (by decide) (by omega) ?_
    refine j_top ((hp_3.1 _ _ (by omega)).trans (hle)) ?_
    refine j_iast' C dX8_tellLeast_33 (Nat.lt_of_lt_of_le (by decide) hN) (fun _ => rfl) (by decide) (by omega) (fun τ4 hz_5 hw_6 => ?_)
    refine j_retv M dX8_tellLeast_34 ?_
    exact ⟨fun j n h => by rw [hz_5 _ _ (by omega), hp_3.1 _ _ (by omega)], hw_6.trans (congrArg nI (by omega))⟩
  · refine j_iload_n C dX8_tellLeast_22 rfl rfl ?_
    refine j_goto (tgt := 33) C dX8_tellLeast_23 rfl ?_
    refine j_iast' C dX8_tellLeast_33 (Nat.lt_of_lt_of_le (by decide) hN) (fun _ => rfl) (by decide) (by omega) (fun τ7 hz_8 hw_9 => ?_)
    refine j_retv M dX8_tellLeast_34 ?_
    exact ⟨fun j n h => by rw [hz_8 _ _ (by omega), hp_3.1 _ _ (by omega)], hw_9.trans (congrArg nI (by omega))⟩
set_option maxHeartbeats 4000000 in
set_option maxRecDepth 100000 in
theorem tX8_findMove {g : jG} (hN : 97 ≤ gN g) {σ : Sg} {a : ND} {w : Nat → Nat} {u : Nat → Bool} (hI : RNet σ a) (hO : NOk a) (hW : RW σ (nM a) w u) (hw : WOk (nM a) w) {hd : Bool} {le : Nat} {tl : List Int32} (hle : σ 90 13 = nI le) (hle2 : le < 2 ^ 31) (hT : RT σ tl) (hl6 : tl.length ≤ 6) (ps : Int32) : MS g yX8_findMove cX8_findMove 8 (some .boolean) rmX8_findMove [.ref (gad g (84)), .int (ps), .int (bI (!hd))] σ (fun r σ' => (∀ j n, ¬ (93 ≤ j ∧ j ≤ 96 ∨ j = 84 ∧ 22 ≤ n ∧ n ≤ 25) → σ' j n = σ j n) ∧ bsR σ' (fndF a w u hd le tl ps (nM a)) ∧ r = bI (fndF a w u hd le tl ps (nM a)).isSome) := by
  refine MJ_of (by decide) (Nat.le_of_ble_eq_true rfl) (List.forall_mem_cons.mpr ⟨rfl, List.forall_mem_cons.mpr ⟨rfl, List.forall_mem_cons.mpr ⟨rfl, fun _ h => absurd h List.not_mem_nil⟩⟩⟩) ?_
  intro κ M
  have C := M.1
  show J g κ 8 0 [some (.ref (gad g (84))), some (.int (ps)), some (.int (bI (!hd))), none, none, none, none, none] [] σ
  have hn7 := hO.2.1
  have hm12 := hO.2.2.1
  have hd6 := hO.2.2.2.1
  have lpX : ∀ (l : Nat) (b : BS), l < nM a → ¬ nI l = ps → (∀ (σ1 : Sg), (∀ j n, ¬ (93 ≤ j ∧ j ≤ 96 ∨ j = 84 ∧ 22 ≤ n ∧ n ≤ 25) → σ1 j n = σ j n) → bsR σ1 (tryF a w u hd le tl l 20 b) → J g κ 8 170 [some (.ref (gad g (84))), some (.int (ps)), some (.int (bI (!hd))), some (.int (nI (l))), none, none, none, none] [] σ1) → ∀ (k x : Nat) (σ1 : Sg), 21 - x = k → 1 ≤ x → x ≤ 21 → (∀ j n, ¬ (93 ≤ j ∧ j ≤ 96 ∨ j = 84 ∧ 22 ≤ n ∧ n ≤ 25) → σ1 j n = σ j n) → bsR σ1 (tryF a w u hd le tl l (x - 1) b) → J g κ 8 25 [some (.ref (gad g (84))), some (.int (ps)), some (.int (bI (!hd))), some (.int (nI (l))), some (.int (nI (x))), none, none, none] [] σ1 := by
    intro l b hl hps kI k
    induction k using Nat.strongRecOn with
    | _ k ih =>
      intro x σ1 hk hx1 hx hf hb
      have hwl := hw l hl
      refine j_iload C dX8_findMove_25 rfl ?_
      refine j_bipush (v := nI 20) C dX8_findMove_27 rfl ?_
      refine j_icmpn_gt (tgt := 170) C dX8_findMove_29 rfl (by omega) (by omega) (fun h29 => ?_) (fun h29 => ?_)
      · refine J_clr 4 (L' := [some (.ref (gad g (84))), some (.int (ps)), some (.int (bI (!hd))), some (.int (nI (l))), none, none, none, none]) rfl ?_
        first | exact absurd h34 hps | exact kI σ1 hf (by rw [show x - 1 = 20 by omega] at hb; exact hb)
      · refine j_iload_n C dX8_findMove_32 rfl rfl ?_
        refine j_iload_n C dX8_findMove_33 rfl rfl ?_
        refine j_icmp_eq (tgt := 170) C dX8_findMove_34 rfl (fun h34 => ?_) (fun h34 => ?_)
        · refine J_clr 4 (L' := [some (.ref (gad g (84))), some (.int (ps)), some (.int (bI (!hd))), some (.int (nI (l))), none, none, none, none]) rfl ?_
          first | exact absurd h34 hps | exact kI σ1 hf (by rw [show x - 1 = 20 by omega] at hb; exact hb)
        · refine j_iload C dX8_findMove_37 rfl ?_
          refine j_aload_n C dX8_findMove_39 rfl rfl ?_
          refine j_get C flX8_25 dX8_findMove_40 (Nat.lt_of_lt_of_le (by decide) hN) rfl rfl ?_
          refine j_iload_n C dX8_findMove_43 rfl rfl ?_
          refine j_iald C dX8_findMove_44 (Nat.lt_of_lt_of_le (by decide) hN) (fun _ => rfl) (by decide) (by omega) ?_
          refine j_top ((hf _ _ (by omega)).trans (hW.1 l (by omega))) ?_
          refine j_icmpn_eq (tgt := 164) C dX8_findMove_45 rfl (by omega) (by omega) (fun h45 => ?_) (fun h45 => ?_)
          · refine j_iinc (L' := [some (.ref (gad g (84))), some (.int (ps)), some (.int (bI (!hd))), some (.int (nI (l))), some (.int (nI (x + 1))), none, none, none]) C dX8_findMove_164 rfl (nI_inc _) (by decide) rfl ?_
            refine j_goto (tgt := 25) C dX8_findMove_167 rfl ?_
            refine ih (21 - (x + 1)) (by omega) (x + 1) σ1 rfl (by omega) (by omega) hf ?_
            rw [show x + 1 - 1 = (x - 1) + 1 by omega, tryF, if_pos (by omega)]
            exact hb
          · have hcb := costN_bd (a := a) (w := updN w l x) (u := u) hO
            rcases hbe : (tryF a w u hd le tl l (x - 1) b) with _ | ⟨l0, x0, c0⟩
            · rw [hbe] at hb
              refine j_aload_n C dX8_findMove_48 rfl rfl ?_
              refine j_iload_n C dX8_findMove_49 rfl rfl ?_
              refine j_iload C dX8_findMove_50 rfl ?_
              refine j_calli (As := [.int (nI (l)), .int (nI (x))]) (rest := []) C (tX8_costBy hN (hI.kept (fun j n h => hf j n (by omega))) hO (hW.kept hm12 (fun n h => hf _ _ (by omega))) hw (l := l) (x := x) (by omega) (by omega) (by omega)) cdX8_costBy mlX8_169 dX8_findMove_52 (by decide) (by decide) (Nat.lt_of_lt_of_le (by decide) hN) rfl rfl rfl rfl rfl (Nat.le_of_ble_eq_true rfl) (fun rr_2 τ1 hp_3 => ?_)
              have hr_hp_3 := hp_3.2
              subst hr_hp_3
              refine j_istore (L' := [some (.ref (gad g (84))), some (.int (ps)), some (.int (bI (!hd))), some (.int (nI (l))), some (.int (nI (x))), some (.int (nI (costN a (updN w l x) u))), none, none]) C dX8_findMove_55 (by decide) rfl ?_
              rcases (show hd = true ∨ hd = false by cases hd <;> simp) with hhd | hhd
              · refine J_loc (L' := [some (.ref (gad g (84))), some (.int (ps)), some (.int (nI (0))), some (.int (nI (l))), some (.int (nI (x))), some (.int (nI (costN a (updN w l x) u))), none, none]) (by rw [hhd]; rfl) ?_
                refine j_iload_n C dX8_findMove_57 rfl rfl ?_
                refine j_ifn_ne (tgt := 83) C dX8_findMove_58 rfl (by omega) (fun h => absurd h (by decide)) (fun _ => ?_)
                refine j_aload_n C dX8_findMove_61 rfl rfl ?_
                refine j_iload_n C dX8_findMove_62 rfl rfl ?_
                refine j_iload C dX8_findMove_63 rfl ?_
                refine j_calli (As := [.int (nI (l)), .int (nI (x))]) (rest := []) C (tX8_isTabuBy hN (m := nM a) (w := w) (tl := tl) (by rw [hp_3.1 _ _ (by omega), hf _ _ (by omega)]; exact hI.1.2.1) hm12 (fun k hk => by rw [hp_3.1 _ _ (by omega), hf _ _ (by omega)]; exact hW.1 k hk) (hT.kept (fun n h => by rw [hp_3.1 _ _ (by omega), hf _ _ (by omega)])) hl6 (l := l) (x := x) (by omega)) cdX8_isTabuBy mlX8_173 dX8_findMove_65 (by decide) (by decide) (Nat.lt_of_lt_of_le (by decide) hN) rfl rfl rfl rfl rfl (Nat.le_of_ble_eq_true rfl) (fun rr_5 τ4 hp_6 => ?_)
                obtain ⟨hs, hr⟩ := hp_6
                replace hs := hs.symm
                subst hs
                rcases hfb : decide (mkW (updN w l x) (nM a) ∈ tl) with _ | _ <;> rw [hfb] at hr <;> subst hr
                · refine j_ifn_eq (tgt := 83) C dX8_findMove_68 rfl (by omega) (fun _ => ?_) (fun h => absurd h (by decide))
                  refine j_iconst (v := nI 1) C dX8_findMove_83 rfl ?_
                  refine j_goto (tgt := 88) C dX8_findMove_84 rfl ?_
                  refine j_istore (L' := [some (.ref (gad g (84))), some (.int (ps)), some (.int (nI (0))), some (.int (nI (l))), some (.int (nI (x))), some (.int (nI (costN a (updN w l x) u))), some (.int (nI (1))), none]) C dX8_findMove_88 (by decide) rfl ?_
                  refine j_iload C dX8_findMove_90 rfl ?_
                  refine j_ifn_eq (tgt := 108) C dX8_findMove_92 rfl (by omega) (fun h => absurd h (by decide)) (fun _ => ?_)
                  refine j_iload C dX8_findMove_95 rfl ?_
                  refine j_aload_n C dX8_findMove_97 rfl rfl ?_
                  refine j_get C flX8_166 dX8_findMove_98 (Nat.lt_of_lt_of_le (by decide) hN) rfl rfl ?_
                  refine j_top ((hp_3.1 _ _ (by omega)).trans (hb.2)) ?_
                  refine j_icmpn_ge (tgt := 108) C dX8_findMove_101 rfl (by omega) (by omega) (fun h101 => ?_) (fun h101 => ?_)
                  · refine j_iconst (v := nI 0) C dX8_findMove_108 rfl ?_
                    refine j_istore (L' := [some (.ref (gad g (84))), some (.int (ps)), some (.int (nI (0))), some (.int (nI (l))), some (.int (nI (x))), some (.int (nI (costN a (updN w l x) u))), some (.int (nI (1))), some (.int (nI (0)))]) C dX8_findMove_109 (by decide) rfl ?_
                    refine j_aload_n C dX8_findMove_111 rfl rfl ?_
                    refine j_iload C dX8_findMove_112 rfl ?_
                    refine j_ifn_eq (tgt := 121) C dX8_findMove_114 rfl (by omega) (fun _ => ?_) (fun h => absurd h (by decide))
                    refine j_aload_n C dX8_findMove_121 rfl rfl ?_
                    refine j_get C flX8_163 dX8_findMove_122 (Nat.lt_of_lt_of_le (by decide) hN) rfl rfl ?_
                    refine j_top ((hp_3.1 _ _ (by omega)).trans (hb.1)) ?_
                    refine j_put' C fpX8_163 dX8_findMove_125 (Nat.lt_of_lt_of_le (by decide) hN) (fun _ => rfl) rfl (Nat.le_of_ble_eq_true rfl) rfl rfl (fun τ7 hz_8 hw_9 => ?_)
                    refine j_aload_n C dX8_findMove_128 rfl rfl ?_
                    refine j_iload C dX8_findMove_129 rfl ?_
                    refine j_ifn_eq (tgt := 139) C dX8_findMove_131 rfl (by omega) (fun _ => ?_) (fun h => absurd h (by decide))
                    refine j_aload_n C dX8_findMove_139 rfl rfl ?_
                    refine j_get C flX8_177 dX8_findMove_140 (Nat.lt_of_lt_of_le (by decide) hN) rfl rfl ?_
                    refine j_put' C fpX8_177 dX8_findMove_143 (Nat.lt_of_lt_of_le (by decide) hN) (fun _ => rfl) rfl (Nat.le_of_ble_eq_true rfl) rfl rfl (fun τ10 hz_11 hw_12 => ?_)
                    refine j_aload_n C dX8_findMove_146 rfl rfl ?_
                    refine j_iload C dX8_findMove_147 rfl ?_
                    refine j_ifn_eq (tgt := 157) C dX8_findMove_149 rfl (by omega) (fun _ => ?_) (fun h => absurd h (by decide))
                    refine j_aload_n C dX8_findMove_157 rfl rfl ?_
                    refine j_get C flX8_166 dX8_findMove_158 (Nat.lt_of_lt_of_le (by decide) hN) rfl rfl ?_
                    refine j_top ((hz_11 _ _ (by omega)).trans ((hz_8 _ _ (by omega)).trans ((hp_3.1 _ _ (by omega)).trans (hb.2)))) ?_
                    refine j_put' C fpX8_166 dX8_findMove_161 (Nat.lt_of_lt_of_le (by decide) hN) (fun _ => rfl) rfl (Nat.le_of_ble_eq_true rfl) rfl rfl (fun τ13 hz_14 hw_15 => ?_)
                    refine j_iinc (L' := [some (.ref (gad g (84))), some (.int (ps)), some (.int (nI (0))), some (.int (nI (l))), some (.int (nI (x + 1))), some (.int (nI (costN a (updN w l x) u))), some (.int (nI (1))), some (.int (nI (0)))]) C dX8_findMove_164 rfl (nI_inc _) (by decide) rfl ?_
                    refine j_goto (tgt := 25) C dX8_findMove_167 rfl ?_
                    refine J_loc (L' := [some (.ref (gad g (84))), some (.int (ps)), some (.int (bI (!hd))), some (.int (nI (l))), some (.int (nI (x + 1))), some (.int (nI (costN a (updN w l x) u))), some (.int (nI (1))), some (.int (nI (0)))]) (by rw [hhd]; rfl) ?_
                    refine J_clr 5 (L' := [some (.ref (gad g (84))), some (.int (ps)), some (.int (bI (!hd))), some (.int (nI (l))), some (.int (nI (x + 1))), none, some (.int (nI (1))), some (.int (nI (0)))]) rfl ?_
                    refine J_clr 6 (L' := [some (.ref (gad g (84))), some (.int (ps)), some (.int (bI (!hd))), some (.int (nI (l))), some (.int (nI (x + 1))), none, none, some (.int (nI (0)))]) rfl ?_
                    refine J_clr 7 (L' := [some (.ref (gad g (84))), some (.int (ps)), some (.int (bI (!hd))), some (.int (nI (l))), some (.int (nI (x + 1))), none, none, none]) rfl ?_
                    refine ih (21 - (x + 1)) (by omega) (x + 1) τ13 rfl (by omega) (by omega) (fun j n h => by rw [hz_14 _ _ (by omega), hz_11 _ _ (by omega), hz_8 _ _ (by omega), hp_3.1 _ _ (by omega)]; exact hf j n h) ?_
                    have e : (tryF a w u hd le tl l x b) = (tryF a w u hd le tl l (x - 1) b) := by
                      rw [show x = (x - 1) + 1 by omega, tryF, if_neg (by omega), show x - 1 + 1 = x by omega]
                      rw [hbe]
                      exact if_neg (by first | (simp [lessB]; omega) | (simp only [okT, hfb, hhd]; simp; done) | (simp only [okT, hfb, hhd]; simp [lessB]; omega))
                    rw [show x + 1 - 1 = x by omega, e, hbe]
                    exact ⟨by rw [hz_14 _ _ (by omega), hz_11 _ _ (by omega)]; exact hw_9, hw_15⟩
                  · refine j_iconst (v := nI 1) C dX8_findMove_104 rfl ?_
                    refine j_goto (tgt := 109) C dX8_findMove_105 rfl ?_
                    refine j_istore (L' := [some (.ref (gad g (84))), some (.int (ps)), some (.int (nI (0))), some (.int (nI (l))), some (.int (nI (x))), some (.int (nI (costN a (updN w l x) u))), some (.int (nI (1))), some (.int (nI (1)))]) C dX8_findMove_109 (by decide) rfl ?_
                    refine j_aload_n C dX8_findMove_111 rfl rfl ?_
                    refine j_iload C dX8_findMove_112 rfl ?_
                    refine j_ifn_eq (tgt := 121) C dX8_findMove_114 rfl (by omega) (fun h => absurd h (by decide)) (fun _ => ?_)
                    refine j_iload_n C dX8_findMove_117 rfl rfl ?_
                    refine j_goto (tgt := 125) C dX8_findMove_118 rfl ?_
                    refine j_put' C fpX8_163 dX8_findMove_125 (Nat.lt_of_lt_of_le (by decide) hN) (fun _ => rfl) rfl (Nat.le_of_ble_eq_true rfl) rfl rfl (fun τ16 hz_17 hw_18 => ?_)
                    refine j_aload_n C dX8_findMove_128 rfl rfl ?_
                    refine j_iload C dX8_findMove_129 rfl ?_
                    refine j_ifn_eq (tgt := 139) C dX8_findMove_131 rfl (by omega) (fun h => absurd h (by decide)) (fun _ => ?_)
                    refine j_iload C dX8_findMove_134 rfl ?_
                    refine j_goto (tgt := 143) C dX8_findMove_136 rfl ?_
                    refine j_put' C fpX8_177 dX8_findMove_143 (Nat.lt_of_lt_of_le (by decide) hN) (fun _ => rfl) rfl (Nat.le_of_ble_eq_true rfl) rfl rfl (fun τ19 hz_20 hw_21 => ?_)
                    refine j_aload_n C dX8_findMove_146 rfl rfl ?_
                    refine j_iload C dX8_findMove_147 rfl ?_
                    refine j_ifn_eq (tgt := 157) C dX8_findMove_149 rfl (by omega) (fun h => absurd h (by decide)) (fun _ => ?_)
                    refine j_iload C dX8_findMove_152 rfl ?_
                    refine j_goto (tgt := 161) C dX8_findMove_154 rfl ?_
                    refine j_put' C fpX8_166 dX8_findMove_161 (Nat.lt_of_lt_of_le (by decide) hN) (fun _ => rfl) rfl (Nat.le_of_ble_eq_true rfl) rfl rfl (fun τ22 hz_23 hw_24 => ?_)
                    refine j_iinc (L' := [some (.ref (gad g (84))), some (.int (ps)), some (.int (nI (0))), some (.int (nI (l))), some (.int (nI (x + 1))), some (.int (nI (costN a (updN w l x) u))), some (.int (nI (1))), some (.int (nI (1)))]) C dX8_findMove_164 rfl (nI_inc _) (by decide) rfl ?_
                    refine j_goto (tgt := 25) C dX8_findMove_167 rfl ?_
                    refine J_loc (L' := [some (.ref (gad g (84))), some (.int (ps)), some (.int (bI (!hd))), some (.int (nI (l))), some (.int (nI (x + 1))), some (.int (nI (costN a (updN w l x) u))), some (.int (nI (1))), some (.int (nI (1)))]) (by rw [hhd]; rfl) ?_
                    refine J_clr 5 (L' := [some (.ref (gad g (84))), some (.int (ps)), some (.int (bI (!hd))), some (.int (nI (l))), some (.int (nI (x + 1))), none, some (.int (nI (1))), some (.int (nI (1)))]) rfl ?_
                    refine J_clr 6 (L' := [some (.ref (gad g (84))), some (.int (ps)), some (.int (bI (!hd))), some (.int (nI (l))), some (.int (nI (x + 1))), none, none, some (.int (nI (1)))]) rfl ?_
                    refine J_clr 7 (L' := [some (.ref (gad g (84))), some (.int (ps)), some (.int (bI (!hd))), some (.int (nI (l))), some (.int (nI (x + 1))), none, none, none]) rfl ?_
                    refine ih (21 - (x + 1)) (by omega) (x + 1) τ22 rfl (by omega) (by omega) (fun j n h => by rw [hz_23 _ _ (by omega), hz_20 _ _ (by omega), hz_17 _ _ (by omega), hp_3.1 _ _ (by omega)]; exact hf j n h) ?_
                    have e : (tryF a w u hd le tl l x b) = some (l, x, costN a (updN w l x) u) := by
                      rw [show x = (x - 1) + 1 by omega, tryF, if_neg (by omega), show x - 1 + 1 = x by omega, hbe]
                      exact if_pos (by first | (simp [lessB, okT, hhd]; done) | (simp [lessB, okT, hhd]; omega) | (simp only [okT, hfb]; simp [lessB]; done) | (simp only [okT, hfb]; simp [lessB]; omega))
                    rw [show x + 1 - 1 = x by omega, e]
                    exact ⟨⟨by rw [hz_23 _ _ (by omega), hz_20 _ _ (by omega)]; exact hw_18, by rw [hz_23 _ _ (by omega)]; exact hw_21, hw_24⟩, by omega, by omega, by omega⟩
                · refine j_ifn_eq (tgt := 83) C dX8_findMove_68 rfl (by omega) (fun h => absurd h (by decide)) (fun _ => ?_)
                  refine j_iload C dX8_findMove_71 rfl ?_
                  refine j_aload_n C dX8_findMove_73 rfl rfl ?_
                  refine j_get C flX8_25 dX8_findMove_74 (Nat.lt_of_lt_of_le (by decide) hN) rfl rfl ?_
                  refine j_bipush (v := nI 13) C dX8_findMove_77 rfl ?_
                  refine j_iald C dX8_findMove_79 (Nat.lt_of_lt_of_le (by decide) hN) (fun _ => rfl) (by decide) (by omega) ?_
                  refine j_top ((hp_3.1 _ _ (by omega)).trans ((hf _ _ (by omega)).trans (hle))) ?_
                  refine j_icmpn_ge (tgt := 87) C dX8_findMove_80 rfl (by omega) (by omega) (fun h80 => ?_) (fun h80 => ?_)
                  · refine j_iconst (v := nI 0) C dX8_findMove_87 rfl ?_
                    refine j_istore (L' := [some (.ref (gad g (84))), some (.int (ps)), some (.int (nI (0))), some (.int (nI (l))), some (.int (nI (x))), some (.int (nI (costN a (updN w l x) u))), some (.int (nI (0))), none]) C dX8_findMove_88 (by decide) rfl ?_
                    refine j_iload C dX8_findMove_90 rfl ?_
                    refine j_ifn_eq (tgt := 108) C dX8_findMove_92 rfl (by omega) (fun _ => ?_) (fun h => absurd h (by decide))
                    refine j_iconst (v := nI 0) C dX8_findMove_108 rfl ?_
                    refine j_istore (L' := [some (.ref (gad g (84))), some (.int (ps)), some (.int (nI (0))), some (.int (nI (l))), some (.int (nI (x))), some (.int (nI (costN a (updN w l x) u))), some (.int (nI (0))), some (.int (nI (0)))]) C dX8_findMove_109 (by decide) rfl ?_
                    refine j_aload_n C dX8_findMove_111 rfl rfl ?_
                    refine j_iload C dX8_findMove_112 rfl ?_
                    refine j_ifn_eq (tgt := 121) C dX8_findMove_114 rfl (by omega) (fun _ => ?_) (fun h => absurd h (by decide))
                    refine j_aload_n C dX8_findMove_121 rfl rfl ?_
                    refine j_get C flX8_163 dX8_findMove_122 (Nat.lt_of_lt_of_le (by decide) hN) rfl rfl ?_
                    refine j_top ((hp_3.1 _ _ (by omega)).trans (hb.1)) ?_
                    refine j_put' C fpX8_163 dX8_findMove_125 (Nat.lt_of_lt_of_le (by decide) hN) (fun _ => rfl) rfl (Nat.le_of_ble_eq_true rfl) rfl rfl (fun τ25 hz_26 hw_27 => ?_)
                    refine j_aload_n C dX8_findMove_128 rfl rfl ?_
                    refine j_iload C dX8_findMove_129 rfl ?_
                    refine j_ifn_eq (tgt := 139) C dX8_findMove_131 rfl (by omega) (fun _ => ?_) (fun h => absurd h (by decide))
                    refine j_aload_n C dX8_findMove_139 rfl rfl ?_
                    refine j_get C flX8_177 dX8_findMove_140 (Nat.lt_of_lt_of_le (by decide) hN) rfl rfl ?_
                    refine j_put' C fpX8_177 dX8_findMove_143 (Nat.lt_of_lt_of_le (by decide) hN) (fun _ => rfl) rfl (Nat.le_of_ble_eq_true rfl) rfl rfl (fun τ28 hz_29 hw_30 => ?_)
                    refine j_aload_n C dX8_findMove_146 rfl rfl ?_
                    refine j_iload C dX8_findMove_147 rfl ?_
                    refine j_ifn_eq (tgt := 157) C dX8_findMove_149 rfl (by omega) (fun _ => ?_) (fun h => absurd h (by decide))
                    refine j_aload_n C dX8_findMove_157 rfl rfl ?_
                    refine j_get C flX8_166 dX8_findMove_158 (Nat.lt_of_lt_of_le (by decide) hN) rfl rfl ?_
                    refine j_top ((hz_29 _ _ (by omega)).trans ((hz_26 _ _ (by omega)).trans ((hp_3.1 _ _ (by omega)).trans (hb.2)))) ?_
                    refine j_put' C fpX8_166 dX8_findMove_161 (Nat.lt_of_lt_of_le (by decide) hN) (fun _ => rfl) rfl (Nat.le_of_ble_eq_true rfl) rfl rfl (fun τ31 hz_32 hw_33 => ?_)
                    refine j_iinc (L' := [some (.ref (gad g (84))), some (.int (ps)), some (.int (nI (0))), some (.int (nI (l))), some (.int (nI (x + 1))), some (.int (nI (costN a (updN w l x) u))), some (.int (nI (0))), some (.int (nI (0)))]) C dX8_findMove_164 rfl (nI_inc _) (by decide) rfl ?_
                    refine j_goto (tgt := 25) C dX8_findMove_167 rfl ?_
                    refine J_loc (L' := [some (.ref (gad g (84))), some (.int (ps)), some (.int (bI (!hd))), some (.int (nI (l))), some (.int (nI (x + 1))), some (.int (nI (costN a (updN w l x) u))), some (.int (nI (0))), some (.int (nI (0)))]) (by rw [hhd]; rfl) ?_
                    refine J_clr 5 (L' := [some (.ref (gad g (84))), some (.int (ps)), some (.int (bI (!hd))), some (.int (nI (l))), some (.int (nI (x + 1))), none, some (.int (nI (0))), some (.int (nI (0)))]) rfl ?_
                    refine J_clr 6 (L' := [some (.ref (gad g (84))), some (.int (ps)), some (.int (bI (!hd))), some (.int (nI (l))), some (.int (nI (x + 1))), none, none, some (.int (nI (0)))]) rfl ?_
                    refine J_clr 7 (L' := [some (.ref (gad g (84))), some (.int (ps)), some (.int (bI (!hd))), some (.int (nI (l))), some (.int (nI (x + 1))), none, none, none]) rfl ?_
                    refine ih (21 - (x + 1)) (by omega) (x + 1) τ31 rfl (by omega) (by omega) (fun j n h => by rw [hz_32 _ _ (by omega), hz_29 _ _ (by omega), hz_26 _ _ (by omega), hp_3.1 _ _ (by omega)]; exact hf j n h) ?_
                    have e : (tryF a w u hd le tl l x b) = (tryF a w u hd le tl l (x - 1) b) := by
                      rw [show x = (x - 1) + 1 by omega, tryF, if_neg (by omega), show x - 1 + 1 = x by omega]
                      rw [hbe]
                      exact if_neg (by first | (simp [lessB]; omega) | (simp only [okT, hfb, hhd]; simp; done) | (simp only [okT, hfb, hhd]; simp [lessB]; omega))
                    rw [show x + 1 - 1 = x by omega, e, hbe]
                    exact ⟨by rw [hz_32 _ _ (by omega), hz_29 _ _ (by omega)]; exact hw_27, hw_33⟩
                  · refine j_iconst (v := nI 1) C dX8_findMove_83 rfl ?_
                    refine j_goto (tgt := 88) C dX8_findMove_84 rfl ?_
                    refine j_istore (L' := [some (.ref (gad g (84))), some (.int (ps)), some (.int (nI (0))), some (.int (nI (l))), some (.int (nI (x))), some (.int (nI (costN a (updN w l x) u))), some (.int (nI (1))), none]) C dX8_findMove_88 (by decide) rfl ?_
                    refine j_iload C dX8_findMove_90 rfl ?_
                    refine j_ifn_eq (tgt := 108) C dX8_findMove_92 rfl (by omega) (fun h => absurd h (by decide)) (fun _ => ?_)
                    refine j_iload C dX8_findMove_95 rfl ?_
                    refine j_aload_n C dX8_findMove_97 rfl rfl ?_
                    refine j_get C flX8_166 dX8_findMove_98 (Nat.lt_of_lt_of_le (by decide) hN) rfl rfl ?_
                    refine j_top ((hp_3.1 _ _ (by omega)).trans (hb.2)) ?_
                    refine j_icmpn_ge (tgt := 108) C dX8_findMove_101 rfl (by omega) (by omega) (fun h101 => ?_) (fun h101 => ?_)
                    · refine j_iconst (v := nI 0) C dX8_findMove_108 rfl ?_
                      refine j_istore (L' := [some (.ref (gad g (84))), some (.int (ps)), some (.int (nI (0))), some (.int (nI (l))), some (.int (nI (x))), some (.int (nI (costN a (updN w l x) u))), some (.int (nI (1))), some (.int (nI (0)))]) C dX8_findMove_109 (by decide) rfl ?_
                      refine j_aload_n C dX8_findMove_111 rfl rfl ?_
                      refine j_iload C dX8_findMove_112 rfl ?_
                      refine j_ifn_eq (tgt := 121) C dX8_findMove_114 rfl (by omega) (fun _ => ?_) (fun h => absurd h (by decide))
                      refine j_aload_n C dX8_findMove_121 rfl rfl ?_
                      refine j_get C flX8_163 dX8_findMove_122 (Nat.lt_of_lt_of_le (by decide) hN) rfl rfl ?_
                      refine j_top ((hp_3.1 _ _ (by omega)).trans (hb.1)) ?_
                      refine j_put' C fpX8_163 dX8_findMove_125 (Nat.lt_of_lt_of_le (by decide) hN) (fun _ => rfl) rfl (Nat.le_of_ble_eq_true rfl) rfl rfl (fun τ34 hz_35 hw_36 => ?_)
                      refine j_aload_n C dX8_findMove_128 rfl rfl ?_
                      refine j_iload C dX8_findMove_129 rfl ?_
                      refine j_ifn_eq (tgt := 139) C dX8_findMove_131 rfl (by omega) (fun _ => ?_) (fun h => absurd h (by decide))
                      refine j_aload_n C dX8_findMove_139 rfl rfl ?_
                      refine j_get C flX8_177 dX8_findMove_140 (Nat.lt_of_lt_of_le (by decide) hN) rfl rfl ?_
                      refine j_put' C fpX8_177 dX8_findMove_143 (Nat.lt_of_lt_of_le (by decide) hN) (fun _ => rfl) rfl (Nat.le_of_ble_eq_true rfl) rfl rfl (fun τ37 hz_38 hw_39 => ?_)
                      refine j_aload_n C dX8_findMove_146 rfl rfl ?_
                      refine j_iload C dX8_findMove_147 rfl ?_
                      refine j_ifn_eq (tgt := 157) C dX8_findMove_149 rfl (by omega) (fun _ => ?_) (fun h => absurd h (by decide))
                      refine j_aload_n C dX8_findMove_157 rfl rfl ?_
                      refine j_get C flX8_166 dX8_findMove_158 (Nat.lt_of_lt_of_le (by decide) hN) rfl rfl ?_
                      refine j_top ((hz_38 _ _ (by omega)).trans ((hz_35 _ _ (by omega)).trans ((hp_3.1 _ _ (by omega)).trans (hb.2)))) ?_
                      refine j_put' C fpX8_166 dX8_findMove_161 (Nat.lt_of_lt_of_le (by decide) hN) (fun _ => rfl) rfl (Nat.le_of_ble_eq_true rfl) rfl rfl (fun τ40 hz_41 hw_42 => ?_)
                      refine j_iinc (L' := [some (.ref (gad g (84))), some (.int (ps)), some (.int (nI (0))), some (.int (nI (l))), some (.int (nI (x + 1))), some (.int (nI (costN a (updN w l x) u))), some (.int (nI (1))), some (.int (nI (0)))]) C dX8_findMove_164 rfl (nI_inc _) (by decide) rfl ?_
                      refine j_goto (tgt := 25) C dX8_findMove_167 rfl ?_
                      refine J_loc (L' := [some (.ref (gad g (84))), some (.int (ps)), some (.int (bI (!hd))), some (.int (nI (l))), some (.int (nI (x + 1))), some (.int (nI (costN a (updN w l x) u))), some (.int (nI (1))), some (.int (nI (0)))]) (by rw [hhd]; rfl) ?_
                      refine J_clr 5 (L' := [some (.ref (gad g (84))), some (.int (ps)), some (.int (bI (!hd))), some (.int (nI (l))), some (.int (nI (x + 1))), none, some (.int (nI (1))), some (.int (nI (0)))]) rfl ?_
                      refine J_clr 6 (L' := [some (.ref (gad g (84))), some (.int (ps)), some (.int (bI (!hd))), some (.int (nI (l))), some (.int (nI (x + 1))), none, none, some (.int (nI (0)))]) rfl ?_
                      refine J_clr 7 (L' := [some (.ref (gad g (84))), some (.int (ps)), some (.int (bI (!hd))), some (.int (nI (l))), some (.int (nI (x + 1))), none, none, none]) rfl ?_
                      refine ih (21 - (x + 1)) (by omega) (x + 1) τ40 rfl (by omega) (by omega) (fun j n h => by rw [hz_41 _ _ (by omega), hz_38 _ _ (by omega), hz_35 _ _ (by omega), hp_3.1 _ _ (by omega)]; exact hf j n h) ?_
                      have e : (tryF a w u hd le tl l x b) = (tryF a w u hd le tl l (x - 1) b) := by
                        rw [show x = (x - 1) + 1 by omega, tryF, if_neg (by omega), show x - 1 + 1 = x by omega]
                        rw [hbe]
                        exact if_neg (by first | (simp [lessB]; omega) | (simp only [okT, hfb, hhd]; simp; done) | (simp only [okT, hfb, hhd]; simp [lessB]; omega))
                      rw [show x + 1 - 1 = x by omega, e, hbe]
                      exact ⟨by rw [hz_41 _ _ (by omega), hz_38 _ _ (by omega)]; exact hw_36, hw_42⟩
                    · refine j_iconst (v := nI 1) C dX8_findMove_104 rfl ?_
                      refine j_goto (tgt := 109) C dX8_findMove_105 rfl ?_
                      refine j_istore (L' := [some (.ref (gad g (84))), some (.int (ps)), some (.int (nI (0))), some (.int (nI (l))), some (.int (nI (x))), some (.int (nI (costN a (updN w l x) u))), some (.int (nI (1))), some (.int (nI (1)))]) C dX8_findMove_109 (by decide) rfl ?_
                      refine j_aload_n C dX8_findMove_111 rfl rfl ?_
                      refine j_iload C dX8_findMove_112 rfl ?_
                      refine j_ifn_eq (tgt := 121) C dX8_findMove_114 rfl (by omega) (fun h => absurd h (by decide)) (fun _ => ?_)
                      refine j_iload_n C dX8_findMove_117 rfl rfl ?_
                      refine j_goto (tgt := 125) C dX8_findMove_118 rfl ?_
                      refine j_put' C fpX8_163 dX8_findMove_125 (Nat.lt_of_lt_of_le (by decide) hN) (fun _ => rfl) rfl (Nat.le_of_ble_eq_true rfl) rfl rfl (fun τ43 hz_44 hw_45 => ?_)
                      refine j_aload_n C dX8_findMove_128 rfl rfl ?_
                      refine j_iload C dX8_findMove_129 rfl ?_
                      refine j_ifn_eq (tgt := 139) C dX8_findMove_131 rfl (by omega) (fun h => absurd h (by decide)) (fun _ => ?_)
                      refine j_iload C dX8_findMove_134 rfl ?_
                      refine j_goto (tgt := 143) C dX8_findMove_136 rfl ?_
                      refine j_put' C fpX8_177 dX8_findMove_143 (Nat.lt_of_lt_of_le (by decide) hN) (fun _ => rfl) rfl (Nat.le_of_ble_eq_true rfl) rfl rfl (fun τ46 hz_47 hw_48 => ?_)
                      refine j_aload_n C dX8_findMove_146 rfl rfl ?_
                      refine j_iload C dX8_findMove_147 rfl ?_
                      refine j_ifn_eq (tgt := 157) C dX8_findMove_149 rfl (by omega) (fun h => absurd h (by decide)) (fun _ => ?_)
                      refine j_iload C dX8_findMove_152 rfl ?_
                      refine j_goto (tgt := 161) C dX8_findMove_154 rfl ?_
                      refine j_put' C fpX8_166 dX8_findMove_161 (Nat.lt_of_lt_of_le (by decide) hN) (fun _ => rfl) rfl (Nat.le_of_ble_eq_true rfl) rfl rfl (fun τ49 hz_50 hw_51 => ?_)
                      refine j_iinc (L' := [some (.ref (gad g (84))), some (.int (ps)), some (.int (nI (0))), some (.int (nI (l))), some (.int (nI (x + 1))), some (.int (nI (costN a (updN w l x) u))), some (.int (nI (1))), some (.int (nI (1)))]) C dX8_findMove_164 rfl (nI_inc _) (by decide) rfl ?_
                      refine j_goto (tgt := 25) C dX8_findMove_167 rfl ?_
                      refine J_loc (L' := [some (.ref (gad g (84))), some (.int (ps)), some (.int (bI (!hd))), some (.int (nI (l))), some (.int (nI (x + 1))), some (.int (nI (costN a (updN w l x) u))), some (.int (nI (1))), some (.int (nI (1)))]) (by rw [hhd]; rfl) ?_
                      refine J_clr 5 (L' := [some (.ref (gad g (84))), some (.int (ps)), some (.int (bI (!hd))), some (.int (nI (l))), some (.int (nI (x + 1))), none, some (.int (nI (1))), some (.int (nI (1)))]) rfl ?_
                      refine J_clr 6 (L' := [some (.ref (gad g (84))), some (.int (ps)), some (.int (bI (!hd))), some (.int (nI (l))), some (.int (nI (x + 1))), none, none, some (.int (nI (1)))]) rfl ?_
                      refine J_clr 7 (L' := [some (.ref (gad g (84))), some (.int (ps)), some (.int (bI (!hd))), some (.int (nI (l))), some (.int (nI (x + 1))), none, none, none]) rfl ?_
                      refine ih (21 - (x + 1)) (by omega) (x + 1) τ49 rfl (by omega) (by omega) (fun j n h => by rw [hz_50 _ _ (by omega), hz_47 _ _ (by omega), hz_44 _ _ (by omega), hp_3.1 _ _ (by omega)]; exact hf j n h) ?_
                      have e : (tryF a w u hd le tl l x b) = some (l, x, costN a (updN w l x) u) := by
                        rw [show x = (x - 1) + 1 by omega, tryF, if_neg (by omega), show x - 1 + 1 = x by omega, hbe]
                        exact if_pos (by first | (simp [lessB, okT, hhd]; done) | (simp [lessB, okT, hhd]; omega) | (simp only [okT, hfb]; simp [lessB]; done) | (simp only [okT, hfb]; simp [lessB]; omega))
                      rw [show x + 1 - 1 = x by omega, e]
                      exact ⟨⟨by rw [hz_50 _ _ (by omega), hz_47 _ _ (by omega)]; exact hw_45, by rw [hz_50 _ _ (by omega)]; exact hw_48, hw_51⟩, by omega, by omega, by omega⟩
              · refine J_loc (L' := [some (.ref (gad g (84))), some (.int (ps)), some (.int (nI (1))), some (.int (nI (l))), some (.int (nI (x))), some (.int (nI (costN a (updN w l x) u))), none, none]) (by rw [hhd]; rfl) ?_
                refine j_iload_n C dX8_findMove_57 rfl rfl ?_
                refine j_ifn_ne (tgt := 83) C dX8_findMove_58 rfl (by omega) (fun _ => ?_) (fun h => absurd h (by decide))
                refine j_iconst (v := nI 1) C dX8_findMove_83 rfl ?_
                refine j_goto (tgt := 88) C dX8_findMove_84 rfl ?_
                refine j_istore (L' := [some (.ref (gad g (84))), some (.int (ps)), some (.int (nI (1))), some (.int (nI (l))), some (.int (nI (x))), some (.int (nI (costN a (updN w l x) u))), some (.int (nI (1))), none]) C dX8_findMove_88 (by decide) rfl ?_
                refine j_iload C dX8_findMove_90 rfl ?_
                refine j_ifn_eq (tgt := 108) C dX8_findMove_92 rfl (by omega) (fun h => absurd h (by decide)) (fun _ => ?_)
                refine j_iload C dX8_findMove_95 rfl ?_
                refine j_aload_n C dX8_findMove_97 rfl rfl ?_
                refine j_get C flX8_166 dX8_findMove_98 (Nat.lt_of_lt_of_le (by decide) hN) rfl rfl ?_
                refine j_top ((hp_3.1 _ _ (by omega)).trans (hb.2)) ?_
                refine j_icmpn_ge (tgt := 108) C dX8_findMove_101 rfl (by omega) (by omega) (fun h101 => ?_) (fun h101 => ?_)
                · refine j_iconst (v := nI 0) C dX8_findMove_108 rfl ?_
                  refine j_istore (L' := [some (.ref (gad g (84))), some (.int (ps)), some (.int (nI (1))), some (.int (nI (l))), some (.int (nI (x))), some (.int (nI (costN a (updN w l x) u))), some (.int (nI (1))), some (.int (nI (0)))]) C dX8_findMove_109 (by decide) rfl ?_
                  refine j_aload_n C dX8_findMove_111 rfl rfl ?_
                  refine j_iload C dX8_findMove_112 rfl ?_
                  refine j_ifn_eq (tgt := 121) C dX8_findMove_114 rfl (by omega) (fun _ => ?_) (fun h => absurd h (by decide))
                  refine j_aload_n C dX8_findMove_121 rfl rfl ?_
                  refine j_get C flX8_163 dX8_findMove_122 (Nat.lt_of_lt_of_le (by decide) hN) rfl rfl ?_
                  refine j_top ((hp_3.1 _ _ (by omega)).trans (hb.1)) ?_
                  refine j_put' C fpX8_163 dX8_findMove_125 (Nat.lt_of_lt_of_le (by decide) hN) (fun _ => rfl) rfl (Nat.le_of_ble_eq_true rfl) rfl rfl (fun τ52 hz_53 hw_54 => ?_)
                  refine j_aload_n C dX8_findMove_128 rfl rfl ?_
                  refine j_iload C dX8_findMove_129 rfl ?_
                  refine j_ifn_eq (tgt := 139) C dX8_findMove_131 rfl (by omega) (fun _ => ?_) (fun h => absurd h (by decide))
                  refine j_aload_n C dX8_findMove_139 rfl rfl ?_
                  refine j_get C flX8_177 dX8_findMove_140 (Nat.lt_of_lt_of_le (by decide) hN) rfl rfl ?_
                  refine j_put' C fpX8_177 dX8_findMove_143 (Nat.lt_of_lt_of_le (by decide) hN) (fun _ => rfl) rfl (Nat.le_of_ble_eq_true rfl) rfl rfl (fun τ55 hz_56 hw_57 => ?_)
                  refine j_aload_n C dX8_findMove_146 rfl rfl ?_
                  refine j_iload C dX8_findMove_147 rfl ?_
                  refine j_ifn_eq (tgt := 157) C dX8_findMove_149 rfl (by omega) (fun _ => ?_) (fun h => absurd h (by decide))
                  refine j_aload_n C dX8_findMove_157 rfl rfl ?_
                  refine j_get C flX8_166 dX8_findMove_158 (Nat.lt_of_lt_of_le (by decide) hN) rfl rfl ?_
                  refine j_top ((hz_56 _ _ (by omega)).trans ((hz_53 _ _ (by omega)).trans ((hp_3.1 _ _ (by omega)).trans (hb.2)))) ?_
                  refine j_put' C fpX8_166 dX8_findMove_161 (Nat.lt_of_lt_of_le (by decide) hN) (fun _ => rfl) rfl (Nat.le_of_ble_eq_true rfl) rfl rfl (fun τ58 hz_59 hw_60 => ?_)
                  refine j_iinc (L' := [some (.ref (gad g (84))), some (.int (ps)), some (.int (nI (1))), some (.int (nI (l))), some (.int (nI (x + 1))), some (.int (nI (costN a (updN w l x) u))), some (.int (nI (1))), some (.int (nI (0)))]) C dX8_findMove_164 rfl (nI_inc _) (by decide) rfl ?_
                  refine j_goto (tgt := 25) C dX8_findMove_167 rfl ?_
                  refine J_loc (L' := [some (.ref (gad g (84))), some (.int (ps)), some (.int (bI (!hd))), some (.int (nI (l))), some (.int (nI (x + 1))), some (.int (nI (costN a (updN w l x) u))), some (.int (nI (1))), some (.int (nI (0)))]) (by rw [hhd]; rfl) ?_
                  refine J_clr 5 (L' := [some (.ref (gad g (84))), some (.int (ps)), some (.int (bI (!hd))), some (.int (nI (l))), some (.int (nI (x + 1))), none, some (.int (nI (1))), some (.int (nI (0)))]) rfl ?_
                  refine J_clr 6 (L' := [some (.ref (gad g (84))), some (.int (ps)), some (.int (bI (!hd))), some (.int (nI (l))), some (.int (nI (x + 1))), none, none, some (.int (nI (0)))]) rfl ?_
                  refine J_clr 7 (L' := [some (.ref (gad g (84))), some (.int (ps)), some (.int (bI (!hd))), some (.int (nI (l))), some (.int (nI (x + 1))), none, none, none]) rfl ?_
                  refine ih (21 - (x + 1)) (by omega) (x + 1) τ58 rfl (by omega) (by omega) (fun j n h => by rw [hz_59 _ _ (by omega), hz_56 _ _ (by omega), hz_53 _ _ (by omega), hp_3.1 _ _ (by omega)]; exact hf j n h) ?_
                  have e : (tryF a w u hd le tl l x b) = (tryF a w u hd le tl l (x - 1) b) := by
                    rw [show x = (x - 1) + 1 by omega, tryF, if_neg (by omega), show x - 1 + 1 = x by omega]
                    rw [hbe]
                    exact if_neg (by first | (simp [lessB]; omega) | (simp only [okT, hfb, hhd]; simp; done) | (simp only [okT, hfb, hhd]; simp [lessB]; omega))
                  rw [show x + 1 - 1 = x by omega, e, hbe]
                  exact ⟨by rw [hz_59 _ _ (by omega), hz_56 _ _ (by omega)]; exact hw_54, hw_60⟩
                · refine j_iconst (v := nI 1) C dX8_findMove_104 rfl ?_
                  refine j_goto (tgt := 109) C dX8_findMove_105 rfl ?_
                  refine j_istore (L' := [some (.ref (gad g (84))), some (.int (ps)), some (.int (nI (1))), some (.int (nI (l))), some (.int (nI (x))), some (.int (nI (costN a (updN w l x) u))), some (.int (nI (1))), some (.int (nI (1)))]) C dX8_findMove_109 (by decide) rfl ?_
                  refine j_aload_n C dX8_findMove_111 rfl rfl ?_
                  refine j_iload C dX8_findMove_112 rfl ?_
                  refine j_ifn_eq (tgt := 121) C dX8_findMove_114 rfl (by omega) (fun h => absurd h (by decide)) (fun _ => ?_)
                  refine j_iload_n C dX8_findMove_117 rfl rfl ?_
                  refine j_goto (tgt := 125) C dX8_findMove_118 rfl ?_
                  refine j_put' C fpX8_163 dX8_findMove_125 (Nat.lt_of_lt_of_le (by decide) hN) (fun _ => rfl) rfl (Nat.le_of_ble_eq_true rfl) rfl rfl (fun τ61 hz_62 hw_63 => ?_)
                  refine j_aload_n C dX8_findMove_128 rfl rfl ?_
                  refine j_iload C dX8_findMove_129 rfl ?_
                  refine j_ifn_eq (tgt := 139) C dX8_findMove_131 rfl (by omega) (fun h => absurd h (by decide)) (fun _ => ?_)
                  refine j_iload C dX8_findMove_134 rfl ?_
                  refine j_goto (tgt := 143) C dX8_findMove_136 rfl ?_
                  refine j_put' C fpX8_177 dX8_findMove_143 (Nat.lt_of_lt_of_le (by decide) hN) (fun _ => rfl) rfl (Nat.le_of_ble_eq_true rfl) rfl rfl (fun τ64 hz_65 hw_66 => ?_)
                  refine j_aload_n C dX8_findMove_146 rfl rfl ?_
                  refine j_iload C dX8_findMove_147 rfl ?_
                  refine j_ifn_eq (tgt := 157) C dX8_findMove_149 rfl (by omega) (fun h => absurd h (by decide)) (fun _ => ?_)
                  refine j_iload C dX8_findMove_152 rfl ?_
                  refine j_goto (tgt := 161) C dX8_findMove_154 rfl ?_
                  refine j_put' C fpX8_166 dX8_findMove_161 (Nat.lt_of_lt_of_le (by decide) hN) (fun _ => rfl) rfl (Nat.le_of_ble_eq_true rfl) rfl rfl (fun τ67 hz_68 hw_69 => ?_)
                  refine j_iinc (L' := [some (.ref (gad g (84))), some (.int (ps)), some (.int (nI (1))), some (.int (nI (l))), some (.int (nI (x + 1))), some (.int (nI (costN a (updN w l x) u))), some (.int (nI (1))), some (.int (nI (1)))]) C dX8_findMove_164 rfl (nI_inc _) (by decide) rfl ?_
                  refine j_goto (tgt := 25) C dX8_findMove_167 rfl ?_
                  refine J_loc (L' := [some (.ref (gad g (84))), some (.int (ps)), some (.int (bI (!hd))), some (.int (nI (l))), some (.int (nI (x + 1))), some (.int (nI (costN a (updN w l x) u))), some (.int (nI (1))), some (.int (nI (1)))]) (by rw [hhd]; rfl) ?_
                  refine J_clr 5 (L' := [some (.ref (gad g (84))), some (.int (ps)), some (.int (bI (!hd))), some (.int (nI (l))), some (.int (nI (x + 1))), none, some (.int (nI (1))), some (.int (nI (1)))]) rfl ?_
                  refine J_clr 6 (L' := [some (.ref (gad g (84))), some (.int (ps)), some (.int (bI (!hd))), some (.int (nI (l))), some (.int (nI (x + 1))), none, none, some (.int (nI (1)))]) rfl ?_
                  refine J_clr 7 (L' := [some (.ref (gad g (84))), some (.int (ps)), some (.int (bI (!hd))), some (.int (nI (l))), some (.int (nI (x + 1))), none, none, none]) rfl ?_
                  refine ih (21 - (x + 1)) (by omega) (x + 1) τ67 rfl (by omega) (by omega) (fun j n h => by rw [hz_68 _ _ (by omega), hz_65 _ _ (by omega), hz_62 _ _ (by omega), hp_3.1 _ _ (by omega)]; exact hf j n h) ?_
                  have e : (tryF a w u hd le tl l x b) = some (l, x, costN a (updN w l x) u) := by
                    rw [show x = (x - 1) + 1 by omega, tryF, if_neg (by omega), show x - 1 + 1 = x by omega, hbe]
                    exact if_pos (by first | (simp [lessB, okT, hhd]; done) | (simp [lessB, okT, hhd]; omega) | (simp only [okT, hfb]; simp [lessB]; done) | (simp only [okT, hfb]; simp [lessB]; omega))
                  rw [show x + 1 - 1 = x by omega, e]
                  exact ⟨⟨by rw [hz_68 _ _ (by omega), hz_65 _ _ (by omega)]; exact hw_63, by rw [hz_68 _ _ (by omega)]; exact hw_66, hw_69⟩, by omega, by omega, by omega⟩
            · rw [hbe] at hb
              obtain ⟨hbl, hbx, hbc⟩ := hb.2
              refine j_aload_n C dX8_findMove_48 rfl rfl ?_
              refine j_iload_n C dX8_findMove_49 rfl rfl ?_
              refine j_iload C dX8_findMove_50 rfl ?_
              refine j_calli (As := [.int (nI (l)), .int (nI (x))]) (rest := []) C (tX8_costBy hN (hI.kept (fun j n h => hf j n (by omega))) hO (hW.kept hm12 (fun n h => hf _ _ (by omega))) hw (l := l) (x := x) (by omega) (by omega) (by omega)) cdX8_costBy mlX8_169 dX8_findMove_52 (by decide) (by decide) (Nat.lt_of_lt_of_le (by decide) hN) rfl rfl rfl rfl rfl (Nat.le_of_ble_eq_true rfl) (fun rr_71 τ70 hp_72 => ?_)
              have hr_hp_72 := hp_72.2
              subst hr_hp_72
              refine j_istore (L' := [some (.ref (gad g (84))), some (.int (ps)), some (.int (bI (!hd))), some (.int (nI (l))), some (.int (nI (x))), some (.int (nI (costN a (updN w l x) u))), none, none]) C dX8_findMove_55 (by decide) rfl ?_
              rcases (show hd = true ∨ hd = false by cases hd <;> simp) with hhd | hhd
              · refine J_loc (L' := [some (.ref (gad g (84))), some (.int (ps)), some (.int (nI (0))), some (.int (nI (l))), some (.int (nI (x))), some (.int (nI (costN a (updN w l x) u))), none, none]) (by rw [hhd]; rfl) ?_
                refine j_iload_n C dX8_findMove_57 rfl rfl ?_
                refine j_ifn_ne (tgt := 83) C dX8_findMove_58 rfl (by omega) (fun h => absurd h (by decide)) (fun _ => ?_)
                refine j_aload_n C dX8_findMove_61 rfl rfl ?_
                refine j_iload_n C dX8_findMove_62 rfl rfl ?_
                refine j_iload C dX8_findMove_63 rfl ?_
                refine j_calli (As := [.int (nI (l)), .int (nI (x))]) (rest := []) C (tX8_isTabuBy hN (m := nM a) (w := w) (tl := tl) (by rw [hp_72.1 _ _ (by omega), hf _ _ (by omega)]; exact hI.1.2.1) hm12 (fun k hk => by rw [hp_72.1 _ _ (by omega), hf _ _ (by omega)]; exact hW.1 k hk) (hT.kept (fun n h => by rw [hp_72.1 _ _ (by omega), hf _ _ (by omega)])) hl6 (l := l) (x := x) (by omega)) cdX8_isTabuBy mlX8_173 dX8_findMove_65 (by decide) (by decide) (Nat.lt_of_lt_of_le (by decide) hN) rfl rfl rfl rfl rfl (Nat.le_of_ble_eq_true rfl) (fun rr_74 τ73 hp_75 => ?_)
                obtain ⟨hs, hr⟩ := hp_75
                replace hs := hs.symm
                subst hs
                rcases hfb : decide (mkW (updN w l x) (nM a) ∈ tl) with _ | _ <;> rw [hfb] at hr <;> subst hr
                · refine j_ifn_eq (tgt := 83) C dX8_findMove_68 rfl (by omega) (fun _ => ?_) (fun h => absurd h (by decide))
                  refine j_iconst (v := nI 1) C dX8_findMove_83 rfl ?_
                  refine j_goto (tgt := 88) C dX8_findMove_84 rfl ?_
                  refine j_istore (L' := [some (.ref (gad g (84))), some (.int (ps)), some (.int (nI (0))), some (.int (nI (l))), some (.int (nI (x))), some (.int (nI (costN a (updN w l x) u))), some (.int (nI (1))), none]) C dX8_findMove_88 (by decide) rfl ?_
                  refine j_iload C dX8_findMove_90 rfl ?_
                  refine j_ifn_eq (tgt := 108) C dX8_findMove_92 rfl (by omega) (fun h => absurd h (by decide)) (fun _ => ?_)
                  refine j_iload C dX8_findMove_95 rfl ?_
                  refine j_aload_n C dX8_findMove_97 rfl rfl ?_
                  refine j_get C flX8_166 dX8_findMove_98 (Nat.lt_of_lt_of_le (by decide) hN) rfl rfl ?_
                  refine j_top ((hp_72.1 _ _ (by omega)).trans (hb.1.2.2)) ?_
                  refine j_icmpn_ge (tgt := 108) C dX8_findMove_101 rfl (by omega) (by omega) (fun h101 => ?_) (fun h101 => ?_)
                  · refine j_iconst (v := nI 0) C dX8_findMove_108 rfl ?_
                    refine j_istore (L' := [some (.ref (gad g (84))), some (.int (ps)), some (.int (nI (0))), some (.int (nI (l))), some (.int (nI (x))), some (.int (nI (costN a (updN w l x) u))), some (.int (nI (1))), some (.int (nI (0)))]) C dX8_findMove_109 (by decide) rfl ?_
                    refine j_aload_n C dX8_findMove_111 rfl rfl ?_
                    refine j_iload C dX8_findMove_112 rfl ?_
                    refine j_ifn_eq (tgt := 121) C dX8_findMove_114 rfl (by omega) (fun _ => ?_) (fun h => absurd h (by decide))
                    refine j_aload_n C dX8_findMove_121 rfl rfl ?_
                    refine j_get C flX8_163 dX8_findMove_122 (Nat.lt_of_lt_of_le (by decide) hN) rfl rfl ?_
                    refine j_top ((hp_72.1 _ _ (by omega)).trans (hb.1.1)) ?_
                    refine j_put' C fpX8_163 dX8_findMove_125 (Nat.lt_of_lt_of_le (by decide) hN) (fun _ => rfl) rfl (Nat.le_of_ble_eq_true rfl) rfl rfl (fun τ76 hz_77 hw_78 => ?_)
                    refine j_aload_n C dX8_findMove_128 rfl rfl ?_
                    refine j_iload C dX8_findMove_129 rfl ?_
                    refine j_ifn_eq (tgt := 139) C dX8_findMove_131 rfl (by omega) (fun _ => ?_) (fun h => absurd h (by decide))
                    refine j_aload_n C dX8_findMove_139 rfl rfl ?_
                    refine j_get C flX8_177 dX8_findMove_140 (Nat.lt_of_lt_of_le (by decide) hN) rfl rfl ?_
                    refine j_top ((hz_77 _ _ (by omega)).trans ((hp_72.1 _ _ (by omega)).trans (hb.1.2.1))) ?_
                    refine j_put' C fpX8_177 dX8_findMove_143 (Nat.lt_of_lt_of_le (by decide) hN) (fun _ => rfl) rfl (Nat.le_of_ble_eq_true rfl) rfl rfl (fun τ79 hz_80 hw_81 => ?_)
                    refine j_aload_n C dX8_findMove_146 rfl rfl ?_
                    refine j_iload C dX8_findMove_147 rfl ?_
                    refine j_ifn_eq (tgt := 157) C dX8_findMove_149 rfl (by omega) (fun _ => ?_) (fun h => absurd h (by decide))
                    refine j_aload_n C dX8_findMove_157 rfl rfl ?_
                    refine j_get C flX8_166 dX8_findMove_158 (Nat.lt_of_lt_of_le (by decide) hN) rfl rfl ?_
                    refine j_top ((hz_80 _ _ (by omega)).trans ((hz_77 _ _ (by omega)).trans ((hp_72.1 _ _ (by omega)).trans (hb.1.2.2)))) ?_
                    refine j_put' C fpX8_166 dX8_findMove_161 (Nat.lt_of_lt_of_le (by decide) hN) (fun _ => rfl) rfl (Nat.le_of_ble_eq_true rfl) rfl rfl (fun τ82 hz_83 hw_84 => ?_)
                    refine j_iinc (L' := [some (.ref (gad g (84))), some (.int (ps)), some (.int (nI (0))), some (.int (nI (l))), some (.int (nI (x + 1))), some (.int (nI (costN a (updN w l x) u))), some (.int (nI (1))), some (.int (nI (0)))]) C dX8_findMove_164 rfl (nI_inc _) (by decide) rfl ?_
                    refine j_goto (tgt := 25) C dX8_findMove_167 rfl ?_
                    refine J_loc (L' := [some (.ref (gad g (84))), some (.int (ps)), some (.int (bI (!hd))), some (.int (nI (l))), some (.int (nI (x + 1))), some (.int (nI (costN a (updN w l x) u))), some (.int (nI (1))), some (.int (nI (0)))]) (by rw [hhd]; rfl) ?_
                    refine J_clr 5 (L' := [some (.ref (gad g (84))), some (.int (ps)), some (.int (bI (!hd))), some (.int (nI (l))), some (.int (nI (x + 1))), none, some (.int (nI (1))), some (.int (nI (0)))]) rfl ?_
                    refine J_clr 6 (L' := [some (.ref (gad g (84))), some (.int (ps)), some (.int (bI (!hd))), some (.int (nI (l))), some (.int (nI (x + 1))), none, none, some (.int (nI (0)))]) rfl ?_
                    refine J_clr 7 (L' := [some (.ref (gad g (84))), some (.int (ps)), some (.int (bI (!hd))), some (.int (nI (l))), some (.int (nI (x + 1))), none, none, none]) rfl ?_
                    refine ih (21 - (x + 1)) (by omega) (x + 1) τ82 rfl (by omega) (by omega) (fun j n h => by rw [hz_83 _ _ (by omega), hz_80 _ _ (by omega), hz_77 _ _ (by omega), hp_72.1 _ _ (by omega)]; exact hf j n h) ?_
                    have e : (tryF a w u hd le tl l x b) = (tryF a w u hd le tl l (x - 1) b) := by
                      rw [show x = (x - 1) + 1 by omega, tryF, if_neg (by omega), show x - 1 + 1 = x by omega]
                      rw [hbe]
                      exact if_neg (by first | (simp [lessB]; omega) | (simp only [okT, hfb, hhd]; simp; done) | (simp only [okT, hfb, hhd]; simp [lessB]; omega))
                    rw [show x + 1 - 1 = x by omega, e, hbe]
                    exact ⟨⟨by rw [hz_83 _ _ (by omega), hz_80 _ _ (by omega)]; exact hw_78, by rw [hz_83 _ _ (by omega)]; exact hw_81, hw_84⟩, by omega, by omega, by omega⟩
                  · refine j_iconst (v := nI 1) C dX8_findMove_104 rfl ?_
                    refine j_goto (tgt := 109) C dX8_findMove_105 rfl ?_
                    refine j_istore (L' := [some (.ref (gad g (84))), some (.int (ps)), some (.int (nI (0))), some (.int (nI (l))), some (.int (nI (x))), some (.int (nI (costN a (updN w l x) u))), some (.int (nI (1))), some (.int (nI (1)))]) C dX8_findMove_109 (by decide) rfl ?_
                    refine j_aload_n C dX8_findMove_111 rfl rfl ?_
                    refine j_iload C dX8_findMove_112 rfl ?_
                    refine j_ifn_eq (tgt := 121) C dX8_findMove_114 rfl (by omega) (fun h => absurd h (by decide)) (fun _ => ?_)
                    refine j_iload_n C dX8_findMove_117 rfl rfl ?_
                    refine j_goto (tgt := 125) C dX8_findMove_118 rfl ?_
                    refine j_put' C fpX8_163 dX8_findMove_125 (Nat.lt_of_lt_of_le (by decide) hN) (fun _ => rfl) rfl (Nat.le_of_ble_eq_true rfl) rfl rfl (fun τ85 hz_86 hw_87 => ?_)
                    refine j_aload_n C dX8_findMove_128 rfl rfl ?_
                    refine j_iload C dX8_findMove_129 rfl ?_
                    refine j_ifn_eq (tgt := 139) C dX8_findMove_131 rfl (by omega) (fun h => absurd h (by decide)) (fun _ => ?_)
                    refine j_iload C dX8_findMove_134 rfl ?_
                    refine j_goto (tgt := 143) C dX8_findMove_136 rfl ?_
                    refine j_put' C fpX8_177 dX8_findMove_143 (Nat.lt_of_lt_of_le (by decide) hN) (fun _ => rfl) rfl (Nat.le_of_ble_eq_true rfl) rfl rfl (fun τ88 hz_89 hw_90 => ?_)
                    refine j_aload_n C dX8_findMove_146 rfl rfl ?_
                    refine j_iload C dX8_findMove_147 rfl ?_
                    refine j_ifn_eq (tgt := 157) C dX8_findMove_149 rfl (by omega) (fun h => absurd h (by decide)) (fun _ => ?_)
                    refine j_iload C dX8_findMove_152 rfl ?_
                    refine j_goto (tgt := 161) C dX8_findMove_154 rfl ?_
                    refine j_put' C fpX8_166 dX8_findMove_161 (Nat.lt_of_lt_of_le (by decide) hN) (fun _ => rfl) rfl (Nat.le_of_ble_eq_true rfl) rfl rfl (fun τ91 hz_92 hw_93 => ?_)
                    refine j_iinc (L' := [some (.ref (gad g (84))), some (.int (ps)), some (.int (nI (0))), some (.int (nI (l))), some (.int (nI (x + 1))), some (.int (nI (costN a (updN w l x) u))), some (.int (nI (1))), some (.int (nI (1)))]) C dX8_findMove_164 rfl (nI_inc _) (by decide) rfl ?_
                    refine j_goto (tgt := 25) C dX8_findMove_167 rfl ?_
                    refine J_loc (L' := [some (.ref (gad g (84))), some (.int (ps)), some (.int (bI (!hd))), some (.int (nI (l))), some (.int (nI (x + 1))), some (.int (nI (costN a (updN w l x) u))), some (.int (nI (1))), some (.int (nI (1)))]) (by rw [hhd]; rfl) ?_
                    refine J_clr 5 (L' := [some (.ref (gad g (84))), some (.int (ps)), some (.int (bI (!hd))), some (.int (nI (l))), some (.int (nI (x + 1))), none, some (.int (nI (1))), some (.int (nI (1)))]) rfl ?_
                    refine J_clr 6 (L' := [some (.ref (gad g (84))), some (.int (ps)), some (.int (bI (!hd))), some (.int (nI (l))), some (.int (nI (x + 1))), none, none, some (.int (nI (1)))]) rfl ?_
                    refine J_clr 7 (L' := [some (.ref (gad g (84))), some (.int (ps)), some (.int (bI (!hd))), some (.int (nI (l))), some (.int (nI (x + 1))), none, none, none]) rfl ?_
                    refine ih (21 - (x + 1)) (by omega) (x + 1) τ91 rfl (by omega) (by omega) (fun j n h => by rw [hz_92 _ _ (by omega), hz_89 _ _ (by omega), hz_86 _ _ (by omega), hp_72.1 _ _ (by omega)]; exact hf j n h) ?_
                    have e : (tryF a w u hd le tl l x b) = some (l, x, costN a (updN w l x) u) := by
                      rw [show x = (x - 1) + 1 by omega, tryF, if_neg (by omega), show x - 1 + 1 = x by omega, hbe]
                      exact if_pos (by first | (simp [lessB, okT, hhd]; done) | (simp [lessB, okT, hhd]; omega) | (simp only [okT, hfb]; simp [lessB]; done) | (simp only [okT, hfb]; simp [lessB]; omega))
                    rw [show x + 1 - 1 = x by omega, e]
                    exact ⟨⟨by rw [hz_92 _ _ (by omega), hz_89 _ _ (by omega)]; exact hw_87, by rw [hz_92 _ _ (by omega)]; exact hw_90, hw_93⟩, by omega, by omega, by omega⟩
                · refine j_ifn_eq (tgt := 83) C dX8_findMove_68 rfl (by omega) (fun h => absurd h (by decide)) (fun _ => ?_)
                  refine j_iload C dX8_findMove_71 rfl ?_
                  refine j_aload_n C dX8_findMove_73 rfl rfl ?_
                  refine j_get C flX8_25 dX8_findMove_74 (Nat.lt_of_lt_of_le (by decide) hN) rfl rfl ?_
                  refine j_bipush (v := nI 13) C dX8_findMove_77 rfl ?_
                  refine j_iald C dX8_findMove_79 (Nat.lt_of_lt_of_le (by decide) hN) (fun _ => rfl) (by decide) (by omega) ?_
                  refine j_top ((hp_72.1 _ _ (by omega)).trans ((hf _ _ (by omega)).trans (hle))) ?_
                  refine j_icmpn_ge (tgt := 87) C dX8_findMove_80 rfl (by omega) (by omega) (fun h80 => ?_) (fun h80 => ?_)
                  · refine j_iconst (v := nI 0) C dX8_findMove_87 rfl ?_
                    refine j_istore (L' := [some (.ref (gad g (84))), some (.int (ps)), some (.int (nI (0))), some (.int (nI (l))), some (.int (nI (x))), some (.int (nI (costN a (updN w l x) u))), some (.int (nI (0))), none]) C dX8_findMove_88 (by decide) rfl ?_
                    refine j_iload C dX8_findMove_90 rfl ?_
                    refine j_ifn_eq (tgt := 108) C dX8_findMove_92 rfl (by omega) (fun _ => ?_) (fun h => absurd h (by decide))
                    refine j_iconst (v := nI 0) C dX8_findMove_108 rfl ?_
                    refine j_istore (L' := [some (.ref (gad g (84))), some (.int (ps)), some (.int (nI (0))), some (.int (nI (l))), some (.int (nI (x))), some (.int (nI (costN a (updN w l x) u))), some (.int (nI (0))), some (.int (nI (0)))]) C dX8_findMove_109 (by decide) rfl ?_
                    refine j_aload_n C dX8_findMove_111 rfl rfl ?_
                    refine j_iload C dX8_findMove_112 rfl ?_
                    refine j_ifn_eq (tgt := 121) C dX8_findMove_114 rfl (by omega) (fun _ => ?_) (fun h => absurd h (by decide))
                    refine j_aload_n C dX8_findMove_121 rfl rfl ?_
                    refine j_get C flX8_163 dX8_findMove_122 (Nat.lt_of_lt_of_le (by decide) hN) rfl rfl ?_
                    refine j_top ((hp_72.1 _ _ (by omega)).trans (hb.1.1)) ?_
                    refine j_put' C fpX8_163 dX8_findMove_125 (Nat.lt_of_lt_of_le (by decide) hN) (fun _ => rfl) rfl (Nat.le_of_ble_eq_true rfl) rfl rfl (fun τ94 hz_95 hw_96 => ?_)
                    refine j_aload_n C dX8_findMove_128 rfl rfl ?_
                    refine j_iload C dX8_findMove_129 rfl ?_
                    refine j_ifn_eq (tgt := 139) C dX8_findMove_131 rfl (by omega) (fun _ => ?_) (fun h => absurd h (by decide))
                    refine j_aload_n C dX8_findMove_139 rfl rfl ?_
                    refine j_get C flX8_177 dX8_findMove_140 (Nat.lt_of_lt_of_le (by decide) hN) rfl rfl ?_
                    refine j_top ((hz_95 _ _ (by omega)).trans ((hp_72.1 _ _ (by omega)).trans (hb.1.2.1))) ?_
                    refine j_put' C fpX8_177 dX8_findMove_143 (Nat.lt_of_lt_of_le (by decide) hN) (fun _ => rfl) rfl (Nat.le_of_ble_eq_true rfl) rfl rfl (fun τ97 hz_98 hw_99 => ?_)
                    refine j_aload_n C dX8_findMove_146 rfl rfl ?_
                    refine j_iload C dX8_findMove_147 rfl ?_
                    refine j_ifn_eq (tgt := 157) C dX8_findMove_149 rfl (by omega) (fun _ => ?_) (fun h => absurd h (by decide))
                    refine j_aload_n C dX8_findMove_157 rfl rfl ?_
                    refine j_get C flX8_166 dX8_findMove_158 (Nat.lt_of_lt_of_le (by decide) hN) rfl rfl ?_
                    refine j_top ((hz_98 _ _ (by omega)).trans ((hz_95 _ _ (by omega)).trans ((hp_72.1 _ _ (by omega)).trans (hb.1.2.2)))) ?_
                    refine j_put' C fpX8_166 dX8_findMove_161 (Nat.lt_of_lt_of_le (by decide) hN) (fun _ => rfl) rfl (Nat.le_of_ble_eq_true rfl) rfl rfl (fun τ100 hz_101 hw_102 => ?_)
                    refine j_iinc (L' := [some (.ref (gad g (84))), some (.int (ps)), some (.int (nI (0))), some (.int (nI (l))), some (.int (nI (x + 1))), some (.int (nI (costN a (updN w l x) u))), some (.int (nI (0))), some (.int (nI (0)))]) C dX8_findMove_164 rfl (nI_inc _) (by decide) rfl ?_
                    refine j_goto (tgt := 25) C dX8_findMove_167 rfl ?_
                    refine J_loc (L' := [some (.ref (gad g (84))), some (.int (ps)), some (.int (bI (!hd))), some (.int (nI (l))), some (.int (nI (x + 1))), some (.int (nI (costN a (updN w l x) u))), some (.int (nI (0))), some (.int (nI (0)))]) (by rw [hhd]; rfl) ?_
                    refine J_clr 5 (L' := [some (.ref (gad g (84))), some (.int (ps)), some (.int (bI (!hd))), some (.int (nI (l))), some (.int (nI (x + 1))), none, some (.int (nI (0))), some (.int (nI (0)))]) rfl ?_
                    refine J_clr 6 (L' := [some (.ref (gad g (84))), some (.int (ps)), some (.int (bI (!hd))), some (.int (nI (l))), some (.int (nI (x + 1))), none, none, some (.int (nI (0)))]) rfl ?_
                    refine J_clr 7 (L' := [some (.ref (gad g (84))), some (.int (ps)), some (.int (bI (!hd))), some (.int (nI (l))), some (.int (nI (x + 1))), none, none, none]) rfl ?_
                    refine ih (21 - (x + 1)) (by omega) (x + 1) τ100 rfl (by omega) (by omega) (fun j n h => by rw [hz_101 _ _ (by omega), hz_98 _ _ (by omega), hz_95 _ _ (by omega), hp_72.1 _ _ (by omega)]; exact hf j n h) ?_
                    have e : (tryF a w u hd le tl l x b) = (tryF a w u hd le tl l (x - 1) b) := by
                      rw [show x = (x - 1) + 1 by omega, tryF, if_neg (by omega), show x - 1 + 1 = x by omega]
                      rw [hbe]
                      exact if_neg (by first | (simp [lessB]; omega) | (simp only [okT, hfb, hhd]; simp; done) | (simp only [okT, hfb, hhd]; simp [lessB]; omega))
                    rw [show x + 1 - 1 = x by omega, e, hbe]
                    exact ⟨⟨by rw [hz_101 _ _ (by omega), hz_98 _ _ (by omega)]; exact hw_96, by rw [hz_101 _ _ (by omega)]; exact hw_99, hw_102⟩, by omega, by omega, by omega⟩
                  · refine j_iconst (v := nI 1) C dX8_findMove_83 rfl ?_
                    refine j_goto (tgt := 88) C dX8_findMove_84 rfl ?_
                    refine j_istore (L' := [some (.ref (gad g (84))), some (.int (ps)), some (.int (nI (0))), some (.int (nI (l))), some (.int (nI (x))), some (.int (nI (costN a (updN w l x) u))), some (.int (nI (1))), none]) C dX8_findMove_88 (by decide) rfl ?_
                    refine j_iload C dX8_findMove_90 rfl ?_
                    refine j_ifn_eq (tgt := 108) C dX8_findMove_92 rfl (by omega) (fun h => absurd h (by decide)) (fun _ => ?_)
                    refine j_iload C dX8_findMove_95 rfl ?_
                    refine j_aload_n C dX8_findMove_97 rfl rfl ?_
                    refine j_get C flX8_166 dX8_findMove_98 (Nat.lt_of_lt_of_le (by decide) hN) rfl rfl ?_
                    refine j_top ((hp_72.1 _ _ (by omega)).trans (hb.1.2.2)) ?_
                    refine j_icmpn_ge (tgt := 108) C dX8_findMove_101 rfl (by omega) (by omega) (fun h101 => ?_) (fun h101 => ?_)
                    · refine j_iconst (v := nI 0) C dX8_findMove_108 rfl ?_
                      refine j_istore (L' := [some (.ref (gad g (84))), some (.int (ps)), some (.int (nI (0))), some (.int (nI (l))), some (.int (nI (x))), some (.int (nI (costN a (updN w l x) u))), some (.int (nI (1))), some (.int (nI (0)))]) C dX8_findMove_109 (by decide) rfl ?_
                      refine j_aload_n C dX8_findMove_111 rfl rfl ?_
                      refine j_iload C dX8_findMove_112 rfl ?_
                      refine j_ifn_eq (tgt := 121) C dX8_findMove_114 rfl (by omega) (fun _ => ?_) (fun h => absurd h (by decide))
                      refine j_aload_n C dX8_findMove_121 rfl rfl ?_
                      refine j_get C flX8_163 dX8_findMove_122 (Nat.lt_of_lt_of_le (by decide) hN) rfl rfl ?_
                      refine j_top ((hp_72.1 _ _ (by omega)).trans (hb.1.1)) ?_
                      refine j_put' C fpX8_163 dX8_findMove_125 (Nat.lt_of_lt_of_le (by decide) hN) (fun _ => rfl) rfl (Nat.le_of_ble_eq_true rfl) rfl rfl (fun τ103 hz_104 hw_105 => ?_)
                      refine j_aload_n C dX8_findMove_128 rfl rfl ?_
                      refine j_iload C dX8_findMove_129 rfl ?_
                      refine j_ifn_eq (tgt := 139) C dX8_findMove_131 rfl (by omega) (fun _ => ?_) (fun h => absurd h (by decide))
                      refine j_aload_n C dX8_findMove_139 rfl rfl ?_
                      refine j_get C flX8_177 dX8_findMove_140 (Nat.lt_of_lt_of_le (by decide) hN) rfl rfl ?_
                      refine j_top ((hz_104 _ _ (by omega)).trans ((hp_72.1 _ _ (by omega)).trans (hb.1.2.1))) ?_
                      refine j_put' C fpX8_177 dX8_findMove_143 (Nat.lt_of_lt_of_le (by decide) hN) (fun _ => rfl) rfl (Nat.le_of_ble_eq_true rfl) rfl rfl (fun τ106 hz_107 hw_108 => ?_)
                      refine j_aload_n C dX8_findMove_146 rfl rfl ?_
                      refine j_iload C dX8_findMove_147 rfl ?_
                      refine j_ifn_eq (tgt := 157) C dX8_findMove_149 rfl (by omega) (fun _ => ?_) (fun h => absurd h (by decide))
                      refine j_aload_n C dX8_findMove_157 rfl rfl ?_
                      refine j_get C flX8_166 dX8_findMove_158 (Nat.lt_of_lt_of_le (by decide) hN) rfl rfl ?_
                      refine j_top ((hz_107 _ _ (by omega)).trans ((hz_104 _ _ (by omega)).trans ((hp_72.1 _ _ (by omega)).trans (hb.1.2.2)))) ?_
                      refine j_put' C fpX8_166 dX8_findMove_161 (Nat.lt_of_lt_of_le (by decide) hN) (fun _ => rfl) rfl (Nat.le_of_ble_eq_true rfl) rfl rfl (fun τ109 hz_110 hw_111 => ?_)
                      refine j_iinc (L' := [some (.ref (gad g (84))), some (.int (ps)), some (.int (nI (0))), some (.int (nI (l))), some (.int (nI (x + 1))), some (.int (nI (costN a (updN w l x) u))), some (.int (nI (1))), some (.int (nI (0)))]) C dX8_findMove_164 rfl (nI_inc _) (by decide) rfl ?_
                      refine j_goto (tgt := 25) C dX8_findMove_167 rfl ?_
                      refine J_loc (L' := [some (.ref (gad g (84))), some (.int (ps)), some (.int (bI (!hd))), some (.int (nI (l))), some (.int (nI (x + 1))), some (.int (nI (costN a (updN w l x) u))), some (.int (nI (1))), some (.int (nI (0)))]) (by rw [hhd]; rfl) ?_
                      refine J_clr 5 (L' := [some (.ref (gad g (84))), some (.int (ps)), some (.int (bI (!hd))), some (.int (nI (l))), some (.int (nI (x + 1))), none, some (.int (nI (1))), some (.int (nI (0)))]) rfl ?_
                      refine J_clr 6 (L' := [some (.ref (gad g (84))), some (.int (ps)), some (.int (bI (!hd))), some (.int (nI (l))), some (.int (nI (x + 1))), none, none, some (.int (nI (0)))]) rfl ?_
                      refine J_clr 7 (L' := [some (.ref (gad g (84))), some (.int (ps)), some (.int (bI (!hd))), some (.int (nI (l))), some (.int (nI (x + 1))), none, none, none]) rfl ?_
                      refine ih (21 - (x + 1)) (by omega) (x + 1) τ109 rfl (by omega) (by omega) (fun j n h => by rw [hz_110 _ _ (by omega), hz_107 _ _ (by omega), hz_104 _ _ (by omega), hp_72.1 _ _ (by omega)]; exact hf j n h) ?_
                      have e : (tryF a w u hd le tl l x b) = (tryF a w u hd le tl l (x - 1) b) := by
                        rw [show x = (x - 1) + 1 by omega, tryF, if_neg (by omega), show x - 1 + 1 = x by omega]
                        rw [hbe]
                        exact if_neg (by first | (simp [lessB]; omega) | (simp only [okT, hfb, hhd]; simp; done) | (simp only [okT, hfb, hhd]; simp [lessB]; omega))
                      rw [show x + 1 - 1 = x by omega, e, hbe]
                      exact ⟨⟨by rw [hz_110 _ _ (by omega), hz_107 _ _ (by omega)]; exact hw_105, by rw [hz_110 _ _ (by omega)]; exact hw_108, hw_111⟩, by omega, by omega, by omega⟩
                    · refine j_iconst (v := nI 1) C dX8_findMove_104 rfl ?_
                      refine j_goto (tgt := 109) C dX8_findMove_105 rfl ?_
                      refine j_istore (L' := [some (.ref (gad g (84))), some (.int (ps)), some (.int (nI (0))), some (.int (nI (l))), some (.int (nI (x))), some (.int (nI (costN a (updN w l x) u))), some (.int (nI (1))), some (.int (nI (1)))]) C dX8_findMove_109 (by decide) rfl ?_
                      refine j_aload_n C dX8_findMove_111 rfl rfl ?_
                      refine j_iload C dX8_findMove_112 rfl ?_
                      refine j_ifn_eq (tgt := 121) C dX8_findMove_114 rfl (by omega) (fun h => absurd h (by decide)) (fun _ => ?_)
                      refine j_iload_n C dX8_findMove_117 rfl rfl ?_
                      refine j_goto (tgt := 125) C dX8_findMove_118 rfl ?_
                      refine j_put' C fpX8_163 dX8_findMove_125 (Nat.lt_of_lt_of_le (by decide) hN) (fun _ => rfl) rfl (Nat.le_of_ble_eq_true rfl) rfl rfl (fun τ112 hz_113 hw_114 => ?_)
                      refine j_aload_n C dX8_findMove_128 rfl rfl ?_
                      refine j_iload C dX8_findMove_129 rfl ?_
                      refine j_ifn_eq (tgt := 139) C dX8_findMove_131 rfl (by omega) (fun h => absurd h (by decide)) (fun _ => ?_)
                      refine j_iload C dX8_findMove_134 rfl ?_
                      refine j_goto (tgt := 143) C dX8_findMove_136 rfl ?_
                      refine j_put' C fpX8_177 dX8_findMove_143 (Nat.lt_of_lt_of_le (by decide) hN) (fun _ => rfl) rfl (Nat.le_of_ble_eq_true rfl) rfl rfl (fun τ115 hz_116 hw_117 => ?_)
                      refine j_aload_n C dX8_findMove_146 rfl rfl ?_
                      refine j_iload C dX8_findMove_147 rfl ?_
                      refine j_ifn_eq (tgt := 157) C dX8_findMove_149 rfl (by omega) (fun h => absurd h (by decide)) (fun _ => ?_)
                      refine j_iload C dX8_findMove_152 rfl ?_
                      refine j_goto (tgt := 161) C dX8_findMove_154 rfl ?_
                      refine j_put' C fpX8_166 dX8_findMove_161 (Nat.lt_of_lt_of_le (by decide) hN) (fun _ => rfl) rfl (Nat.le_of_ble_eq_true rfl) rfl rfl (fun τ118 hz_119 hw_120 => ?_)
                      refine j_iinc (L' := [some (.ref (gad g (84))), some (.int (ps)), some (.int (nI (0))), some (.int (nI (l))), some (.int (nI (x + 1))), some (.int (nI (costN a (updN w l x) u))), some (.int (nI (1))), some (.int (nI (1)))]) C dX8_findMove_164 rfl (nI_inc _) (by decide) rfl ?_
                      refine j_goto (tgt := 25) C dX8_findMove_167 rfl ?_
                      refine J_loc (L' := [some (.ref (gad g (84))), some (.int (ps)), some (.int (bI (!hd))), some (.int (nI (l))), some (.int (nI (x + 1))), some (.int (nI (costN a (updN w l x) u))), some (.int (nI (1))), some (.int (nI (1)))]) (by rw [hhd]; rfl) ?_
                      refine J_clr 5 (L' := [some (.ref (gad g (84))), some (.int (ps)), some (.int (bI (!hd))), some (.int (nI (l))), some (.int (nI (x + 1))), none, some (.int (nI (1))), some (.int (nI (1)))]) rfl ?_
                      refine J_clr 6 (L' := [some (.ref (gad g (84))), some (.int (ps)), some (.int (bI (!hd))), some (.int (nI (l))), some (.int (nI (x + 1))), none, none, some (.int (nI (1)))]) rfl ?_
                      refine J_clr 7 (L' := [some (.ref (gad g (84))), some (.int (ps)), some (.int (bI (!hd))), some (.int (nI (l))), some (.int (nI (x + 1))), none, none, none]) rfl ?_
                      refine ih (21 - (x + 1)) (by omega) (x + 1) τ118 rfl (by omega) (by omega) (fun j n h => by rw [hz_119 _ _ (by omega), hz_116 _ _ (by omega), hz_113 _ _ (by omega), hp_72.1 _ _ (by omega)]; exact hf j n h) ?_
                      have e : (tryF a w u hd le tl l x b) = some (l, x, costN a (updN w l x) u) := by
                        rw [show x = (x - 1) + 1 by omega, tryF, if_neg (by omega), show x - 1 + 1 = x by omega, hbe]
                        exact if_pos (by first | (simp [lessB, okT, hhd]; done) | (simp [lessB, okT, hhd]; omega) | (simp only [okT, hfb]; simp [lessB]; done) | (simp only [okT, hfb]; simp [lessB]; omega))
                      rw [show x + 1 - 1 = x by omega, e]
                      exact ⟨⟨by rw [hz_119 _ _ (by omega), hz_116 _ _ (by omega)]; exact hw_114, by rw [hz_119 _ _ (by omega)]; exact hw_117, hw_120⟩, by omega, by omega, by omega⟩
              · refine J_loc (L' := [some (.ref (gad g (84))), some (.int (ps)), some (.int (nI (1))), some (.int (nI (l))), some (.int (nI (x))), some (.int (nI (costN a (updN w l x) u))), none, none]) (by rw [hhd]; rfl) ?_
                refine j_iload_n C dX8_findMove_57 rfl rfl ?_
                refine j_ifn_ne (tgt := 83) C dX8_findMove_58 rfl (by omega) (fun _ => ?_) (fun h => absurd h (by decide))
                refine j_iconst (v := nI 1) C dX8_findMove_83 rfl ?_
                refine j_goto (tgt := 88) C dX8_findMove_84 rfl ?_
                refine j_istore (L' := [some (.ref (gad g (84))), some (.int (ps)), some (.int (nI (1))), some (.int (nI (l))), some (.int (nI (x))), some (.int (nI (costN a (updN w l x) u))), some (.int (nI (1))), none]) C dX8_findMove_88 (by decide) rfl ?_
                refine j_iload C dX8_findMove_90 rfl ?_
                refine j_ifn_eq (tgt := 108) C dX8_findMove_92 rfl (by omega) (fun h => absurd h (by decide)) (fun _ => ?_)
                refine j_iload C dX8_findMove_95 rfl ?_
                refine j_aload_n C dX8_findMove_97 rfl rfl ?_
                refine j_get C flX8_166 dX8_findMove_98 (Nat.lt_of_lt_of_le (by decide) hN) rfl rfl ?_
                refine j_top ((hp_72.1 _ _ (by omega)).trans (hb.1.2.2)) ?_
                refine j_icmpn_ge (tgt := 108) C dX8_findMove_101 rfl (by omega) (by omega) (fun h101 => ?_) (fun h101 => ?_)
                · refine j_iconst (v := nI 0) C dX8_findMove_108 rfl ?_
                  refine j_istore (L' := [some (.ref (gad g (84))), some (.int (ps)), some (.int (nI (1))), some (.int (nI (l))), some (.int (nI (x))), some (.int (nI (costN a (updN w l x) u))), some (.int (nI (1))), some (.int (nI (0)))]) C dX8_findMove_109 (by decide) rfl ?_
                  refine j_aload_n C dX8_findMove_111 rfl rfl ?_
                  refine j_iload C dX8_findMove_112 rfl ?_
                  refine j_ifn_eq (tgt := 121) C dX8_findMove_114 rfl (by omega) (fun _ => ?_) (fun h => absurd h (by decide))
                  refine j_aload_n C dX8_findMove_121 rfl rfl ?_
                  refine j_get C flX8_163 dX8_findMove_122 (Nat.lt_of_lt_of_le (by decide) hN) rfl rfl ?_
                  refine j_top ((hp_72.1 _ _ (by omega)).trans (hb.1.1)) ?_
                  refine j_put' C fpX8_163 dX8_findMove_125 (Nat.lt_of_lt_of_le (by decide) hN) (fun _ => rfl) rfl (Nat.le_of_ble_eq_true rfl) rfl rfl (fun τ121 hz_122 hw_123 => ?_)
                  refine j_aload_n C dX8_findMove_128 rfl rfl ?_
                  refine j_iload C dX8_findMove_129 rfl ?_
                  refine j_ifn_eq (tgt := 139) C dX8_findMove_131 rfl (by omega) (fun _ => ?_) (fun h => absurd h (by decide))
                  refine j_aload_n C dX8_findMove_139 rfl rfl ?_
                  refine j_get C flX8_177 dX8_findMove_140 (Nat.lt_of_lt_of_le (by decide) hN) rfl rfl ?_
                  refine j_top ((hz_122 _ _ (by omega)).trans ((hp_72.1 _ _ (by omega)).trans (hb.1.2.1))) ?_
                  refine j_put' C fpX8_177 dX8_findMove_143 (Nat.lt_of_lt_of_le (by decide) hN) (fun _ => rfl) rfl (Nat.le_of_ble_eq_true rfl) rfl rfl (fun τ124 hz_125 hw_126 => ?_)
                  refine j_aload_n C dX8_findMove_146 rfl rfl ?_
                  refine j_iload C dX8_findMove_147 rfl ?_
                  refine j_ifn_eq (tgt := 157) C dX8_findMove_149 rfl (by omega) (fun _ => ?_) (fun h => absurd h (by decide))
                  refine j_aload_n C dX8_findMove_157 rfl rfl ?_
                  refine j_get C flX8_166 dX8_findMove_158 (Nat.lt_of_lt_of_le (by decide) hN) rfl rfl ?_
                  refine j_top ((hz_125 _ _ (by omega)).trans ((hz_122 _ _ (by omega)).trans ((hp_72.1 _ _ (by omega)).trans (hb.1.2.2)))) ?_
                  refine j_put' C fpX8_166 dX8_findMove_161 (Nat.lt_of_lt_of_le (by decide) hN) (fun _ => rfl) rfl (Nat.le_of_ble_eq_true rfl) rfl rfl (fun τ127 hz_128 hw_129 => ?_)
                  refine j_iinc (L' := [some (.ref (gad g (84))), some (.int (ps)), some (.int (nI (1))), some (.int (nI (l))), some (.int (nI (x + 1))), some (.int (nI (costN a (updN w l x) u))), some (.int (nI (1))), some (.int (nI (0)))]) C dX8_findMove_164 rfl (nI_inc _) (by decide) rfl ?_
                  refine j_goto (tgt := 25) C dX8_findMove_167 rfl ?_
                  refine J_loc (L' := [some (.ref (gad g (84))), some (.int (ps)), some (.int (bI (!hd))), some (.int (nI (l))), some (.int (nI (x + 1))), some (.int (nI (costN a (updN w l x) u))), some (.int (nI (1))), some (.int (nI (0)))]) (by rw [hhd]; rfl) ?_
                  refine J_clr 5 (L' := [some (.ref (gad g (84))), some (.int (ps)), some (.int (bI (!hd))), some (.int (nI (l))), some (.int (nI (x + 1))), none, some (.int (nI (1))), some (.int (nI (0)))]) rfl ?_
                  refine J_clr 6 (L' := [some (.ref (gad g (84))), some (.int (ps)), some (.int (bI (!hd))), some (.int (nI (l))), some (.int (nI (x + 1))), none, none, some (.int (nI (0)))]) rfl ?_
                  refine J_clr 7 (L' := [some (.ref (gad g (84))), some (.int (ps)), some (.int (bI (!hd))), some (.int (nI (l))), some (.int (nI (x + 1))), none, none, none]) rfl ?_
                  refine ih (21 - (x + 1)) (by omega) (x + 1) τ127 rfl (by omega) (by omega) (fun j n h => by rw [hz_128 _ _ (by omega), hz_125 _ _ (by omega), hz_122 _ _ (by omega), hp_72.1 _ _ (by omega)]; exact hf j n h) ?_
                  have e : (tryF a w u hd le tl l x b) = (tryF a w u hd le tl l (x - 1) b) := by
                    rw [show x = (x - 1) + 1 by omega, tryF, if_neg (by omega), show x - 1 + 1 = x by omega]
                    rw [hbe]
                    exact if_neg (by first | (simp [lessB]; omega) | (simp only [okT, hfb, hhd]; simp; done) | (simp only [okT, hfb, hhd]; simp [lessB]; omega))
                  rw [show x + 1 - 1 = x by omega, e, hbe]
                  exact ⟨⟨by rw [hz_128 _ _ (by omega), hz_125 _ _ (by omega)]; exact hw_123, by rw [hz_128 _ _ (by omega)]; exact hw_126, hw_129⟩, by omega, by omega, by omega⟩
                · refine j_iconst (v := nI 1) C dX8_findMove_104 rfl ?_
                  refine j_goto (tgt := 109) C dX8_findMove_105 rfl ?_
                  refine j_istore (L' := [some (.ref (gad g (84))), some (.int (ps)), some (.int (nI (1))), some (.int (nI (l))), some (.int (nI (x))), some (.int (nI (costN a (updN w l x) u))), some (.int (nI (1))), some (.int (nI (1)))]) C dX8_findMove_109 (by decide) rfl ?_
                  refine j_aload_n C dX8_findMove_111 rfl rfl ?_
                  refine j_iload C dX8_findMove_112 rfl ?_
                  refine j_ifn_eq (tgt := 121) C dX8_findMove_114 rfl (by omega) (fun h => absurd h (by decide)) (fun _ => ?_)
                  refine j_iload_n C dX8_findMove_117 rfl rfl ?_
                  refine j_goto (tgt := 125) C dX8_findMove_118 rfl ?_
                  refine j_put' C fpX8_163 dX8_findMove_125 (Nat.lt_of_lt_of_le (by decide) hN) (fun _ => rfl) rfl (Nat.le_of_ble_eq_true rfl) rfl rfl (fun τ130 hz_131 hw_132 => ?_)
                  refine j_aload_n C dX8_findMove_128 rfl rfl ?_
                  refine j_iload C dX8_findMove_129 rfl ?_
                  refine j_ifn_eq (tgt := 139) C dX8_findMove_131 rfl (by omega) (fun h => absurd h (by decide)) (fun _ => ?_)
                  refine j_iload C dX8_findMove_134 rfl ?_
                  refine j_goto (tgt := 143) C dX8_findMove_136 rfl ?_
                  refine j_put' C fpX8_177 dX8_findMove_143 (Nat.lt_of_lt_of_le (by decide) hN) (fun _ => rfl) rfl (Nat.le_of_ble_eq_true rfl) rfl rfl (fun τ133 hz_134 hw_135 => ?_)
                  refine j_aload_n C dX8_findMove_146 rfl rfl ?_
                  refine j_iload C dX8_findMove_147 rfl ?_
                  refine j_ifn_eq (tgt := 157) C dX8_findMove_149 rfl (by omega) (fun h => absurd h (by decide)) (fun _ => ?_)
                  refine j_iload C dX8_findMove_152 rfl ?_
                  refine j_goto (tgt := 161) C dX8_findMove_154 rfl ?_
                  refine j_put' C fpX8_166 dX8_findMove_161 (Nat.lt_of_lt_of_le (by decide) hN) (fun _ => rfl) rfl (Nat.le_of_ble_eq_true rfl) rfl rfl (fun τ136 hz_137 hw_138 => ?_)
                  refine j_iinc (L' := [some (.ref (gad g (84))), some (.int (ps)), some (.int (nI (1))), some (.int (nI (l))), some (.int (nI (x + 1))), some (.int (nI (costN a (updN w l x) u))), some (.int (nI (1))), some (.int (nI (1)))]) C dX8_findMove_164 rfl (nI_inc _) (by decide) rfl ?_
                  refine j_goto (tgt := 25) C dX8_findMove_167 rfl ?_
                  refine J_loc (L' := [some (.ref (gad g (84))), some (.int (ps)), some (.int (bI (!hd))), some (.int (nI (l))), some (.int (nI (x + 1))), some (.int (nI (costN a (updN w l x) u))), some (.int (nI (1))), some (.int (nI (1)))]) (by rw [hhd]; rfl) ?_
                  refine J_clr 5 (L' := [some (.ref (gad g (84))), some (.int (ps)), some (.int (bI (!hd))), some (.int (nI (l))), some (.int (nI (x + 1))), none, some (.int (nI (1))), some (.int (nI (1)))]) rfl ?_
                  refine J_clr 6 (L' := [some (.ref (gad g (84))), some (.int (ps)), some (.int (bI (!hd))), some (.int (nI (l))), some (.int (nI (x + 1))), none, none, some (.int (nI (1)))]) rfl ?_
                  refine J_clr 7 (L' := [some (.ref (gad g (84))), some (.int (ps)), some (.int (bI (!hd))), some (.int (nI (l))), some (.int (nI (x + 1))), none, none, none]) rfl ?_
                  refine ih (21 - (x + 1)) (by omega) (x + 1) τ136 rfl (by omega) (by omega) (fun j n h => by rw [hz_137 _ _ (by omega), hz_134 _ _ (by omega), hz_131 _ _ (by omega), hp_72.1 _ _ (by omega)]; exact hf j n h) ?_
                  have e : (tryF a w u hd le tl l x b) = some (l, x, costN a (updN w l x) u) := by
                    rw [show x = (x - 1) + 1 by omega, tryF, if_neg (by omega), show x - 1 + 1 = x by omega, hbe]
                    exact if_pos (by first | (simp [lessB, okT, hhd]; done) | (simp [lessB, okT, hhd]; omega) | (simp only [okT, hfb]; simp [lessB]; done) | (simp only [okT, hfb]; simp [lessB]; omega))
                  rw [show x + 1 - 1 = x by omega, e]
                  exact ⟨⟨by rw [hz_137 _ _ (by omega), hz_134 _ _ (by omega)]; exact hw_132, by rw [hz_137 _ _ (by omega)]; exact hw_135, hw_138⟩, by omega, by omega, by omega⟩
  have lpL : ∀ (k : Nat) (l : Nat) (σ1 : Sg), nM a - l = k → l ≤ nM a → (∀ j n, ¬ (93 ≤ j ∧ j ≤ 96 ∨ j = 84 ∧ 22 ≤ n ∧ n ≤ 25) → σ1 j n = σ j n) → bsR σ1 (fndF a w u hd le tl ps l) → J g κ 8 14 [some (.ref (gad g (84))), some (.int (ps)), some (.int (bI (!hd))), some (.int (nI (l))), none, none, none, none] [] σ1 := by
    intro k
    induction k using Nat.strongRecOn with
    | _ k ih =>
      intro l σ1 hk hl hf hb
      refine j_iload_n C dX8_findMove_14 rfl rfl ?_
      refine j_aload_n C dX8_findMove_15 rfl rfl ?_
      refine j_get C flX8_77 dX8_findMove_16 (Nat.lt_of_lt_of_le (by decide) hN) rfl rfl ?_
      refine j_top ((hf _ _ (by omega)).trans (hI.1.2.1)) ?_
      refine j_icmpn_ge (tgt := 176) C dX8_findMove_19 rfl (by omega) (by omega) (fun h19 => ?_) (fun h19 => ?_)
      · have el : l = nM a := by omega
        rw [el] at hb
        rcases hbe : (fndF a w u hd le tl ps (nM a)) with _ | ⟨l0, x0, c0⟩
        · have hq := hb
          rw [hbe] at hq
          refine j_aload_n C dX8_findMove_176 rfl rfl ?_
          refine j_get C flX8_163 dX8_findMove_177 (Nat.lt_of_lt_of_le (by decide) hN) rfl rfl ?_
          refine j_top (hq.1) ?_
          refine j_bipush (v := -4) C dX8_findMove_180 rfl ?_
          refine j_icmp_eq (tgt := 189) C dX8_findMove_182 rfl (fun _ => ?_) (fun h => absurd h (by decide))
          refine j_iconst (v := nI 0) C dX8_findMove_189 rfl ?_
          refine j_retz M dX8_findMove_190 rfl ?_
          exact ⟨hf, hb, by rw [hbe]; rfl⟩
        · have hq := hb
          rw [hbe] at hq
          obtain ⟨hbl, hbx, hbc⟩ := hq.2
          refine j_aload_n C dX8_findMove_176 rfl rfl ?_
          refine j_get C flX8_163 dX8_findMove_177 (Nat.lt_of_lt_of_le (by decide) hN) rfl rfl ?_
          refine j_top (hq.1.1) ?_
          refine j_bipush (v := -4) C dX8_findMove_180 rfl ?_
          refine j_icmp_eq (tgt := 189) C dX8_findMove_182 rfl (fun h => absurd h (nI_neg (by omega) (by decide))) (fun _ => ?_)
          refine j_iconst (v := nI 1) C dX8_findMove_185 rfl ?_
          refine j_goto (tgt := 190) C dX8_findMove_186 rfl ?_
          refine j_retz M dX8_findMove_190 rfl ?_
          exact ⟨hf, hb, by rw [hbe]; rfl⟩
      · refine j_iconst (v := nI 1) C dX8_findMove_22 rfl ?_
        refine j_istore (L' := [some (.ref (gad g (84))), some (.int (ps)), some (.int (bI (!hd))), some (.int (nI (l))), some (.int (nI (1))), none, none, none]) C dX8_findMove_23 (by decide) rfl ?_
        have k170 : nI l = ps → J g κ 8 170 [some (.ref (gad g (84))), some (.int (ps)), some (.int (bI (!hd))), some (.int (nI (l))), none, none, none, none] [] σ1 := by
          intro hps
          refine j_iinc (L' := [some (.ref (gad g (84))), some (.int (ps)), some (.int (bI (!hd))), some (.int (nI (l + 1))), none, none, none, none]) C dX8_findMove_170 rfl (nI_inc _) (by decide) rfl ?_
          refine j_goto (tgt := 14) C dX8_findMove_173 rfl ?_
          exact ih (nM a - (l + 1)) (by omega) (l + 1) σ1 rfl (by omega) hf (by rw [fndF, if_pos hps]; exact hb)
        by_cases hps : nI l = ps
        · skip
          refine j_iload C dX8_findMove_25 rfl ?_
          refine j_bipush (v := nI 20) C dX8_findMove_27 rfl ?_
          refine j_icmpn_gt (tgt := 170) C dX8_findMove_29 rfl (by omega) (by omega) (fun h => absurd h (by decide)) (fun _ => ?_)
          refine j_iload_n C dX8_findMove_32 rfl rfl ?_
          refine j_iload_n C dX8_findMove_33 rfl rfl ?_
          refine j_icmp_eq (tgt := 170) C dX8_findMove_34 rfl (fun h34 => ?_) (fun h34 => ?_)
          · refine J_clr 4 (L' := [some (.ref (gad g (84))), some (.int (ps)), some (.int (bI (!hd))), some (.int (nI (l))), none, none, none, none]) rfl ?_
            exact k170 hps
          · exact absurd hps h34
        · refine lpX l (fndF a w u hd le tl ps l) (by omega) hps ?_ (21 - 1) 1 σ1 rfl (by omega) (by omega) hf hb
          intro σ2 hf2 hb2
          refine j_iinc (L' := [some (.ref (gad g (84))), some (.int (ps)), some (.int (bI (!hd))), some (.int (nI (l + 1))), none, none, none, none]) C dX8_findMove_170 rfl (nI_inc _) (by decide) rfl ?_
          refine j_goto (tgt := 14) C dX8_findMove_173 rfl ?_
          exact ih (nM a - (l + 1)) (by omega) (l + 1) σ2 rfl (by omega) hf2 (by rw [fndF, if_neg hps]; exact hb2)
  refine j_aload_n C dX8_findMove_0 rfl rfl ?_
  refine j_bipush (v := -4) C dX8_findMove_1 rfl ?_
  refine j_put' C fpX8_163 dX8_findMove_3 (Nat.lt_of_lt_of_le (by decide) hN) (fun _ => rfl) rfl (Nat.le_of_ble_eq_true rfl) rfl rfl (fun τ1 hz_2 hw_3 => ?_)
  refine j_aload_n C dX8_findMove_6 rfl rfl ?_
  refine j_ldc C kX8_150 dX8_findMove_7 ?_
  refine j_top (y := nI 2000000000) rfl ?_
  refine j_put' C fpX8_166 dX8_findMove_9 (Nat.lt_of_lt_of_le (by decide) hN) (fun _ => rfl) rfl (Nat.le_of_ble_eq_true rfl) rfl rfl (fun τ4 hz_5 hw_6 => ?_)
  refine j_iconst (v := nI 0) C dX8_findMove_12 rfl ?_
  refine j_istore_n (L' := [some (.ref (gad g (84))), some (.int (ps)), some (.int (bI (!hd))), some (.int (nI (0))), none, none, none, none]) C dX8_findMove_13 rfl (by decide) rfl ?_
  exact lpL (nM a - 0) 0 τ4 rfl (by omega) (fun j n h => by rw [hz_5 _ _ (by omega), hz_2 _ _ (by omega)]) ⟨by rw [hz_5 _ _ (by omega)]; exact hw_3, hw_6⟩
