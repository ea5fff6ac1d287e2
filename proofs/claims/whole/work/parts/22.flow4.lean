theorem isGo_mem {go : Nat → Nat} {d : Nat} : ∀ {b : Nat}, d < b → isGo go b (go d) = true
  | 0, h => by omega
  | b + 1, h => by
    rw [isGo]
    by_cases e : d = b
    · subst e; rw [beq_self_eq_true, Bool.or_true]
    · rw [isGo_mem (b := b) (by omega), Bool.true_or]
theorem isGo_ex {go : Nat → Nat} {x : Nat} : ∀ {b : Nat}, isGo go b x = true → ∃ d, d < b ∧ go d = x
  | 0, h => by cases h
  | b + 1, h => by
    rw [isGo, Bool.or_eq_true] at h
    rcases h with h | h
    · obtain ⟨d, h1, h2⟩ := isGo_ex h
      exact ⟨d, by omega, h2⟩
    · exact ⟨b, by omega, beq_iff_eq.mp h⟩
/-- what the flow tells of a standing -/
def FarI (σ : Sg) (a : ND) (w : Nat → Nat) (u : Nat → Bool) : Prop := ∀ t, t < nN a → isGo (nGo a) (nD a) t = true → ∀ x, x < nN a → σ (25 + 1 * t) x = c1 (FAR a w u t x)
def FlowI (σ : Sg) (a : ND) (w : Nat → Nat) (u : Nat → Bool) : Prop := FarI σ a w u ∧ (∀ d, d < nD a → σ 40 d = bI (lostB a w u d)) ∧ (∀ d l, d < nD a → l < nM a → σ (33 + 1 * d) l = nI (SHR a w u d l)) ∧ ∀ l, l < nM a → σ 39 l = nI (LDD a w u (nD a) l)
theorem FarI.kept {σ σ' : Sg} {a : ND} {w : Nat → Nat} {u : Nat → Bool} (h : FarI σ a w u) (hn : nN a ≤ 7) (hk : ∀ j n, 25 ≤ j → j ≤ 31 → σ' j n = σ j n) : FarI σ' a w u := fun t ht hg x hx => (hk _ _ (by omega) (by omega)).trans (h t ht hg x hx)
theorem SHR_lost {a : ND} {w : Nat → Nat} {u : Nat → Bool} {d : Nat} (h : FAR a w u (nGo a d) (nSt a d) = none) (l : Nat) : SHR a w u d l = 0 := if_pos h
theorem FAR_bd' {a : ND} {w : Nat → Nat} {u : Nat → Bool} {t : Nat} (hO : NOk a) (hw : WOk (nM a) w) : fBd (FAR a w u t) 1680 := fun x v hx => by have := FAR_bd hO hw x v hx; omega
set_option maxHeartbeats 4000000 in
set_option maxRecDepth 100000 in
theorem tX0_costOf {g : jG} (hN : 84 ≤ gN g) {σ : Sg} {i : Nat} {a : ND} {w : Nat → Nat} {u : Nat → Bool} (hi : i < 9) (hI : NetI σ 3 a) (hO : NOk a) (hW : StW σ i (nM a) w u) (hw : WOk (nM a) w) : MS g yX0_costOf cX0_costOf 4 (some .int) rmX0_costOf [.ref (gad g (23)), .ref (gad g (48 + 4 * i))] σ (fun r σ' => (∀ j n, ¬ (25 ≤ j ∧ j ≤ 43) → σ' j n = σ j n) ∧ FlowI σ' a w u ∧ r = nI (costN a w u)) := by
  refine MJ_of (by decide) (Nat.le_of_ble_eq_true rfl) (List.forall_mem_cons.mpr ⟨rfl, List.forall_mem_cons.mpr ⟨rfl, fun _ h => absurd h List.not_mem_nil⟩⟩) ?_
  intro κ M
  have C := M.1
  show J g κ 4 0 [some (.ref (gad g (23))), some (.ref (gad g (48 + 4 * i))), none, none] [] σ
  have hn7 := hO.2.1
  have hm12 := hO.2.2.1
  have hd6 := hO.2.2.2.1
  have lp4 : ∀ (σ1 : Sg), (∀ j n, ¬ (25 ≤ j ∧ j ≤ 43) → σ1 j n = σ j n) → FlowI σ1 a w u → ∀ (k l : Nat), nM a - l = k → l ≤ nM a → J g κ 4 121 [some (.ref (gad g (23))), some (.ref (gad g (48 + 4 * i))), some (.int (nI (lstN a w u (nD a) + sumN (fun l => lcN (nRm a l) (LDD a w u (nD a) l)) l))), some (.int (nI (l)))] [] σ1 := by
    intro σ1 hf hFl k
    induction k using Nat.strongRecOn with
    | _ k ih =>
      intro l hk hl
      refine j_iload_n C dX0_costOf_121 rfl rfl ?_
      refine j_aload_n C dX0_costOf_122 rfl rfl ?_
      refine j_get C flX0_36 dX0_costOf_123 (Nat.lt_of_lt_of_le (by decide) hN) rfl rfl ?_
      refine j_get C flX0_53 dX0_costOf_126 (Nat.lt_of_lt_of_le (by decide) hN) rfl rfl ?_
      refine j_top ((hf _ _ (by omega)).trans (hI.m)) ?_
      refine j_icmpn_ge (tgt := 146) C dX0_costOf_129 rfl (by omega) (by omega) (fun h129 => ?_) (fun h129 => ?_)
      · refine j_iload_n C dX0_costOf_146 rfl rfl ?_
        refine j_ret M dX0_costOf_147 ?_
        obtain rfl : l = nM a := by omega
        exact ⟨hf, hFl, rfl⟩
      · refine j_iload_n C dX0_costOf_132 rfl rfl ?_
        refine j_aload_n C dX0_costOf_133 rfl rfl ?_
        refine j_iload_n C dX0_costOf_134 rfl rfl ?_
        refine j_calli (As := [.int (nI (l))]) (rest := [.int (nI (lstN a w u (nD a) + sumN (fun l => lcN (nRm a l) (LDD a w u (nD a) l)) l))]) C (tX0_linkCost hN (hI.kept (fun j n h1 h2 => hf j n (by omega))) hO (l := l) (L := LDD a w u (nD a) l) (by omega) (hFl.2.2.2 l (by omega)) (by have := LDD_bd (w := w) (u := u) hO (Nat.le_refl (nD a)) (show l < nM a by omega); omega)) cdX0_linkCost mlX0_65 dX0_costOf_135 (by decide) (by decide) (Nat.lt_of_lt_of_le (by decide) hN) rfl rfl rfl rfl rfl (Nat.le_of_ble_eq_true rfl) (fun rr_2 τ1 hp_3 => ?_)
        obtain ⟨hs, hr⟩ := hp_3
        replace hs := hs.symm
        subst hs
        subst hr
        refine j_iadd C dX0_costOf_138 ?_
        refine j_top (nI_add _ _) ?_
        refine j_istore_n (L' := [some (.ref (gad g (23))), some (.ref (gad g (48 + 4 * i))), some (.int (nI ((lstN a w u (nD a) + sumN (fun l => lcN (nRm a l) (LDD a w u (nD a) l)) l + lcN (nRm a l) (LDD a w u (nD a) l))))), some (.int (nI (l)))]) C dX0_costOf_139 rfl (by decide) rfl ?_
        refine j_iinc (L' := [some (.ref (gad g (23))), some (.ref (gad g (48 + 4 * i))), some (.int (nI ((lstN a w u (nD a) + sumN (fun l => lcN (nRm a l) (LDD a w u (nD a) l)) l + lcN (nRm a l) (LDD a w u (nD a) l))))), some (.int (nI (l + 1)))]) C dX0_costOf_140 rfl (nI_inc _) (by decide) rfl ?_
        refine j_goto (tgt := 121) C dX0_costOf_143 rfl ?_
        refine J_loc (L' := [some (.ref (gad g (23))), some (.ref (gad g (48 + 4 * i))), some (.int (nI (lstN a w u (nD a) + sumN (fun l => lcN (nRm a l) (LDD a w u (nD a) l)) (l + 1)))), some (.int (nI (l + 1)))]) (by rw [sumN, Nat.add_assoc]) (ih (nM a - (l + 1)) (by omega) (l + 1) rfl (by omega))
  have lp3 : ∀ (k : Nat) (d : Nat) (σ1 : Sg), nD a - d = k → d ≤ nD a → (∀ j n, ¬ (25 ≤ j ∧ j ≤ 43) → σ1 j n = σ j n) → FarI σ1 a w u → (∀ e, e < d → σ1 40 e = bI (lostB a w u e)) → (∀ e l, e < d → l < nM a → σ1 (33 + 1 * e) l = nI (SHR a w u e l)) → (∀ l, l < nM a → σ1 39 l = nI (LDD a w u d l)) → J g κ 4 67 [some (.ref (gad g (23))), some (.ref (gad g (48 + 4 * i))), some (.int (nI (lstN a w u d))), some (.int (nI (d)))] [] σ1 := by
    intro k
    induction k using Nat.strongRecOn with
    | _ k ih =>
      intro d σ1 hk hd hf hfar hlost hsh hld
      refine j_iload_n C dX0_costOf_67 rfl rfl ?_
      refine j_aload_n C dX0_costOf_68 rfl rfl ?_
      refine j_get C flX0_36 dX0_costOf_69 (Nat.lt_of_lt_of_le (by decide) hN) rfl rfl ?_
      refine j_get C flX0_56 dX0_costOf_72 (Nat.lt_of_lt_of_le (by decide) hN) rfl rfl ?_
      refine j_top ((hf _ _ (by omega)).trans (hI.d)) ?_
      refine j_icmpn_ge (tgt := 119) C dX0_costOf_75 rfl (by omega) (by omega) (fun h75 => ?_) (fun h75 => ?_)
      · refine j_iconst (v := nI 0) C dX0_costOf_119 rfl ?_
        refine j_istore_n (L' := [some (.ref (gad g (23))), some (.ref (gad g (48 + 4 * i))), some (.int (nI (lstN a w u d))), some (.int (nI (0)))]) C dX0_costOf_120 rfl (by decide) rfl ?_
        have ed : d = nD a := by omega
        rw [ed] at hlost hsh hld
        refine J_loc (L' := [some (.ref (gad g (23))), some (.ref (gad g (48 + 4 * i))), some (.int (nI (lstN a w u (nD a) + sumN (fun l => lcN (nRm a l) (LDD a w u (nD a) l)) 0))), some (.int (nI (0)))]) (by rw [ed]; rfl) (lp4 σ1 hf ⟨hfar, hlost, hsh, hld⟩ (nM a - 0) 0 rfl (by omega))
      · obtain ⟨hg1, hg2, hg3, hg4, hg5⟩ := hO.2.2.2.2.2 d h75
        have hlb := lstN_bd (w := w) (u := u) hO d (by omega)
        refine j_aload_n C dX0_costOf_78 rfl rfl ?_
        refine j_aload_n C dX0_costOf_79 rfl rfl ?_
        refine j_iload_n C dX0_costOf_80 rfl rfl ?_
        refine j_callv (As := [.ref (gad g (48 + 4 * i)), .int (nI (d))]) (rest := []) C (tX0_send hN hi (hI.kept (fun j n h1 h2 => hf j n (by omega))) hO (hW.kept (fun j n h1 => hf j n (by omega))) hw (d := d) (f := (FAR a w u (nGo a d))) (ld := LDD a w u d) h75 (hfar (nGo a d) (by omega) (isGo_mem h75)) (FAR_bd' hO hw) hld) cdX0_send mlX0_59 dX0_costOf_81 (by decide) (by decide) (Nat.lt_of_lt_of_le (by decide) hN) rfl rfl rfl rfl rfl (Nat.le_of_ble_eq_true rfl) (fun τ1 hp_3 => ?_)
        obtain ⟨hf9, hc9⟩ := hp_3
        rcases hc9 with ⟨hno, h40, hrow⟩ | ⟨⟨v, hyes⟩, h40, L, hord, hrow⟩
        · refine j_iload_n C dX0_costOf_84 rfl rfl ?_
          refine j_aload_n C dX0_costOf_85 rfl rfl ?_
          refine j_get C flX0_23 dX0_costOf_86 (Nat.lt_of_lt_of_le (by decide) hN) rfl rfl ?_
          refine j_iload_n C dX0_costOf_89 rfl rfl ?_
          refine j_zald C dX0_costOf_90 (Nat.lt_of_lt_of_le (by decide) hN) (fun _ => rfl) (by decide) (by omega) ?_
          refine j_top (h40) ?_
          refine j_ifn_eq (tgt := 110) C dX0_costOf_91 rfl (by omega) (fun h => absurd h (by decide)) (fun _ => ?_)
          refine j_sipush (v := nI 12000) C dX0_costOf_94 rfl ?_
          refine j_aload_n C dX0_costOf_97 rfl rfl ?_
          refine j_get C flX0_36 dX0_costOf_98 (Nat.lt_of_lt_of_le (by decide) hN) rfl rfl ?_
          refine j_get C flX0_62 dX0_costOf_101 (Nat.lt_of_lt_of_le (by decide) hN) rfl rfl ?_
          refine j_iload_n C dX0_costOf_104 rfl rfl ?_
          refine j_iald C dX0_costOf_105 (Nat.lt_of_lt_of_le (by decide) hN) (fun _ => rfl) (by decide) (by omega) ?_
          refine j_top ((hf9 _ _ (by omega)).trans ((hf _ _ (by omega)).trans (hI.sz (l := d) (by omega)))) ?_
          refine j_imul C dX0_costOf_106 ?_
          refine j_top (pk_mul _ _) ?_
          refine j_goto (tgt := 111) C dX0_costOf_107 rfl ?_
          refine j_iadd C dX0_costOf_111 ?_
          refine j_top (nI_add _ _) ?_
          refine j_istore_n (L' := [some (.ref (gad g (23))), some (.ref (gad g (48 + 4 * i))), some (.int (nI ((lstN a w u d + (12000 * nSz a (d)))))), some (.int (nI (d)))]) C dX0_costOf_112 rfl (by decide) rfl ?_
          refine j_iinc (L' := [some (.ref (gad g (23))), some (.ref (gad g (48 + 4 * i))), some (.int (nI ((lstN a w u d + (12000 * nSz a (d)))))), some (.int (nI (d + 1)))]) C dX0_costOf_113 rfl (nI_inc _) (by decide) rfl ?_
          refine j_goto (tgt := 67) C dX0_costOf_116 rfl ?_
          have hlo : lostB a w u d = true := by unfold lostB; rw [hno]; rfl
          have hS : ∀ l, SHR a w u d l = 0 := SHR_lost hno
          have hR : ∀ l, l < nM a → τ1 (33 + 1 * d) l = nI (SHR a w u d l) ∧ τ1 39 l = nI (LDD a w u (d + 1) l) := fun l hl => by
            rw [hS l]
            refine ⟨(hrow l hl).1, ?_⟩
            show _ = nI (LDD a w u d l + SHR a w u d l)
            rw [hS l]; exact (hrow l hl).2
          refine J_loc (L' := [some (.ref (gad g (23))), some (.ref (gad g (48 + 4 * i))), some (.int (nI (lstN a w u (d + 1)))), some (.int (nI (d + 1)))]) (by show some _ :: _ = _; rw [show lstN a w u (d + 1) = lstN a w u d + (if lostB a w u d = true then 12000 * nSz a d else 0) from rfl, if_pos hlo]) (ih (nD a - (d + 1)) (by omega) (d + 1) τ1 rfl (by omega) (fun j n h => by rw [hf9 _ _ (by omega)]; exact hf j n h) (hfar.kept hn7 (fun j n h1 h2 => hf9 j n (by omega))) (fun e he => ?_) (fun e l he hl => ?_) (fun l hl => (hR l hl).2))
          · by_cases q : e = d
            · subst q; rw [hlo]; exact h40
            · rw [hf9 _ _ (by omega)]; exact hlost e (by omega)
          · by_cases q : e = d
            · subst q; exact (hR l hl).1
            · rw [hf9 _ _ (by omega)]; exact hsh e l (by omega) hl
        · refine j_iload_n C dX0_costOf_84 rfl rfl ?_
          refine j_aload_n C dX0_costOf_85 rfl rfl ?_
          refine j_get C flX0_23 dX0_costOf_86 (Nat.lt_of_lt_of_le (by decide) hN) rfl rfl ?_
          refine j_iload_n C dX0_costOf_89 rfl rfl ?_
          refine j_zald C dX0_costOf_90 (Nat.lt_of_lt_of_le (by decide) hN) (fun _ => rfl) (by decide) (by omega) ?_
          refine j_top (h40) ?_
          refine j_ifn_eq (tgt := 110) C dX0_costOf_91 rfl (by omega) (fun _ => ?_) (fun h => absurd h (by decide))
          refine j_iconst (v := nI 0) C dX0_costOf_110 rfl ?_
          refine j_iadd C dX0_costOf_111 ?_
          refine j_top (nI_add _ _) ?_
          refine j_istore_n (L' := [some (.ref (gad g (23))), some (.ref (gad g (48 + 4 * i))), some (.int (nI ((lstN a w u d + 0)))), some (.int (nI (d)))]) C dX0_costOf_112 rfl (by decide) rfl ?_
          refine j_iinc (L' := [some (.ref (gad g (23))), some (.ref (gad g (48 + 4 * i))), some (.int (nI ((lstN a w u d + 0)))), some (.int (nI (d + 1)))]) C dX0_costOf_113 rfl (nI_inc _) (by decide) rfl ?_
          refine j_goto (tgt := 67) C dX0_costOf_116 rfl ?_
          have hlo : lostB a w u d = false := by unfold lostB; rw [hyes]; rfl
          have hne : ¬ (FAR a w u (nGo a d)) (nSt a d) = none := fun q => by rw [hyes] at q; cases q
          have hR : ∀ l, l < nM a → τ1 (33 + 1 * d) l = nI (SHR a w u d l) ∧ τ1 39 l = nI (LDD a w u (d + 1) l) := fun l hl => by
            have e := run_SHR (ld := LDD a w u d) hne hord l
            refine ⟨(hrow l hl).1.trans (by rw [e.1]), (hrow l hl).2.trans (by rw [e.2]; rfl)⟩
          refine J_loc (L' := [some (.ref (gad g (23))), some (.ref (gad g (48 + 4 * i))), some (.int (nI (lstN a w u (d + 1)))), some (.int (nI (d + 1)))]) (by show some _ :: _ = _; rw [show lstN a w u (d + 1) = lstN a w u d + (if lostB a w u d = true then 12000 * nSz a d else 0) from rfl, hlo]; rfl) (ih (nD a - (d + 1)) (by omega) (d + 1) τ1 rfl (by omega) (fun j n h => by rw [hf9 _ _ (by omega)]; exact hf j n h) (hfar.kept hn7 (fun j n h1 h2 => hf9 j n (by omega))) (fun e he => ?_) (fun e l he hl => ?_) (fun l hl => (hR l hl).2))
          · by_cases q : e = d
            · subst q; rw [hlo]; exact h40
            · rw [hf9 _ _ (by omega)]; exact hlost e (by omega)
          · by_cases q : e = d
            · subst q; exact (hR l hl).1
            · rw [hf9 _ _ (by omega)]; exact hsh e l (by omega) hl
  have lp2 : ∀ (k : Nat) (l : Nat) (σ1 : Sg), nM a - l = k → l ≤ nM a → (∀ j n, ¬ (25 ≤ j ∧ j ≤ 43) → σ1 j n = σ j n) → FarI σ1 a w u → (∀ z, z < l → σ1 39 z = nI 0) → J g κ 4 39 [some (.ref (gad g (23))), some (.ref (gad g (48 + 4 * i))), some (.int (nI (l))), none] [] σ1 := by
    intro k
    induction k using Nat.strongRecOn with
    | _ k ih =>
      intro l σ1 hk hl hf hfar hz0
      refine j_iload_n C dX0_costOf_39 rfl rfl ?_
      refine j_aload_n C dX0_costOf_40 rfl rfl ?_
      refine j_get C flX0_36 dX0_costOf_41 (Nat.lt_of_lt_of_le (by decide) hN) rfl rfl ?_
      refine j_get C flX0_53 dX0_costOf_44 (Nat.lt_of_lt_of_le (by decide) hN) rfl rfl ?_
      refine j_top ((hf _ _ (by omega)).trans (hI.m)) ?_
      refine j_icmpn_ge (tgt := 63) C dX0_costOf_47 rfl (by omega) (by omega) (fun h47 => ?_) (fun h47 => ?_)
      · refine j_iconst (v := nI 0) C dX0_costOf_63 rfl ?_
        refine j_istore_n (L' := [some (.ref (gad g (23))), some (.ref (gad g (48 + 4 * i))), some (.int (nI (0))), none]) C dX0_costOf_64 rfl (by decide) rfl ?_
        refine j_iconst (v := nI 0) C dX0_costOf_65 rfl ?_
        refine j_istore_n (L' := [some (.ref (gad g (23))), some (.ref (gad g (48 + 4 * i))), some (.int (nI (0))), some (.int (nI (0)))]) C dX0_costOf_66 rfl (by decide) rfl ?_
        exact lp3 (nD a - 0) 0 σ1 rfl (by omega) hf hfar (fun e he => by omega) (fun e l he => by omega) (fun l hl => hz0 l (by omega))
      · refine j_aload_n C dX0_costOf_50 rfl rfl ?_
        refine j_get C flX0_19 dX0_costOf_51 (Nat.lt_of_lt_of_le (by decide) hN) rfl rfl ?_
        refine j_iload_n C dX0_costOf_54 rfl rfl ?_
        refine j_iconst (v := nI 0) C dX0_costOf_55 rfl ?_
        refine j_iast' C dX0_costOf_56 (Nat.lt_of_lt_of_le (by decide) hN) (fun _ => rfl) (by decide) (by omega) (fun τ1 hz_2 hw_3 => ?_)
        refine j_iinc (L' := [some (.ref (gad g (23))), some (.ref (gad g (48 + 4 * i))), some (.int (nI (l + 1))), none]) C dX0_costOf_57 rfl (nI_inc _) (by decide) rfl ?_
        refine j_goto (tgt := 39) C dX0_costOf_60 rfl ?_
        refine ih (nM a - (l + 1)) (by omega) (l + 1) τ1 rfl (by omega) (fun j n h => by rw [hz_2 _ _ (by omega)]; exact hf j n h) (hfar.kept hn7 (fun j n h1 h2 => by rw [hz_2 _ _ (by omega)])) (fun z hz => ?_)
        by_cases e : z = l
        · subst e; assumption
        · rw [hz_2 _ _ (by omega)]; exact hz0 z (by omega)
  have lp1 : ∀ (k : Nat) (t : Nat) (σ1 : Sg), nN a - t = k → t ≤ nN a → (∀ j n, ¬ (25 ≤ j ∧ j ≤ 43) → σ1 j n = σ j n) → (∀ s, s < t → isGo (nGo a) (nD a) s = true → ∀ x, x < nN a → σ1 (25 + 1 * s) x = c1 (FAR a w u s x)) → J g κ 4 2 [some (.ref (gad g (23))), some (.ref (gad g (48 + 4 * i))), some (.int (nI (t))), none] [] σ1 := by
    intro k
    induction k using Nat.strongRecOn with
    | _ k ih =>
      intro t σ1 hk ht hf hrow
      refine j_iload_n C dX0_costOf_2 rfl rfl ?_
      refine j_aload_n C dX0_costOf_3 rfl rfl ?_
      refine j_get C flX0_36 dX0_costOf_4 (Nat.lt_of_lt_of_le (by decide) hN) rfl rfl ?_
      refine j_get C flX0_40 dX0_costOf_7 (Nat.lt_of_lt_of_le (by decide) hN) rfl rfl ?_
      refine j_top ((hf _ _ (by omega)).trans (hI.n)) ?_
      refine j_icmpn_ge (tgt := 37) C dX0_costOf_10 rfl (by omega) (by omega) (fun h10 => ?_) (fun h10 => ?_)
      · refine j_iconst (v := nI 0) C dX0_costOf_37 rfl ?_
        refine j_istore_n (L' := [some (.ref (gad g (23))), some (.ref (gad g (48 + 4 * i))), some (.int (nI (0))), none]) C dX0_costOf_38 rfl (by decide) rfl ?_
        exact lp2 (nM a - 0) 0 σ1 rfl (by omega) hf (fun s hs hg => hrow s (by omega) hg) (fun z hz => by omega)
      · rcases hgo : isGo (nGo a) (nD a) t with _ | _
        · refine j_aload_n C dX0_costOf_13 rfl rfl ?_
          refine j_get C flX0_36 dX0_costOf_14 (Nat.lt_of_lt_of_le (by decide) hN) rfl rfl ?_
          refine j_get C flX0_46 dX0_costOf_17 (Nat.lt_of_lt_of_le (by decide) hN) rfl rfl ?_
          refine j_iload_n C dX0_costOf_20 rfl rfl ?_
          refine j_zald C dX0_costOf_21 (Nat.lt_of_lt_of_le (by decide) hN) (fun _ => rfl) (by decide) (by omega) ?_
          refine j_top ((hf _ _ (by omega)).trans ((hI.gl (x := t) (by omega)).trans (by rw [hgo]))) ?_
          refine j_ifn_eq (tgt := 31) C dX0_costOf_22 rfl (by omega) (fun _ => ?_) (fun h => absurd h (by decide))
          refine j_iinc (L' := [some (.ref (gad g (23))), some (.ref (gad g (48 + 4 * i))), some (.int (nI (t + 1))), none]) C dX0_costOf_31 rfl (nI_inc _) (by decide) rfl ?_
          refine j_goto (tgt := 2) C dX0_costOf_34 rfl ?_
          refine ih (nN a - (t + 1)) (by omega) (t + 1) σ1 rfl (by omega) hf (fun s hs hg => ?_)
          by_cases e : s = t
          · subst e; rw [hgo] at hg; cases hg
          · exact hrow s (by omega) hg
        · refine j_aload_n C dX0_costOf_13 rfl rfl ?_
          refine j_get C flX0_36 dX0_costOf_14 (Nat.lt_of_lt_of_le (by decide) hN) rfl rfl ?_
          refine j_get C flX0_46 dX0_costOf_17 (Nat.lt_of_lt_of_le (by decide) hN) rfl rfl ?_
          refine j_iload_n C dX0_costOf_20 rfl rfl ?_
          refine j_zald C dX0_costOf_21 (Nat.lt_of_lt_of_le (by decide) hN) (fun _ => rfl) (by decide) (by omega) ?_
          refine j_top ((hf _ _ (by omega)).trans ((hI.gl (x := t) (by omega)).trans (by rw [hgo]))) ?_
          refine j_ifn_eq (tgt := 31) C dX0_costOf_22 rfl (by omega) (fun h => absurd h (by decide)) (fun _ => ?_)
          refine j_aload_n C dX0_costOf_25 rfl rfl ?_
          refine j_aload_n C dX0_costOf_26 rfl rfl ?_
          refine j_iload_n C dX0_costOf_27 rfl rfl ?_
          refine j_callv (As := [.ref (gad g (48 + 4 * i)), .int (nI (t))]) (rest := []) C (tX0_measureF hN hi (hI.kept (fun j n h1 h2 => hf j n (by omega))) hO (hW.kept (fun j n h1 => hf j n (by omega))) hw (t := t) (by omega)) cdX0_measure mlX0_49 dX0_costOf_28 (by decide) (by decide) (Nat.lt_of_lt_of_le (by decide) hN) rfl rfl rfl rfl rfl (Nat.le_of_ble_eq_true rfl) (fun τ1 hp_3 => ?_)
          obtain ⟨hf9, hrow9⟩ := hp_3
          refine j_iinc (L' := [some (.ref (gad g (23))), some (.ref (gad g (48 + 4 * i))), some (.int (nI (t + 1))), none]) C dX0_costOf_31 rfl (nI_inc _) (by decide) rfl ?_
          refine j_goto (tgt := 2) C dX0_costOf_34 rfl ?_
          refine ih (nN a - (t + 1)) (by omega) (t + 1) τ1 rfl (by omega) (fun j n h => by rw [hf9 _ _ (by omega)]; exact hf j n h) (fun s hs hg => ?_)
          by_cases e : s = t
          · subst e; exact hrow9
          · intro x hx; rw [hf9 _ _ (by omega)]; exact hrow s (by omega) hg x hx
  refine j_iconst (v := nI 0) C dX0_costOf_0 rfl ?_
  refine j_istore_n (L' := [some (.ref (gad g (23))), some (.ref (gad g (48 + 4 * i))), some (.int (nI (0))), none]) C dX0_costOf_1 rfl (by decide) rfl ?_
  exact lp1 (nN a - 0) 0 σ rfl (by omega) (fun _ _ _ => rfl) (fun s hs => by omega)
/-- SHORT for a goal below b -/
def sgA (a : ND) (w : Nat → Nat) (u : Nat → Bool) (l : Nat) : Nat → Bool
  | 0 => false
  | t + 1 => sgA a w u l t || (isGo (nGo a) (nD a) t && shb a w u (FAR a w u t) l)
set_option maxHeartbeats 4000000 in
set_option maxRecDepth 100000 in
theorem tX0_isShortForAGoal {g : jG} (hN : 84 ≤ gN g) {σ : Sg} {i : Nat} {a : ND} {w : Nat → Nat} {u : Nat → Bool} (hi : i < 9) (hI : NetI σ 3 a) (hO : NOk a) (hW : StW σ i (nM a) w u) (hw : WOk (nM a) w) {l : Nat} (hl : l < nM a) (hfar : FarI σ a w u) : MS g yX0_isShortForAGoal cX0_isShortForAGoal 4 (some .boolean) rmX0_isShortForAGoal [.ref (gad g (23)), .ref (gad g (48 + 4 * i)), .int (nI (l))] σ (fun r σ' => σ' = σ ∧ r = bI (sgA a w u l (nN a))) := by
  refine MJ_of (by decide) (Nat.le_of_ble_eq_true rfl) (List.forall_mem_cons.mpr ⟨rfl, List.forall_mem_cons.mpr ⟨rfl, List.forall_mem_cons.mpr ⟨rfl, fun _ h => absurd h List.not_mem_nil⟩⟩⟩) ?_
  intro κ M
  have C := M.1
  show J g κ 4 0 [some (.ref (gad g (23))), some (.ref (gad g (48 + 4 * i))), some (.int (nI (l))), none] [] σ
  have hn7 := hO.2.1
  have hm12 := hO.2.2.1
  have hd6 := hO.2.2.2.1
  have lp : ∀ (k : Nat) (t : Nat), nN a - t = k → t ≤ nN a → sgA a w u l t = false → J g κ 4 2 [some (.ref (gad g (23))), some (.ref (gad g (48 + 4 * i))), some (.int (nI (l))), some (.int (nI (t)))] [] σ := by
    intro k
    induction k using Nat.strongRecOn with
    | _ k ih =>
      intro t hk ht h0
      refine j_iload_n C dX0_isShortForAGoal_2 rfl rfl ?_
      refine j_aload_n C dX0_isShortForAGoal_3 rfl rfl ?_
      refine j_get C flX0_36 dX0_isShortForAGoal_4 (Nat.lt_of_lt_of_le (by decide) hN) rfl rfl ?_
      refine j_get C flX0_40 dX0_isShortForAGoal_7 (Nat.lt_of_lt_of_le (by decide) hN) rfl rfl ?_
      refine j_top (hI.n) ?_
      refine j_icmpn_ge (tgt := 43) C dX0_isShortForAGoal_10 rfl (by omega) (by omega) (fun h10 => ?_) (fun h10 => ?_)
      · refine j_iconst (v := nI 0) C dX0_isShortForAGoal_43 rfl ?_
        refine j_retz M dX0_isShortForAGoal_44 rfl ?_
        refine ⟨rfl, ?_⟩
        rw [show nN a = t by omega, h0]
        rfl
      · rcases hgo : isGo (nGo a) (nD a) t with _ | _
        · refine j_aload_n C dX0_isShortForAGoal_13 rfl rfl ?_
          refine j_get C flX0_36 dX0_isShortForAGoal_14 (Nat.lt_of_lt_of_le (by decide) hN) rfl rfl ?_
          refine j_get C flX0_46 dX0_isShortForAGoal_17 (Nat.lt_of_lt_of_le (by decide) hN) rfl rfl ?_
          refine j_iload_n C dX0_isShortForAGoal_20 rfl rfl ?_
          refine j_zald C dX0_isShortForAGoal_21 (Nat.lt_of_lt_of_le (by decide) hN) (fun _ => rfl) (by decide) (by omega) ?_
          refine j_top ((hI.gl (x := t) (by omega)).trans (by rw [hgo])) ?_
          refine j_ifn_eq (tgt := 37) C dX0_isShortForAGoal_22 rfl (by omega) (fun _ => ?_) (fun h => absurd h (by decide))
          refine j_iinc (L' := [some (.ref (gad g (23))), some (.ref (gad g (48 + 4 * i))), some (.int (nI (l))), some (.int (nI (t + 1)))]) C dX0_isShortForAGoal_37 rfl (nI_inc _) (by decide) rfl ?_
          refine j_goto (tgt := 2) C dX0_isShortForAGoal_40 rfl ?_
          refine ih (nN a - (t + 1)) (by omega) (t + 1) rfl (by omega) ?_
          rw [sgA, h0, hgo]
          first | rfl | rw [hsb]; rfl
        · refine j_aload_n C dX0_isShortForAGoal_13 rfl rfl ?_
          refine j_get C flX0_36 dX0_isShortForAGoal_14 (Nat.lt_of_lt_of_le (by decide) hN) rfl rfl ?_
          refine j_get C flX0_46 dX0_isShortForAGoal_17 (Nat.lt_of_lt_of_le (by decide) hN) rfl rfl ?_
          refine j_iload_n C dX0_isShortForAGoal_20 rfl rfl ?_
          refine j_zald C dX0_isShortForAGoal_21 (Nat.lt_of_lt_of_le (by decide) hN) (fun _ => rfl) (by decide) (by omega) ?_
          refine j_top ((hI.gl (x := t) (by omega)).trans (by rw [hgo])) ?_
          refine j_ifn_eq (tgt := 37) C dX0_isShortForAGoal_22 rfl (by omega) (fun h => absurd h (by decide)) (fun _ => ?_)
          refine j_aload_n C dX0_isShortForAGoal_25 rfl rfl ?_
          refine j_aload_n C dX0_isShortForAGoal_26 rfl rfl ?_
          refine j_iload_n C dX0_isShortForAGoal_27 rfl rfl ?_
          refine j_iload_n C dX0_isShortForAGoal_28 rfl rfl ?_
          refine j_calli (As := [.ref (gad g (48 + 4 * i)), .int (nI (l)), .int (nI (t))]) (rest := []) C (tX0_isShort hN hi hI hO hW hw (l := l) (t := t) (f := FAR a w u t) hl (by omega) (hfar t (by omega) hgo) (FAR_bd' hO hw)) cdX0_isShort mlX0_83 dX0_isShortForAGoal_29 (by decide) (by decide) (Nat.lt_of_lt_of_le (by decide) hN) rfl rfl rfl rfl rfl (Nat.le_of_ble_eq_true rfl) (fun rr_2 τ1 hp_3 => ?_)
          obtain ⟨hs, hr⟩ := hp_3
          replace hs := hs.symm
          subst hs
          rcases hsb : shb a w u (FAR a w u t) l with _ | _ <;> rw [hsb] at hr <;> subst hr
          · refine j_ifn_eq (tgt := 37) C dX0_isShortForAGoal_32 rfl (by omega) (fun _ => ?_) (fun h => absurd h (by decide))
            refine j_iinc (L' := [some (.ref (gad g (23))), some (.ref (gad g (48 + 4 * i))), some (.int (nI (l))), some (.int (nI (t + 1)))]) C dX0_isShortForAGoal_37 rfl (nI_inc _) (by decide) rfl ?_
            refine j_goto (tgt := 2) C dX0_isShortForAGoal_40 rfl ?_
            refine ih (nN a - (t + 1)) (by omega) (t + 1) rfl (by omega) ?_
            rw [sgA, h0, hgo]
            first | rfl | rw [hsb]; rfl
          · refine j_ifn_eq (tgt := 37) C dX0_isShortForAGoal_32 rfl (by omega) (fun h => absurd h (by decide)) (fun _ => ?_)
            refine j_iconst (v := nI 1) C dX0_isShortForAGoal_35 rfl ?_
            refine j_retz M dX0_isShortForAGoal_36 rfl ?_
            refine ⟨rfl, ?_⟩
            have e1 : sgA a w u l (t + 1) = true := by rw [sgA, hgo, hsb]; simp
            have e2 : ∀ b, t + 1 ≤ b → sgA a w u l b = true := by
              intro b hb
              induction b with
              | zero => omega
              | succ b ihb =>
                by_cases q : t = b
                · subst q; exact e1
                · rw [sgA, ihb (by omega), Bool.true_or]
            rw [e2 (nN a) (by omega)]
            rfl
  refine j_iconst (v := nI 0) C dX0_isShortForAGoal_0 rfl ?_
  refine j_istore_n (L' := [some (.ref (gad g (23))), some (.ref (gad g (48 + 4 * i))), some (.int (nI (l))), some (.int (nI (0)))]) C dX0_isShortForAGoal_1 rfl (by decide) rfl ?_
  exact lp (nN a - 0) 0 rfl (by omega) rfl
set_option maxHeartbeats 4000000 in
set_option maxRecDepth 100000 in
theorem tX0_shortDemands {g : jG} (hN : 84 ≤ gN g) {σ : Sg} {i : Nat} {a : ND} {w : Nat → Nat} {u : Nat → Bool} (hi : i < 9) (hI : NetI σ 3 a) (hO : NOk a) (hW : StW σ i (nM a) w u) (hw : WOk (nM a) w) {l : Nat} (hl : l < nM a) (hFl : FlowI σ a w u) : MS g yX0_shortDemands cX0_shortDemands 5 (some .int) rmX0_shortDemands [.ref (gad g (23)), .ref (gad g (48 + 4 * i)), .int (nI (l))] σ (fun r σ' => σ' = σ ∧ r = nI (cnt (fun d => !lostB a w u d && shb a w u (FAR a w u (nGo a d)) l) (nD a))) := by
  refine MJ_of (by decide) (Nat.le_of_ble_eq_true rfl) (List.forall_mem_cons.mpr ⟨rfl, List.forall_mem_cons.mpr ⟨rfl, List.forall_mem_cons.mpr ⟨rfl, fun _ h => absurd h List.not_mem_nil⟩⟩⟩) ?_
  intro κ M
  have C := M.1
  show J g κ 5 0 [some (.ref (gad g (23))), some (.ref (gad g (48 + 4 * i))), some (.int (nI (l))), none, none] [] σ
  have hn7 := hO.2.1
  have hm12 := hO.2.2.1
  have hd6 := hO.2.2.2.1
  have lp : ∀ (k : Nat) (d : Nat), nD a - d = k → d ≤ nD a → J g κ 5 5 [some (.ref (gad g (23))), some (.ref (gad g (48 + 4 * i))), some (.int (nI (l))), some (.int (nI (cnt (fun d => !lostB a w u d && shb a w u (FAR a w u (nGo a d)) l) d))), some (.int (nI (d)))] [] σ := by
    intro k
    induction k using Nat.strongRecOn with
    | _ k ih =>
      intro d hk hd
      refine j_iload C dX0_shortDemands_5 rfl ?_
      refine j_aload_n C dX0_shortDemands_7 rfl rfl ?_
      refine j_get C flX0_36 dX0_shortDemands_8 (Nat.lt_of_lt_of_le (by decide) hN) rfl rfl ?_
      refine j_get C flX0_56 dX0_shortDemands_11 (Nat.lt_of_lt_of_le (by decide) hN) rfl rfl ?_
      refine j_top (hI.d) ?_
      refine j_icmpn_ge (tgt := 55) C dX0_shortDemands_14 rfl (by omega) (by omega) (fun h14 => ?_) (fun h14 => ?_)
      · refine j_iload_n C dX0_shortDemands_55 rfl rfl ?_
        refine j_ret M dX0_shortDemands_56 ?_
        obtain rfl : d = nD a := by omega
        exact ⟨rfl, rfl⟩
      · have hc := cnt_le (fun d => !lostB a w u d && shb a w u (FAR a w u (nGo a d)) l) d
        obtain ⟨hg1, hg2, hg3, hg4, hg5⟩ := hO.2.2.2.2.2 d h14
        rcases hlo : lostB a w u d with _ | _
        · refine j_aload_n C dX0_shortDemands_17 rfl rfl ?_
          refine j_get C flX0_23 dX0_shortDemands_18 (Nat.lt_of_lt_of_le (by decide) hN) rfl rfl ?_
          refine j_iload C dX0_shortDemands_21 rfl ?_
          refine j_zald C dX0_shortDemands_23 (Nat.lt_of_lt_of_le (by decide) hN) (fun _ => rfl) (by decide) (by omega) ?_
          refine j_top ((hFl.2.1 d (by omega)).trans (by rw [hlo])) ?_
          refine j_ifn_ne (tgt := 49) C dX0_shortDemands_24 rfl (by omega) (fun h => absurd h (by decide)) (fun _ => ?_)
          refine j_aload_n C dX0_shortDemands_27 rfl rfl ?_
          refine j_aload_n C dX0_shortDemands_28 rfl rfl ?_
          refine j_iload_n C dX0_shortDemands_29 rfl rfl ?_
          refine j_aload_n C dX0_shortDemands_30 rfl rfl ?_
          refine j_get C flX0_36 dX0_shortDemands_31 (Nat.lt_of_lt_of_le (by decide) hN) rfl rfl ?_
          refine j_get C flX0_87 dX0_shortDemands_34 (Nat.lt_of_lt_of_le (by decide) hN) rfl rfl ?_
          refine j_iload C dX0_shortDemands_37 rfl ?_
          refine j_iald C dX0_shortDemands_39 (Nat.lt_of_lt_of_le (by decide) hN) (fun _ => rfl) (by decide) (by omega) ?_
          refine j_top (hI.go (l := d) (by omega)) ?_
          refine j_calli (As := [.ref (gad g (48 + 4 * i)), .int (nI (l)), .int (nI (nGo a (d)))]) (rest := []) C (tX0_isShort hN hi hI hO hW hw (l := l) (t := nGo a d) (f := FAR a w u (nGo a d)) hl (by omega) (hFl.1 (nGo a d) (by omega) (isGo_mem h14)) (FAR_bd' hO hw)) cdX0_isShort mlX0_83 dX0_shortDemands_40 (by decide) (by decide) (Nat.lt_of_lt_of_le (by decide) hN) rfl rfl rfl rfl rfl (Nat.le_of_ble_eq_true rfl) (fun rr_2 τ1 hp_3 => ?_)
          obtain ⟨hs, hr⟩ := hp_3
          replace hs := hs.symm
          subst hs
          rcases hsb : shb a w u (FAR a w u (nGo a d)) l with _ | _ <;> rw [hsb] at hr <;> subst hr
          · refine j_ifn_eq (tgt := 49) C dX0_shortDemands_43 rfl (by omega) (fun _ => ?_) (fun h => absurd h (by decide))
            refine j_iinc (L' := [some (.ref (gad g (23))), some (.ref (gad g (48 + 4 * i))), some (.int (nI (l))), some (.int (nI (cnt (fun d => !lostB a w u d && shb a w u (FAR a w u (nGo a d)) l) d))), some (.int (nI (d + 1)))]) C dX0_shortDemands_49 rfl (nI_inc _) (by decide) rfl ?_
            refine j_goto (tgt := 5) C dX0_shortDemands_52 rfl ?_
            refine J_loc (L' := [some (.ref (gad g (23))), some (.ref (gad g (48 + 4 * i))), some (.int (nI (l))), some (.int (nI (cnt (fun d => !lostB a w u d && shb a w u (FAR a w u (nGo a d)) l) (d + 1)))), some (.int (nI (d + 1)))]) ?_ (ih (nD a - (d + 1)) (by omega) (d + 1) rfl (by omega))
            first | rw [cnt_hit (by rw [hlo, hsb]; rfl)] | rw [cnt_miss (by rw [hlo, hsb]; rfl)] | rw [cnt_miss (by rw [hlo]; rfl)]
          · refine j_ifn_eq (tgt := 49) C dX0_shortDemands_43 rfl (by omega) (fun h => absurd h (by decide)) (fun _ => ?_)
            refine j_iinc (L' := [some (.ref (gad g (23))), some (.ref (gad g (48 + 4 * i))), some (.int (nI (l))), some (.int (nI (cnt (fun d => !lostB a w u d && shb a w u (FAR a w u (nGo a d)) l) d + 1))), some (.int (nI (d)))]) C dX0_shortDemands_46 rfl (nI_inc _) (by decide) rfl ?_
            refine j_iinc (L' := [some (.ref (gad g (23))), some (.ref (gad g (48 + 4 * i))), some (.int (nI (l))), some (.int (nI (cnt (fun d => !lostB a w u d && shb a w u (FAR a w u (nGo a d)) l) d + 1))), some (.int (nI (d + 1)))]) C dX0_shortDemands_49 rfl (nI_inc _) (by decide) rfl ?_
            refine j_goto (tgt := 5) C dX0_shortDemands_52 rfl ?_
            refine J_loc (L' := [some (.ref (gad g (23))), some (.ref (gad g (48 + 4 * i))), some (.int (nI (l))), some (.int (nI (cnt (fun d => !lostB a w u d && shb a w u (FAR a w u (nGo a d)) l) (d + 1)))), some (.int (nI (d + 1)))]) ?_ (ih (nD a - (d + 1)) (by omega) (d + 1) rfl (by omega))
            first | rw [cnt_hit (by rw [hlo, hsb]; rfl)] | rw [cnt_miss (by rw [hlo, hsb]; rfl)] | rw [cnt_miss (by rw [hlo]; rfl)]
        · refine j_aload_n C dX0_shortDemands_17 rfl rfl ?_
          refine j_get C flX0_23 dX0_shortDemands_18 (Nat.lt_of_lt_of_le (by decide) hN) rfl rfl ?_
          refine j_iload C dX0_shortDemands_21 rfl ?_
          refine j_zald C dX0_shortDemands_23 (Nat.lt_of_lt_of_le (by decide) hN) (fun _ => rfl) (by decide) (by omega) ?_
          refine j_top ((hFl.2.1 d (by omega)).trans (by rw [hlo])) ?_
          refine j_ifn_ne (tgt := 49) C dX0_shortDemands_24 rfl (by omega) (fun _ => ?_) (fun h => absurd h (by decide))
          refine j_iinc (L' := [some (.ref (gad g (23))), some (.ref (gad g (48 + 4 * i))), some (.int (nI (l))), some (.int (nI (cnt (fun d => !lostB a w u d && shb a w u (FAR a w u (nGo a d)) l) d))), some (.int (nI (d + 1)))]) C dX0_shortDemands_49 rfl (nI_inc _) (by decide) rfl ?_
          refine j_goto (tgt := 5) C dX0_shortDemands_52 rfl ?_
          refine J_loc (L' := [some (.ref (gad g (23))), some (.ref (gad g (48 + 4 * i))), some (.int (nI (l))), some (.int (nI (cnt (fun d => !lostB a w u d && shb a w u (FAR a w u (nGo a d)) l) (d + 1)))), some (.int (nI (d + 1)))]) ?_ (ih (nD a - (d + 1)) (by omega) (d + 1) rfl (by omega))
          first | rw [cnt_hit (by rw [hlo, hsb]; rfl)] | rw [cnt_miss (by rw [hlo, hsb]; rfl)] | rw [cnt_miss (by rw [hlo]; rfl)]
  refine j_iconst (v := nI 0) C dX0_shortDemands_0 rfl ?_
  refine j_istore_n (L' := [some (.ref (gad g (23))), some (.ref (gad g (48 + 4 * i))), some (.int (nI (l))), some (.int (nI (0))), none]) C dX0_shortDemands_1 rfl (by decide) rfl ?_
  refine j_iconst (v := nI 0) C dX0_shortDemands_2 rfl ?_
  refine j_istore (L' := [some (.ref (gad g (23))), some (.ref (gad g (48 + 4 * i))), some (.int (nI (l))), some (.int (nI (0))), some (.int (nI (0)))]) C dX0_shortDemands_3 (by decide) rfl ?_
  exact lp (nD a - 0) 0 rfl (by omega)
