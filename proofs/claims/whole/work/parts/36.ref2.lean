set_option maxHeartbeats 4000000 in
set_option maxRecDepth 100000 in
theorem tX8_goOn {g : jG} (hN : 97 ≤ gN g) {σ : Sg} {a : ND} {w : Nat → Nat} {u : Nat → Bool} (hI : RNet σ a) (hO : NOk a) (hW : RW σ (nM a) w u) (hw : WOk (nM a) w) {x : Nat} {f : Nat → Option Nat} {cm sh : Nat → Nat} (hx : x < nN a) (hF : ∀ y, y < 7 → σ 93 y = c4 (f y)) (hB : fBd f 1680) (hcm : ∀ y, y < 7 → σ 95 y = nI (cm y)) (hsh : ∀ l, l < nM a → σ 94 l = nI (sh l)) (hc : cm x < 2 ^ 30) : MS g yX8_goOn cX8_goOn 6 none rmX8_goOn [.ref (gad g (84)), .int (nI (x))] σ (fun r σ' => (∀ j n, ¬ (j = 94 ∨ j = 95) → σ' j n = σ j n) ∧ (∀ y, y < 7 → σ' 95 y = nI (cmB a (prd a w u f x) (cm x) (cnt (prd a w u f x) (nM a)) cm (nM a) y)) ∧ ∀ l, l < nM a → σ' 94 l = nI (shB (prd a w u f x) (cm x) (cnt (prd a w u f x) (nM a)) sh (nM a) l)) := by
  refine MJ_of (by decide) (Nat.le_of_ble_eq_true rfl) (List.forall_mem_cons.mpr ⟨rfl, List.forall_mem_cons.mpr ⟨rfl, fun _ h => absurd h List.not_mem_nil⟩⟩) ?_
  intro κ M
  have C := M.1
  show J g κ 6 0 [some (.ref (gad g (84))), some (.int (nI (x))), none, none, none, none] [] σ
  have hn7 := hO.2.1
  have hm12 := hO.2.2.1
  have hd6 := hO.2.2.2.1
  have hK12 := cnt_le (prd a w u f x) (nM a)
  have hmod : (cm x) % (cnt (prd a w u f x) (nM a)) ≤ (cm x) := Nat.mod_le _ _
  have hdiv : (cm x) / (cnt (prd a w u f x) (nM a)) ≤ (cm x) := Nat.div_le_self _ _
  have lp2 : ∀ (R0 : Nat), R0 < 2 ^ 30 → ((cnt (prd a w u f x) (nM a)) ≠ 0 → R0 = (cm x) % (cnt (prd a w u f x) (nM a))) → ∀ (k l : Nat) (σ1 : Sg), nM a - l = k → l ≤ nM a → (∀ j n, ¬ (j = 94 ∨ j = 95) → σ1 j n = σ j n) → (∀ y, y < 7 → σ1 95 y = nI (cmB a (prd a w u f x) (cm x) (cnt (prd a w u f x) (nM a)) cm l y)) → (∀ z, z < nM a → σ1 94 z = nI (shB (prd a w u f x) (cm x) (cnt (prd a w u f x) (nM a)) sh l z)) → J g κ 6 63 [some (.ref (gad g (84))), some (.int (nI (x))), some (.int (nI (cnt (prd a w u f x) (nM a)))), some (.int (nI R0 - nI (cnt (prd a w u f x) l))), some (.int (nI (l))), none] [] σ1 := by
    intro R0 hR1 hR0 k
    induction k using Nat.strongRecOn with
    | _ k ih =>
      intro l σ1 hk hl hf hcm1 hsh1
      refine j_iload C dX8_goOn_63 rfl ?_
      refine j_aload_n C dX8_goOn_65 rfl rfl ?_
      refine j_get C flX8_77 dX8_goOn_66 (Nat.lt_of_lt_of_le (by decide) hN) rfl rfl ?_
      refine j_top ((hf _ _ (by omega)).trans (hI.1.2.1)) ?_
      refine j_icmpn_ge (tgt := 145) C dX8_goOn_69 rfl (by omega) (by omega) (fun h69 => ?_) (fun h69 => ?_)
      · refine j_retv M dX8_goOn_145 ?_
        have el : l = nM a := by omega
        rw [el] at hcm1 hsh1
        exact ⟨hf, hcm1, hsh1⟩
      · have hcl := cnt_le (prd a w u f x) l
        obtain ⟨hb1, hb2, hb3, hb4⟩ := hO.2.2.2.2.1 l h69
        refine j_aload_n C dX8_goOn_72 rfl rfl ?_
        refine j_iload C dX8_goOn_73 rfl ?_
        refine j_calli (As := [.int (nI (l))]) (rest := []) C (tX8_begin hN (hI.kept (fun j n h => hf j n (by omega))) hO (l := l) (by omega)) cdX8_begin mlX8_127 dX8_goOn_75 (by decide) (by decide) (Nat.lt_of_lt_of_le (by decide) hN) rfl rfl rfl rfl rfl (Nat.le_of_ble_eq_true rfl) (fun rr_2 τ1 hp_3 => ?_)
        obtain ⟨hs, hr⟩ := hp_3
        replace hs := hs.symm
        subst hs
        subst hr
        refine j_iload_n C dX8_goOn_78 rfl rfl ?_
        refine j_icmpn_ne (tgt := 139) C dX8_goOn_79 rfl (by omega) (by omega) (fun h79 => ?_) (fun h79 => ?_)
        · refine j_iinc (L' := [some (.ref (gad g (84))), some (.int (nI (x))), some (.int (nI (cnt (prd a w u f x) (nM a)))), some (.int (nI R0 - nI (cnt (prd a w u f x) l))), some (.int (nI (l + 1))), none]) C dX8_goOn_139 rfl (nI_inc _) (by decide) rfl ?_
          refine j_goto (tgt := 63) C dX8_goOn_142 rfl ?_
          have hp0 : (prd a w u f x) l = false := by
            unfold prd
            first | (rw [hsb, Bool.and_false]) | (rw [show (nFr a l == x) = false from beq_false_of_ne (by omega), Bool.false_and])
          have eg : cnt (prd a w u f x) l = cnt (prd a w u f x) (l + 1) := (cnt_miss hp0).symm
          refine J_loc (L' := [some (.ref (gad g (84))), some (.int (nI (x))), some (.int (nI (cnt (prd a w u f x) (nM a)))), some (.int (nI R0 - nI (cnt (prd a w u f x) (l + 1)))), some (.int (nI (l + 1))), none]) (by rw [cnt_miss hp0]) (ih (nM a - (l + 1)) (by omega) (l + 1) σ1 rfl (by omega) hf ?_ ?_)
          · rw [cmB_gap (by omega) eg]; exact hcm1
          · rw [shB_gap (by omega) eg]; exact hsh1
        · refine j_aload_n C dX8_goOn_82 rfl rfl ?_
          refine j_iload C dX8_goOn_83 rfl ?_
          refine j_calli (As := [.int (nI (l))]) (rest := []) C (tX8_isShort hN (hI.kept (fun j n h => hf j n (by omega))) hO (hW.kept hm12 (fun n h => hf _ _ (by omega))) hw (l := l) (f := f) (by omega) (fun y hy => (hf _ _ (by omega)).trans (hF y hy)) hB) cdX8_isShort mlX8_130 dX8_goOn_85 (by decide) (by decide) (Nat.lt_of_lt_of_le (by decide) hN) rfl rfl rfl rfl rfl (Nat.le_of_ble_eq_true rfl) (fun rr_5 τ4 hp_6 => ?_)
          obtain ⟨hs, hr⟩ := hp_6
          replace hs := hs.symm
          subst hs
          rcases hsb : shb a w u f l with _ | _ <;> rw [hsb] at hr <;> subst hr
          · refine j_ifn_eq (tgt := 139) C dX8_goOn_88 rfl (by omega) (fun _ => ?_) (fun h => absurd h (by decide))
            refine j_iinc (L' := [some (.ref (gad g (84))), some (.int (nI (x))), some (.int (nI (cnt (prd a w u f x) (nM a)))), some (.int (nI R0 - nI (cnt (prd a w u f x) l))), some (.int (nI (l + 1))), none]) C dX8_goOn_139 rfl (nI_inc _) (by decide) rfl ?_
            refine j_goto (tgt := 63) C dX8_goOn_142 rfl ?_
            have hp0 : (prd a w u f x) l = false := by
              unfold prd
              first | (rw [hsb, Bool.and_false]) | (rw [show (nFr a l == x) = false from beq_false_of_ne (by omega), Bool.false_and])
            have eg : cnt (prd a w u f x) l = cnt (prd a w u f x) (l + 1) := (cnt_miss hp0).symm
            refine J_loc (L' := [some (.ref (gad g (84))), some (.int (nI (x))), some (.int (nI (cnt (prd a w u f x) (nM a)))), some (.int (nI R0 - nI (cnt (prd a w u f x) (l + 1)))), some (.int (nI (l + 1))), none]) (by rw [cnt_miss hp0]) (ih (nM a - (l + 1)) (by omega) (l + 1) σ1 rfl (by omega) hf ?_ ?_)
            · rw [cmB_gap (by omega) eg]; exact hcm1
            · rw [shB_gap (by omega) eg]; exact hsh1
          · refine j_ifn_eq (tgt := 139) C dX8_goOn_88 rfl (by omega) (fun h => absurd h (by decide)) (fun _ => ?_)
            have hp1 : (prd a w u f x) l = true := by
              unfold prd
              rw [hsb, show (nFr a l == x) = true from beq_iff_eq.mpr (by omega)]
              rfl
            have hkp := cnt_pos hp1 h69
            have hRr := hR0 (by omega)
            refine j_aload_n C dX8_goOn_91 rfl rfl ?_
            refine j_get C flX8_40 dX8_goOn_92 (Nat.lt_of_lt_of_le (by decide) hN) rfl rfl ?_
            refine j_iload_n C dX8_goOn_95 rfl rfl ?_
            refine j_iald C dX8_goOn_96 (Nat.lt_of_lt_of_le (by decide) hN) (fun _ => rfl) (by decide) (by omega) ?_
            refine j_top ((hcm1 x (by omega)).trans (congrArg nI (cmB_self hO hl))) ?_
            refine j_iload_n C dX8_goOn_97 rfl rfl ?_
            refine j_idiv C dX8_goOn_98 (nI_ne0 (by omega) (by omega)) ?_
            refine j_top (pk_div (by omega) (by omega) (by omega)) ?_
            refine j_iload_n C dX8_goOn_99 rfl rfl ?_
            refine j_if_le (tgt := 107) C dX8_goOn_100 rfl (fun h100 => ?_) (fun h100 => ?_)
            · refine j_iconst (v := nI 0) C dX8_goOn_107 rfl ?_
              refine j_iadd C dX8_goOn_108 ?_
              refine j_top (nI_add _ _) ?_
              refine j_istore (L' := [some (.ref (gad g (84))), some (.int (nI (x))), some (.int (nI (cnt (prd a w u f x) (nM a)))), some (.int (nI R0 - nI (cnt (prd a w u f x) l))), some (.int (nI (l))), some (.int (nI (((cm x) / (cnt (prd a w u f x) (nM a)) + 0))))]) C dX8_goOn_109 (by decide) rfl ?_
              refine j_iinc (L' := [some (.ref (gad g (84))), some (.int (nI (x))), some (.int (nI (cnt (prd a w u f x) (nM a)))), some (.int (nI R0 - nI (cnt (prd a w u f x) l + 1))), some (.int (nI (l))), some (.int (nI (((cm x) / (cnt (prd a w u f x) (nM a)) + 0))))]) C dX8_goOn_111 rfl (dec_sub _ _) (by decide) rfl ?_
              refine j_aload_n C dX8_goOn_114 rfl rfl ?_
              refine j_get C flX8_37 dX8_goOn_115 (Nat.lt_of_lt_of_le (by decide) hN) rfl rfl ?_
              refine j_iload C dX8_goOn_118 rfl ?_
              refine j_iload C dX8_goOn_120 rfl ?_
              refine j_iast' C dX8_goOn_122 (Nat.lt_of_lt_of_le (by decide) hN) (fun _ => rfl) (by decide) (by omega) (fun τ7 hz_8 hw_9 => ?_)
              refine j_aload_n C dX8_goOn_123 rfl rfl ?_
              refine j_get C flX8_40 dX8_goOn_124 (Nat.lt_of_lt_of_le (by decide) hN) rfl rfl ?_
              refine j_aload_n C dX8_goOn_127 rfl rfl ?_
              refine j_iload C dX8_goOn_128 rfl ?_
              refine j_calli (As := [.int (nI (l))]) (rest := [.ref (gad g (95))]) C (tX8_end hN (hI.kept (fun j n h => by rw [hz_8 _ _ (by omega)]; exact hf j n (by omega))) hO (l := l) (by omega)) cdX8_end mlX8_120 dX8_goOn_130 (by decide) (by decide) (Nat.lt_of_lt_of_le (by decide) hN) rfl rfl rfl rfl rfl (Nat.le_of_ble_eq_true rfl) (fun rr_11 τ10 hp_12 => ?_)
              obtain ⟨hs, hr⟩ := hp_12
              replace hs := hs.symm
              subst hs
              subst hr
              refine j_dup2 C dX8_goOn_133 rfl rfl ?_
              refine j_iald C dX8_goOn_134 (Nat.lt_of_lt_of_le (by decide) hN) (fun _ => rfl) (by decide) (by omega) ?_
              refine j_top ((hz_8 _ _ (by omega)).trans (hcm1 (nTo a (l)) (by omega))) ?_
              refine j_iload C dX8_goOn_135 rfl ?_
              refine j_iadd C dX8_goOn_137 ?_
              refine j_top (nI_add _ _) ?_
              refine j_iast' C dX8_goOn_138 (Nat.lt_of_lt_of_le (by decide) hN) (fun _ => rfl) (by decide) (by omega) (fun τ13 hz_14 hw_15 => ?_)
              refine j_iinc (L' := [some (.ref (gad g (84))), some (.int (nI (x))), some (.int (nI (cnt (prd a w u f x) (nM a)))), some (.int (nI R0 - nI (cnt (prd a w u f x) l + 1))), some (.int (nI (l + 1))), some (.int (nI (((cm x) / (cnt (prd a w u f x) (nM a)) + 0))))]) C dX8_goOn_139 rfl (nI_inc _) (by decide) rfl ?_
              refine j_goto (tgt := 63) C dX8_goOn_142 rfl ?_
              refine J_clr 5 (L' := [some (.ref (gad g (84))), some (.int (nI (x))), some (.int (nI (cnt (prd a w u f x) (nM a)))), some (.int (nI R0 - nI (cnt (prd a w u f x) l + 1))), some (.int (nI (l + 1))), none]) rfl ?_
              have hpt : ptN (prd a w u f x) (cm x) (cnt (prd a w u f x) (nM a)) l = ((cm x) / (cnt (prd a w u f x) (nM a)) + 0) := by
                unfold ptN
                first | rw [if_pos (by have q : ¬ R0 ≤ cnt (prd a w u f x) l := fun z => h100 ((sub_le0 (by omega) (by omega)).mpr z); omega)] | rw [if_neg (by have q := (sub_le0 (by omega) (by omega)).mp h100; omega)]
              refine J_loc (L' := [some (.ref (gad g (84))), some (.int (nI (x))), some (.int (nI (cnt (prd a w u f x) (nM a)))), some (.int (nI R0 - nI (cnt (prd a w u f x) (l + 1)))), some (.int (nI (l + 1))), none]) (by rw [cnt_hit hp1]) (ih (nM a - (l + 1)) (by omega) (l + 1) τ13 rfl (by omega) (fun j n h => by rw [hz_14 _ _ (by omega), hz_8 _ _ (by omega)]; exact hf j n h) (fun z hz => ?_) (fun z hz => ?_))
              · rw [cmB_hit hp1]
                by_cases e : z = nTo a l
                · subst e
                  rw [if_pos rfl, hpt]; assumption
                · rw [if_neg e, hz_14 _ _ (by omega), hz_8 _ _ (by omega)]; exact hcm1 z hz
              · rw [shB_hit hp1]
                by_cases e : z = l
                · subst e
                  rw [if_pos rfl, hpt, hz_14 _ _ (by omega)]; assumption
                · rw [if_neg e, hz_14 _ _ (by omega), hz_8 _ _ (by omega)]; exact hsh1 z hz
            · refine j_iconst (v := nI 1) C dX8_goOn_103 rfl ?_
              refine j_goto (tgt := 108) C dX8_goOn_104 rfl ?_
              refine j_iadd C dX8_goOn_108 ?_
              refine j_top (nI_add _ _) ?_
              refine j_istore (L' := [some (.ref (gad g (84))), some (.int (nI (x))), some (.int (nI (cnt (prd a w u f x) (nM a)))), some (.int (nI R0 - nI (cnt (prd a w u f x) l))), some (.int (nI (l))), some (.int (nI (((cm x) / (cnt (prd a w u f x) (nM a)) + 1))))]) C dX8_goOn_109 (by decide) rfl ?_
              refine j_iinc (L' := [some (.ref (gad g (84))), some (.int (nI (x))), some (.int (nI (cnt (prd a w u f x) (nM a)))), some (.int (nI R0 - nI (cnt (prd a w u f x) l + 1))), some (.int (nI (l))), some (.int (nI (((cm x) / (cnt (prd a w u f x) (nM a)) + 1))))]) C dX8_goOn_111 rfl (dec_sub _ _) (by decide) rfl ?_
              refine j_aload_n C dX8_goOn_114 rfl rfl ?_
              refine j_get C flX8_37 dX8_goOn_115 (Nat.lt_of_lt_of_le (by decide) hN) rfl rfl ?_
              refine j_iload C dX8_goOn_118 rfl ?_
              refine j_iload C dX8_goOn_120 rfl ?_
              refine j_iast' C dX8_goOn_122 (Nat.lt_of_lt_of_le (by decide) hN) (fun _ => rfl) (by decide) (by omega) (fun τ16 hz_17 hw_18 => ?_)
              refine j_aload_n C dX8_goOn_123 rfl rfl ?_
              refine j_get C flX8_40 dX8_goOn_124 (Nat.lt_of_lt_of_le (by decide) hN) rfl rfl ?_
              refine j_aload_n C dX8_goOn_127 rfl rfl ?_
              refine j_iload C dX8_goOn_128 rfl ?_
              refine j_calli (As := [.int (nI (l))]) (rest := [.ref (gad g (95))]) C (tX8_end hN (hI.kept (fun j n h => by rw [hz_17 _ _ (by omega)]; exact hf j n (by omega))) hO (l := l) (by omega)) cdX8_end mlX8_120 dX8_goOn_130 (by decide) (by decide) (Nat.lt_of_lt_of_le (by decide) hN) rfl rfl rfl rfl rfl (Nat.le_of_ble_eq_true rfl) (fun rr_20 τ19 hp_21 => ?_)
              obtain ⟨hs, hr⟩ := hp_21
              replace hs := hs.symm
              subst hs
              subst hr
              refine j_dup2 C dX8_goOn_133 rfl rfl ?_
              refine j_iald C dX8_goOn_134 (Nat.lt_of_lt_of_le (by decide) hN) (fun _ => rfl) (by decide) (by omega) ?_
              refine j_top ((hz_17 _ _ (by omega)).trans (hcm1 (nTo a (l)) (by omega))) ?_
              refine j_iload C dX8_goOn_135 rfl ?_
              refine j_iadd C dX8_goOn_137 ?_
              refine j_top (nI_add _ _) ?_
              refine j_iast' C dX8_goOn_138 (Nat.lt_of_lt_of_le (by decide) hN) (fun _ => rfl) (by decide) (by omega) (fun τ22 hz_23 hw_24 => ?_)
              refine j_iinc (L' := [some (.ref (gad g (84))), some (.int (nI (x))), some (.int (nI (cnt (prd a w u f x) (nM a)))), some (.int (nI R0 - nI (cnt (prd a w u f x) l + 1))), some (.int (nI (l + 1))), some (.int (nI (((cm x) / (cnt (prd a w u f x) (nM a)) + 1))))]) C dX8_goOn_139 rfl (nI_inc _) (by decide) rfl ?_
              refine j_goto (tgt := 63) C dX8_goOn_142 rfl ?_
              refine J_clr 5 (L' := [some (.ref (gad g (84))), some (.int (nI (x))), some (.int (nI (cnt (prd a w u f x) (nM a)))), some (.int (nI R0 - nI (cnt (prd a w u f x) l + 1))), some (.int (nI (l + 1))), none]) rfl ?_
              have hpt : ptN (prd a w u f x) (cm x) (cnt (prd a w u f x) (nM a)) l = ((cm x) / (cnt (prd a w u f x) (nM a)) + 1) := by
                unfold ptN
                first | rw [if_pos (by have q : ¬ R0 ≤ cnt (prd a w u f x) l := fun z => h100 ((sub_le0 (by omega) (by omega)).mpr z); omega)] | rw [if_neg (by have q := (sub_le0 (by omega) (by omega)).mp h100; omega)]
              refine J_loc (L' := [some (.ref (gad g (84))), some (.int (nI (x))), some (.int (nI (cnt (prd a w u f x) (nM a)))), some (.int (nI R0 - nI (cnt (prd a w u f x) (l + 1)))), some (.int (nI (l + 1))), none]) (by rw [cnt_hit hp1]) (ih (nM a - (l + 1)) (by omega) (l + 1) τ22 rfl (by omega) (fun j n h => by rw [hz_23 _ _ (by omega), hz_17 _ _ (by omega)]; exact hf j n h) (fun z hz => ?_) (fun z hz => ?_))
              · rw [cmB_hit hp1]
                by_cases e : z = nTo a l
                · subst e
                  rw [if_pos rfl, hpt]; assumption
                · rw [if_neg e, hz_23 _ _ (by omega), hz_17 _ _ (by omega)]; exact hcm1 z hz
              · rw [shB_hit hp1]
                by_cases e : z = l
                · subst e
                  rw [if_pos rfl, hpt, hz_23 _ _ (by omega)]; assumption
                · rw [if_neg e, hz_23 _ _ (by omega), hz_17 _ _ (by omega)]; exact hsh1 z hz
  have lp1 : ∀ (k : Nat) (l : Nat), nM a - l = k → l ≤ nM a → J g κ 6 4 [some (.ref (gad g (84))), some (.int (nI (x))), some (.int (nI (cnt (prd a w u f x) l))), some (.int (nI (l))), none, none] [] σ := by
    intro k
    induction k using Nat.strongRecOn with
    | _ k ih =>
      intro l hk hl
      refine j_iload_n C dX8_goOn_4 rfl rfl ?_
      refine j_aload_n C dX8_goOn_5 rfl rfl ?_
      refine j_get C flX8_77 dX8_goOn_6 (Nat.lt_of_lt_of_le (by decide) hN) rfl rfl ?_
      refine j_top (hI.1.2.1) ?_
      refine j_icmpn_ge (tgt := 43) C dX8_goOn_9 rfl (by omega) (by omega) (fun h9 => ?_) (fun h9 => ?_)
      · have el : l = nM a := by omega
        refine J_loc (L' := [some (.ref (gad g (84))), some (.int (nI (x))), some (.int (nI (cnt (prd a w u f x) (nM a)))), some (.int (nI (nM a))), none, none]) (by rw [el]) ?_
        refine j_iload_n C dX8_goOn_43 rfl rfl ?_
        refine j_ifn_ne (tgt := 51) C dX8_goOn_44 rfl (by omega) (fun h44 => ?_) (fun h44 => ?_)
        · refine j_aload_n C dX8_goOn_51 rfl rfl ?_
          refine j_get C flX8_40 dX8_goOn_52 (Nat.lt_of_lt_of_le (by decide) hN) rfl rfl ?_
          refine j_iload_n C dX8_goOn_55 rfl rfl ?_
          refine j_iald C dX8_goOn_56 (Nat.lt_of_lt_of_le (by decide) hN) (fun _ => rfl) (by decide) (by omega) ?_
          refine j_top (hcm (x) (by omega)) ?_
          refine j_iload_n C dX8_goOn_57 rfl rfl ?_
          refine j_irem C dX8_goOn_58 (nI_ne0 (by omega) (by omega)) ?_
          refine j_top (pk_rem (by omega) (by omega) (by omega)) ?_
          refine j_istore_n (L' := [some (.ref (gad g (84))), some (.int (nI (x))), some (.int (nI (cnt (prd a w u f x) (nM a)))), some (.int (nI ((cm x) % (cnt (prd a w u f x) (nM a))))), none, none]) C dX8_goOn_59 rfl (by decide) rfl ?_
          refine j_iconst (v := nI 0) C dX8_goOn_60 rfl ?_
          refine j_istore (L' := [some (.ref (gad g (84))), some (.int (nI (x))), some (.int (nI (cnt (prd a w u f x) (nM a)))), some (.int (nI ((cm x) % (cnt (prd a w u f x) (nM a))))), some (.int (nI (0))), none]) C dX8_goOn_61 (by decide) rfl ?_
          refine J_loc (L' := [some (.ref (gad g (84))), some (.int (nI (x))), some (.int (nI (cnt (prd a w u f x) (nM a)))), some (.int (nI ((cm x) % (cnt (prd a w u f x) (nM a))) - nI (cnt (prd a w u f x) 0))), some (.int (nI (0))), none]) (by rw [show cnt (prd a w u f x) 0 = 0 from rfl, sub_z]) (lp2 ((cm x) % (cnt (prd a w u f x) (nM a))) (by omega) (fun _ => rfl) (nM a - 0) 0 σ rfl (by omega) (fun _ _ _ => rfl) (fun y hy => hcm y hy) (fun z hz => (hsh z hz).trans (congrArg nI (by unfold shB; rw [if_neg (by omega)]))))
        · refine j_iconst (v := nI 0) C dX8_goOn_47 rfl ?_
          refine j_goto (tgt := 59) C dX8_goOn_48 rfl ?_
          refine j_istore_n (L' := [some (.ref (gad g (84))), some (.int (nI (x))), some (.int (nI (cnt (prd a w u f x) (nM a)))), some (.int (nI (0))), none, none]) C dX8_goOn_59 rfl (by decide) rfl ?_
          refine j_iconst (v := nI 0) C dX8_goOn_60 rfl ?_
          refine j_istore (L' := [some (.ref (gad g (84))), some (.int (nI (x))), some (.int (nI (cnt (prd a w u f x) (nM a)))), some (.int (nI (0))), some (.int (nI (0))), none]) C dX8_goOn_61 (by decide) rfl ?_
          refine J_loc (L' := [some (.ref (gad g (84))), some (.int (nI (x))), some (.int (nI (cnt (prd a w u f x) (nM a)))), some (.int (nI (0) - nI (cnt (prd a w u f x) 0))), some (.int (nI (0))), none]) (by rw [show cnt (prd a w u f x) 0 = 0 from rfl, sub_z]) (lp2 (0) (by omega) (fun q => absurd h44 q) (nM a - 0) 0 σ rfl (by omega) (fun _ _ _ => rfl) (fun y hy => hcm y hy) (fun z hz => (hsh z hz).trans (congrArg nI (by unfold shB; rw [if_neg (by omega)]))))
      · have hcl := cnt_le (prd a w u f x) l
        obtain ⟨hb1, hb2, hb3, hb4⟩ := hO.2.2.2.2.1 l h9
        refine j_iload_n C dX8_goOn_12 rfl rfl ?_
        refine j_aload_n C dX8_goOn_13 rfl rfl ?_
        refine j_iload_n C dX8_goOn_14 rfl rfl ?_
        refine j_calli (As := [.int (nI (l))]) (rest := [.int (nI (cnt (prd a w u f x) l))]) C (tX8_begin hN hI hO (l := l) (by omega)) cdX8_begin mlX8_127 dX8_goOn_15 (by decide) (by decide) (Nat.lt_of_lt_of_le (by decide) hN) rfl rfl rfl rfl rfl (Nat.le_of_ble_eq_true rfl) (fun rr_2 τ1 hp_3 => ?_)
        obtain ⟨hs, hr⟩ := hp_3
        replace hs := hs.symm
        subst hs
        subst hr
        refine j_iload_n C dX8_goOn_18 rfl rfl ?_
        refine j_icmpn_ne (tgt := 34) C dX8_goOn_19 rfl (by omega) (by omega) (fun h19 => ?_) (fun h19 => ?_)
        · refine j_iconst (v := nI 0) C dX8_goOn_34 rfl ?_
          refine j_iadd C dX8_goOn_35 ?_
          refine j_top (nI_add _ _) ?_
          refine j_istore_n (L' := [some (.ref (gad g (84))), some (.int (nI (x))), some (.int (nI ((cnt (prd a w u f x) l + 0)))), some (.int (nI (l))), none, none]) C dX8_goOn_36 rfl (by decide) rfl ?_
          refine j_iinc (L' := [some (.ref (gad g (84))), some (.int (nI (x))), some (.int (nI ((cnt (prd a w u f x) l + 0)))), some (.int (nI (l + 1))), none, none]) C dX8_goOn_37 rfl (nI_inc _) (by decide) rfl ?_
          refine j_goto (tgt := 4) C dX8_goOn_40 rfl ?_
          first
            | (have hp1 : (prd a w u f x) l = true := by
                unfold prd
                rw [hsb, show (nFr a l == x) = true from beq_iff_eq.mpr (by omega)]
                rfl
               exact J_loc (L' := [some (.ref (gad g (84))), some (.int (nI (x))), some (.int (nI (cnt (prd a w u f x) (l + 1)))), some (.int (nI (l + 1))), none, none]) (by rw [cnt_hit hp1]) (ih (nM a - (l + 1)) (by omega) (l + 1) rfl (by omega)))
            | (have hp0 : (prd a w u f x) l = false := by
                unfold prd
                first | (rw [hsb, Bool.and_false]) | (rw [show (nFr a l == x) = false from beq_false_of_ne (by omega), Bool.false_and])
               exact J_loc (L' := [some (.ref (gad g (84))), some (.int (nI (x))), some (.int (nI (cnt (prd a w u f x) (l + 1)))), some (.int (nI (l + 1))), none, none]) (by rw [cnt_miss hp0]; rfl) (ih (nM a - (l + 1)) (by omega) (l + 1) rfl (by omega)))
        · refine j_aload_n C dX8_goOn_22 rfl rfl ?_
          refine j_iload_n C dX8_goOn_23 rfl rfl ?_
          refine j_calli (As := [.int (nI (l))]) (rest := [.int (nI (cnt (prd a w u f x) l))]) C (tX8_isShort hN hI hO hW hw (l := l) (f := f) (by omega) hF hB) cdX8_isShort mlX8_130 dX8_goOn_24 (by decide) (by decide) (Nat.lt_of_lt_of_le (by decide) hN) rfl rfl rfl rfl rfl (Nat.le_of_ble_eq_true rfl) (fun rr_5 τ4 hp_6 => ?_)
          obtain ⟨hs, hr⟩ := hp_6
          replace hs := hs.symm
          subst hs
          rcases hsb : shb a w u f l with _ | _ <;> rw [hsb] at hr <;> subst hr
          · refine j_ifn_eq (tgt := 34) C dX8_goOn_27 rfl (by omega) (fun _ => ?_) (fun h => absurd h (by decide))
            refine j_iconst (v := nI 0) C dX8_goOn_34 rfl ?_
            refine j_iadd C dX8_goOn_35 ?_
            refine j_top (nI_add _ _) ?_
            refine j_istore_n (L' := [some (.ref (gad g (84))), some (.int (nI (x))), some (.int (nI ((cnt (prd a w u f x) l + 0)))), some (.int (nI (l))), none, none]) C dX8_goOn_36 rfl (by decide) rfl ?_
            refine j_iinc (L' := [some (.ref (gad g (84))), some (.int (nI (x))), some (.int (nI ((cnt (prd a w u f x) l + 0)))), some (.int (nI (l + 1))), none, none]) C dX8_goOn_37 rfl (nI_inc _) (by decide) rfl ?_
            refine j_goto (tgt := 4) C dX8_goOn_40 rfl ?_
            first
              | (have hp1 : (prd a w u f x) l = true := by
                  unfold prd
                  rw [hsb, show (nFr a l == x) = true from beq_iff_eq.mpr (by omega)]
                  rfl
                 exact J_loc (L' := [some (.ref (gad g (84))), some (.int (nI (x))), some (.int (nI (cnt (prd a w u f x) (l + 1)))), some (.int (nI (l + 1))), none, none]) (by rw [cnt_hit hp1]) (ih (nM a - (l + 1)) (by omega) (l + 1) rfl (by omega)))
              | (have hp0 : (prd a w u f x) l = false := by
                  unfold prd
                  first | (rw [hsb, Bool.and_false]) | (rw [show (nFr a l == x) = false from beq_false_of_ne (by omega), Bool.false_and])
                 exact J_loc (L' := [some (.ref (gad g (84))), some (.int (nI (x))), some (.int (nI (cnt (prd a w u f x) (l + 1)))), some (.int (nI (l + 1))), none, none]) (by rw [cnt_miss hp0]; rfl) (ih (nM a - (l + 1)) (by omega) (l + 1) rfl (by omega)))
          · refine j_ifn_eq (tgt := 34) C dX8_goOn_27 rfl (by omega) (fun h => absurd h (by decide)) (fun _ => ?_)
            refine j_iconst (v := nI 1) C dX8_goOn_30 rfl ?_
            refine j_goto (tgt := 35) C dX8_goOn_31 rfl ?_
            refine j_iadd C dX8_goOn_35 ?_
            refine j_top (nI_add _ _) ?_
            refine j_istore_n (L' := [some (.ref (gad g (84))), some (.int (nI (x))), some (.int (nI ((cnt (prd a w u f x) l + 1)))), some (.int (nI (l))), none, none]) C dX8_goOn_36 rfl (by decide) rfl ?_
            refine j_iinc (L' := [some (.ref (gad g (84))), some (.int (nI (x))), some (.int (nI ((cnt (prd a w u f x) l + 1)))), some (.int (nI (l + 1))), none, none]) C dX8_goOn_37 rfl (nI_inc _) (by decide) rfl ?_
            refine j_goto (tgt := 4) C dX8_goOn_40 rfl ?_
            first
              | (have hp1 : (prd a w u f x) l = true := by
                  unfold prd
                  rw [hsb, show (nFr a l == x) = true from beq_iff_eq.mpr (by omega)]
                  rfl
                 exact J_loc (L' := [some (.ref (gad g (84))), some (.int (nI (x))), some (.int (nI (cnt (prd a w u f x) (l + 1)))), some (.int (nI (l + 1))), none, none]) (by rw [cnt_hit hp1]) (ih (nM a - (l + 1)) (by omega) (l + 1) rfl (by omega)))
              | (have hp0 : (prd a w u f x) l = false := by
                  unfold prd
                  first | (rw [hsb, Bool.and_false]) | (rw [show (nFr a l == x) = false from beq_false_of_ne (by omega), Bool.false_and])
                 exact J_loc (L' := [some (.ref (gad g (84))), some (.int (nI (x))), some (.int (nI (cnt (prd a w u f x) (l + 1)))), some (.int (nI (l + 1))), none, none]) (by rw [cnt_miss hp0]; rfl) (ih (nM a - (l + 1)) (by omega) (l + 1) rfl (by omega)))
  refine j_iconst (v := nI 0) C dX8_goOn_0 rfl ?_
  refine j_istore_n (L' := [some (.ref (gad g (84))), some (.int (nI (x))), some (.int (nI (0))), none, none, none]) C dX8_goOn_1 rfl (by decide) rfl ?_
  refine j_iconst (v := nI 0) C dX8_goOn_2 rfl ?_
  refine j_istore_n (L' := [some (.ref (gad g (84))), some (.int (nI (x))), some (.int (nI (0))), some (.int (nI (0))), none, none]) C dX8_goOn_3 rfl (by decide) rfl ?_
  exact lp1 (nM a - 0) 0 rfl (by omega)
