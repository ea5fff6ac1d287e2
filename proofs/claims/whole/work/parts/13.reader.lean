set_option maxHeartbeats 4000000 in
set_option maxRecDepth 100000 in
theorem tX5_takeNumbers {g : jG} (hN : 84 ≤ gN g) {σ : Sg} {s e : Nat} (hs : s ≤ e) (he : e ≤ 200) : MS g yX5_takeNumbers cX5_takeNumbers 9 (some .int) rmX5_takeNumbers [.ref (gad g (21)), .ref (gad g (1)), .int (nI (s)), .int (nI (e))] σ (fun r σ' => (∀ j n, ¬ (j = 22) → σ' j n = σ j n) ∧ ((scan (σ 2) e (e + 1 - s) s 0 0 [] = none ∧ r = -1) ∨ ∃ vs : List Nat, scan (σ 2) e (e + 1 - s) s 0 0 [] = some vs ∧ r = nI vs.length ∧ vs.length ≤ 4 ∧ (∀ v ∈ vs, v < 100) ∧ ∀ i, i < vs.length → σ' 22 i = nI (vs.getD i 0))) := by
  refine MJ_of (by decide) (Nat.le_of_ble_eq_true rfl) (List.forall_mem_cons.mpr ⟨rfl, List.forall_mem_cons.mpr ⟨rfl, List.forall_mem_cons.mpr ⟨rfl, List.forall_mem_cons.mpr ⟨rfl, fun _ h => absurd h List.not_mem_nil⟩⟩⟩⟩) ?_
  intro κ M
  have C := M.1
  show J g κ 9 0 [some (.ref (gad g (21))), some (.ref (gad g (1))), some (.int (nI (s))), some (.int (nI (e))), none, none, none, none, none] [] σ
  have lp : ∀ (k : Nat) (acc : List Nat) (fg v at_ : Nat) (σ1 : Sg), e + 1 - at_ = k → s ≤ at_ → at_ ≤ e + 1 → acc.length ≤ 4 → fg ≤ 2 → (fg = 0 → v = 0) → (fg = 1 → v ≤ 9) → v ≤ 99 → (∀ x ∈ acc, x < 100) → scan (σ 2) e k at_ fg v acc = scan (σ 2) e (e + 1 - s) s 0 0 [] → (∀ j n, ¬ (j = 22) → σ1 j n = σ j n) → (∀ i, i < acc.length → σ1 22 i = nI (acc.getD i 0)) → J g κ 9 12 [some (.ref (gad g (21))), some (.ref (gad g (1))), some (.int (nI (s))), some (.int (nI (e))), some (.int (nI (acc.length))), some (.int (nI (fg))), some (.int (nI (v))), some (.int (nI (at_))), none] [] σ1 := by
    intro k
    induction k using Nat.strongRecOn with
    | _ k ih =>
      intro acc fg v at_ σ1 hk hs0 hat hac hfg hv0 hv1 hv99 hal hsc hf hnum
      refine j_iload C dX5_takeNumbers_12 rfl ?_
      refine j_iload_n C dX5_takeNumbers_14 rfl rfl ?_
      refine j_icmpn_gt (tgt := 126) C dX5_takeNumbers_15 rfl (by omega) (by omega) (fun h15 => ?_) (fun h15 => ?_)
      · refine j_iload C dX5_takeNumbers_126 rfl ?_
        refine j_ret M dX5_takeNumbers_128 ?_
        refine ⟨hf, Or.inr ⟨acc, ?_, rfl, hac, hal, hnum⟩⟩
        rw [← hsc, show k = 0 by omega]
        rfl
      · refine j_iload C dX5_takeNumbers_18 rfl ?_
        refine j_iload_n C dX5_takeNumbers_20 rfl rfl ?_
        refine j_icmpn_ge (tgt := 34) C dX5_takeNumbers_21 rfl (by omega) (by omega) (fun h21 => ?_) (fun h21 => ?_)
        · refine j_bipush (v := nI 44) C dX5_takeNumbers_34 rfl ?_
          refine j_istore (L' := [some (.ref (gad g (21))), some (.ref (gad g (1))), some (.int (nI (s))), some (.int (nI (e))), some (.int (nI (acc.length))), some (.int (nI (fg))), some (.int (nI (v))), some (.int (nI (at_))), some (.int (nI (44)))]) C dX5_takeNumbers_36 (by decide) rfl ?_
          refine j_iload C dX5_takeNumbers_38 rfl ?_
          refine j_bipush (v := nI 44) C dX5_takeNumbers_40 rfl ?_
          refine j_icmpn_ne (tgt := 79) C dX5_takeNumbers_42 rfl (by omega) (by omega) (fun h => absurd h (by decide)) (fun _ => ?_)
          refine j_iload C dX5_takeNumbers_45 rfl ?_
          refine j_ifn_eq (tgt := 56) C dX5_takeNumbers_47 rfl (by omega) (fun h47 => ?_) (fun h47 => ?_)
          · refine j_iconst (v := -1) C dX5_takeNumbers_56 rfl ?_
            refine j_ret M dX5_takeNumbers_57 ?_
            refine ⟨hf, Or.inl ⟨?_, rfl⟩⟩
            rw [← hsc, show k = (e - at_) + 1 by omega]
            first | exact scan_bad1 (fun q => by first | assumption | omega) (Or.inl (by omega)) | exact scan_bad1 (fun q => by first | assumption | omega) (Or.inr (by omega))
          · refine j_iload C dX5_takeNumbers_50 rfl ?_
            refine j_iconst (v := nI 4) C dX5_takeNumbers_52 rfl ?_
            refine j_icmpn_lt (tgt := 58) C dX5_takeNumbers_53 rfl (by omega) (by omega) (fun h53 => ?_) (fun h53 => ?_)
            · refine j_aload_n C dX5_takeNumbers_58 rfl rfl ?_
              refine j_get C flX5_11 dX5_takeNumbers_59 (Nat.lt_of_lt_of_le (by decide) hN) rfl rfl ?_
              refine j_iload C dX5_takeNumbers_62 rfl ?_
              refine j_iload C dX5_takeNumbers_64 rfl ?_
              refine j_iast' C dX5_takeNumbers_66 (Nat.lt_of_lt_of_le (by decide) hN) (fun _ => rfl) (by decide) (by omega) (fun τ1 hz_2 hw_3 => ?_)
              refine j_iinc (L' := [some (.ref (gad g (21))), some (.ref (gad g (1))), some (.int (nI (s))), some (.int (nI (e))), some (.int (nI (acc.length + 1))), some (.int (nI (fg))), some (.int (nI (v))), some (.int (nI (at_))), some (.int (nI (44)))]) C dX5_takeNumbers_67 rfl (nI_inc _) (by decide) rfl ?_
              refine j_iconst (v := nI 0) C dX5_takeNumbers_70 rfl ?_
              refine j_istore (L' := [some (.ref (gad g (21))), some (.ref (gad g (1))), some (.int (nI (s))), some (.int (nI (e))), some (.int (nI (acc.length + 1))), some (.int (nI (0))), some (.int (nI (v))), some (.int (nI (at_))), some (.int (nI (44)))]) C dX5_takeNumbers_71 (by decide) rfl ?_
              refine j_iconst (v := nI 0) C dX5_takeNumbers_73 rfl ?_
              refine j_istore (L' := [some (.ref (gad g (21))), some (.ref (gad g (1))), some (.int (nI (s))), some (.int (nI (e))), some (.int (nI (acc.length + 1))), some (.int (nI (0))), some (.int (nI (0))), some (.int (nI (at_))), some (.int (nI (44)))]) C dX5_takeNumbers_74 (by decide) rfl ?_
              refine j_goto (tgt := 120) C dX5_takeNumbers_76 rfl ?_
              refine j_iinc (L' := [some (.ref (gad g (21))), some (.ref (gad g (1))), some (.int (nI (s))), some (.int (nI (e))), some (.int (nI (acc.length + 1))), some (.int (nI (0))), some (.int (nI (0))), some (.int (nI (at_ + 1))), some (.int (nI (44)))]) C dX5_takeNumbers_120 rfl (nI_inc _) (by decide) rfl ?_
              refine j_goto (tgt := 12) C dX5_takeNumbers_123 rfl ?_
              refine J_clr 8 (L' := [some (.ref (gad g (21))), some (.ref (gad g (1))), some (.int (nI (s))), some (.int (nI (e))), some (.int (nI (acc.length + 1))), some (.int (nI (0))), some (.int (nI (0))), some (.int (nI (at_ + 1))), none]) rfl ?_
              refine J_loc (L' := [some (.ref (gad g (21))), some (.ref (gad g (1))), some (.int (nI (s))), some (.int (nI (e))), some (.int (nI ((acc ++ [v]).length))), some (.int (nI (0))), some (.int (nI (0))), some (.int (nI (at_ + 1))), none]) (by rw [List.length_append]; rfl) ?_
              refine ih (e + 1 - (at_ + 1)) (by omega) (acc ++ [v]) 0 0 (at_ + 1) τ1 rfl (by omega) (by omega) (by rw [List.length_append]; show acc.length + 1 ≤ 4; omega) (by omega) (fun _ => rfl) (by omega) (by omega) (fun x hx => ?_) ?_ (fun j n h => by rw [hz_2 _ _ (by omega)]; exact hf j n h) (fun i hi => ?_)
              · rcases List.mem_append.mp hx with h | h
                · exact hal x h
                · rw [List.mem_singleton.mp h]; omega
              · rw [← hsc, show k = (e + 1 - (at_ + 1)) + 1 by omega]
                exact (scan_num (fun q => by first | assumption | omega) (by omega) (by omega)).symm
              · rw [List.length_append] at hi
                have hi' : i < acc.length + 1 := hi
                by_cases q : i = acc.length
                · subst q
                  rw [getD_snoc]
                  assumption
                · rw [hz_2 _ _ (by omega), getD_app (by omega)]
                  exact hnum i (by omega)
            · refine j_iconst (v := -1) C dX5_takeNumbers_56 rfl ?_
              refine j_ret M dX5_takeNumbers_57 ?_
              refine ⟨hf, Or.inl ⟨?_, rfl⟩⟩
              rw [← hsc, show k = (e - at_) + 1 by omega]
              first | exact scan_bad1 (fun q => by first | assumption | omega) (Or.inl (by omega)) | exact scan_bad1 (fun q => by first | assumption | omega) (Or.inr (by omega))
        · refine j_aload_n C dX5_takeNumbers_24 rfl rfl ?_
          refine j_get C flX5_26 dX5_takeNumbers_25 (Nat.lt_of_lt_of_le (by decide) hN) rfl rfl ?_
          refine j_iload C dX5_takeNumbers_28 rfl ?_
          refine j_iald C dX5_takeNumbers_30 (Nat.lt_of_lt_of_le (by decide) hN) (fun _ => rfl) (by decide) (by omega) ?_
          refine j_top (hf _ _ (by omega)) ?_
          refine j_goto (tgt := 36) C dX5_takeNumbers_31 rfl ?_
          refine j_istore (L' := [some (.ref (gad g (21))), some (.ref (gad g (1))), some (.int (nI (s))), some (.int (nI (e))), some (.int (nI (acc.length))), some (.int (nI (fg))), some (.int (nI (v))), some (.int (nI (at_))), some (.int (σ 2 (at_)))]) C dX5_takeNumbers_36 (by decide) rfl ?_
          refine j_iload C dX5_takeNumbers_38 rfl ?_
          refine j_bipush (v := nI 44) C dX5_takeNumbers_40 rfl ?_
          refine j_icmp_ne (tgt := 79) C dX5_takeNumbers_42 rfl (fun h42 => ?_) (fun h42 => ?_)
          · refine j_iload C dX5_takeNumbers_79 rfl ?_
            refine j_bipush (v := nI 48) C dX5_takeNumbers_81 rfl ?_
            refine j_icmp_lt (tgt := 118) C dX5_takeNumbers_83 rfl (fun h83 => ?_) (fun h83 => ?_)
            · refine j_iconst (v := -1) C dX5_takeNumbers_118 rfl ?_
              refine j_ret M dX5_takeNumbers_119 ?_
              refine ⟨hf, Or.inl ⟨?_, rfl⟩⟩
              rw [← hsc, show k = (e - at_) + 1 by omega]
              exact scan_bad2 (by omega) h42 (fun q => by first | exact absurd q.1 (Int32.not_le.mpr (by assumption)) | exact absurd q.2.1 (Int32.not_le.mpr (by assumption)) | (have := q.2.2; omega))
            · refine j_iload C dX5_takeNumbers_86 rfl ?_
              refine j_bipush (v := nI 57) C dX5_takeNumbers_88 rfl ?_
              refine j_icmp_gt (tgt := 118) C dX5_takeNumbers_90 rfl (fun h90 => ?_) (fun h90 => ?_)
              · refine j_iconst (v := -1) C dX5_takeNumbers_118 rfl ?_
                refine j_ret M dX5_takeNumbers_119 ?_
                refine ⟨hf, Or.inl ⟨?_, rfl⟩⟩
                rw [← hsc, show k = (e - at_) + 1 by omega]
                exact scan_bad2 (by omega) h42 (fun q => by first | exact absurd q.1 (Int32.not_le.mpr (by assumption)) | exact absurd q.2.1 (Int32.not_le.mpr (by assumption)) | (have := q.2.2; omega))
              · refine j_iload C dX5_takeNumbers_93 rfl ?_
                refine j_iconst (v := nI 2) C dX5_takeNumbers_95 rfl ?_
                refine j_icmpn_ge (tgt := 118) C dX5_takeNumbers_96 rfl (by omega) (by omega) (fun h96 => ?_) (fun h96 => ?_)
                · refine j_iconst (v := -1) C dX5_takeNumbers_118 rfl ?_
                  refine j_ret M dX5_takeNumbers_119 ?_
                  refine ⟨hf, Or.inl ⟨?_, rfl⟩⟩
                  rw [← hsc, show k = (e - at_) + 1 by omega]
                  exact scan_bad2 (by omega) h42 (fun q => by first | exact absurd q.1 (Int32.not_le.mpr (by assumption)) | exact absurd q.2.1 (Int32.not_le.mpr (by assumption)) | (have := q.2.2; omega))
                · refine j_bipush (v := nI 10) C dX5_takeNumbers_99 rfl ?_
                  refine j_iload C dX5_takeNumbers_101 rfl ?_
                  refine j_imul C dX5_takeNumbers_103 ?_
                  refine j_top (pk_mul _ _) ?_
                  refine j_iload C dX5_takeNumbers_104 rfl ?_
                  refine j_iadd C dX5_takeNumbers_106 ?_
                  refine j_bipush (v := nI 48) C dX5_takeNumbers_107 rfl ?_
                  refine j_isub C dX5_takeNumbers_109 ?_
                  refine j_top (dig_val (Int32.not_lt.mp h83) (Int32.not_lt.mp h90)) ?_
                  refine j_istore (L' := [some (.ref (gad g (21))), some (.ref (gad g (1))), some (.int (nI (s))), some (.int (nI (e))), some (.int (nI (acc.length))), some (.int (nI (fg))), some (.int (nI (10 * v + ((σ 2 (at_)).toInt - 48).toNat))), some (.int (nI (at_))), some (.int (σ 2 (at_)))]) C dX5_takeNumbers_110 (by decide) rfl ?_
                  refine j_iinc (L' := [some (.ref (gad g (21))), some (.ref (gad g (1))), some (.int (nI (s))), some (.int (nI (e))), some (.int (nI (acc.length))), some (.int (nI (fg + 1))), some (.int (nI (10 * v + ((σ 2 (at_)).toInt - 48).toNat))), some (.int (nI (at_))), some (.int (σ 2 (at_)))]) C dX5_takeNumbers_112 rfl (nI_inc _) (by decide) rfl ?_
                  refine j_goto (tgt := 120) C dX5_takeNumbers_115 rfl ?_
                  refine j_iinc (L' := [some (.ref (gad g (21))), some (.ref (gad g (1))), some (.int (nI (s))), some (.int (nI (e))), some (.int (nI (acc.length))), some (.int (nI (fg + 1))), some (.int (nI (10 * v + ((σ 2 (at_)).toInt - 48).toNat))), some (.int (nI (at_ + 1))), some (.int (σ 2 (at_)))]) C dX5_takeNumbers_120 rfl (nI_inc _) (by decide) rfl ?_
                  refine j_goto (tgt := 12) C dX5_takeNumbers_123 rfl ?_
                  refine J_clr 8 (L' := [some (.ref (gad g (21))), some (.ref (gad g (1))), some (.int (nI (s))), some (.int (nI (e))), some (.int (nI (acc.length))), some (.int (nI (fg + 1))), some (.int (nI (10 * v + ((σ 2 (at_)).toInt - 48).toNat))), some (.int (nI (at_ + 1))), none]) rfl ?_
                  have hd9 := dig_lt (Int32.not_lt.mp h83) (Int32.not_lt.mp h90)
                  refine ih (e + 1 - (at_ + 1)) (by omega) acc (fg + 1) _ (at_ + 1) σ1 rfl (by omega) (by omega) hac (by omega) (by omega) (by omega) (by omega) hal ?_ hf hnum
                  rw [← hsc, show k = (e + 1 - (at_ + 1)) + 1 by omega]
                  exact (scan_dig (by omega) h42 (Int32.not_lt.mp h83) (Int32.not_lt.mp h90) (by omega)).symm
          · refine j_iload C dX5_takeNumbers_45 rfl ?_
            refine j_ifn_eq (tgt := 56) C dX5_takeNumbers_47 rfl (by omega) (fun h47 => ?_) (fun h47 => ?_)
            · refine j_iconst (v := -1) C dX5_takeNumbers_56 rfl ?_
              refine j_ret M dX5_takeNumbers_57 ?_
              refine ⟨hf, Or.inl ⟨?_, rfl⟩⟩
              rw [← hsc, show k = (e - at_) + 1 by omega]
              first | exact scan_bad1 (fun q => by first | assumption | omega) (Or.inl (by omega)) | exact scan_bad1 (fun q => by first | assumption | omega) (Or.inr (by omega))
            · refine j_iload C dX5_takeNumbers_50 rfl ?_
              refine j_iconst (v := nI 4) C dX5_takeNumbers_52 rfl ?_
              refine j_icmpn_lt (tgt := 58) C dX5_takeNumbers_53 rfl (by omega) (by omega) (fun h53 => ?_) (fun h53 => ?_)
              · refine j_aload_n C dX5_takeNumbers_58 rfl rfl ?_
                refine j_get C flX5_11 dX5_takeNumbers_59 (Nat.lt_of_lt_of_le (by decide) hN) rfl rfl ?_
                refine j_iload C dX5_takeNumbers_62 rfl ?_
                refine j_iload C dX5_takeNumbers_64 rfl ?_
                refine j_iast' C dX5_takeNumbers_66 (Nat.lt_of_lt_of_le (by decide) hN) (fun _ => rfl) (by decide) (by omega) (fun τ4 hz_5 hw_6 => ?_)
                refine j_iinc (L' := [some (.ref (gad g (21))), some (.ref (gad g (1))), some (.int (nI (s))), some (.int (nI (e))), some (.int (nI (acc.length + 1))), some (.int (nI (fg))), some (.int (nI (v))), some (.int (nI (at_))), some (.int (σ 2 (at_)))]) C dX5_takeNumbers_67 rfl (nI_inc _) (by decide) rfl ?_
                refine j_iconst (v := nI 0) C dX5_takeNumbers_70 rfl ?_
                refine j_istore (L' := [some (.ref (gad g (21))), some (.ref (gad g (1))), some (.int (nI (s))), some (.int (nI (e))), some (.int (nI (acc.length + 1))), some (.int (nI (0))), some (.int (nI (v))), some (.int (nI (at_))), some (.int (σ 2 (at_)))]) C dX5_takeNumbers_71 (by decide) rfl ?_
                refine j_iconst (v := nI 0) C dX5_takeNumbers_73 rfl ?_
                refine j_istore (L' := [some (.ref (gad g (21))), some (.ref (gad g (1))), some (.int (nI (s))), some (.int (nI (e))), some (.int (nI (acc.length + 1))), some (.int (nI (0))), some (.int (nI (0))), some (.int (nI (at_))), some (.int (σ 2 (at_)))]) C dX5_takeNumbers_74 (by decide) rfl ?_
                refine j_goto (tgt := 120) C dX5_takeNumbers_76 rfl ?_
                refine j_iinc (L' := [some (.ref (gad g (21))), some (.ref (gad g (1))), some (.int (nI (s))), some (.int (nI (e))), some (.int (nI (acc.length + 1))), some (.int (nI (0))), some (.int (nI (0))), some (.int (nI (at_ + 1))), some (.int (σ 2 (at_)))]) C dX5_takeNumbers_120 rfl (nI_inc _) (by decide) rfl ?_
                refine j_goto (tgt := 12) C dX5_takeNumbers_123 rfl ?_
                refine J_clr 8 (L' := [some (.ref (gad g (21))), some (.ref (gad g (1))), some (.int (nI (s))), some (.int (nI (e))), some (.int (nI (acc.length + 1))), some (.int (nI (0))), some (.int (nI (0))), some (.int (nI (at_ + 1))), none]) rfl ?_
                refine J_loc (L' := [some (.ref (gad g (21))), some (.ref (gad g (1))), some (.int (nI (s))), some (.int (nI (e))), some (.int (nI ((acc ++ [v]).length))), some (.int (nI (0))), some (.int (nI (0))), some (.int (nI (at_ + 1))), none]) (by rw [List.length_append]; rfl) ?_
                refine ih (e + 1 - (at_ + 1)) (by omega) (acc ++ [v]) 0 0 (at_ + 1) τ4 rfl (by omega) (by omega) (by rw [List.length_append]; show acc.length + 1 ≤ 4; omega) (by omega) (fun _ => rfl) (by omega) (by omega) (fun x hx => ?_) ?_ (fun j n h => by rw [hz_5 _ _ (by omega)]; exact hf j n h) (fun i hi => ?_)
                · rcases List.mem_append.mp hx with h | h
                  · exact hal x h
                  · rw [List.mem_singleton.mp h]; omega
                · rw [← hsc, show k = (e + 1 - (at_ + 1)) + 1 by omega]
                  exact (scan_num (fun q => by first | assumption | omega) (by omega) (by omega)).symm
                · rw [List.length_append] at hi
                  have hi' : i < acc.length + 1 := hi
                  by_cases q : i = acc.length
                  · subst q
                    rw [getD_snoc]
                    assumption
                  · rw [hz_5 _ _ (by omega), getD_app (by omega)]
                    exact hnum i (by omega)
              · refine j_iconst (v := -1) C dX5_takeNumbers_56 rfl ?_
                refine j_ret M dX5_takeNumbers_57 ?_
                refine ⟨hf, Or.inl ⟨?_, rfl⟩⟩
                rw [← hsc, show k = (e - at_) + 1 by omega]
                first | exact scan_bad1 (fun q => by first | assumption | omega) (Or.inl (by omega)) | exact scan_bad1 (fun q => by first | assumption | omega) (Or.inr (by omega))
  refine j_iconst (v := nI 0) C dX5_takeNumbers_0 rfl ?_
  refine j_istore (L' := [some (.ref (gad g (21))), some (.ref (gad g (1))), some (.int (nI (s))), some (.int (nI (e))), some (.int (nI (0))), none, none, none, none]) C dX5_takeNumbers_1 (by decide) rfl ?_
  refine j_iconst (v := nI 0) C dX5_takeNumbers_3 rfl ?_
  refine j_istore (L' := [some (.ref (gad g (21))), some (.ref (gad g (1))), some (.int (nI (s))), some (.int (nI (e))), some (.int (nI (0))), some (.int (nI (0))), none, none, none]) C dX5_takeNumbers_4 (by decide) rfl ?_
  refine j_iconst (v := nI 0) C dX5_takeNumbers_6 rfl ?_
  refine j_istore (L' := [some (.ref (gad g (21))), some (.ref (gad g (1))), some (.int (nI (s))), some (.int (nI (e))), some (.int (nI (0))), some (.int (nI (0))), some (.int (nI (0))), none, none]) C dX5_takeNumbers_7 (by decide) rfl ?_
  refine j_iload_n C dX5_takeNumbers_9 rfl rfl ?_
  refine j_istore (L' := [some (.ref (gad g (21))), some (.ref (gad g (1))), some (.int (nI (s))), some (.int (nI (e))), some (.int (nI (0))), some (.int (nI (0))), some (.int (nI (0))), some (.int (nI (s))), none]) C dX5_takeNumbers_10 (by decide) rfl ?_
  exact lp (e + 1 - s) [] 0 0 s σ rfl (Nat.le_refl _) (by omega) (by decide) (by omega) (fun _ => rfl) (by omega) (by omega) (fun x hx => absurd hx List.not_mem_nil) rfl (fun _ _ _ => rfl) (fun i hi => absurd hi (Nat.not_lt_zero _))
/-- an ITEM from s to e (a ; stands at e) behind what is read -/
def item (tx : Nat → Int32) (s e : Nat) (a : ND) : Option ND :=
  if s < e then
    match scan tx e (e + 1 - (s + 1)) (s + 1) 0 0 [] with
    | none => none
    | some vs => if tx s = nI 110 then (match vs with | [v] => (if nM a = 0 ∧ nD a = 0 ∧ 2 ≤ v ∧ v ≤ 7 then some (ndN a v) else none) | _ => none)
      else if tx s = nI 108 then (match vs with | [p, q, r, w] => (if nM a < 12 ∧ p < nN a ∧ q < nN a ∧ p ≠ q ∧ 1 ≤ r ∧ r ≤ 99 ∧ 1 ≤ w ∧ w ≤ 20 then some (ndL a p q r w) else none) | _ => none)
      else if tx s = nI 100 then (match vs with | [p, q, z] => (if nD a < 6 ∧ p < nN a ∧ q < nN a ∧ p ≠ q ∧ 1 ≤ z ∧ z ≤ 99 then some (ndD a p q z) else none) | _ => none)
      else none
  else none
theorem item_none {tx : Nat → Int32} {s e : Nat} {a : ND} (h : scan tx e (e + 1 - (s + 1)) (s + 1) 0 0 [] = none) : item tx s e a = none := by
  unfold item
  split
  · rw [h]
  · rfl
theorem item_other {tx : Nat → Int32} {s e : Nat} {a : ND} (h1 : ¬ tx s = nI 110) (h2 : ¬ tx s = nI 108) (h3 : ¬ tx s = nI 100) : item tx s e a = none := by
  unfold item
  split
  · split
    · rfl
    · first | rfl | rw [if_neg h1, if_neg h2, if_neg h3]
  · rfl
theorem item_len {tx : Nat → Int32} {s e n : Nat} {a : ND} {vs : List Nat} (h : scan tx e (e + 1 - (s + 1)) (s + 1) 0 0 [] = some vs) (hl : ¬ vs.length = n) (hn : (tx s = nI 110 ∧ n = 1) ∨ (tx s = nI 108 ∧ n = 4) ∨ (tx s = nI 100 ∧ n = 3)) : item tx s e a = none := by
  unfold item
  split
  · rw [h]
    rcases hn with ⟨h1, rfl⟩ | ⟨h1, rfl⟩ | ⟨h1, rfl⟩
    · simp only [h1, if_true]
      split
      · exact absurd rfl hl
      · rfl
    · simp only [h1, if_true]
      rw [if_neg (by decide)]
      split
      · exact absurd rfl hl
      · rfl
    · simp only [h1, if_true]
      rw [if_neg (by decide), if_neg (by decide)]
      split
      · exact absurd rfl hl
      · rfl
  · rfl
theorem item_n {tx : Nat → Int32} {s e v : Nat} {a : ND} (hse : s < e) (h : scan tx e (e + 1 - (s + 1)) (s + 1) 0 0 [] = some [v]) (h1 : tx s = nI 110) : item tx s e a = if nM a = 0 ∧ nD a = 0 ∧ 2 ≤ v ∧ v ≤ 7 then some (ndN a v) else none := by
  unfold item
  rw [if_pos hse, h]
  simp only [h1, if_true]
theorem item_l {tx : Nat → Int32} {s e p q r w : Nat} {a : ND} (hse : s < e) (h : scan tx e (e + 1 - (s + 1)) (s + 1) 0 0 [] = some [p, q, r, w]) (h1 : tx s = nI 108) : item tx s e a = if nM a < 12 ∧ p < nN a ∧ q < nN a ∧ p ≠ q ∧ 1 ≤ r ∧ r ≤ 99 ∧ 1 ≤ w ∧ w ≤ 20 then some (ndL a p q r w) else none := by
  unfold item
  rw [if_pos hse, h]
  simp only [h1, if_true]
  rw [if_neg (by decide)]
theorem item_d {tx : Nat → Int32} {s e p q z : Nat} {a : ND} (hse : s < e) (h : scan tx e (e + 1 - (s + 1)) (s + 1) 0 0 [] = some [p, q, z]) (h1 : tx s = nI 100) : item tx s e a = if nD a < 6 ∧ p < nN a ∧ q < nN a ∧ p ≠ q ∧ 1 ≤ z ∧ z ≤ 99 then some (ndD a p q z) else none := by
  unfold item
  rw [if_pos hse, h]
  simp only [h1, if_true]
  rw [if_neg (by decide), if_neg (by decide)]
set_option maxHeartbeats 4000000 in
set_option maxRecDepth 100000 in
theorem tX5_takeItem {g : jG} (hN : 84 ≤ gN g) {σ : Sg} {i s e : Nat} {a : ND} (hi : i < 2) (hs : s ≤ e) (he : e ≤ 200) (hlet : s < 200) (hI : NetI σ (3 + 9 * i) a) (hn : nN a ≤ 7) (hm : nM a ≤ 12) (hd : nD a ≤ 6) : MS g yX5_takeItem cX5_takeItem 6 (some .boolean) rmX5_takeItem [.ref (gad g (21)), .ref (gad g (1)), .int (nI (s)), .int (nI (e)), .ref (gad g (3 + 9 * i))] σ (fun r σ' => (∀ j n, ¬ (j = 22 ∨ 3 + 9 * i ≤ j ∧ j ≤ 3 + 9 * i + 8) → σ' j n = σ j n) ∧ ((item (σ 2) s e a = none ∧ r = nI 0 ∧ NetI σ' (3 + 9 * i) a) ∨ ∃ b : ND, item (σ 2) s e a = some b ∧ r = nI 1 ∧ NetI σ' (3 + 9 * i) b)) := by
  refine MJ_of (by decide) (Nat.le_of_ble_eq_true rfl) (List.forall_mem_cons.mpr ⟨rfl, List.forall_mem_cons.mpr ⟨rfl, List.forall_mem_cons.mpr ⟨rfl, List.forall_mem_cons.mpr ⟨rfl, List.forall_mem_cons.mpr ⟨rfl, fun _ h => absurd h List.not_mem_nil⟩⟩⟩⟩⟩) ?_
  intro κ M
  have C := M.1
  show J g κ 6 0 [some (.ref (gad g (21))), some (.ref (gad g (1))), some (.int (nI (s))), some (.int (nI (e))), some (.ref (gad g (3 + 9 * i))), none] [] σ
  refine j_iload_n C dX5_takeItem_0 rfl rfl ?_
  refine j_iload_n C dX5_takeItem_1 rfl rfl ?_
  refine j_icmpn_lt (tgt := 7) C dX5_takeItem_2 rfl (by omega) (by omega) (fun h2 => ?_) (fun h2 => ?_)
  · refine j_aload_n C dX5_takeItem_7 rfl rfl ?_
    refine j_aload_n C dX5_takeItem_8 rfl rfl ?_
    refine j_iload_n C dX5_takeItem_9 rfl rfl ?_
    refine j_iconst (v := nI 1) C dX5_takeItem_10 rfl ?_
    refine j_iadd C dX5_takeItem_11 ?_
    refine j_top (nI_add _ _) ?_
    refine j_iload_n C dX5_takeItem_12 rfl rfl ?_
    refine j_calli (As := [.ref (gad g (1)), .int (nI ((s + 1))), .int (nI (e))]) (rest := []) C (tX5_takeNumbers hN (s := s + 1) (e := e) (by omega) he) cdX5_takeNumbers mlX5_33 dX5_takeItem_13 (by decide) (by decide) (Nat.lt_of_lt_of_le (by decide) hN) rfl rfl rfl rfl rfl (Nat.le_of_ble_eq_true rfl) (fun rr_2 τ1 hp_3 => ?_)
    obtain ⟨hf, hc⟩ := hp_3
    have hI1 : NetI τ1 (3 + 9 * i) a := hI.kept (fun j n h1 h2 => hf j n (by omega))
    generalize τ1 = σ1 at hf hc hI1 ⊢
    generalize rr_2 = cn at hc ⊢
    refine j_istore (L' := [some (.ref (gad g (21))), some (.ref (gad g (1))), some (.int (nI (s))), some (.int (nI (e))), some (.ref (gad g (3 + 9 * i))), some (.int (cn))]) C dX5_takeItem_16 (by decide) rfl ?_
    have arm60 : σ 2 s = nI 110 → J g κ 6 60 [some (.ref (gad g (21))), some (.ref (gad g (1))), some (.int (nI (s))), some (.int (nI (e))), some (.ref (gad g (3 + 9 * i))), some (.int (cn))] [] σ1 := by
      intro hlt
      rcases hc with ⟨hsc, rfl⟩ | ⟨vs, hsc, rfl, hv4, hv100, hnum⟩
      · refine j_iload C dX5_takeItem_60 rfl ?_
        refine j_iconst (v := nI 1) C dX5_takeItem_62 rfl ?_
        refine j_icmp_ne (tgt := 84) C dX5_takeItem_63 rfl (fun _ => ?_) (fun h => absurd h (by decide))
        refine j_iconst (v := nI 0) C dX5_takeItem_84 rfl ?_
        refine j_retz M dX5_takeItem_85 rfl ?_
        refine ⟨(fun j n h => hf j n (by omega)), Or.inl ⟨item_none hsc, rfl, hI1⟩⟩
      · by_cases hlen : vs.length = 1
        · obtain ⟨v0, rfl⟩ : ∃ v0 : Nat, vs = [v0] := by
            match vs, hlen with | [v0], _ => exact ⟨v0, rfl⟩
          have hb0 : v0 < 100 := hv100 _ (by simp)
          replace hnum : ∀ i, i < 1 → σ1 22 i = nI ([v0].getD i 0) := hnum
          show J g κ 6 60 [some (.ref (gad g (21))), some (.ref (gad g (1))), some (.int (nI (s))), some (.int (nI (e))), some (.ref (gad g (3 + 9 * i))), some (.int (nI (1)))] [] σ1
          refine j_iload C dX5_takeItem_60 rfl ?_
          refine j_iconst (v := nI 1) C dX5_takeItem_62 rfl ?_
          refine j_icmpn_ne (tgt := 84) C dX5_takeItem_63 rfl (by omega) (by omega) (fun h => absurd h (by decide)) (fun _ => ?_)
          refine j_aload C dX5_takeItem_66 rfl ?_
          refine j_aload_n C dX5_takeItem_68 rfl rfl ?_
          refine j_get C flX5_11 dX5_takeItem_69 (Nat.lt_of_lt_of_le (by decide) hN) rfl rfl ?_
          refine j_iconst (v := nI 0) C dX5_takeItem_72 rfl ?_
          refine j_iald C dX5_takeItem_73 (Nat.lt_of_lt_of_le (by decide) hN) (fun _ => rfl) (by decide) (by omega) ?_
          refine j_top ((hnum 0 (by decide))) ?_
          refine j_calli (As := [.int (nI (v0))]) (rest := []) C (tX3_takeNodes hN hi hI1 hm hd (by omega)) cdX3_takeNodes mlX5_37 dX5_takeItem_74 (by decide) (by decide) (by omega) (cf_net (by omega) _) rfl rfl rfl rfl (Nat.le_of_ble_eq_true rfl) (fun rr_2 τ1 hp_3 => ?_)
          rcases hp_3 with ⟨rfl, hok, hfr, hI2⟩ | ⟨rfl, hok, hs2⟩
          · refine j_ifn_eq (tgt := 84) C dX5_takeItem_77 rfl (by omega) (fun h => absurd h (by decide)) (fun _ => ?_)
            refine j_iconst (v := nI 1) C dX5_takeItem_80 rfl ?_
            refine j_goto (tgt := 85) C dX5_takeItem_81 rfl ?_
            refine j_retz M dX5_takeItem_85 rfl ?_
            refine ⟨fun j n h => (hfr j n (by omega)).trans (hf j n (by omega)), Or.inr ⟨_, ?_, rfl, hI2⟩⟩
            rw [item_n (by omega) hsc hlt]
            exact if_pos hok
          · refine j_ifn_eq (tgt := 84) C dX5_takeItem_77 rfl (by omega) (fun _ => ?_) (fun h => absurd h (by decide))
            refine j_iconst (v := nI 0) C dX5_takeItem_84 rfl ?_
            refine j_retz M dX5_takeItem_85 rfl ?_
            subst hs2
            refine ⟨fun j n h => hf j n (by omega), Or.inl ⟨?_, rfl, hI1⟩⟩
            rw [item_n (by omega) hsc hlt]
            exact if_neg hok
        · have hne : ¬ vs.length = 1 := hlen
          refine j_iload C dX5_takeItem_60 rfl ?_
          refine j_iconst (v := nI 1) C dX5_takeItem_62 rfl ?_
          refine j_icmpn_ne (tgt := 84) C dX5_takeItem_63 rfl (by omega) (by omega) (fun h63 => ?_) (fun h63 => ?_)
          · refine j_iconst (v := nI 0) C dX5_takeItem_84 rfl ?_
            refine j_retz M dX5_takeItem_85 rfl ?_
            refine ⟨(fun j n h => hf j n (by omega)), Or.inl ⟨item_len hsc hlen (Or.inl ⟨hlt, rfl⟩), rfl, hI1⟩⟩
          · exact absurd h63 (fun q => hlen q)
    have arm86 : σ 2 s = nI 108 → J g κ 6 86 [some (.ref (gad g (21))), some (.ref (gad g (1))), some (.int (nI (s))), some (.int (nI (e))), some (.ref (gad g (3 + 9 * i))), some (.int (cn))] [] σ1 := by
      intro hlt
      rcases hc with ⟨hsc, rfl⟩ | ⟨vs, hsc, rfl, hv4, hv100, hnum⟩
      · refine j_iload C dX5_takeItem_86 rfl ?_
        refine j_iconst (v := nI 4) C dX5_takeItem_88 rfl ?_
        refine j_icmp_ne (tgt := 128) C dX5_takeItem_89 rfl (fun _ => ?_) (fun h => absurd h (by decide))
        refine j_iconst (v := nI 0) C dX5_takeItem_128 rfl ?_
        refine j_retz M dX5_takeItem_129 rfl ?_
        refine ⟨(fun j n h => hf j n (by omega)), Or.inl ⟨item_none hsc, rfl, hI1⟩⟩
      · by_cases hlen : vs.length = 4
        · obtain ⟨v0, v1, v2, v3, rfl⟩ : ∃ v0 v1 v2 v3 : Nat, vs = [v0, v1, v2, v3] := by
            match vs, hlen with | [v0, v1, v2, v3], _ => exact ⟨v0, v1, v2, v3, rfl⟩
          have hb0 : v0 < 100 := hv100 _ (by simp)
          have hb1 : v1 < 100 := hv100 _ (by simp)
          have hb2 : v2 < 100 := hv100 _ (by simp)
          have hb3 : v3 < 100 := hv100 _ (by simp)
          replace hnum : ∀ i, i < 4 → σ1 22 i = nI ([v0, v1, v2, v3].getD i 0) := hnum
          show J g κ 6 86 [some (.ref (gad g (21))), some (.ref (gad g (1))), some (.int (nI (s))), some (.int (nI (e))), some (.ref (gad g (3 + 9 * i))), some (.int (nI (4)))] [] σ1
          refine j_iload C dX5_takeItem_86 rfl ?_
          refine j_iconst (v := nI 4) C dX5_takeItem_88 rfl ?_
          refine j_icmpn_ne (tgt := 128) C dX5_takeItem_89 rfl (by omega) (by omega) (fun h => absurd h (by decide)) (fun _ => ?_)
          refine j_aload C dX5_takeItem_92 rfl ?_
          refine j_aload_n C dX5_takeItem_94 rfl rfl ?_
          refine j_get C flX5_11 dX5_takeItem_95 (Nat.lt_of_lt_of_le (by decide) hN) rfl rfl ?_
          refine j_iconst (v := nI 0) C dX5_takeItem_98 rfl ?_
          refine j_iald C dX5_takeItem_99 (Nat.lt_of_lt_of_le (by decide) hN) (fun _ => rfl) (by decide) (by omega) ?_
          refine j_top ((hnum 0 (by decide))) ?_
          refine j_aload_n C dX5_takeItem_100 rfl rfl ?_
          refine j_get C flX5_11 dX5_takeItem_101 (Nat.lt_of_lt_of_le (by decide) hN) rfl rfl ?_
          refine j_iconst (v := nI 1) C dX5_takeItem_104 rfl ?_
          refine j_iald C dX5_takeItem_105 (Nat.lt_of_lt_of_le (by decide) hN) (fun _ => rfl) (by decide) (by omega) ?_
          refine j_top ((hnum 1 (by decide))) ?_
          refine j_aload_n C dX5_takeItem_106 rfl rfl ?_
          refine j_get C flX5_11 dX5_takeItem_107 (Nat.lt_of_lt_of_le (by decide) hN) rfl rfl ?_
          refine j_iconst (v := nI 2) C dX5_takeItem_110 rfl ?_
          refine j_iald C dX5_takeItem_111 (Nat.lt_of_lt_of_le (by decide) hN) (fun _ => rfl) (by decide) (by omega) ?_
          refine j_top ((hnum 2 (by decide))) ?_
          refine j_aload_n C dX5_takeItem_112 rfl rfl ?_
          refine j_get C flX5_11 dX5_takeItem_113 (Nat.lt_of_lt_of_le (by decide) hN) rfl rfl ?_
          refine j_iconst (v := nI 3) C dX5_takeItem_116 rfl ?_
          refine j_iald C dX5_takeItem_117 (Nat.lt_of_lt_of_le (by decide) hN) (fun _ => rfl) (by decide) (by omega) ?_
          refine j_top ((hnum 3 (by decide))) ?_
          refine j_calli (As := [.int (nI (v0)), .int (nI (v1)), .int (nI (v2)), .int (nI (v3))]) (rest := []) C (tX3_takeLink hN hi hI1 hn hm (by omega) (by omega) (by omega) (by omega)) cdX3_takeLink mlX5_41 dX5_takeItem_118 (by decide) (by decide) (by omega) (cf_net (by omega) _) rfl rfl rfl rfl (Nat.le_of_ble_eq_true rfl) (fun rr_2 τ1 hp_3 => ?_)
          rcases hp_3 with ⟨rfl, hok, hfr, hI2⟩ | ⟨rfl, hok, hs2⟩
          · refine j_ifn_eq (tgt := 128) C dX5_takeItem_121 rfl (by omega) (fun h => absurd h (by decide)) (fun _ => ?_)
            refine j_iconst (v := nI 1) C dX5_takeItem_124 rfl ?_
            refine j_goto (tgt := 129) C dX5_takeItem_125 rfl ?_
            refine j_retz M dX5_takeItem_129 rfl ?_
            refine ⟨fun j n h => (hfr j n (by omega)).trans (hf j n (by omega)), Or.inr ⟨_, ?_, rfl, hI2⟩⟩
            rw [item_l (by omega) hsc hlt]
            exact if_pos hok
          · refine j_ifn_eq (tgt := 128) C dX5_takeItem_121 rfl (by omega) (fun _ => ?_) (fun h => absurd h (by decide))
            refine j_iconst (v := nI 0) C dX5_takeItem_128 rfl ?_
            refine j_retz M dX5_takeItem_129 rfl ?_
            subst hs2
            refine ⟨fun j n h => hf j n (by omega), Or.inl ⟨?_, rfl, hI1⟩⟩
            rw [item_l (by omega) hsc hlt]
            exact if_neg hok
        · have hne : ¬ vs.length = 4 := hlen
          refine j_iload C dX5_takeItem_86 rfl ?_
          refine j_iconst (v := nI 4) C dX5_takeItem_88 rfl ?_
          refine j_icmpn_ne (tgt := 128) C dX5_takeItem_89 rfl (by omega) (by omega) (fun h89 => ?_) (fun h89 => ?_)
          · refine j_iconst (v := nI 0) C dX5_takeItem_128 rfl ?_
            refine j_retz M dX5_takeItem_129 rfl ?_
            refine ⟨(fun j n h => hf j n (by omega)), Or.inl ⟨item_len hsc hlen (Or.inr (Or.inl ⟨hlt, rfl⟩)), rfl, hI1⟩⟩
          · exact absurd h89 (fun q => hlen q)
    have arm130 : σ 2 s = nI 100 → J g κ 6 130 [some (.ref (gad g (21))), some (.ref (gad g (1))), some (.int (nI (s))), some (.int (nI (e))), some (.ref (gad g (3 + 9 * i))), some (.int (cn))] [] σ1 := by
      intro hlt
      rcases hc with ⟨hsc, rfl⟩ | ⟨vs, hsc, rfl, hv4, hv100, hnum⟩
      · refine j_iload C dX5_takeItem_130 rfl ?_
        refine j_iconst (v := nI 3) C dX5_takeItem_132 rfl ?_
        refine j_icmp_ne (tgt := 166) C dX5_takeItem_133 rfl (fun _ => ?_) (fun h => absurd h (by decide))
        refine j_iconst (v := nI 0) C dX5_takeItem_166 rfl ?_
        refine j_retz M dX5_takeItem_167 rfl ?_
        refine ⟨(fun j n h => hf j n (by omega)), Or.inl ⟨item_none hsc, rfl, hI1⟩⟩
      · by_cases hlen : vs.length = 3
        · obtain ⟨v0, v1, v2, rfl⟩ : ∃ v0 v1 v2 : Nat, vs = [v0, v1, v2] := by
            match vs, hlen with | [v0, v1, v2], _ => exact ⟨v0, v1, v2, rfl⟩
          have hb0 : v0 < 100 := hv100 _ (by simp)
          have hb1 : v1 < 100 := hv100 _ (by simp)
          have hb2 : v2 < 100 := hv100 _ (by simp)
          replace hnum : ∀ i, i < 3 → σ1 22 i = nI ([v0, v1, v2].getD i 0) := hnum
          show J g κ 6 130 [some (.ref (gad g (21))), some (.ref (gad g (1))), some (.int (nI (s))), some (.int (nI (e))), some (.ref (gad g (3 + 9 * i))), some (.int (nI (3)))] [] σ1
          refine j_iload C dX5_takeItem_130 rfl ?_
          refine j_iconst (v := nI 3) C dX5_takeItem_132 rfl ?_
          refine j_icmpn_ne (tgt := 166) C dX5_takeItem_133 rfl (by omega) (by omega) (fun h => absurd h (by decide)) (fun _ => ?_)
          refine j_aload C dX5_takeItem_136 rfl ?_
          refine j_aload_n C dX5_takeItem_138 rfl rfl ?_
          refine j_get C flX5_11 dX5_takeItem_139 (Nat.lt_of_lt_of_le (by decide) hN) rfl rfl ?_
          refine j_iconst (v := nI 0) C dX5_takeItem_142 rfl ?_
          refine j_iald C dX5_takeItem_143 (Nat.lt_of_lt_of_le (by decide) hN) (fun _ => rfl) (by decide) (by omega) ?_
          refine j_top ((hnum 0 (by decide))) ?_
          refine j_aload_n C dX5_takeItem_144 rfl rfl ?_
          refine j_get C flX5_11 dX5_takeItem_145 (Nat.lt_of_lt_of_le (by decide) hN) rfl rfl ?_
          refine j_iconst (v := nI 1) C dX5_takeItem_148 rfl ?_
          refine j_iald C dX5_takeItem_149 (Nat.lt_of_lt_of_le (by decide) hN) (fun _ => rfl) (by decide) (by omega) ?_
          refine j_top ((hnum 1 (by decide))) ?_
          refine j_aload_n C dX5_takeItem_150 rfl rfl ?_
          refine j_get C flX5_11 dX5_takeItem_151 (Nat.lt_of_lt_of_le (by decide) hN) rfl rfl ?_
          refine j_iconst (v := nI 2) C dX5_takeItem_154 rfl ?_
          refine j_iald C dX5_takeItem_155 (Nat.lt_of_lt_of_le (by decide) hN) (fun _ => rfl) (by decide) (by omega) ?_
          refine j_top ((hnum 2 (by decide))) ?_
          refine j_calli (As := [.int (nI (v0)), .int (nI (v1)), .int (nI (v2))]) (rest := []) C (tX3_takeDemand hN hi hI1 hn hd (by omega) (by omega) (by omega)) cdX3_takeDemand mlX5_45 dX5_takeItem_156 (by decide) (by decide) (by omega) (cf_net (by omega) _) rfl rfl rfl rfl (Nat.le_of_ble_eq_true rfl) (fun rr_2 τ1 hp_3 => ?_)
          rcases hp_3 with ⟨rfl, hok, hfr, hI2⟩ | ⟨rfl, hok, hs2⟩
          · refine j_ifn_eq (tgt := 166) C dX5_takeItem_159 rfl (by omega) (fun h => absurd h (by decide)) (fun _ => ?_)
            refine j_iconst (v := nI 1) C dX5_takeItem_162 rfl ?_
            refine j_goto (tgt := 167) C dX5_takeItem_163 rfl ?_
            refine j_retz M dX5_takeItem_167 rfl ?_
            refine ⟨fun j n h => (hfr j n (by omega)).trans (hf j n (by omega)), Or.inr ⟨_, ?_, rfl, hI2⟩⟩
            rw [item_d (by omega) hsc hlt]
            exact if_pos hok
          · refine j_ifn_eq (tgt := 166) C dX5_takeItem_159 rfl (by omega) (fun _ => ?_) (fun h => absurd h (by decide))
            refine j_iconst (v := nI 0) C dX5_takeItem_166 rfl ?_
            refine j_retz M dX5_takeItem_167 rfl ?_
            subst hs2
            refine ⟨fun j n h => hf j n (by omega), Or.inl ⟨?_, rfl, hI1⟩⟩
            rw [item_d (by omega) hsc hlt]
            exact if_neg hok
        · have hne : ¬ vs.length = 3 := hlen
          refine j_iload C dX5_takeItem_130 rfl ?_
          refine j_iconst (v := nI 3) C dX5_takeItem_132 rfl ?_
          refine j_icmpn_ne (tgt := 166) C dX5_takeItem_133 rfl (by omega) (by omega) (fun h133 => ?_) (fun h133 => ?_)
          · refine j_iconst (v := nI 0) C dX5_takeItem_166 rfl ?_
            refine j_retz M dX5_takeItem_167 rfl ?_
            refine ⟨(fun j n h => hf j n (by omega)), Or.inl ⟨item_len hsc hlen (Or.inr (Or.inr ⟨hlt, rfl⟩)), rfl, hI1⟩⟩
          · exact absurd h133 (fun q => hlen q)
    refine j_aload_n C dX5_takeItem_18 rfl rfl ?_
    refine j_get C flX5_26 dX5_takeItem_19 (Nat.lt_of_lt_of_le (by decide) hN) rfl rfl ?_
    refine j_iload_n C dX5_takeItem_22 rfl rfl ?_
    refine j_iald C dX5_takeItem_23 (Nat.lt_of_lt_of_le (by decide) hN) (fun _ => rfl) (by decide) (by omega) ?_
    refine j_top (hf 2 s (by omega)) ?_
    by_cases e1 : σ 2 s = nI 110
    · rw [e1]
      exact j_lookup (tgt := 60) C dX5_takeItem_24 (by decide) rfl rfl (arm60 e1)
    · by_cases e2 : σ 2 s = nI 108
      · rw [e2]
        exact j_lookup (tgt := 86) C dX5_takeItem_24 (by decide) rfl rfl (arm86 e2)
      · by_cases e3 : σ 2 s = nI 100
        · rw [e3]
          exact j_lookup (tgt := 130) C dX5_takeItem_24 (by decide) rfl rfl (arm130 e3)
        · refine j_lookup (tgt := 168) (off := 144) C dX5_takeItem_24 (by decide) ?_ rfl ?_
          · show Op.lookupswitch.offset [(100, 106), (108, 62), (110, 36)] 144 (σ 2 s).toInt = 144
            rw [lv_osw (k := nI 100) (a := 100) e3 rfl, lv_osw (k := nI 108) (a := 108) e2 rfl, lv_osw (k := nI 110) (a := 110) e1 rfl]
            rfl
          refine j_iconst (v := nI 0) C dX5_takeItem_168 rfl ?_
          refine j_retz M dX5_takeItem_169 rfl ?_
          refine ⟨(fun j n h => hf j n (by omega)), Or.inl ⟨item_other e1 e2 e3, rfl, hI1⟩⟩
  · refine j_iconst (v := nI 0) C dX5_takeItem_5 rfl ?_
    refine j_retz M dX5_takeItem_6 rfl ?_
    refine ⟨fun _ _ _ => rfl, Or.inl ⟨?_, rfl, hI⟩⟩
    unfold item
    exact if_neg (by omega)
/-- a TEXT of len letters, read: at, start of the ITEM, what is read so far -/
def rdT (tx : Nat → Int32) (len : Nat) : Nat → Nat → Nat → ND → Int32 × ND
  | 0, _, s, a => (if s < len then nI s else -4, a)
  | k + 1, at_, s, a => if tx at_ = nI 59 then (match item tx s at_ a with | none => (nI s, a) | some b => rdT tx len k (at_ + 1) (at_ + 1) b) else rdT tx len k (at_ + 1) s a
theorem item_bd {tx : Nat → Int32} {s e : Nat} {a b : ND} (h : item tx s e a = some b) (hn : 2 ≤ nN a ∧ nN a ≤ 7) (hm : nM a ≤ 12) (hd : nD a ≤ 6) : (2 ≤ nN b ∧ nN b ≤ 7) ∧ nM b ≤ 12 ∧ nD b ≤ 6 := by
  unfold item at h
  split at h
  · split at h
    · cases h
    · split at h
      · split at h
        · split at h
          · next h1 => cases h; exact ⟨⟨h1.2.2.1, h1.2.2.2⟩, hm, hd⟩
          · cases h
        · cases h
      · split at h
        · split at h
          · split at h
            · next h1 => cases h; exact ⟨hn, h1.1, hd⟩
            · cases h
          · cases h
        · split at h
          · split at h
            · split at h
              · next h1 => cases h; exact ⟨hn, hm, h1.1⟩
              · cases h
            · cases h
          · cases h
  · cases h
set_option maxHeartbeats 4000000 in
set_option maxRecDepth 100000 in
theorem tX5_read {g : jG} (hN : 84 ≤ gN g) {σ : Sg} {i len : Nat} (hi : i < 2) (hl : σ 1 1 = nI len) (hlen : len ≤ 200) (a : ND) : MS g yX5_read cX5_read 5 (some .int) rmX5_read [.ref (gad g (21)), .ref (gad g (1)), .ref (gad g (3 + 9 * i))] σ (fun r σ' => (∀ j n, ¬ (j = 22 ∨ 3 + 9 * i ≤ j ∧ j ≤ 3 + 9 * i + 8) → σ' j n = σ j n) ∧ r = (rdT (σ 2) len len 0 0 (nd0 a)).1 ∧ NetI σ' (3 + 9 * i) (rdT (σ 2) len len 0 0 (nd0 a)).2) := by
  refine MJ_of (by decide) (Nat.le_of_ble_eq_true rfl) (List.forall_mem_cons.mpr ⟨rfl, List.forall_mem_cons.mpr ⟨rfl, List.forall_mem_cons.mpr ⟨rfl, fun _ h => absurd h List.not_mem_nil⟩⟩⟩) ?_
  intro κ M
  have C := M.1
  show J g κ 5 0 [some (.ref (gad g (21))), some (.ref (gad g (1))), some (.ref (gad g (3 + 9 * i))), none, none] [] σ
  have lp : ∀ (k : Nat) (s at_ : Nat) (b : ND) (σ1 : Sg), len - at_ = k → at_ ≤ len → s ≤ at_ → ((2 ≤ nN b ∧ nN b ≤ 7) ∧ nM b ≤ 12 ∧ nD b ≤ 6) → rdT (σ 2) len k at_ s b = rdT (σ 2) len len 0 0 (nd0 a) → (∀ j n, ¬ (j = 22 ∨ 3 + 9 * i ≤ j ∧ j ≤ 3 + 9 * i + 8) → σ1 j n = σ j n) → NetI σ1 (3 + 9 * i) b → J g κ 5 9 [some (.ref (gad g (21))), some (.ref (gad g (1))), some (.ref (gad g (3 + 9 * i))), some (.int (nI (s))), some (.int (nI (at_)))] [] σ1 := by
    intro k
    induction k using Nat.strongRecOn with
    | _ k ih =>
      intro s at_ b σ1 hk hat hs hb hrd hf hI
      refine j_iload C dX5_read_9 rfl ?_
      refine j_aload_n C dX5_read_11 rfl rfl ?_
      refine j_get C flX5_20 dX5_read_12 (Nat.lt_of_lt_of_le (by decide) hN) rfl rfl ?_
      refine j_top ((hf _ _ (by omega)).trans hl) ?_
      refine j_icmpn_ge (tgt := 55) C dX5_read_15 rfl (by omega) (by omega) (fun h15 => ?_) (fun h15 => ?_)
      · refine j_iload_n C dX5_read_55 rfl rfl ?_
        refine j_aload_n C dX5_read_56 rfl rfl ?_
        refine j_get C flX5_20 dX5_read_57 (Nat.lt_of_lt_of_le (by decide) hN) rfl rfl ?_
        refine j_top ((hf _ _ (by omega)).trans hl) ?_
        refine j_icmpn_ge (tgt := 67) C dX5_read_60 rfl (by omega) (by omega) (fun h60 => ?_) (fun h60 => ?_)
        · refine j_bipush (v := -4) C dX5_read_67 rfl ?_
          refine j_ret M dX5_read_69 ?_
          have e3 : rdT (σ 2) len len 0 0 (nd0 a) = (-4, b) := by
            rw [← hrd, show k = 0 by omega, rdT]
            first | rw [if_pos (by omega)] | rw [if_neg (by omega)]
          rw [e3]
          exact ⟨hf, rfl, hI⟩
        · refine j_iload_n C dX5_read_63 rfl rfl ?_
          refine j_goto (tgt := 69) C dX5_read_64 rfl ?_
          refine j_ret M dX5_read_69 ?_
          have e3 : rdT (σ 2) len len 0 0 (nd0 a) = (nI s, b) := by
            rw [← hrd, show k = 0 by omega, rdT]
            first | rw [if_pos (by omega)] | rw [if_neg (by omega)]
          rw [e3]
          exact ⟨hf, rfl, hI⟩
      · refine j_aload_n C dX5_read_18 rfl rfl ?_
        refine j_get C flX5_26 dX5_read_19 (Nat.lt_of_lt_of_le (by decide) hN) rfl rfl ?_
        refine j_iload C dX5_read_22 rfl ?_
        refine j_iald C dX5_read_24 (Nat.lt_of_lt_of_le (by decide) hN) (fun _ => rfl) (by decide) (by omega) ?_
        refine j_top (hf _ _ (by omega)) ?_
        refine j_bipush (v := nI 59) C dX5_read_25 rfl ?_
        refine j_icmp_ne (tgt := 49) C dX5_read_27 rfl (fun h27 => ?_) (fun h27 => ?_)
        · refine j_iinc (L' := [some (.ref (gad g (21))), some (.ref (gad g (1))), some (.ref (gad g (3 + 9 * i))), some (.int (nI (s))), some (.int (nI (at_ + 1)))]) C dX5_read_49 rfl (nI_inc _) (by decide) rfl ?_
          refine j_goto (tgt := 9) C dX5_read_52 rfl ?_
          refine ih (len - (at_ + 1)) (by omega) s (at_ + 1) b σ1 rfl (by omega) (by omega) hb ?_ hf hI
          rw [← hrd, show k = (len - (at_ + 1)) + 1 by omega]
          conv => rhs; rw [rdT, if_neg h27]
        · refine j_aload_n C dX5_read_30 rfl rfl ?_
          refine j_aload_n C dX5_read_31 rfl rfl ?_
          refine j_iload_n C dX5_read_32 rfl rfl ?_
          refine j_iload C dX5_read_33 rfl ?_
          refine j_aload_n C dX5_read_35 rfl rfl ?_
          refine j_calli (As := [.ref (gad g (1)), .int (nI (s)), .int (nI (at_)), .ref (gad g (3 + 9 * i))]) (rest := []) C (tX5_takeItem hN hi hs (by omega) (by omega) hI hb.1.2 hb.2.1 hb.2.2) cdX5_takeItem mlX5_29 dX5_read_36 (by decide) (by decide) (Nat.lt_of_lt_of_le (by decide) hN) rfl rfl rfl rfl rfl (Nat.le_of_ble_eq_true rfl) (fun rr_2 τ1 hp_3 => ?_)
          obtain ⟨hf2, hc⟩ := hp_3
          have e2 : σ1 2 = σ 2 := funext (fun n => hf 2 n (by omega))
          rw [e2] at hc
          rcases hc with ⟨hit, rfl, hI2⟩ | ⟨c, hit, rfl, hI2⟩
          · refine j_ifn_ne (tgt := 44) C dX5_read_39 rfl (by omega) (fun h => absurd h (by decide)) (fun _ => ?_)
            refine j_iload_n C dX5_read_42 rfl rfl ?_
            refine j_ret M dX5_read_43 ?_
            have e3 : rdT (σ 2) len len 0 0 (nd0 a) = (nI s, b) := by
              rw [← hrd, show k = (len - (at_ + 1)) + 1 by omega, rdT, if_pos h27, hit]
            rw [e3]
            exact ⟨fun j n h => (hf2 j n h).trans (hf j n h), rfl, hI2⟩
          · refine j_ifn_ne (tgt := 44) C dX5_read_39 rfl (by omega) (fun _ => ?_) (fun h => absurd h (by decide))
            refine j_iload C dX5_read_44 rfl ?_
            refine j_iconst (v := nI 1) C dX5_read_46 rfl ?_
            refine j_iadd C dX5_read_47 ?_
            refine j_top (nI_add _ _) ?_
            refine j_istore_n (L' := [some (.ref (gad g (21))), some (.ref (gad g (1))), some (.ref (gad g (3 + 9 * i))), some (.int (nI ((at_ + 1)))), some (.int (nI (at_)))]) C dX5_read_48 rfl (by decide) rfl ?_
            refine j_iinc (L' := [some (.ref (gad g (21))), some (.ref (gad g (1))), some (.ref (gad g (3 + 9 * i))), some (.int (nI ((at_ + 1)))), some (.int (nI (at_ + 1)))]) C dX5_read_49 rfl (nI_inc _) (by decide) rfl ?_
            refine j_goto (tgt := 9) C dX5_read_52 rfl ?_
            refine ih (len - (at_ + 1)) (by omega) (at_ + 1) (at_ + 1) c τ1 rfl (by omega) (by omega) (item_bd hit hb.1 hb.2.1 hb.2.2) ?_ (fun j n h => (hf2 j n h).trans (hf j n h)) hI2
            rw [← hrd, show k = (len - (at_ + 1)) + 1 by omega]
            conv => rhs; rw [rdT, if_pos h27, hit]
  refine j_aload_n C dX5_read_0 rfl rfl ?_
  refine j_callv (As := []) (rest := []) C (tX3_clear hN hi a) cdX3_clear mlX5_15 dX5_read_1 (by decide) (by decide) (by omega) (cf_net (by omega) _) rfl rfl rfl rfl (Nat.le_of_ble_eq_true rfl) (fun τ1 hp_3 => ?_)
  obtain ⟨hf2, hI2⟩ := hp_3
  refine j_iconst (v := nI 0) C dX5_read_4 rfl ?_
  refine j_istore_n (L' := [some (.ref (gad g (21))), some (.ref (gad g (1))), some (.ref (gad g (3 + 9 * i))), some (.int (nI (0))), none]) C dX5_read_5 rfl (by decide) rfl ?_
  refine j_iconst (v := nI 0) C dX5_read_6 rfl ?_
  refine j_istore (L' := [some (.ref (gad g (21))), some (.ref (gad g (1))), some (.ref (gad g (3 + 9 * i))), some (.int (nI (0))), some (.int (nI (0)))]) C dX5_read_7 (by decide) rfl ?_
  exact lp (len - 0) 0 0 (nd0 a) τ1 rfl (by omega) (by omega) ⟨⟨(by decide : 2 ≤ 4), (by decide : 4 ≤ 7)⟩, Nat.zero_le _, Nat.zero_le _⟩ rfl (fun j n h => hf2 j n (by omega)) hI2
