theorem J_loc {g : jG} {κ : jC} {nL pc : Nat} {L L' : List (Option Value)} {S : List Value} {σ : Sg} (h : L = L') (k : J g κ nL pc L' S σ) : J g κ nL pc L S σ := h ▸ k
/-- MARK of the WEIGHTS f of the first l LINKS -/
def mkL (f : Nat → Int32) : Nat → Int32
  | 0 => nI 7
  | l + 1 => (nI 31 * mkL f l + f l) - (nI 31 * mkL f l + f l) / nI 997 * nI 997
set_option maxHeartbeats 4000000 in
set_option maxRecDepth 100000 in
theorem tX6_markWith {g : jG} (hN : 84 ≤ gN g) {σ : Sg} {i m : Nat} (hi : i < 9) (hm : σ (48 + 4 * i) 0 = nI m) (hm12 : m ≤ 12) (ch x : Int32) : MS g yX6_markWith cX6_markWith 5 (some .int) rmX6_markWith [.ref (gad g (48 + 4 * i)), .int (ch), .int (x)] σ (fun r σ' => σ' = σ ∧ r = mkL (fun l => if nI l = ch then x else σ (48 + 4 * i + 1) l) m) := by
  refine MJ_of (by decide) (Nat.le_of_ble_eq_true rfl) (List.forall_mem_cons.mpr ⟨rfl, List.forall_mem_cons.mpr ⟨rfl, List.forall_mem_cons.mpr ⟨rfl, fun _ h => absurd h List.not_mem_nil⟩⟩⟩) ?_
  intro κ M
  have C := M.1
  show J g κ 5 0 [some (.ref (gad g (48 + 4 * i))), some (.int (ch)), some (.int (x)), none, none] [] σ
  have lp : ∀ (k : Nat) (l : Nat), m - l = k → l ≤ m → J g κ 5 6 [some (.ref (gad g (48 + 4 * i))), some (.int (ch)), some (.int (x)), some (.int (mkL (fun l => if nI l = ch then x else σ (48 + 4 * i + 1) l) l)), some (.int (nI (l)))] [] σ := by
    intro k
    induction k using Nat.strongRecOn with
    | _ k ih =>
      intro l hk hl
      refine j_iload C dX6_markWith_6 rfl ?_
      refine j_aload_n C dX6_markWith_8 rfl rfl ?_
      refine j_get C flX6_28 dX6_markWith_9 (by omega) (cf_st (by omega) _) rfl ?_
      refine j_top (hm) ?_
      refine j_icmpn_ge (tgt := 48) C dX6_markWith_12 rfl (by omega) (by omega) (fun h12 => ?_) (fun h12 => ?_)
      · refine j_iload_n C dX6_markWith_48 rfl rfl ?_
        refine j_ret M dX6_markWith_49 ?_
        obtain rfl : l = m := by omega
        exact ⟨rfl, rfl⟩
      · refine j_bipush (v := nI 31) C dX6_markWith_15 rfl ?_
        refine j_iload_n C dX6_markWith_17 rfl rfl ?_
        refine j_imul C dX6_markWith_18 ?_
        refine j_iload C dX6_markWith_19 rfl ?_
        refine j_iload_n C dX6_markWith_21 rfl rfl ?_
        refine j_icmp_ne (tgt := 29) C dX6_markWith_22 rfl (fun h22 => ?_) (fun h22 => ?_)
        · refine j_aload_n C dX6_markWith_29 rfl rfl ?_
          refine j_get C flX6_9 dX6_markWith_30 (by omega) (cf_st (by omega) _) rfl ?_
          refine j_iload C dX6_markWith_33 rfl ?_
          refine j_iald C dX6_markWith_35 (by omega) (cf_st1 (by omega)) (by decide) (by omega) ?_
          refine j_iadd C dX6_markWith_36 ?_
          refine j_sipush (v := nI 997) C dX6_markWith_37 rfl ?_
          refine j_irem C dX6_markWith_40 (by decide) ?_
          refine j_istore_n (L' := [some (.ref (gad g (48 + 4 * i))), some (.int (ch)), some (.int (x)), some (.int ((((nI (31) * mkL (fun l => if nI l = ch then x else σ (48 + 4 * i + 1) l) l) + σ (48 + 4 * i + 1) (l)) - ((nI (31) * mkL (fun l => if nI l = ch then x else σ (48 + 4 * i + 1) l) l) + σ (48 + 4 * i + 1) (l)) / nI (997) * nI (997)))), some (.int (nI (l)))]) C dX6_markWith_41 rfl (by decide) rfl ?_
          refine j_iinc (L' := [some (.ref (gad g (48 + 4 * i))), some (.int (ch)), some (.int (x)), some (.int ((((nI (31) * mkL (fun l => if nI l = ch then x else σ (48 + 4 * i + 1) l) l) + σ (48 + 4 * i + 1) (l)) - ((nI (31) * mkL (fun l => if nI l = ch then x else σ (48 + 4 * i + 1) l) l) + σ (48 + 4 * i + 1) (l)) / nI (997) * nI (997)))), some (.int (nI (l + 1)))]) C dX6_markWith_42 rfl (nI_inc _) (by decide) rfl ?_
          refine j_goto (tgt := 6) C dX6_markWith_45 rfl ?_
          refine J_loc (L' := [some (.ref (gad g (48 + 4 * i))), some (.int (ch)), some (.int (x)), some (.int (mkL (fun l => if nI l = ch then x else σ (48 + 4 * i + 1) l) (l + 1))), some (.int (nI (l + 1)))]) ?_ (ih (m - (l + 1)) (by omega) (l + 1) rfl (by omega))
          simp only [mkL]
          first | rw [if_pos (by assumption)] | rw [if_neg (by assumption)]
        · refine j_iload_n C dX6_markWith_25 rfl rfl ?_
          refine j_goto (tgt := 36) C dX6_markWith_26 rfl ?_
          refine j_iadd C dX6_markWith_36 ?_
          refine j_sipush (v := nI 997) C dX6_markWith_37 rfl ?_
          refine j_irem C dX6_markWith_40 (by decide) ?_
          refine j_istore_n (L' := [some (.ref (gad g (48 + 4 * i))), some (.int (ch)), some (.int (x)), some (.int ((((nI (31) * mkL (fun l => if nI l = ch then x else σ (48 + 4 * i + 1) l) l) + x) - ((nI (31) * mkL (fun l => if nI l = ch then x else σ (48 + 4 * i + 1) l) l) + x) / nI (997) * nI (997)))), some (.int (nI (l)))]) C dX6_markWith_41 rfl (by decide) rfl ?_
          refine j_iinc (L' := [some (.ref (gad g (48 + 4 * i))), some (.int (ch)), some (.int (x)), some (.int ((((nI (31) * mkL (fun l => if nI l = ch then x else σ (48 + 4 * i + 1) l) l) + x) - ((nI (31) * mkL (fun l => if nI l = ch then x else σ (48 + 4 * i + 1) l) l) + x) / nI (997) * nI (997)))), some (.int (nI (l + 1)))]) C dX6_markWith_42 rfl (nI_inc _) (by decide) rfl ?_
          refine j_goto (tgt := 6) C dX6_markWith_45 rfl ?_
          refine J_loc (L' := [some (.ref (gad g (48 + 4 * i))), some (.int (ch)), some (.int (x)), some (.int (mkL (fun l => if nI l = ch then x else σ (48 + 4 * i + 1) l) (l + 1))), some (.int (nI (l + 1)))]) ?_ (ih (m - (l + 1)) (by omega) (l + 1) rfl (by omega))
          simp only [mkL]
          first | rw [if_pos (by assumption)] | rw [if_neg (by assumption)]
  refine j_bipush (v := nI 7) C dX6_markWith_0 rfl ?_
  refine j_istore_n (L' := [some (.ref (gad g (48 + 4 * i))), some (.int (ch)), some (.int (x)), some (.int (nI (7))), none]) C dX6_markWith_2 rfl (by decide) rfl ?_
  refine j_iconst (v := nI 0) C dX6_markWith_3 rfl ?_
  refine j_istore (L' := [some (.ref (gad g (48 + 4 * i))), some (.int (ch)), some (.int (x)), some (.int (nI (7))), some (.int (nI (0)))]) C dX6_markWith_4 (by decide) rfl ?_
  exact lp (m - 0) 0 rfl (by omega)
