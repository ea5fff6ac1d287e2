set_option maxHeartbeats 4000000 in
set_option maxRecDepth 100000 in
theorem tX8_layShares {g : jG} (hN : 97 ≤ gN g) {σ : Sg} {a : ND} {w : Nat → Nat} {u : Nat → Bool} (hI : RNet σ a) (hO : NOk a) (hW : RW σ (nM a) w u) (hw : WOk (nM a) w) {d : Nat} (hd : d < nD a) : MS g yX8_layShares cX8_layShares 9 (some .boolean) rmX8_layShares [.ref (gad g (84)), .int (nI (d))] σ (fun r σ' => (∀ j n, ¬ (j = 93 ∨ j = 94 ∨ j = 95) → σ' j n = σ j n) ∧ ((r = nI 0 ∧ (FAR a w u (nGo a d)) (nSt a d) = none) ∨ (r = nI 1 ∧ ¬ (FAR a w u (nGo a d)) (nSt a d) = none ∧ ∀ l, l < nM a → σ' 94 l = nI (SHR a w u d l)))) := by
  refine MJ_of (by decide) (Nat.le_of_ble_eq_true rfl) (List.forall_mem_cons.mpr ⟨rfl, List.forall_mem_cons.mpr ⟨rfl, fun _ h => absurd h List.not_mem_nil⟩⟩) ?_
  intro κ M
  have C := M.1
  show J g κ 9 0 [some (.ref (gad g (84))), some (.int (nI (d))), none, none, none, none, none, none, none] [] σ
  have hn7 := hO.2.1
  have hm12 := hO.2.2.1
  have hd6 := hO.2.2.2.1
  obtain ⟨hd1, hd2, hd3, hd4, hd5⟩ := hO.2.2.2.2.2 d hd
  have hB : fBd (FAR a w u (nGo a d)) 1680 := fun x v h => by have := FAR_bd (t := nGo a d) hO hw x v h; omega
  obtain ⟨Lo, hLo⟩ : ∃ L, Ord (fun y => key ((FAR a w u (nGo a d)) y)) (nN a) L := ⟨_, Lc_ord _ _⟩
  obtain ⟨q, hq1, hq2, hq3, hq4⟩ := ord_t hO hw hd2 hLo
  have lpI : ∀ (dn : Nat → Bool) (i : Nat) (σ1 : Sg), σ1 84 10 = nI (nN a) → (∀ y, y < 7 → σ1 93 y = c4 ((FAR a w u (nGo a d)) y)) → J g κ 9 214 [some (.ref (gad g (84))), some (.int (nI (d))), some (.int (nI (nSt a d))), some (.int (nI (nGo a d))), some (.int (nI (ub dn 7))), some (.int (nI (i + 1))), some (.int (c4 (bst dn (FAR a w u (nGo a d)) (nN a)))), some (.int (nI (nN a))), none] [] σ1 → ∀ (k x : Nat), nN a - x = k → x ≤ nN a → J g κ 9 132 [some (.ref (gad g (84))), some (.int (nI (d))), some (.int (nI (nSt a d))), some (.int (nI (nGo a d))), some (.int (nI (ub dn 7))), some (.int (nI (i + 1))), some (.int (c4 (bst dn (FAR a w u (nGo a d)) (x)))), some (.int (nI (x))), none] [] σ1 := by
    intro dn i σ1 hn1 h93 kI k
    have hub := ub_lt dn 7
    induction k using Nat.strongRecOn with
    | _ k ih =>
      intro x hk hx
      refine j_iload C dX8_layShares_132 rfl ?_
      refine j_aload_n C dX8_layShares_134 rfl rfl ?_
      refine j_get C flX8_74 dX8_layShares_135 (Nat.lt_of_lt_of_le (by decide) hN) rfl rfl ?_
      refine j_top (hn1) ?_
      refine j_icmpn_ge (tgt := 214) C dX8_layShares_138 rfl (by omega) (by omega) (fun h138 => ?_) (fun h138 => ?_)
      · rw [show x = nN a by omega]
        exact kI
      · rcases hb : bst dn (FAR a w u (nGo a d)) x with _ | b <;> rcases hfx : (FAR a w u (nGo a d)) x with _ | v
        · refine J_loc (L' := [some (.ref (gad g (84))), some (.int (nI (d))), some (.int (nI (nSt a d))), some (.int (nI (nGo a d))), some (.int (nI (ub dn 7))), some (.int (nI (i + 1))), some (.int (-4)), some (.int (nI (x))), none]) rfl ?_
          refine j_iload C dX8_layShares_141 rfl ?_
          refine j_iload C dX8_layShares_143 rfl ?_
          refine j_ishr C dX8_layShares_145 ?_
          refine j_top rfl ?_
          refine j_iconst (v := nI 1) C dX8_layShares_146 rfl ?_
          refine j_iand C dX8_layShares_147 ?_
          refine j_top (bit_rd (by omega) (by omega)) ?_
          have hbit := ub_bit dn 7 x
          rcases hdx : dn x with _ | _
          · rw [if_neg (fun q => by rw [hdx] at q; exact absurd q.2 (by decide))] at hbit
            refine j_top (y := nI 0) (by rw [hbit]) ?_
            refine j_ifn_ne (tgt := 167) C dX8_layShares_148 rfl (by omega) (fun h => absurd h (by decide)) (fun _ => ?_)
            refine j_aload_n C dX8_layShares_151 rfl rfl ?_
            refine j_get C flX8_34 dX8_layShares_152 (Nat.lt_of_lt_of_le (by decide) hN) rfl rfl ?_
            refine j_iload C dX8_layShares_155 rfl ?_
            refine j_iald C dX8_layShares_157 (Nat.lt_of_lt_of_le (by decide) hN) (fun _ => rfl) (by decide) (by omega) ?_
            refine j_top ((h93 x (by omega)).trans (congrArg c4 hfx)) ?_
            refine j_bipush (v := -4) C dX8_layShares_158 rfl ?_
            refine j_icmp_eq (tgt := 167) C dX8_layShares_160 rfl (fun _ => ?_) (fun h => absurd h (by decide))
            refine j_iconst (v := nI 0) C dX8_layShares_167 rfl ?_
            refine j_istore (L' := [some (.ref (gad g (84))), some (.int (nI (d))), some (.int (nI (nSt a d))), some (.int (nI (nGo a d))), some (.int (nI (ub dn 7))), some (.int (nI (i + 1))), some (.int (-4)), some (.int (nI (x))), some (.int (nI (0)))]) C dX8_layShares_168 (by decide) rfl ?_
            refine j_iload C dX8_layShares_170 rfl ?_
            refine j_ifn_eq (tgt := 204) C dX8_layShares_172 rfl (by omega) (fun _ => ?_) (fun h => absurd h (by decide))
            refine j_iload C dX8_layShares_204 rfl ?_
            refine j_istore (L' := [some (.ref (gad g (84))), some (.int (nI (d))), some (.int (nI (nSt a d))), some (.int (nI (nGo a d))), some (.int (nI (ub dn 7))), some (.int (nI (i + 1))), some (.int (-4)), some (.int (nI (x))), some (.int (nI (0)))]) C dX8_layShares_206 (by decide) rfl ?_
            refine j_iinc (L' := [some (.ref (gad g (84))), some (.int (nI (d))), some (.int (nI (nSt a d))), some (.int (nI (nGo a d))), some (.int (nI (ub dn 7))), some (.int (nI (i + 1))), some (.int (-4)), some (.int (nI (x + 1))), some (.int (nI (0)))]) C dX8_layShares_208 rfl (nI_inc _) (by decide) rfl ?_
            refine j_goto (tgt := 132) C dX8_layShares_211 rfl ?_
            refine J_clr 8 (L' := [some (.ref (gad g (84))), some (.int (nI (d))), some (.int (nI (nSt a d))), some (.int (nI (nGo a d))), some (.int (nI (ub dn 7))), some (.int (nI (i + 1))), some (.int (-4)), some (.int (nI (x + 1))), none]) rfl ?_
            have hq : bst dn (FAR a w u (nGo a d)) (x + 1) = none := by
              first | exact (bst_skip (Or.inl hdx)).trans hb | exact (bst_skip (Or.inr hfx)).trans hb | exact bst_no hdx hfx hb hfb (by omega)
            refine J_loc (L' := [some (.ref (gad g (84))), some (.int (nI (d))), some (.int (nI (nSt a d))), some (.int (nI (nGo a d))), some (.int (nI (ub dn 7))), some (.int (nI (i + 1))), some (.int (c4 (bst dn (FAR a w u (nGo a d)) (x + 1)))), some (.int (nI (x + 1))), none]) (by rw [hq]; rfl) (ih (nN a - (x + 1)) (by omega) (x + 1) rfl (by omega))
          · rw [if_pos ⟨by omega, hdx⟩] at hbit
            refine j_top (y := nI 1) (by rw [hbit]) ?_
            refine j_ifn_ne (tgt := 167) C dX8_layShares_148 rfl (by omega) (fun _ => ?_) (fun h => absurd h (by decide))
            refine j_iconst (v := nI 0) C dX8_layShares_167 rfl ?_
            refine j_istore (L' := [some (.ref (gad g (84))), some (.int (nI (d))), some (.int (nI (nSt a d))), some (.int (nI (nGo a d))), some (.int (nI (ub dn 7))), some (.int (nI (i + 1))), some (.int (-4)), some (.int (nI (x))), some (.int (nI (0)))]) C dX8_layShares_168 (by decide) rfl ?_
            refine j_iload C dX8_layShares_170 rfl ?_
            refine j_ifn_eq (tgt := 204) C dX8_layShares_172 rfl (by omega) (fun _ => ?_) (fun h => absurd h (by decide))
            refine j_iload C dX8_layShares_204 rfl ?_
            refine j_istore (L' := [some (.ref (gad g (84))), some (.int (nI (d))), some (.int (nI (nSt a d))), some (.int (nI (nGo a d))), some (.int (nI (ub dn 7))), some (.int (nI (i + 1))), some (.int (-4)), some (.int (nI (x))), some (.int (nI (0)))]) C dX8_layShares_206 (by decide) rfl ?_
            refine j_iinc (L' := [some (.ref (gad g (84))), some (.int (nI (d))), some (.int (nI (nSt a d))), some (.int (nI (nGo a d))), some (.int (nI (ub dn 7))), some (.int (nI (i + 1))), some (.int (-4)), some (.int (nI (x + 1))), some (.int (nI (0)))]) C dX8_layShares_208 rfl (nI_inc _) (by decide) rfl ?_
            refine j_goto (tgt := 132) C dX8_layShares_211 rfl ?_
            refine J_clr 8 (L' := [some (.ref (gad g (84))), some (.int (nI (d))), some (.int (nI (nSt a d))), some (.int (nI (nGo a d))), some (.int (nI (ub dn 7))), some (.int (nI (i + 1))), some (.int (-4)), some (.int (nI (x + 1))), none]) rfl ?_
            have hq : bst dn (FAR a w u (nGo a d)) (x + 1) = none := by
              first | exact (bst_skip (Or.inl hdx)).trans hb | exact (bst_skip (Or.inr hfx)).trans hb | exact bst_no hdx hfx hb hfb (by omega)
            refine J_loc (L' := [some (.ref (gad g (84))), some (.int (nI (d))), some (.int (nI (nSt a d))), some (.int (nI (nGo a d))), some (.int (nI (ub dn 7))), some (.int (nI (i + 1))), some (.int (c4 (bst dn (FAR a w u (nGo a d)) (x + 1)))), some (.int (nI (x + 1))), none]) (by rw [hq]; rfl) (ih (nN a - (x + 1)) (by omega) (x + 1) rfl (by omega))
        · have hv := hB _ _ hfx
          refine J_loc (L' := [some (.ref (gad g (84))), some (.int (nI (d))), some (.int (nI (nSt a d))), some (.int (nI (nGo a d))), some (.int (nI (ub dn 7))), some (.int (nI (i + 1))), some (.int (-4)), some (.int (nI (x))), none]) rfl ?_
          refine j_iload C dX8_layShares_141 rfl ?_
          refine j_iload C dX8_layShares_143 rfl ?_
          refine j_ishr C dX8_layShares_145 ?_
          refine j_top rfl ?_
          refine j_iconst (v := nI 1) C dX8_layShares_146 rfl ?_
          refine j_iand C dX8_layShares_147 ?_
          refine j_top (bit_rd (by omega) (by omega)) ?_
          have hbit := ub_bit dn 7 x
          rcases hdx : dn x with _ | _
          · rw [if_neg (fun q => by rw [hdx] at q; exact absurd q.2 (by decide))] at hbit
            refine j_top (y := nI 0) (by rw [hbit]) ?_
            refine j_ifn_ne (tgt := 167) C dX8_layShares_148 rfl (by omega) (fun h => absurd h (by decide)) (fun _ => ?_)
            refine j_aload_n C dX8_layShares_151 rfl rfl ?_
            refine j_get C flX8_34 dX8_layShares_152 (Nat.lt_of_lt_of_le (by decide) hN) rfl rfl ?_
            refine j_iload C dX8_layShares_155 rfl ?_
            refine j_iald C dX8_layShares_157 (Nat.lt_of_lt_of_le (by decide) hN) (fun _ => rfl) (by decide) (by omega) ?_
            refine j_top ((h93 x (by omega)).trans (congrArg c4 hfx)) ?_
            refine j_bipush (v := -4) C dX8_layShares_158 rfl ?_
            refine j_icmp_eq (tgt := 167) C dX8_layShares_160 rfl (fun h => absurd h (nI_neg (by omega) (by decide))) (fun _ => ?_)
            refine j_iconst (v := nI 1) C dX8_layShares_163 rfl ?_
            refine j_goto (tgt := 168) C dX8_layShares_164 rfl ?_
            refine j_istore (L' := [some (.ref (gad g (84))), some (.int (nI (d))), some (.int (nI (nSt a d))), some (.int (nI (nGo a d))), some (.int (nI (ub dn 7))), some (.int (nI (i + 1))), some (.int (-4)), some (.int (nI (x))), some (.int (nI (1)))]) C dX8_layShares_168 (by decide) rfl ?_
            refine j_iload C dX8_layShares_170 rfl ?_
            refine j_ifn_eq (tgt := 204) C dX8_layShares_172 rfl (by omega) (fun h => absurd h (by decide)) (fun _ => ?_)
            refine j_iload C dX8_layShares_175 rfl ?_
            refine j_bipush (v := -4) C dX8_layShares_177 rfl ?_
            refine j_icmp_eq (tgt := 199) C dX8_layShares_179 rfl (fun _ => ?_) (fun h => absurd h (by decide))
            refine j_iload C dX8_layShares_199 rfl ?_
            refine j_goto (tgt := 206) C dX8_layShares_201 rfl ?_
            refine j_istore (L' := [some (.ref (gad g (84))), some (.int (nI (d))), some (.int (nI (nSt a d))), some (.int (nI (nGo a d))), some (.int (nI (ub dn 7))), some (.int (nI (i + 1))), some (.int (nI (x))), some (.int (nI (x))), some (.int (nI (1)))]) C dX8_layShares_206 (by decide) rfl ?_
            refine j_iinc (L' := [some (.ref (gad g (84))), some (.int (nI (d))), some (.int (nI (nSt a d))), some (.int (nI (nGo a d))), some (.int (nI (ub dn 7))), some (.int (nI (i + 1))), some (.int (nI (x))), some (.int (nI (x + 1))), some (.int (nI (1)))]) C dX8_layShares_208 rfl (nI_inc _) (by decide) rfl ?_
            refine j_goto (tgt := 132) C dX8_layShares_211 rfl ?_
            refine J_clr 8 (L' := [some (.ref (gad g (84))), some (.int (nI (d))), some (.int (nI (nSt a d))), some (.int (nI (nGo a d))), some (.int (nI (ub dn 7))), some (.int (nI (i + 1))), some (.int (nI (x))), some (.int (nI (x + 1))), none]) rfl ?_
            have hq : bst dn (FAR a w u (nGo a d)) (x + 1) = some x := by
              first | exact bst_new hdx hfx hb | exact bst_up hdx hfx hb hfb (by omega)
            refine J_loc (L' := [some (.ref (gad g (84))), some (.int (nI (d))), some (.int (nI (nSt a d))), some (.int (nI (nGo a d))), some (.int (nI (ub dn 7))), some (.int (nI (i + 1))), some (.int (c4 (bst dn (FAR a w u (nGo a d)) (x + 1)))), some (.int (nI (x + 1))), none]) (by rw [hq]; rfl) (ih (nN a - (x + 1)) (by omega) (x + 1) rfl (by omega))
          · rw [if_pos ⟨by omega, hdx⟩] at hbit
            refine j_top (y := nI 1) (by rw [hbit]) ?_
            refine j_ifn_ne (tgt := 167) C dX8_layShares_148 rfl (by omega) (fun _ => ?_) (fun h => absurd h (by decide))
            refine j_iconst (v := nI 0) C dX8_layShares_167 rfl ?_
            refine j_istore (L' := [some (.ref (gad g (84))), some (.int (nI (d))), some (.int (nI (nSt a d))), some (.int (nI (nGo a d))), some (.int (nI (ub dn 7))), some (.int (nI (i + 1))), some (.int (-4)), some (.int (nI (x))), some (.int (nI (0)))]) C dX8_layShares_168 (by decide) rfl ?_
            refine j_iload C dX8_layShares_170 rfl ?_
            refine j_ifn_eq (tgt := 204) C dX8_layShares_172 rfl (by omega) (fun _ => ?_) (fun h => absurd h (by decide))
            refine j_iload C dX8_layShares_204 rfl ?_
            refine j_istore (L' := [some (.ref (gad g (84))), some (.int (nI (d))), some (.int (nI (nSt a d))), some (.int (nI (nGo a d))), some (.int (nI (ub dn 7))), some (.int (nI (i + 1))), some (.int (-4)), some (.int (nI (x))), some (.int (nI (0)))]) C dX8_layShares_206 (by decide) rfl ?_
            refine j_iinc (L' := [some (.ref (gad g (84))), some (.int (nI (d))), some (.int (nI (nSt a d))), some (.int (nI (nGo a d))), some (.int (nI (ub dn 7))), some (.int (nI (i + 1))), some (.int (-4)), some (.int (nI (x + 1))), some (.int (nI (0)))]) C dX8_layShares_208 rfl (nI_inc _) (by decide) rfl ?_
            refine j_goto (tgt := 132) C dX8_layShares_211 rfl ?_
            refine J_clr 8 (L' := [some (.ref (gad g (84))), some (.int (nI (d))), some (.int (nI (nSt a d))), some (.int (nI (nGo a d))), some (.int (nI (ub dn 7))), some (.int (nI (i + 1))), some (.int (-4)), some (.int (nI (x + 1))), none]) rfl ?_
            have hq : bst dn (FAR a w u (nGo a d)) (x + 1) = none := by
              first | exact (bst_skip (Or.inl hdx)).trans hb | exact (bst_skip (Or.inr hfx)).trans hb | exact bst_no hdx hfx hb hfb (by omega)
            refine J_loc (L' := [some (.ref (gad g (84))), some (.int (nI (d))), some (.int (nI (nSt a d))), some (.int (nI (nGo a d))), some (.int (nI (ub dn 7))), some (.int (nI (i + 1))), some (.int (c4 (bst dn (FAR a w u (nGo a d)) (x + 1)))), some (.int (nI (x + 1))), none]) (by rw [hq]; rfl) (ih (nN a - (x + 1)) (by omega) (x + 1) rfl (by omega))
        · obtain ⟨hbx, z, hfb⟩ := bst_cand hb
          have hz := hB _ _ hfb
          refine J_loc (L' := [some (.ref (gad g (84))), some (.int (nI (d))), some (.int (nI (nSt a d))), some (.int (nI (nGo a d))), some (.int (nI (ub dn 7))), some (.int (nI (i + 1))), some (.int (nI (b))), some (.int (nI (x))), none]) rfl ?_
          refine j_iload C dX8_layShares_141 rfl ?_
          refine j_iload C dX8_layShares_143 rfl ?_
          refine j_ishr C dX8_layShares_145 ?_
          refine j_top rfl ?_
          refine j_iconst (v := nI 1) C dX8_layShares_146 rfl ?_
          refine j_iand C dX8_layShares_147 ?_
          refine j_top (bit_rd (by omega) (by omega)) ?_
          have hbit := ub_bit dn 7 x
          rcases hdx : dn x with _ | _
          · rw [if_neg (fun q => by rw [hdx] at q; exact absurd q.2 (by decide))] at hbit
            refine j_top (y := nI 0) (by rw [hbit]) ?_
            refine j_ifn_ne (tgt := 167) C dX8_layShares_148 rfl (by omega) (fun h => absurd h (by decide)) (fun _ => ?_)
            refine j_aload_n C dX8_layShares_151 rfl rfl ?_
            refine j_get C flX8_34 dX8_layShares_152 (Nat.lt_of_lt_of_le (by decide) hN) rfl rfl ?_
            refine j_iload C dX8_layShares_155 rfl ?_
            refine j_iald C dX8_layShares_157 (Nat.lt_of_lt_of_le (by decide) hN) (fun _ => rfl) (by decide) (by omega) ?_
            refine j_top ((h93 x (by omega)).trans (congrArg c4 hfx)) ?_
            refine j_bipush (v := -4) C dX8_layShares_158 rfl ?_
            refine j_icmp_eq (tgt := 167) C dX8_layShares_160 rfl (fun _ => ?_) (fun h => absurd h (by decide))
            refine j_iconst (v := nI 0) C dX8_layShares_167 rfl ?_
            refine j_istore (L' := [some (.ref (gad g (84))), some (.int (nI (d))), some (.int (nI (nSt a d))), some (.int (nI (nGo a d))), some (.int (nI (ub dn 7))), some (.int (nI (i + 1))), some (.int (nI (b))), some (.int (nI (x))), some (.int (nI (0)))]) C dX8_layShares_168 (by decide) rfl ?_
            refine j_iload C dX8_layShares_170 rfl ?_
            refine j_ifn_eq (tgt := 204) C dX8_layShares_172 rfl (by omega) (fun _ => ?_) (fun h => absurd h (by decide))
            refine j_iload C dX8_layShares_204 rfl ?_
            refine j_istore (L' := [some (.ref (gad g (84))), some (.int (nI (d))), some (.int (nI (nSt a d))), some (.int (nI (nGo a d))), some (.int (nI (ub dn 7))), some (.int (nI (i + 1))), some (.int (nI (b))), some (.int (nI (x))), some (.int (nI (0)))]) C dX8_layShares_206 (by decide) rfl ?_
            refine j_iinc (L' := [some (.ref (gad g (84))), some (.int (nI (d))), some (.int (nI (nSt a d))), some (.int (nI (nGo a d))), some (.int (nI (ub dn 7))), some (.int (nI (i + 1))), some (.int (nI (b))), some (.int (nI (x + 1))), some (.int (nI (0)))]) C dX8_layShares_208 rfl (nI_inc _) (by decide) rfl ?_
            refine j_goto (tgt := 132) C dX8_layShares_211 rfl ?_
            refine J_clr 8 (L' := [some (.ref (gad g (84))), some (.int (nI (d))), some (.int (nI (nSt a d))), some (.int (nI (nGo a d))), some (.int (nI (ub dn 7))), some (.int (nI (i + 1))), some (.int (nI (b))), some (.int (nI (x + 1))), none]) rfl ?_
            have hq : bst dn (FAR a w u (nGo a d)) (x + 1) = some b := by
              first | exact (bst_skip (Or.inl hdx)).trans hb | exact (bst_skip (Or.inr hfx)).trans hb | exact bst_no hdx hfx hb hfb (by omega)
            refine J_loc (L' := [some (.ref (gad g (84))), some (.int (nI (d))), some (.int (nI (nSt a d))), some (.int (nI (nGo a d))), some (.int (nI (ub dn 7))), some (.int (nI (i + 1))), some (.int (c4 (bst dn (FAR a w u (nGo a d)) (x + 1)))), some (.int (nI (x + 1))), none]) (by rw [hq]; rfl) (ih (nN a - (x + 1)) (by omega) (x + 1) rfl (by omega))
          · rw [if_pos ⟨by omega, hdx⟩] at hbit
            refine j_top (y := nI 1) (by rw [hbit]) ?_
            refine j_ifn_ne (tgt := 167) C dX8_layShares_148 rfl (by omega) (fun _ => ?_) (fun h => absurd h (by decide))
            refine j_iconst (v := nI 0) C dX8_layShares_167 rfl ?_
            refine j_istore (L' := [some (.ref (gad g (84))), some (.int (nI (d))), some (.int (nI (nSt a d))), some (.int (nI (nGo a d))), some (.int (nI (ub dn 7))), some (.int (nI (i + 1))), some (.int (nI (b))), some (.int (nI (x))), some (.int (nI (0)))]) C dX8_layShares_168 (by decide) rfl ?_
            refine j_iload C dX8_layShares_170 rfl ?_
            refine j_ifn_eq (tgt := 204) C dX8_layShares_172 rfl (by omega) (fun _ => ?_) (fun h => absurd h (by decide))
            refine j_iload C dX8_layShares_204 rfl ?_
            refine j_istore (L' := [some (.ref (gad g (84))), some (.int (nI (d))), some (.int (nI (nSt a d))), some (.int (nI (nGo a d))), some (.int (nI (ub dn 7))), some (.int (nI (i + 1))), some (.int (nI (b))), some (.int (nI (x))), some (.int (nI (0)))]) C dX8_layShares_206 (by decide) rfl ?_
            refine j_iinc (L' := [some (.ref (gad g (84))), some (.int (nI (d))), some (.int (nI (nSt a d))), some (.int (nI (nGo a d))), some (.int (nI (ub dn 7))), some (.int (nI (i + 1))), some (.int (nI (b))), some (.int (nI (x + 1))), some (.int (nI (0)))]) C dX8_layShares_208 rfl (nI_inc _) (by decide) rfl ?_
            refine j_goto (tgt := 132) C dX8_layShares_211 rfl ?_
            refine J_clr 8 (L' := [some (.ref (gad g (84))), some (.int (nI (d))), some (.int (nI (nSt a d))), some (.int (nI (nGo a d))), some (.int (nI (ub dn 7))), some (.int (nI (i + 1))), some (.int (nI (b))), some (.int (nI (x + 1))), none]) rfl ?_
            have hq : bst dn (FAR a w u (nGo a d)) (x + 1) = some b := by
              first | exact (bst_skip (Or.inl hdx)).trans hb | exact (bst_skip (Or.inr hfx)).trans hb | exact bst_no hdx hfx hb hfb (by omega)
            refine J_loc (L' := [some (.ref (gad g (84))), some (.int (nI (d))), some (.int (nI (nSt a d))), some (.int (nI (nGo a d))), some (.int (nI (ub dn 7))), some (.int (nI (i + 1))), some (.int (c4 (bst dn (FAR a w u (nGo a d)) (x + 1)))), some (.int (nI (x + 1))), none]) (by rw [hq]; rfl) (ih (nN a - (x + 1)) (by omega) (x + 1) rfl (by omega))
        · obtain ⟨hbx, z, hfb⟩ := bst_cand hb
          have hz := hB _ _ hfb
          have hv := hB _ _ hfx
          refine J_loc (L' := [some (.ref (gad g (84))), some (.int (nI (d))), some (.int (nI (nSt a d))), some (.int (nI (nGo a d))), some (.int (nI (ub dn 7))), some (.int (nI (i + 1))), some (.int (nI (b))), some (.int (nI (x))), none]) rfl ?_
          refine j_iload C dX8_layShares_141 rfl ?_
          refine j_iload C dX8_layShares_143 rfl ?_
          refine j_ishr C dX8_layShares_145 ?_
          refine j_top rfl ?_
          refine j_iconst (v := nI 1) C dX8_layShares_146 rfl ?_
          refine j_iand C dX8_layShares_147 ?_
          refine j_top (bit_rd (by omega) (by omega)) ?_
          have hbit := ub_bit dn 7 x
          rcases hdx : dn x with _ | _
          · rw [if_neg (fun q => by rw [hdx] at q; exact absurd q.2 (by decide))] at hbit
            refine j_top (y := nI 0) (by rw [hbit]) ?_
            refine j_ifn_ne (tgt := 167) C dX8_layShares_148 rfl (by omega) (fun h => absurd h (by decide)) (fun _ => ?_)
            refine j_aload_n C dX8_layShares_151 rfl rfl ?_
            refine j_get C flX8_34 dX8_layShares_152 (Nat.lt_of_lt_of_le (by decide) hN) rfl rfl ?_
            refine j_iload C dX8_layShares_155 rfl ?_
            refine j_iald C dX8_layShares_157 (Nat.lt_of_lt_of_le (by decide) hN) (fun _ => rfl) (by decide) (by omega) ?_
            refine j_top ((h93 x (by omega)).trans (congrArg c4 hfx)) ?_
            refine j_bipush (v := -4) C dX8_layShares_158 rfl ?_
            refine j_icmp_eq (tgt := 167) C dX8_layShares_160 rfl (fun h => absurd h (nI_neg (by omega) (by decide))) (fun _ => ?_)
            refine j_iconst (v := nI 1) C dX8_layShares_163 rfl ?_
            refine j_goto (tgt := 168) C dX8_layShares_164 rfl ?_
            refine j_istore (L' := [some (.ref (gad g (84))), some (.int (nI (d))), some (.int (nI (nSt a d))), some (.int (nI (nGo a d))), some (.int (nI (ub dn 7))), some (.int (nI (i + 1))), some (.int (nI (b))), some (.int (nI (x))), some (.int (nI (1)))]) C dX8_layShares_168 (by decide) rfl ?_
            refine j_iload C dX8_layShares_170 rfl ?_
            refine j_ifn_eq (tgt := 204) C dX8_layShares_172 rfl (by omega) (fun h => absurd h (by decide)) (fun _ => ?_)
            refine j_iload C dX8_layShares_175 rfl ?_
            refine j_bipush (v := -4) C dX8_layShares_177 rfl ?_
            refine j_icmp_eq (tgt := 199) C dX8_layShares_179 rfl (fun h => absurd h (nI_neg (by omega) (by decide))) (fun _ => ?_)
            refine j_aload_n C dX8_layShares_182 rfl rfl ?_
            refine j_get C flX8_34 dX8_layShares_183 (Nat.lt_of_lt_of_le (by decide) hN) rfl rfl ?_
            refine j_iload C dX8_layShares_186 rfl ?_
            refine j_iald C dX8_layShares_188 (Nat.lt_of_lt_of_le (by decide) hN) (fun _ => rfl) (by decide) (by omega) ?_
            refine j_top ((h93 x (by omega)).trans (congrArg c4 hfx)) ?_
            refine j_aload_n C dX8_layShares_189 rfl rfl ?_
            refine j_get C flX8_34 dX8_layShares_190 (Nat.lt_of_lt_of_le (by decide) hN) rfl rfl ?_
            refine j_iload C dX8_layShares_193 rfl ?_
            refine j_iald C dX8_layShares_195 (Nat.lt_of_lt_of_le (by decide) hN) (fun _ => rfl) (by decide) (by omega) ?_
            refine j_top ((h93 b (by omega)).trans (congrArg c4 hfb)) ?_
            refine j_icmpn_le (tgt := 204) C dX8_layShares_196 rfl (by omega) (by omega) (fun h196 => ?_) (fun h196 => ?_)
            · refine j_iload C dX8_layShares_204 rfl ?_
              refine j_istore (L' := [some (.ref (gad g (84))), some (.int (nI (d))), some (.int (nI (nSt a d))), some (.int (nI (nGo a d))), some (.int (nI (ub dn 7))), some (.int (nI (i + 1))), some (.int (nI (b))), some (.int (nI (x))), some (.int (nI (1)))]) C dX8_layShares_206 (by decide) rfl ?_
              refine j_iinc (L' := [some (.ref (gad g (84))), some (.int (nI (d))), some (.int (nI (nSt a d))), some (.int (nI (nGo a d))), some (.int (nI (ub dn 7))), some (.int (nI (i + 1))), some (.int (nI (b))), some (.int (nI (x + 1))), some (.int (nI (1)))]) C dX8_layShares_208 rfl (nI_inc _) (by decide) rfl ?_
              refine j_goto (tgt := 132) C dX8_layShares_211 rfl ?_
              refine J_clr 8 (L' := [some (.ref (gad g (84))), some (.int (nI (d))), some (.int (nI (nSt a d))), some (.int (nI (nGo a d))), some (.int (nI (ub dn 7))), some (.int (nI (i + 1))), some (.int (nI (b))), some (.int (nI (x + 1))), none]) rfl ?_
              have hq : bst dn (FAR a w u (nGo a d)) (x + 1) = some b := by
                first | exact (bst_skip (Or.inl hdx)).trans hb | exact (bst_skip (Or.inr hfx)).trans hb | exact bst_no hdx hfx hb hfb (by omega)
              refine J_loc (L' := [some (.ref (gad g (84))), some (.int (nI (d))), some (.int (nI (nSt a d))), some (.int (nI (nGo a d))), some (.int (nI (ub dn 7))), some (.int (nI (i + 1))), some (.int (c4 (bst dn (FAR a w u (nGo a d)) (x + 1)))), some (.int (nI (x + 1))), none]) (by rw [hq]; rfl) (ih (nN a - (x + 1)) (by omega) (x + 1) rfl (by omega))
            · refine j_iload C dX8_layShares_199 rfl ?_
              refine j_goto (tgt := 206) C dX8_layShares_201 rfl ?_
              refine j_istore (L' := [some (.ref (gad g (84))), some (.int (nI (d))), some (.int (nI (nSt a d))), some (.int (nI (nGo a d))), some (.int (nI (ub dn 7))), some (.int (nI (i + 1))), some (.int (nI (x))), some (.int (nI (x))), some (.int (nI (1)))]) C dX8_layShares_206 (by decide) rfl ?_
              refine j_iinc (L' := [some (.ref (gad g (84))), some (.int (nI (d))), some (.int (nI (nSt a d))), some (.int (nI (nGo a d))), some (.int (nI (ub dn 7))), some (.int (nI (i + 1))), some (.int (nI (x))), some (.int (nI (x + 1))), some (.int (nI (1)))]) C dX8_layShares_208 rfl (nI_inc _) (by decide) rfl ?_
              refine j_goto (tgt := 132) C dX8_layShares_211 rfl ?_
              refine J_clr 8 (L' := [some (.ref (gad g (84))), some (.int (nI (d))), some (.int (nI (nSt a d))), some (.int (nI (nGo a d))), some (.int (nI (ub dn 7))), some (.int (nI (i + 1))), some (.int (nI (x))), some (.int (nI (x + 1))), none]) rfl ?_
              have hq : bst dn (FAR a w u (nGo a d)) (x + 1) = some x := by
                first | exact bst_new hdx hfx hb | exact bst_up hdx hfx hb hfb (by omega)
              refine J_loc (L' := [some (.ref (gad g (84))), some (.int (nI (d))), some (.int (nI (nSt a d))), some (.int (nI (nGo a d))), some (.int (nI (ub dn 7))), some (.int (nI (i + 1))), some (.int (c4 (bst dn (FAR a w u (nGo a d)) (x + 1)))), some (.int (nI (x + 1))), none]) (by rw [hq]; rfl) (ih (nN a - (x + 1)) (by omega) (x + 1) rfl (by omega))
          · rw [if_pos ⟨by omega, hdx⟩] at hbit
            refine j_top (y := nI 1) (by rw [hbit]) ?_
            refine j_ifn_ne (tgt := 167) C dX8_layShares_148 rfl (by omega) (fun _ => ?_) (fun h => absurd h (by decide))
            refine j_iconst (v := nI 0) C dX8_layShares_167 rfl ?_
            refine j_istore (L' := [some (.ref (gad g (84))), some (.int (nI (d))), some (.int (nI (nSt a d))), some (.int (nI (nGo a d))), some (.int (nI (ub dn 7))), some (.int (nI (i + 1))), some (.int (nI (b))), some (.int (nI (x))), some (.int (nI (0)))]) C dX8_layShares_168 (by decide) rfl ?_
            refine j_iload C dX8_layShares_170 rfl ?_
            refine j_ifn_eq (tgt := 204) C dX8_layShares_172 rfl (by omega) (fun _ => ?_) (fun h => absurd h (by decide))
            refine j_iload C dX8_layShares_204 rfl ?_
            refine j_istore (L' := [some (.ref (gad g (84))), some (.int (nI (d))), some (.int (nI (nSt a d))), some (.int (nI (nGo a d))), some (.int (nI (ub dn 7))), some (.int (nI (i + 1))), some (.int (nI (b))), some (.int (nI (x))), some (.int (nI (0)))]) C dX8_layShares_206 (by decide) rfl ?_
            refine j_iinc (L' := [some (.ref (gad g (84))), some (.int (nI (d))), some (.int (nI (nSt a d))), some (.int (nI (nGo a d))), some (.int (nI (ub dn 7))), some (.int (nI (i + 1))), some (.int (nI (b))), some (.int (nI (x + 1))), some (.int (nI (0)))]) C dX8_layShares_208 rfl (nI_inc _) (by decide) rfl ?_
            refine j_goto (tgt := 132) C dX8_layShares_211 rfl ?_
            refine J_clr 8 (L' := [some (.ref (gad g (84))), some (.int (nI (d))), some (.int (nI (nSt a d))), some (.int (nI (nGo a d))), some (.int (nI (ub dn 7))), some (.int (nI (i + 1))), some (.int (nI (b))), some (.int (nI (x + 1))), none]) rfl ?_
            have hq : bst dn (FAR a w u (nGo a d)) (x + 1) = some b := by
              first | exact (bst_skip (Or.inl hdx)).trans hb | exact (bst_skip (Or.inr hfx)).trans hb | exact bst_no hdx hfx hb hfb (by omega)
            refine J_loc (L' := [some (.ref (gad g (84))), some (.int (nI (d))), some (.int (nI (nSt a d))), some (.int (nI (nGo a d))), some (.int (nI (ub dn 7))), some (.int (nI (i + 1))), some (.int (c4 (bst dn (FAR a w u (nGo a d)) (x + 1)))), some (.int (nI (x + 1))), none]) (by rw [hq]; rfl) (ih (nN a - (x + 1)) (by omega) (x + 1) rfl (by omega))
  have lpO : ¬ (FAR a w u (nGo a d)) (nSt a d) = none → ∀ (k i : Nat) (σ1 : Sg), nN a - (i + 1) = k → i + 1 ≤ nN a → (∀ j n, ¬ (j = 93 ∨ j = 94 ∨ j = 95) → σ1 j n = σ j n) → (∀ y, y < 7 → σ1 93 y = c4 ((FAR a w u (nGo a d)) y)) → (∀ y, y < 7 → σ1 95 y = nI ((runG a w u (FAR a w u (nGo a d)) Lo (cm0 (nSt a d) (nSz a d), (fun _ => 0), (fun _ => 0)) (min i q)).1 y)) → (∀ l, l < nM a → σ1 94 l = nI ((runG a w u (FAR a w u (nGo a d)) Lo (cm0 (nSt a d) (nSz a d), (fun _ => 0), (fun _ => 0)) (min i q)).2.1 l)) → J g κ 9 116 [some (.ref (gad g (84))), some (.int (nI (d))), some (.int (nI (nSt a d))), some (.int (nI (nGo a d))), some (.int (nI (ub (dnF Lo (nGo a d) (min i q)) 7))), some (.int (nI (i + 1))), none, none, none] [] σ1 := by
    intro hn k
    induction k using Nat.strongRecOn with
    | _ k ih =>
      intro i σ1 hk hi hf h93 h95 h94
      refine j_iload C dX8_layShares_116 rfl ?_
      refine j_aload_n C dX8_layShares_118 rfl rfl ?_
      refine j_get C flX8_74 dX8_layShares_119 (Nat.lt_of_lt_of_le (by decide) hN) rfl rfl ?_
      refine j_top ((hf _ _ (by omega)).trans (hI.1.1)) ?_
      refine j_icmpn_ge (tgt := 242) C dX8_layShares_122 rfl (by omega) (by omega) (fun h122 => ?_) (fun h122 => ?_)
      · refine j_iconst (v := nI 1) C dX8_layShares_242 rfl ?_
        refine j_retz M dX8_layShares_243 rfl ?_
        refine ⟨hf, Or.inr ⟨rfl, hn, fun l hl => ?_⟩⟩
        rw [h94 l hl, show min i q = q by omega, ← (run_SHR (ld := fun _ => 0) hn hLo l).1, (run_SG (a := a) (w := w) (u := u) (f := (FAR a w u (nGo a d))) (cm := cm0 (nSt a d) (nSz a d)) (ld := fun _ => 0) hLo (nN a) (Nat.le_refl _)).2, runG_end hO hw hd2 hq2 hq4 (nN a) (by omega) (Nat.le_refl _)]
      · refine j_bipush (v := -4) C dX8_layShares_125 rfl ?_
        refine j_istore (L' := [some (.ref (gad g (84))), some (.int (nI (d))), some (.int (nI (nSt a d))), some (.int (nI (nGo a d))), some (.int (nI (ub (dnF Lo (nGo a d) (min i q)) 7))), some (.int (nI (i + 1))), some (.int (-4)), none, none]) C dX8_layShares_127 (by decide) rfl ?_
        refine j_iconst (v := nI 0) C dX8_layShares_129 rfl ?_
        refine j_istore (L' := [some (.ref (gad g (84))), some (.int (nI (d))), some (.int (nI (nSt a d))), some (.int (nI (nGo a d))), some (.int (nI (ub (dnF Lo (nGo a d) (min i q)) 7))), some (.int (nI (i + 1))), some (.int (-4)), some (.int (nI (0))), none]) C dX8_layShares_130 (by decide) rfl ?_
        refine lpI (dnF Lo (nGo a d) (min i q)) i σ1 ((hf _ _ (by omega)).trans hI.1.1) h93 ?_ (nN a - 0) 0 rfl (by omega)
        by_cases hc : i < q
        · have em : min i q = i := by omega
          rw [em] at h94 h95 ⊢
          have hLi := hLo.1 i (by omega)
          refine J_loc (L' := [some (.ref (gad g (84))), some (.int (nI (d))), some (.int (nI (nSt a d))), some (.int (nI (nGo a d))), some (.int (nI (ub (dnF Lo (nGo a d) i) 7))), some (.int (nI (i + 1))), some (.int (nI (Lo i))), some (.int (nI (nN a))), none]) (by rw [pick_lt hLo hq1 hq2 hq3 hc]; rfl) ?_
          refine j_iload C dX8_layShares_214 rfl ?_
          refine j_bipush (v := -4) C dX8_layShares_216 rfl ?_
          refine j_icmp_eq (tgt := 236) C dX8_layShares_218 rfl (fun h => absurd h (nI_neg (by omega) (by decide))) (fun _ => ?_)
          refine j_iload C dX8_layShares_221 rfl ?_
          refine j_iconst (v := nI 1) C dX8_layShares_223 rfl ?_
          refine j_iload C dX8_layShares_224 rfl ?_
          refine j_ishl C dX8_layShares_226 ?_
          refine j_top (bit_sh (by omega)) ?_
          refine j_ior C dX8_layShares_227 ?_
          refine j_top ((bit_or _ _).trans (congrArg nI (ub_or (by omega)))) ?_
          refine j_istore (L' := [some (.ref (gad g (84))), some (.int (nI (d))), some (.int (nI (nSt a d))), some (.int (nI (nGo a d))), some (.int (nI (ub (dnF Lo (nGo a d) (i + 1)) 7))), some (.int (nI (i + 1))), some (.int (nI (Lo i))), some (.int (nI (nN a))), none]) C dX8_layShares_228 (by decide) rfl ?_
          refine j_aload_n C dX8_layShares_230 rfl rfl ?_
          refine j_iload C dX8_layShares_231 rfl ?_
          refine j_callv (As := [.int (nI (Lo i))]) (rest := []) C (tX8_goOn hN (hI.kept (fun j n h => hf j n (by omega))) hO (hW.kept hm12 (fun n h => hf _ _ (by omega))) hw (x := Lo i) (f := (FAR a w u (nGo a d))) (cm := (runG a w u (FAR a w u (nGo a d)) Lo (cm0 (nSt a d) (nSz a d), (fun _ => 0), (fun _ => 0)) i).1) (sh := (runG a w u (FAR a w u (nGo a d)) Lo (cm0 (nSt a d) (nSz a d), (fun _ => 0), (fun _ => 0)) i).2.1) (by omega) h93 hB h95 h94 (by have h1 := runG_bd (a := a) (w := w) (u := u) (f := (FAR a w u (nGo a d))) (L := Lo) (s := (cm0 (nSt a d) (nSz a d), (fun _ => 0), (fun _ => 0))) (cm0_bd hd5) i (Lo i); have h2 : 2 ^ i ≤ 2 ^ 7 := Nat.pow_le_pow_right (by decide) (by omega); have h3 : 1188 * 2 ^ i ≤ 1188 * 2 ^ 7 := Nat.mul_le_mul_left _ h2; omega)) cdX8_goOn mlX8_137 dX8_layShares_233 (by decide) (by decide) (Nat.lt_of_lt_of_le (by decide) hN) rfl rfl rfl rfl rfl (Nat.le_of_ble_eq_true rfl) (fun τ51 hp_53 => ?_)
          refine j_iinc (L' := [some (.ref (gad g (84))), some (.int (nI (d))), some (.int (nI (nSt a d))), some (.int (nI (nGo a d))), some (.int (nI (ub (dnF Lo (nGo a d) (i + 1)) 7))), some (.int (nI (i + 2))), some (.int (nI (Lo i))), some (.int (nI (nN a))), none]) C dX8_layShares_236 rfl (nI_inc _) (by decide) rfl ?_
          refine j_goto (tgt := 116) C dX8_layShares_239 rfl ?_
          refine J_clr 6 (L' := [some (.ref (gad g (84))), some (.int (nI (d))), some (.int (nI (nSt a d))), some (.int (nI (nGo a d))), some (.int (nI (ub (dnF Lo (nGo a d) (i + 1)) 7))), some (.int (nI (i + 2))), none, some (.int (nI (nN a))), none]) rfl ?_
          refine J_clr 7 (L' := [some (.ref (gad g (84))), some (.int (nI (d))), some (.int (nI (nSt a d))), some (.int (nI (nGo a d))), some (.int (nI (ub (dnF Lo (nGo a d) (i + 1)) 7))), some (.int (nI (i + 2))), none, none, none]) rfl ?_
          refine J_loc (L' := [some (.ref (gad g (84))), some (.int (nI (d))), some (.int (nI (nSt a d))), some (.int (nI (nGo a d))), some (.int (nI (ub (dnF Lo (nGo a d) (min (i + 1) q)) 7))), some (.int (nI (i + 1 + 1))), none, none, none]) (by rw [show min (i + 1) q = i + 1 by omega]) (ih (nN a - (i + 1 + 1)) (by omega) (i + 1) τ51 rfl (by omega) (fun j n h => by rw [hp_53.1 _ _ (by omega)]; exact hf j n h) (fun y hy => by rw [hp_53.1 _ _ (by omega)]; exact h93 y hy) (fun y hy => ?_) (fun l hl => ?_))
          · rw [show min (i + 1) q = i + 1 by omega]; exact hp_53.2.1 y hy
          · rw [show min (i + 1) q = i + 1 by omega]; exact hp_53.2.2 l hl
        · have em : min i q = q := by omega
          rw [em] at h94 h95 ⊢
          refine J_loc (L' := [some (.ref (gad g (84))), some (.int (nI (d))), some (.int (nI (nSt a d))), some (.int (nI (nGo a d))), some (.int (nI (ub (dnF Lo (nGo a d) q) 7))), some (.int (nI (i + 1))), some (.int (-4)), some (.int (nI (nN a))), none]) (by rw [pick_end hLo hq2 hq4]; rfl) ?_
          refine j_iload C dX8_layShares_214 rfl ?_
          refine j_bipush (v := -4) C dX8_layShares_216 rfl ?_
          refine j_icmp_eq (tgt := 236) C dX8_layShares_218 rfl (fun _ => ?_) (fun h => absurd h (by decide))
          refine j_iinc (L' := [some (.ref (gad g (84))), some (.int (nI (d))), some (.int (nI (nSt a d))), some (.int (nI (nGo a d))), some (.int (nI (ub (dnF Lo (nGo a d) q) 7))), some (.int (nI (i + 2))), some (.int (-4)), some (.int (nI (nN a))), none]) C dX8_layShares_236 rfl (nI_inc _) (by decide) rfl ?_
          refine j_goto (tgt := 116) C dX8_layShares_239 rfl ?_
          refine J_clr 6 (L' := [some (.ref (gad g (84))), some (.int (nI (d))), some (.int (nI (nSt a d))), some (.int (nI (nGo a d))), some (.int (nI (ub (dnF Lo (nGo a d) q) 7))), some (.int (nI (i + 2))), none, some (.int (nI (nN a))), none]) rfl ?_
          refine J_clr 7 (L' := [some (.ref (gad g (84))), some (.int (nI (d))), some (.int (nI (nSt a d))), some (.int (nI (nGo a d))), some (.int (nI (ub (dnF Lo (nGo a d) q) 7))), some (.int (nI (i + 2))), none, none, none]) rfl ?_
          refine J_loc (L' := [some (.ref (gad g (84))), some (.int (nI (d))), some (.int (nI (nSt a d))), some (.int (nI (nGo a d))), some (.int (nI (ub (dnF Lo (nGo a d) (min (i + 1) q)) 7))), some (.int (nI (i + 1 + 1))), none, none, none]) (by rw [show min (i + 1) q = q by omega]) (ih (nN a - (i + 1 + 1)) (by omega) (i + 1) σ1 rfl (by omega) hf h93 (fun y hy => ?_) (fun l hl => ?_))
          · rw [show min (i + 1) q = q by omega]; exact h95 y hy
          · rw [show min (i + 1) q = q by omega]; exact h94 l hl
  have lp2 : ∀ (k : Nat) (y : Nat) (σ1 : Sg), 7 - y = k → y ≤ 7 → (∀ j n, ¬ (j = 93 ∨ j = 94 ∨ j = 95) → σ1 j n = σ j n) → (∀ y, y < 7 → σ1 93 y = c4 ((FAR a w u (nGo a d)) y)) → (∀ l, l < 12 → σ1 94 l = nI 0) → (∀ z, z < y → σ1 95 z = nI (cm0 (nSt a d) (nSz a d) z)) → J g κ 9 52 [some (.ref (gad g (84))), some (.int (nI (d))), some (.int (nI (nSt a d))), some (.int (nI (nGo a d))), some (.int (nI (y))), none, none, none, none] [] σ1 := by
    intro k
    induction k using Nat.strongRecOn with
    | _ k ih =>
      intro y σ1 hk hy hf h93 h94 h95
      refine j_iload C dX8_layShares_52 rfl ?_
      refine j_bipush (v := nI 7) C dX8_layShares_54 rfl ?_
      refine j_icmpn_ge (tgt := 95) C dX8_layShares_56 rfl (by omega) (by omega) (fun h56 => ?_) (fun h56 => ?_)
      · rcases hn : (FAR a w u (nGo a d)) (nSt a d) with _ | v
        · refine j_aload_n C dX8_layShares_95 rfl rfl ?_
          refine j_get C flX8_34 dX8_layShares_96 (Nat.lt_of_lt_of_le (by decide) hN) rfl rfl ?_
          refine j_iload_n C dX8_layShares_99 rfl rfl ?_
          refine j_iald C dX8_layShares_100 (Nat.lt_of_lt_of_le (by decide) hN) (fun _ => rfl) (by decide) (by omega) ?_
          refine j_top ((h93 _ (by omega)).trans (congrArg c4 hn)) ?_
          refine j_bipush (v := -4) C dX8_layShares_101 rfl ?_
          refine j_icmp_ne (tgt := 108) C dX8_layShares_103 rfl (fun h => absurd h (by decide)) (fun _ => ?_)
          refine j_iconst (v := nI 0) C dX8_layShares_106 rfl ?_
          refine j_retz M dX8_layShares_107 rfl ?_
          exact ⟨hf, Or.inl ⟨rfl, hn⟩⟩
        · have hv := hB _ _ hn
          refine j_aload_n C dX8_layShares_95 rfl rfl ?_
          refine j_get C flX8_34 dX8_layShares_96 (Nat.lt_of_lt_of_le (by decide) hN) rfl rfl ?_
          refine j_iload_n C dX8_layShares_99 rfl rfl ?_
          refine j_iald C dX8_layShares_100 (Nat.lt_of_lt_of_le (by decide) hN) (fun _ => rfl) (by decide) (by omega) ?_
          refine j_top ((h93 _ (by omega)).trans (congrArg c4 hn)) ?_
          refine j_bipush (v := -4) C dX8_layShares_101 rfl ?_
          refine j_icmp_ne (tgt := 108) C dX8_layShares_103 rfl (fun _ => ?_) (fun h => absurd h (nI_neg (by omega) (by decide)))
          refine j_iconst (v := nI 1) C dX8_layShares_108 rfl ?_
          refine j_iload_n C dX8_layShares_109 rfl rfl ?_
          refine j_ishl C dX8_layShares_110 ?_
          refine j_top (bit_sh (by omega)) ?_
          refine j_istore (L' := [some (.ref (gad g (84))), some (.int (nI (d))), some (.int (nI (nSt a d))), some (.int (nI (nGo a d))), some (.int (nI (2 ^ (nGo a d)))), none, none, none, none]) C dX8_layShares_111 (by decide) rfl ?_
          refine j_iconst (v := nI 1) C dX8_layShares_113 rfl ?_
          refine j_istore (L' := [some (.ref (gad g (84))), some (.int (nI (d))), some (.int (nI (nSt a d))), some (.int (nI (nGo a d))), some (.int (nI (2 ^ (nGo a d)))), some (.int (nI (1))), none, none, none]) C dX8_layShares_114 (by decide) rfl ?_
          refine J_loc (L' := [some (.ref (gad g (84))), some (.int (nI (d))), some (.int (nI (nSt a d))), some (.int (nI (nGo a d))), some (.int (nI (ub (dnF Lo (nGo a d) (min 0 q)) 7))), some (.int (nI (0 + 1))), none, none, none]) (by rw [dn_0 (L := Lo) (by omega), Nat.zero_min]) (lpO (by rw [hn]; exact nofun) (nN a - (0 + 1)) 0 σ1 rfl (by omega) hf h93 (fun z hz => ?_) (fun l hl => ?_))
          · rw [Nat.zero_min]; exact h95 z (by omega)
          · rw [Nat.zero_min]; exact h94 l (by omega)
      · refine j_aload_n C dX8_layShares_59 rfl rfl ?_
        refine j_get C flX8_40 dX8_layShares_60 (Nat.lt_of_lt_of_le (by decide) hN) rfl rfl ?_
        refine j_iload C dX8_layShares_63 rfl ?_
        refine j_iload C dX8_layShares_65 rfl ?_
        refine j_iload_n C dX8_layShares_67 rfl rfl ?_
        refine j_icmpn_ne (tgt := 87) C dX8_layShares_68 rfl (by omega) (by omega) (fun h68 => ?_) (fun h68 => ?_)
        · refine j_iconst (v := nI 0) C dX8_layShares_87 rfl ?_
          refine j_iast' C dX8_layShares_88 (Nat.lt_of_lt_of_le (by decide) hN) (fun _ => rfl) (by decide) (by omega) (fun τ1 hz_2 hw_3 => ?_)
          refine j_iinc (L' := [some (.ref (gad g (84))), some (.int (nI (d))), some (.int (nI (nSt a d))), some (.int (nI (nGo a d))), some (.int (nI (y + 1))), none, none, none, none]) C dX8_layShares_89 rfl (nI_inc _) (by decide) rfl ?_
          refine j_goto (tgt := 52) C dX8_layShares_92 rfl ?_
          refine ih (7 - (y + 1)) (by omega) (y + 1) τ1 rfl (by omega) (fun j n h => by rw [hz_2 _ _ (by omega)]; exact hf j n h) (fun z hz => by rw [hz_2 _ _ (by omega)]; exact h93 z hz) (fun l hl => by rw [hz_2 _ _ (by omega)]; exact h94 l hl) (fun z hz => ?_)
          by_cases e : z = y
          · subst e
            unfold cm0
            first | (rw [if_pos (by omega)]; assumption) | (rw [if_neg (by omega)]; assumption)
          · rw [hz_2 _ _ (by omega)]; exact h95 z (by omega)
        · refine j_bipush (v := nI 12) C dX8_layShares_71 rfl ?_
          refine j_aload_n C dX8_layShares_73 rfl rfl ?_
          refine j_get C flX8_22 dX8_layShares_74 (Nat.lt_of_lt_of_le (by decide) hN) rfl rfl ?_
          refine j_iconst (v := nI 3) C dX8_layShares_77 rfl ?_
          refine j_iload_n C dX8_layShares_78 rfl rfl ?_
          refine j_imul C dX8_layShares_79 ?_
          refine j_top (pk_mul _ _) ?_
          refine j_iconst (v := nI 2) C dX8_layShares_80 rfl ?_
          refine j_iadd C dX8_layShares_81 ?_
          refine j_top (nI_add _ _) ?_
          refine j_iald C dX8_layShares_82 (Nat.lt_of_lt_of_le (by decide) hN) (fun _ => rfl) (by decide) (by omega) ?_
          refine j_top ((hf _ _ (by omega)).trans ((hI.2.2 d hd).2.2)) ?_
          refine j_imul C dX8_layShares_83 ?_
          refine j_top (pk_mul _ _) ?_
          refine j_goto (tgt := 88) C dX8_layShares_84 rfl ?_
          refine j_iast' C dX8_layShares_88 (Nat.lt_of_lt_of_le (by decide) hN) (fun _ => rfl) (by decide) (by omega) (fun τ4 hz_5 hw_6 => ?_)
          refine j_iinc (L' := [some (.ref (gad g (84))), some (.int (nI (d))), some (.int (nI (nSt a d))), some (.int (nI (nGo a d))), some (.int (nI (y + 1))), none, none, none, none]) C dX8_layShares_89 rfl (nI_inc _) (by decide) rfl ?_
          refine j_goto (tgt := 52) C dX8_layShares_92 rfl ?_
          refine ih (7 - (y + 1)) (by omega) (y + 1) τ4 rfl (by omega) (fun j n h => by rw [hz_5 _ _ (by omega)]; exact hf j n h) (fun z hz => by rw [hz_5 _ _ (by omega)]; exact h93 z hz) (fun l hl => by rw [hz_5 _ _ (by omega)]; exact h94 l hl) (fun z hz => ?_)
          by_cases e : z = y
          · subst e
            unfold cm0
            first | (rw [if_pos (by omega)]; assumption) | (rw [if_neg (by omega)]; assumption)
          · rw [hz_5 _ _ (by omega)]; exact h95 z (by omega)
  have lp1 : ∀ (k : Nat) (l : Nat) (σ1 : Sg), 12 - l = k → l ≤ 12 → (∀ j n, ¬ (j = 93 ∨ j = 94 ∨ j = 95) → σ1 j n = σ j n) → (∀ z, z < l → σ1 94 z = nI 0) → J g κ 9 23 [some (.ref (gad g (84))), some (.int (nI (d))), some (.int (nI (nSt a d))), some (.int (nI (nGo a d))), some (.int (nI (l))), none, none, none, none] [] σ1 := by
    intro k
    induction k using Nat.strongRecOn with
    | _ k ih =>
      intro l σ1 hk hl hf h94
      refine j_iload C dX8_layShares_23 rfl ?_
      refine j_bipush (v := nI 12) C dX8_layShares_25 rfl ?_
      refine j_icmpn_ge (tgt := 44) C dX8_layShares_27 rfl (by omega) (by omega) (fun h27 => ?_) (fun h27 => ?_)
      · refine j_aload_n C dX8_layShares_44 rfl rfl ?_
        refine j_iload_n C dX8_layShares_45 rfl rfl ?_
        refine j_callv (As := [.int (nI (nGo a d))]) (rest := []) C (tX8_findFar hN (hI.kept (fun j n h => hf j n (by omega))) hO (hW.kept hm12 (fun n h => hf _ _ (by omega))) hw (t := nGo a d) (by omega)) cdX8_findFar mlX8_133 dX8_layShares_46 (by decide) (by decide) (Nat.lt_of_lt_of_le (by decide) hN) rfl rfl rfl rfl rfl (Nat.le_of_ble_eq_true rfl) (fun τ1 hp_3 => ?_)
        have hq93 := hp_3.2
        have hqf := hp_3.1
        refine j_iconst (v := nI 0) C dX8_layShares_49 rfl ?_
        refine j_istore (L' := [some (.ref (gad g (84))), some (.int (nI (d))), some (.int (nI (nSt a d))), some (.int (nI (nGo a d))), some (.int (nI (0))), none, none, none, none]) C dX8_layShares_50 (by decide) rfl ?_
        exact lp2 (7 - 0) 0 τ1 rfl (by omega) (fun j n h => by rw [hqf _ _ (by omega)]; exact hf j n h) hq93 (fun l hl => by rw [hqf _ _ (by omega)]; exact h94 l (by omega)) (fun z hz => by omega)
      · refine j_aload_n C dX8_layShares_30 rfl rfl ?_
        refine j_get C flX8_37 dX8_layShares_31 (Nat.lt_of_lt_of_le (by decide) hN) rfl rfl ?_
        refine j_iload C dX8_layShares_34 rfl ?_
        refine j_iconst (v := nI 0) C dX8_layShares_36 rfl ?_
        refine j_iast' C dX8_layShares_37 (Nat.lt_of_lt_of_le (by decide) hN) (fun _ => rfl) (by decide) (by omega) (fun τ4 hz_5 hw_6 => ?_)
        refine j_iinc (L' := [some (.ref (gad g (84))), some (.int (nI (d))), some (.int (nI (nSt a d))), some (.int (nI (nGo a d))), some (.int (nI (l + 1))), none, none, none, none]) C dX8_layShares_38 rfl (nI_inc _) (by decide) rfl ?_
        refine j_goto (tgt := 23) C dX8_layShares_41 rfl ?_
        refine ih (12 - (l + 1)) (by omega) (l + 1) τ4 rfl (by omega) (fun j n h => by rw [hz_5 _ _ (by omega)]; exact hf j n h) (fun z hz => ?_)
        by_cases e : z = l
        · subst e; assumption
        · rw [hz_5 _ _ (by omega)]; exact h94 z (by omega)
  refine j_aload_n C dX8_layShares_0 rfl rfl ?_
  refine j_get C flX8_22 dX8_layShares_1 (Nat.lt_of_lt_of_le (by decide) hN) rfl rfl ?_
  refine j_iconst (v := nI 3) C dX8_layShares_4 rfl ?_
  refine j_iload_n C dX8_layShares_5 rfl rfl ?_
  refine j_imul C dX8_layShares_6 ?_
  refine j_top (pk_mul _ _) ?_
  refine j_iald C dX8_layShares_7 (Nat.lt_of_lt_of_le (by decide) hN) (fun _ => rfl) (by decide) (by omega) ?_
  refine j_top ((hI.2.2 d hd).1) ?_
  refine j_istore_n (L' := [some (.ref (gad g (84))), some (.int (nI (d))), some (.int (nI (nSt a d))), none, none, none, none, none, none]) C dX8_layShares_8 rfl (by decide) rfl ?_
  refine j_aload_n C dX8_layShares_9 rfl rfl ?_
  refine j_get C flX8_22 dX8_layShares_10 (Nat.lt_of_lt_of_le (by decide) hN) rfl rfl ?_
  refine j_iconst (v := nI 3) C dX8_layShares_13 rfl ?_
  refine j_iload_n C dX8_layShares_14 rfl rfl ?_
  refine j_imul C dX8_layShares_15 ?_
  refine j_top (pk_mul _ _) ?_
  refine j_iconst (v := nI 1) C dX8_layShares_16 rfl ?_
  refine j_iadd C dX8_layShares_17 ?_
  refine j_top (nI_add _ _) ?_
  refine j_iald C dX8_layShares_18 (Nat.lt_of_lt_of_le (by decide) hN) (fun _ => rfl) (by decide) (by omega) ?_
  refine j_top ((hI.2.2 d hd).2.1) ?_
  refine j_istore_n (L' := [some (.ref (gad g (84))), some (.int (nI (d))), some (.int (nI (nSt a d))), some (.int (nI (nGo a d))), none, none, none, none, none]) C dX8_layShares_19 rfl (by decide) rfl ?_
  refine j_iconst (v := nI 0) C dX8_layShares_20 rfl ?_
  refine j_istore (L' := [some (.ref (gad g (84))), some (.int (nI (d))), some (.int (nI (nSt a d))), some (.int (nI (nGo a d))), some (.int (nI (0))), none, none, none, none]) C dX8_layShares_21 (by decide) rfl ?_
  exact lp1 (12 - 0) 0 σ rfl (by omega) (fun _ _ _ => rfl) (fun z hz => by omega)
