set_option maxHeartbeats 4000000 in
set_option maxRecDepth 100000 in
theorem tX7_layText0 {g : jG} (hN : 84 ≤ gN g) {σ : Sg} {tx : Nat → Int32} {len : Nat} (hCl : σ 1 1 = nI len) (hlen : len ≤ 200) (hCt : ∀ k, k < len → σ 2 k = tx k) (hg1 : (rdT tx len len 0 0 (nd0 ndZ)).1 = -4) (hg2 : nM (rdT tx len len 0 0 (nd0 ndZ)).2 ≠ 0) (hg3 : nD (rdT tx len len 0 0 (nd0 ndZ)).2 ≠ 0) (hp1 : σ 45 1 = nI 0) : MS g yX7_layText cX7_layText 1 (some .boolean) rmX7_layText [.ref (gad g (0))] σ (fun r σ' => CI σ' (tx, len, (rdT tx len len 0 0 (nd0 ndZ)).2, newS (rdT tx len len 0 0 (nd0 ndZ)).2, [])) := by
  refine MJ_of (by decide) (Nat.le_of_ble_eq_true rfl) (List.forall_mem_cons.mpr ⟨rfl, fun _ h => absurd h List.not_mem_nil⟩) ?_
  intro κ M
  have C := M.1
  show J g κ 1 0 [some (.ref (gad g (0)))] [] σ
  have htx : rdT (σ 2) len len 0 0 (nd0 ndZ) = (rdT tx len len 0 0 (nd0 ndZ)) := rdT_congr hCt _ _ _ _ (Nat.le_of_eq (Nat.zero_add _))
  have hRO : NOk ((rdT tx len len 0 0 (nd0 ndZ))).2 := rdT_ok _ _ _ _ nd0_ok
  generalize hR : (rdT tx len len 0 0 (nd0 ndZ)) = R at htx hRO hg1 hg2 hg3
  refine j_aload_n C dX7_layText_0 rfl rfl ?_
  refine j_get C flX7_29 dX7_layText_1 (Nat.lt_of_lt_of_le (by decide) hN) rfl rfl ?_
  refine j_aload_n C dX7_layText_4 rfl rfl ?_
  refine j_get C flX7_10 dX7_layText_5 (Nat.lt_of_lt_of_le (by decide) hN) rfl rfl ?_
  refine j_aload_n C dX7_layText_8 rfl rfl ?_
  refine j_get C flX7_23 dX7_layText_9 (Nat.lt_of_lt_of_le (by decide) hN) rfl rfl ?_
  refine j_calli (As := [.ref (gad g (1)), .ref (gad g (12))]) (rest := []) C (tX5_read (i := 1) hN (by omega) (len := len) hCl hlen ndZ) cdX5_read mlX7_95 dX7_layText_12 (by decide) (by decide) (Nat.lt_of_lt_of_le (by decide) hN) rfl rfl rfl rfl rfl (Nat.le_of_ble_eq_true rfl) (fun rr_2 τ1 hp_3 => ?_)
  obtain ⟨hfr, hr1, hN1⟩ := hp_3
  rw [htx] at hr1 hN1
  subst hr1
  replace hN1 : NetI _ 12 R.2 := hN1
  obtain ⟨o1, o2, o3, o4, o5, o6⟩ := id hRO
  refine j_bipush (v := -4) C dX7_layText_15 rfl ?_
  refine j_icmp_ne (tgt := 40) C dX7_layText_17 rfl (fun h17 => ?_) (fun h17 => ?_)
  · refine j_iconst (v := nI 0) C dX7_layText_40 rfl ?_
    refine j_retz M dX7_layText_41 rfl ?_
    first | exact absurd hg1 h17 | exact absurd h27 hg2 | exact absurd h37 hg3
  · refine j_aload_n C dX7_layText_20 rfl rfl ?_
    refine j_get C flX7_23 dX7_layText_21 (Nat.lt_of_lt_of_le (by decide) hN) rfl rfl ?_
    refine j_get C flX7_99 dX7_layText_24 (Nat.lt_of_lt_of_le (by decide) hN) rfl rfl ?_
    refine j_top (hN1.m) ?_
    refine j_ifn_eq (tgt := 40) C dX7_layText_27 rfl (by omega) (fun h27 => ?_) (fun h27 => ?_)
    · refine j_iconst (v := nI 0) C dX7_layText_40 rfl ?_
      refine j_retz M dX7_layText_41 rfl ?_
      first | exact absurd hg1 h17 | exact absurd h27 hg2 | exact absurd h37 hg3
    · refine j_aload_n C dX7_layText_30 rfl rfl ?_
      refine j_get C flX7_23 dX7_layText_31 (Nat.lt_of_lt_of_le (by decide) hN) rfl rfl ?_
      refine j_get C flX7_208 dX7_layText_34 (Nat.lt_of_lt_of_le (by decide) hN) rfl rfl ?_
      refine j_top (hN1.d) ?_
      refine j_ifn_ne (tgt := 42) C dX7_layText_37 rfl (by omega) (fun h37 => ?_) (fun h37 => ?_)
      · refine j_aload_n C dX7_layText_42 rfl rfl ?_
        refine j_get C flX7_29 dX7_layText_43 (Nat.lt_of_lt_of_le (by decide) hN) rfl rfl ?_
        refine j_aload_n C dX7_layText_46 rfl rfl ?_
        refine j_get C flX7_10 dX7_layText_47 (Nat.lt_of_lt_of_le (by decide) hN) rfl rfl ?_
        refine j_aload_n C dX7_layText_50 rfl rfl ?_
        refine j_get C flX7_19 dX7_layText_51 (Nat.lt_of_lt_of_le (by decide) hN) rfl rfl ?_
        refine j_calli (As := [.ref (gad g (1)), .ref (gad g (3))]) (rest := []) C (tX5_read (i := 0) hN (by omega) (len := len) ((hfr _ _ (by omega)).trans hCl) hlen ndZ) cdX5_read mlX7_95 dX7_layText_54 (by decide) (by decide) (Nat.lt_of_lt_of_le (by decide) hN) rfl rfl rfl rfl rfl (Nat.le_of_ble_eq_true rfl) (fun rr_5 τ4 hp_6 => ?_)
        obtain ⟨hfs, -, hN0⟩ := hp_6
        rw [show τ1 2 = σ 2 from funext (fun n => hfr 2 n (by omega)), htx] at hN0
        replace hN0 : NetI _ 3 R.2 := hN0
        refine j_pop C dX7_layText_57 rfl ?_
        refine j_aload_n C dX7_layText_58 rfl rfl ?_
        refine j_get C flX7_54 dX7_layText_59 (Nat.lt_of_lt_of_le (by decide) hN) rfl rfl ?_
        refine j_aload_n C dX7_layText_62 rfl rfl ?_
        refine j_get C flX7_19 dX7_layText_63 (Nat.lt_of_lt_of_le (by decide) hN) rfl rfl ?_
        refine j_callv (As := [.ref (gad g (3))]) (rest := []) C (tX6_begin hN hN0.m o3) cdX6_begin mlX7_226 dX7_layText_66 (by decide) (by decide) (Nat.lt_of_lt_of_le (by decide) hN) rfl rfl rfl rfl rfl (Nat.le_of_ble_eq_true rfl) (fun τ7 hp_9 => ?_)
        obtain ⟨hfb, b0, b4, b5, b6⟩ := hp_9
        have hWb : StW τ7 0 (nM R.2) (nTw R.2) (fun _ => true) := fun l hl => ⟨(b6 l hl).1.trans (hN0.tw hl), (b6 l hl).2⟩
        have hwb : WOk (nM R.2) (nTw R.2) := fun l hl => ⟨(o5 l hl).2.2.2.2.2.1, (o5 l hl).2.2.2.2.2.2⟩
        refine j_aload_n C dX7_layText_69 rfl rfl ?_
        refine j_get C flX7_54 dX7_layText_70 (Nat.lt_of_lt_of_le (by decide) hN) rfl rfl ?_
        refine j_aload_n C dX7_layText_73 rfl rfl ?_
        refine j_get C flX7_38 dX7_layText_74 (Nat.lt_of_lt_of_le (by decide) hN) rfl rfl ?_
        refine j_aload_n C dX7_layText_77 rfl rfl ?_
        refine j_get C flX7_54 dX7_layText_78 (Nat.lt_of_lt_of_le (by decide) hN) rfl rfl ?_
        refine j_calli (As := [.ref (gad g (48))]) (rest := [.ref (gad g (48))]) C (tX0_costOf (i := 0) (w := nTw R.2) (u := fun _ => true) hN (σ := τ7) (by omega) (hN0.kept (fun j n h1 h2 => hfb j n (by omega))) hRO hWb hwb) cdX0_costOf mlX7_115 dX7_layText_81 (by decide) (by decide) (Nat.lt_of_lt_of_le (by decide) hN) rfl rfl rfl rfl rfl (Nat.le_of_ble_eq_true rfl) (fun rr_11 τ10 hp_12 => ?_)
        obtain ⟨hfc, hFl, hrc⟩ := hp_12
        subst hrc
        refine j_put' C fpX7_220 dX7_layText_84 (Nat.lt_of_lt_of_le (by decide) hN) (fun _ => rfl) rfl (Nat.le_of_ble_eq_true rfl) rfl rfl (fun τ13 hz_14 hw_15 => ?_)
        refine j_aload_n C dX7_layText_87 rfl rfl ?_
        refine j_get C flX7_64 dX7_layText_88 (Nat.lt_of_lt_of_le (by decide) hN) rfl rfl ?_
        refine j_iconst (v := nI 0) C dX7_layText_91 rfl ?_
        refine j_put' C fpX7_156 dX7_layText_92 (Nat.lt_of_lt_of_le (by decide) hN) (fun _ => rfl) rfl (Nat.le_of_ble_eq_true rfl) rfl rfl (fun τ16 hz_17 hw_18 => ?_)
        refine j_iconst (v := nI 1) C dX7_layText_95 rfl ?_
        refine j_retz M dX7_layText_96 rfl ?_
        try rw [hR]
        exact ⟨⟨by rw [hz_17 _ _ (by omega), hz_14 _ _ (by omega), hfc _ _ (by omega), hfb _ _ (by omega), hfs _ _ (by omega), hfr _ _ (by omega)]; exact hCl, hlen, fun k hk => by rw [hz_17 _ _ (by omega), hz_14 _ _ (by omega), hfc _ _ (by omega), hfb _ _ (by omega), hfs _ _ (by omega), hfr _ _ (by omega)]; exact hCt k hk⟩, hN0.kept (fun j n h1 h2 => by rw [hz_17 _ _ (by omega), hz_14 _ _ (by omega), hfc _ _ (by omega), hfb _ _ (by omega)]), ⟨by rw [hz_17 _ _ (by omega), hz_14 _ _ (by omega), hfc _ _ (by omega)]; exact b0, fun l hl => ⟨by rw [hz_17 _ _ (by omega), hz_14 _ _ (by omega), hfc _ _ (by omega)]; exact (hWb l hl).1, by rw [hz_17 _ _ (by omega), hz_14 _ _ (by omega), hfc _ _ (by omega)]; exact (hWb l hl).2⟩, ⟨0, by decide, fun _ => rfl, by rw [hz_17 _ _ (by omega), hz_14 _ _ (by omega), hfc _ _ (by omega)]; exact b4, by rw [hz_17 _ _ (by omega), hz_14 _ _ (by omega), hfc _ _ (by omega)]; exact b5, fun k hk => absurd hk (Nat.not_lt_zero _)⟩, by rw [hz_17 _ _ (by omega)]; assumption⟩, ⟨0, by decide, Nat.zero_le _, by rw [hz_17 _ _ (by omega), hz_14 _ _ (by omega), hfc _ _ (by omega), hfb _ _ (by omega), hfs _ _ (by omega), hfr _ _ (by omega)]; exact hp1, by assumption, fun k s hs => by cases hs⟩⟩
      · refine j_iconst (v := nI 0) C dX7_layText_40 rfl ?_
        refine j_retz M dX7_layText_41 rfl ?_
        first | exact absurd hg1 h17 | exact absurd h27 hg2 | exact absurd h37 hg3
