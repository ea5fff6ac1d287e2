set_option maxHeartbeats 4000000 in
set_option maxRecDepth 100000 in
theorem tX8_isNumber {g : jG} (hN : 97 ≤ gN g) {σ : Sg} {i lo hi v : Nat} (hi4 : i < 4) (hv : σ 92 i = nI v) (hv2 : v < 100) (h1 : lo < 2 ^ 31) (h2 : hi < 2 ^ 31) : MS g yX8_isNumber cX8_isNumber 4 (some .boolean) rmX8_isNumber [.ref (gad g (84)), .int (nI (i)), .int (nI (lo)), .int (nI (hi))] σ (fun r σ' => σ' = σ ∧ ((r = nI 1 ∧ lo ≤ v ∧ v ≤ hi) ∨ (r = nI 0 ∧ ¬ (lo ≤ v ∧ v ≤ hi)))) := by
  refine MJ_of (by decide) (Nat.le_of_ble_eq_true rfl) (List.forall_mem_cons.mpr ⟨rfl, List.forall_mem_cons.mpr ⟨rfl, List.forall_mem_cons.mpr ⟨rfl, List.forall_mem_cons.mpr ⟨rfl, fun _ h => absurd h List.not_mem_nil⟩⟩⟩⟩) ?_
  intro κ M
  have C := M.1
  show J g κ 4 0 [some (.ref (gad g (84))), some (.int (nI (i))), some (.int (nI (lo))), some (.int (nI (hi)))] [] σ
  refine j_aload_n C dX8_isNumber_0 rfl rfl ?_
  refine j_get C flX8_31 dX8_isNumber_1 (Nat.lt_of_lt_of_le (by decide) hN) rfl rfl ?_
  refine j_iload_n C dX8_isNumber_4 rfl rfl ?_
  refine j_iald C dX8_isNumber_5 (Nat.lt_of_lt_of_le (by decide) hN) (fun _ => rfl) (by decide) (by omega) ?_
  refine j_top (hv) ?_
  refine j_iload_n C dX8_isNumber_6 rfl rfl ?_
  refine j_iload_n C dX8_isNumber_7 rfl rfl ?_
  refine j_calls (As := [.int (nI (v)), .int (nI (lo)), .int (nI (hi))]) (rest := []) C (tX8_in hN (nI v) (lo := lo) (hi := hi) h1 h2) cdX8_in msX8_96 dX8_isNumber_8 (by decide) (by decide) rfl rfl (Nat.le_of_ble_eq_true rfl) (fun rr_2 τ1 hp_3 => ?_)
  obtain ⟨hs, hc⟩ := hp_3
  replace hs := hs.symm
  subst hs
  rcases hc with ⟨rfl, k, hk1, hk2, hk3⟩ | ⟨rfl, hout⟩
  · refine j_retz M dX8_isNumber_11 rfl ?_
    have hkv : v = k := (nI_eq (by omega) (by omega)).mp hk3
    exact ⟨rfl, Or.inl ⟨rfl, by omega, by omega⟩⟩
  · refine j_retz M dX8_isNumber_11 rfl ?_
    exact ⟨rfl, Or.inr ⟨rfl, fun q => hout ⟨v, q.1, q.2, rfl⟩⟩⟩
set_option maxHeartbeats 4000000 in
set_option maxRecDepth 100000 in
theorem tX8_areEnds {g : jG} (hN : 97 ≤ gN g) {σ : Sg} {n v0 v1 : Nat} (hn : σ 84 5 = nI n) (hn1 : 1 ≤ n) (hn7 : n ≤ 7) (h0 : σ 92 0 = nI v0) (h1 : σ 92 1 = nI v1) (hv0 : v0 < 100) (hv1 : v1 < 100) : MS g yX8_areEnds cX8_areEnds 1 (some .boolean) rmX8_areEnds [.ref (gad g (84))] σ (fun r σ' => σ' = σ ∧ ((r = nI 1 ∧ v0 < n ∧ v1 < n ∧ v0 ≠ v1) ∨ (r = nI 0 ∧ ¬ (v0 < n ∧ v1 < n ∧ v0 ≠ v1)))) := by
  refine MJ_of (by decide) (Nat.le_of_ble_eq_true rfl) (List.forall_mem_cons.mpr ⟨rfl, fun _ h => absurd h List.not_mem_nil⟩) ?_
  intro κ M
  have C := M.1
  show J g κ 1 0 [some (.ref (gad g (84)))] [] σ
  refine j_aload_n C dX8_areEnds_0 rfl rfl ?_
  refine j_iconst (v := nI 0) C dX8_areEnds_1 rfl ?_
  refine j_iconst (v := nI 0) C dX8_areEnds_2 rfl ?_
  refine j_aload_n C dX8_areEnds_3 rfl rfl ?_
  refine j_get C flX8_49 dX8_areEnds_4 (Nat.lt_of_lt_of_le (by decide) hN) rfl rfl ?_
  refine j_top (hn) ?_
  refine j_iconst (v := nI 1) C dX8_areEnds_7 rfl ?_
  refine j_isub C dX8_areEnds_8 ?_
  refine j_top (pk_sub hn1) ?_
  refine j_calli (As := [.int (nI (0)), .int (nI (0)), .int (nI ((n - 1)))]) (rest := []) C (tX8_isNumber hN (i := 0) (lo := 0) (hi := (n - 1)) (v := v0) (by omega) h0 hv0 (by omega) (by omega)) cdX8_isNumber mlX8_104 dX8_areEnds_9 (by decide) (by decide) (Nat.lt_of_lt_of_le (by decide) hN) rfl rfl rfl rfl rfl (Nat.le_of_ble_eq_true rfl) (fun rr_2 τ1 hp_3 => ?_)
  obtain ⟨hs, hc⟩ := hp_3
  replace hs := hs.symm
  subst hs
  rcases hc with ⟨rfl, ha1, ha2⟩ | ⟨rfl, hna⟩
  · refine j_ifn_eq (tgt := 49) C dX8_areEnds_12 rfl (by omega) (fun h => absurd h (by decide)) (fun _ => ?_)
    refine j_aload_n C dX8_areEnds_15 rfl rfl ?_
    refine j_iconst (v := nI 1) C dX8_areEnds_16 rfl ?_
    refine j_iconst (v := nI 0) C dX8_areEnds_17 rfl ?_
    refine j_aload_n C dX8_areEnds_18 rfl rfl ?_
    refine j_get C flX8_49 dX8_areEnds_19 (Nat.lt_of_lt_of_le (by decide) hN) rfl rfl ?_
    refine j_top (hn) ?_
    refine j_iconst (v := nI 1) C dX8_areEnds_22 rfl ?_
    refine j_isub C dX8_areEnds_23 ?_
    refine j_top (pk_sub hn1) ?_
    refine j_calli (As := [.int (nI (1)), .int (nI (0)), .int (nI ((n - 1)))]) (rest := []) C (tX8_isNumber hN (i := 1) (lo := 0) (hi := (n - 1)) (v := v1) (by omega) h1 hv1 (by omega) (by omega)) cdX8_isNumber mlX8_104 dX8_areEnds_24 (by decide) (by decide) (Nat.lt_of_lt_of_le (by decide) hN) rfl rfl rfl rfl rfl (Nat.le_of_ble_eq_true rfl) (fun rr_5 τ4 hp_6 => ?_)
    obtain ⟨hs, hc⟩ := hp_6
    replace hs := hs.symm
    subst hs
    rcases hc with ⟨rfl, hb1, hb2⟩ | ⟨rfl, hnb⟩
    · refine j_ifn_eq (tgt := 49) C dX8_areEnds_27 rfl (by omega) (fun h => absurd h (by decide)) (fun _ => ?_)
      refine j_aload_n C dX8_areEnds_30 rfl rfl ?_
      refine j_get C flX8_31 dX8_areEnds_31 (Nat.lt_of_lt_of_le (by decide) hN) rfl rfl ?_
      refine j_iconst (v := nI 0) C dX8_areEnds_34 rfl ?_
      refine j_iald C dX8_areEnds_35 (Nat.lt_of_lt_of_le (by decide) hN) (fun _ => rfl) (by decide) (by omega) ?_
      refine j_top (h0) ?_
      refine j_aload_n C dX8_areEnds_36 rfl rfl ?_
      refine j_get C flX8_31 dX8_areEnds_37 (Nat.lt_of_lt_of_le (by decide) hN) rfl rfl ?_
      refine j_iconst (v := nI 1) C dX8_areEnds_40 rfl ?_
      refine j_iald C dX8_areEnds_41 (Nat.lt_of_lt_of_le (by decide) hN) (fun _ => rfl) (by decide) (by omega) ?_
      refine j_top (h1) ?_
      refine j_icmpn_eq (tgt := 49) C dX8_areEnds_42 rfl (by omega) (by omega) (fun hc42 => ?_) (fun hc42 => ?_)
      · refine j_iconst (v := nI 0) C dX8_areEnds_49 rfl ?_
        refine j_retz M dX8_areEnds_50 rfl ?_
        exact ⟨rfl, Or.inr ⟨rfl, fun q => by omega⟩⟩
      · refine j_iconst (v := nI 1) C dX8_areEnds_45 rfl ?_
        refine j_goto (tgt := 50) C dX8_areEnds_46 rfl ?_
        refine j_retz M dX8_areEnds_50 rfl ?_
        exact ⟨rfl, Or.inl ⟨rfl, by omega, by omega, by omega⟩⟩
    · refine j_ifn_eq (tgt := 49) C dX8_areEnds_27 rfl (by omega) (fun _ => ?_) (fun h => absurd h (by decide))
      refine j_iconst (v := nI 0) C dX8_areEnds_49 rfl ?_
      refine j_retz M dX8_areEnds_50 rfl ?_
      exact ⟨rfl, Or.inr ⟨rfl, fun q => by omega⟩⟩
  · refine j_ifn_eq (tgt := 49) C dX8_areEnds_12 rfl (by omega) (fun _ => ?_) (fun h => absurd h (by decide))
    refine j_iconst (v := nI 0) C dX8_areEnds_49 rfl ?_
    refine j_retz M dX8_areEnds_50 rfl ?_
    exact ⟨rfl, Or.inr ⟨rfl, fun q => by omega⟩⟩
set_option maxHeartbeats 4000000 in
set_option maxRecDepth 100000 in
theorem tX8_readItem {g : jG} (hN : 97 ≤ gN g) {σ : Sg} {tx : Nat → Int32} {len : Nat} (hl : σ 84 1 = nI len) (hlen : len ≤ 200) (ht : ∀ k, k < len → σ 85 k = tx k) {s e : Nat} {a : ND} (ha : σ 84 2 = nI (s + 1)) (hE : Sem tx len (s + 1) e) (hR : RdI σ a) (hbg0 : σ 84 16 = bI (bgn a)) (hn2 : 2 ≤ nN a) (hn7 : nN a ≤ 7) (hm12 : nM a ≤ 12) (hd6 : nD a ≤ 6) : MS g yX8_readItem cX8_readItem 3 (some .boolean) rmX8_readItem [.ref (gad g (84)), .int (tx s)] σ (fun r σ' => (∀ j n, ¬ (j = 92 ∨ j = 84 ∧ (n = 2 ∨ 5 ≤ n ∧ n ≤ 7 ∨ n = 16) ∨ j = 86 ∨ j = 87) → σ' j n = σ j n) ∧ ((r = nI 1 ∧ e < len ∧ ∃ b, item tx s e a = some b ∧ RdI σ' b ∧ σ' 84 16 = bI (bgn b) ∧ σ' 84 2 = nI (e + 1)) ∨ (r = nI 0 ∧ (e = len ∨ item tx s e a = none)))) := by
  refine MJ_of (by decide) (Nat.le_of_ble_eq_true rfl) (List.forall_mem_cons.mpr ⟨rfl, List.forall_mem_cons.mpr ⟨rfl, fun _ h => absurd h List.not_mem_nil⟩⟩) ?_
  intro κ M
  have C := M.1
  show J g κ 3 0 [some (.ref (gad g (84))), some (.int (tx s)), none] [] σ
  have hse : s < e := hE.1
  refine j_iload_n C dX8_readItem_0 rfl rfl ?_
  refine j_bipush (v := nI 110) C dX8_readItem_1 rfl ?_
  refine j_icmp_ne (tgt := 61) C dX8_readItem_3 rfl (fun h3 => ?_) (fun h3 => ?_)
  · refine j_aload_n C dX8_readItem_61 rfl rfl ?_
    refine j_iconst (v := nI 1) C dX8_readItem_62 rfl ?_
    refine j_put' C fpX8_70 dX8_readItem_63 (Nat.lt_of_lt_of_le (by decide) hN) (fun _ => rfl) rfl (Nat.le_of_ble_eq_true rfl) rfl rfl (fun τ1 hz_2 hw_3 => ?_)
    refine j_iconst (v := nI 0) C dX8_readItem_66 rfl ?_
    refine j_istore_n (L' := [some (.ref (gad g (84))), some (.int (tx s)), some (.int (nI (0)))]) C dX8_readItem_67 rfl (by decide) rfl ?_
    refine j_iload_n C dX8_readItem_68 rfl rfl ?_
    refine j_bipush (v := nI 108) C dX8_readItem_69 rfl ?_
    refine j_icmp_ne (tgt := 161) C dX8_readItem_71 rfl (fun h71 => ?_) (fun h71 => ?_)
    · refine j_iload_n C dX8_readItem_161 rfl rfl ?_
      refine j_bipush (v := nI 100) C dX8_readItem_162 rfl ?_
      refine j_icmp_ne (tgt := 234) C dX8_readItem_164 rfl (fun h164 => ?_) (fun h164 => ?_)
      · refine j_iload_n C dX8_readItem_234 rfl rfl ?_
        refine j_retz M dX8_readItem_235 rfl ?_
        refine ⟨fun j n h => by rw [hz_2 _ _ (by omega)], Or.inr ⟨rfl, ?_⟩⟩
        first
          | exact Or.inr (itL_full h71 (by omega))
          | exact Or.inr (itD_full h164 (by omega))
          | exact item_bad hbad (Or.inr (Or.inl ⟨h71, rfl⟩))
          | exact item_bad hbad (Or.inr (Or.inr ⟨h164, rfl⟩))
          | exact Or.inr (item_other h3 h71 h164)
          | exact Or.inr ((itL hse hvs hvl h71).trans (if_neg (fun q => by omega)))
          | exact Or.inr ((itD hse hvs hvl h164).trans (if_neg (fun q => by omega)))
      · refine j_aload_n C dX8_readItem_167 rfl rfl ?_
        refine j_get C flX8_67 dX8_readItem_168 (Nat.lt_of_lt_of_le (by decide) hN) rfl rfl ?_
        refine j_top ((hz_2 _ _ (by omega)).trans (hR.1.2.2)) ?_
        refine j_bipush (v := nI 6) C dX8_readItem_171 rfl ?_
        refine j_icmpn_ge (tgt := 206) C dX8_readItem_173 rfl (by omega) (by omega) (fun h173 => ?_) (fun h173 => ?_)
        · refine j_iconst (v := nI 0) C dX8_readItem_206 rfl ?_
          refine j_istore_n (L' := [some (.ref (gad g (84))), some (.int (tx s)), some (.int (nI (0)))]) C dX8_readItem_207 rfl (by decide) rfl ?_
          refine j_iload_n C dX8_readItem_208 rfl rfl ?_
          refine j_ifn_eq (tgt := 234) C dX8_readItem_209 rfl (by omega) (fun _ => ?_) (fun h => absurd h (by decide))
          refine j_iload_n C dX8_readItem_234 rfl rfl ?_
          refine j_retz M dX8_readItem_235 rfl ?_
          refine ⟨fun j n h => by rw [hz_2 _ _ (by omega)], Or.inr ⟨rfl, ?_⟩⟩
          first
            | exact Or.inr (itL_full h71 (by omega))
            | exact Or.inr (itD_full h164 (by omega))
            | exact item_bad hbad (Or.inr (Or.inl ⟨h71, rfl⟩))
            | exact item_bad hbad (Or.inr (Or.inr ⟨h164, rfl⟩))
            | exact Or.inr (item_other h3 h71 h164)
            | exact Or.inr ((itL hse hvs hvl h71).trans (if_neg (fun q => by omega)))
            | exact Or.inr ((itD hse hvs hvl h164).trans (if_neg (fun q => by omega)))
        · refine j_aload_n C dX8_readItem_176 rfl rfl ?_
          refine j_iconst (v := nI 3) C dX8_readItem_177 rfl ?_
          refine j_calli (As := [.int (nI (3))]) (rest := []) C (tX8_readNumbers hN (tx := tx) (len := len) (by rw [hz_2 _ _ (by omega)]; exact hl) hlen (fun k hk => by rw [hz_2 _ _ (by omega)]; exact ht k hk) (p := s + 1) (e := e) (r0 := 3) (by rw [hz_2 _ _ (by omega)]; exact ha) hE (by omega) (by omega)) cdX8_readNumbers mlX8_107 dX8_readItem_178 (by decide) (by decide) (Nat.lt_of_lt_of_le (by decide) hN) rfl rfl rfl rfl rfl (Nat.le_of_ble_eq_true rfl) (fun rr_5 τ4 hp_6 => ?_)
          obtain ⟨hrf, ⟨rfl, hel, hat, vs, hvs, hvl, hall, hnum⟩ | ⟨rfl, hbad⟩⟩ := hp_6
          · have hvb := getD_lt hall (by omega)
            have hvb0 := hvb 0
            have hvb1 := hvb 1
            have hvb2 := hvb 2
            refine j_ifn_eq (tgt := 206) C dX8_readItem_181 rfl (by omega) (fun h => absurd h (by decide)) (fun _ => ?_)
            refine j_aload_n C dX8_readItem_184 rfl rfl ?_
            refine j_calli (As := []) (rest := []) C (tX8_areEnds hN (n := nN a) (v0 := vs.getD 0 0) (v1 := vs.getD 1 0) (by rw [hrf _ _ (by omega), hz_2 _ _ (by omega)]; exact hR.1.1) (by omega) (by omega) (hnum 0 (by omega)) (hnum 1 (by omega)) (by omega) (by omega)) cdX8_areEnds mlX8_111 dX8_readItem_185 (by decide) (by decide) (Nat.lt_of_lt_of_le (by decide) hN) rfl rfl rfl rfl rfl (Nat.le_of_ble_eq_true rfl) (fun rr_8 τ7 hp_9 => ?_)
            obtain ⟨hs, hc⟩ := hp_9
            replace hs := hs.symm
            subst hs
            rcases hc with ⟨rfl, he1, he2, he3⟩ | ⟨rfl, hne⟩
            · refine j_ifn_eq (tgt := 206) C dX8_readItem_188 rfl (by omega) (fun h => absurd h (by decide)) (fun _ => ?_)
              refine j_aload_n C dX8_readItem_191 rfl rfl ?_
              refine j_iconst (v := nI 2) C dX8_readItem_192 rfl ?_
              refine j_iconst (v := nI 1) C dX8_readItem_193 rfl ?_
              refine j_bipush (v := nI 99) C dX8_readItem_194 rfl ?_
              refine j_calli (As := [.int (nI (2)), .int (nI (1)), .int (nI (99))]) (rest := []) C (tX8_isNumber hN (i := 2) (lo := 1) (hi := 99) (v := vs.getD 2 0) (by omega) (hnum 2 (by omega)) (by omega) (by omega) (by omega)) cdX8_isNumber mlX8_104 dX8_readItem_196 (by decide) (by decide) (Nat.lt_of_lt_of_le (by decide) hN) rfl rfl rfl rfl rfl (Nat.le_of_ble_eq_true rfl) (fun rr_11 τ10 hp_12 => ?_)
              obtain ⟨hs, hc⟩ := hp_12
              replace hs := hs.symm
              subst hs
              rcases hc with ⟨rfl, hy1, hy2⟩ | ⟨rfl, hn⟩
              · refine j_ifn_eq (tgt := 206) C dX8_readItem_199 rfl (by omega) (fun h => absurd h (by decide)) (fun _ => ?_)
                refine j_iconst (v := nI 1) C dX8_readItem_202 rfl ?_
                refine j_goto (tgt := 207) C dX8_readItem_203 rfl ?_
                refine j_istore_n (L' := [some (.ref (gad g (84))), some (.int (tx s)), some (.int (nI (1)))]) C dX8_readItem_207 rfl (by decide) rfl ?_
                refine j_iload_n C dX8_readItem_208 rfl rfl ?_
                refine j_ifn_eq (tgt := 234) C dX8_readItem_209 rfl (by omega) (fun h => absurd h (by decide)) (fun _ => ?_)
                refine j_aload_n C dX8_readItem_212 rfl rfl ?_
                refine j_aload_n C dX8_readItem_213 rfl rfl ?_
                refine j_get C flX8_31 dX8_readItem_214 (Nat.lt_of_lt_of_le (by decide) hN) rfl rfl ?_
                refine j_iconst (v := nI 0) C dX8_readItem_217 rfl ?_
                refine j_iald C dX8_readItem_218 (Nat.lt_of_lt_of_le (by decide) hN) (fun _ => rfl) (by decide) (by omega) ?_
                refine j_top (hnum 0 (by omega)) ?_
                refine j_aload_n C dX8_readItem_219 rfl rfl ?_
                refine j_get C flX8_31 dX8_readItem_220 (Nat.lt_of_lt_of_le (by decide) hN) rfl rfl ?_
                refine j_iconst (v := nI 1) C dX8_readItem_223 rfl ?_
                refine j_iald C dX8_readItem_224 (Nat.lt_of_lt_of_le (by decide) hN) (fun _ => rfl) (by decide) (by omega) ?_
                refine j_top (hnum 1 (by omega)) ?_
                refine j_aload_n C dX8_readItem_225 rfl rfl ?_
                refine j_get C flX8_31 dX8_readItem_226 (Nat.lt_of_lt_of_le (by decide) hN) rfl rfl ?_
                refine j_iconst (v := nI 2) C dX8_readItem_229 rfl ?_
                refine j_iald C dX8_readItem_230 (Nat.lt_of_lt_of_le (by decide) hN) (fun _ => rfl) (by decide) (by omega) ?_
                refine j_top (hnum 2 (by omega)) ?_
                refine j_callv (As := [.int (nI (vs.getD 0 0)), .int (nI (vs.getD 1 0)), .int (nI (vs.getD 2 0))]) (rest := []) C (tX8_putDemand hN (a := a) (p := vs.getD 0 0) (q := vs.getD 1 0) (s := vs.getD 2 0) (hR.kept (fun j n h => by rw [hrf _ _ (by omega), hz_2 _ _ (by omega)])) (by omega)) cdX8_putDemand mlX8_57 dX8_readItem_231 (by decide) (by decide) (Nat.lt_of_lt_of_le (by decide) hN) rfl rfl rfl rfl rfl (Nat.le_of_ble_eq_true rfl) (fun τ13 hp_15 => ?_)
                obtain ⟨hdf, hRd⟩ := hp_15
                refine j_iload_n C dX8_readItem_234 rfl rfl ?_
                refine j_retz M dX8_readItem_235 rfl ?_
                refine ⟨fun j n h => by rw [hdf _ _ (by omega), hrf _ _ (by omega), hz_2 _ _ (by omega)], Or.inl ⟨rfl, hel, _, (itD hse hvs hvl h164).trans (if_pos ⟨by omega, he1, he2, he3, hy1, hy2⟩), hRd, ?_, by rw [hdf _ _ (by omega)]; exact hat⟩⟩
                rw [bgn_D, hdf _ _ (by omega), hrf _ _ (by omega)]; exact hw_3
              · refine j_ifn_eq (tgt := 206) C dX8_readItem_199 rfl (by omega) (fun _ => ?_) (fun h => absurd h (by decide))
                refine j_iconst (v := nI 0) C dX8_readItem_206 rfl ?_
                refine j_istore_n (L' := [some (.ref (gad g (84))), some (.int (tx s)), some (.int (nI (0)))]) C dX8_readItem_207 rfl (by decide) rfl ?_
                refine j_iload_n C dX8_readItem_208 rfl rfl ?_
                refine j_ifn_eq (tgt := 234) C dX8_readItem_209 rfl (by omega) (fun _ => ?_) (fun h => absurd h (by decide))
                refine j_iload_n C dX8_readItem_234 rfl rfl ?_
                refine j_retz M dX8_readItem_235 rfl ?_
                refine ⟨fun j n h => by rw [hrf _ _ (by omega), hz_2 _ _ (by omega)], Or.inr ⟨rfl, ?_⟩⟩
                first
                  | exact Or.inr (itL_full h71 (by omega))
                  | exact Or.inr (itD_full h164 (by omega))
                  | exact item_bad hbad (Or.inr (Or.inl ⟨h71, rfl⟩))
                  | exact item_bad hbad (Or.inr (Or.inr ⟨h164, rfl⟩))
                  | exact Or.inr (item_other h3 h71 h164)
                  | exact Or.inr ((itL hse hvs hvl h71).trans (if_neg (fun q => by omega)))
                  | exact Or.inr ((itD hse hvs hvl h164).trans (if_neg (fun q => by omega)))
            · refine j_ifn_eq (tgt := 206) C dX8_readItem_188 rfl (by omega) (fun _ => ?_) (fun h => absurd h (by decide))
              refine j_iconst (v := nI 0) C dX8_readItem_206 rfl ?_
              refine j_istore_n (L' := [some (.ref (gad g (84))), some (.int (tx s)), some (.int (nI (0)))]) C dX8_readItem_207 rfl (by decide) rfl ?_
              refine j_iload_n C dX8_readItem_208 rfl rfl ?_
              refine j_ifn_eq (tgt := 234) C dX8_readItem_209 rfl (by omega) (fun _ => ?_) (fun h => absurd h (by decide))
              refine j_iload_n C dX8_readItem_234 rfl rfl ?_
              refine j_retz M dX8_readItem_235 rfl ?_
              refine ⟨fun j n h => by rw [hrf _ _ (by omega), hz_2 _ _ (by omega)], Or.inr ⟨rfl, ?_⟩⟩
              first
                | exact Or.inr (itL_full h71 (by omega))
                | exact Or.inr (itD_full h164 (by omega))
                | exact item_bad hbad (Or.inr (Or.inl ⟨h71, rfl⟩))
                | exact item_bad hbad (Or.inr (Or.inr ⟨h164, rfl⟩))
                | exact Or.inr (item_other h3 h71 h164)
                | exact Or.inr ((itL hse hvs hvl h71).trans (if_neg (fun q => by omega)))
                | exact Or.inr ((itD hse hvs hvl h164).trans (if_neg (fun q => by omega)))
          · refine j_ifn_eq (tgt := 206) C dX8_readItem_181 rfl (by omega) (fun _ => ?_) (fun h => absurd h (by decide))
            refine j_iconst (v := nI 0) C dX8_readItem_206 rfl ?_
            refine j_istore_n (L' := [some (.ref (gad g (84))), some (.int (tx s)), some (.int (nI (0)))]) C dX8_readItem_207 rfl (by decide) rfl ?_
            refine j_iload_n C dX8_readItem_208 rfl rfl ?_
            refine j_ifn_eq (tgt := 234) C dX8_readItem_209 rfl (by omega) (fun _ => ?_) (fun h => absurd h (by decide))
            refine j_iload_n C dX8_readItem_234 rfl rfl ?_
            refine j_retz M dX8_readItem_235 rfl ?_
            refine ⟨fun j n h => by rw [hrf _ _ (by omega), hz_2 _ _ (by omega)], Or.inr ⟨rfl, ?_⟩⟩
            first
              | exact Or.inr (itL_full h71 (by omega))
              | exact Or.inr (itD_full h164 (by omega))
              | exact item_bad hbad (Or.inr (Or.inl ⟨h71, rfl⟩))
              | exact item_bad hbad (Or.inr (Or.inr ⟨h164, rfl⟩))
              | exact Or.inr (item_other h3 h71 h164)
              | exact Or.inr ((itL hse hvs hvl h71).trans (if_neg (fun q => by omega)))
              | exact Or.inr ((itD hse hvs hvl h164).trans (if_neg (fun q => by omega)))
    · refine j_aload_n C dX8_readItem_74 rfl rfl ?_
      refine j_get C flX8_64 dX8_readItem_75 (Nat.lt_of_lt_of_le (by decide) hN) rfl rfl ?_
      refine j_top ((hz_2 _ _ (by omega)).trans (hR.1.2.1)) ?_
      refine j_bipush (v := nI 12) C dX8_readItem_78 rfl ?_
      refine j_icmpn_ge (tgt := 124) C dX8_readItem_80 rfl (by omega) (by omega) (fun h80 => ?_) (fun h80 => ?_)
      · refine j_iconst (v := nI 0) C dX8_readItem_124 rfl ?_
        refine j_istore_n (L' := [some (.ref (gad g (84))), some (.int (tx s)), some (.int (nI (0)))]) C dX8_readItem_125 rfl (by decide) rfl ?_
        refine j_iload_n C dX8_readItem_126 rfl rfl ?_
        refine j_ifn_eq (tgt := 234) C dX8_readItem_127 rfl (by omega) (fun _ => ?_) (fun h => absurd h (by decide))
        refine j_iload_n C dX8_readItem_234 rfl rfl ?_
        refine j_retz M dX8_readItem_235 rfl ?_
        refine ⟨fun j n h => by rw [hz_2 _ _ (by omega)], Or.inr ⟨rfl, ?_⟩⟩
        first
          | exact Or.inr (itL_full h71 (by omega))
          | exact Or.inr (itD_full h164 (by omega))
          | exact item_bad hbad (Or.inr (Or.inl ⟨h71, rfl⟩))
          | exact item_bad hbad (Or.inr (Or.inr ⟨h164, rfl⟩))
          | exact Or.inr (item_other h3 h71 h164)
          | exact Or.inr ((itL hse hvs hvl h71).trans (if_neg (fun q => by omega)))
          | exact Or.inr ((itD hse hvs hvl h164).trans (if_neg (fun q => by omega)))
      · refine j_aload_n C dX8_readItem_83 rfl rfl ?_
        refine j_iconst (v := nI 4) C dX8_readItem_84 rfl ?_
        refine j_calli (As := [.int (nI (4))]) (rest := []) C (tX8_readNumbers hN (tx := tx) (len := len) (by rw [hz_2 _ _ (by omega)]; exact hl) hlen (fun k hk => by rw [hz_2 _ _ (by omega)]; exact ht k hk) (p := s + 1) (e := e) (r0 := 4) (by rw [hz_2 _ _ (by omega)]; exact ha) hE (by omega) (by omega)) cdX8_readNumbers mlX8_107 dX8_readItem_85 (by decide) (by decide) (Nat.lt_of_lt_of_le (by decide) hN) rfl rfl rfl rfl rfl (Nat.le_of_ble_eq_true rfl) (fun rr_17 τ16 hp_18 => ?_)
        obtain ⟨hrf, ⟨rfl, hel, hat, vs, hvs, hvl, hall, hnum⟩ | ⟨rfl, hbad⟩⟩ := hp_18
        · have hvb := getD_lt hall (by omega)
          have hvb0 := hvb 0
          have hvb1 := hvb 1
          have hvb2 := hvb 2
          have hvb3 := hvb 3
          refine j_ifn_eq (tgt := 124) C dX8_readItem_88 rfl (by omega) (fun h => absurd h (by decide)) (fun _ => ?_)
          refine j_aload_n C dX8_readItem_91 rfl rfl ?_
          refine j_calli (As := []) (rest := []) C (tX8_areEnds hN (n := nN a) (v0 := vs.getD 0 0) (v1 := vs.getD 1 0) (by rw [hrf _ _ (by omega), hz_2 _ _ (by omega)]; exact hR.1.1) (by omega) (by omega) (hnum 0 (by omega)) (hnum 1 (by omega)) (by omega) (by omega)) cdX8_areEnds mlX8_111 dX8_readItem_92 (by decide) (by decide) (Nat.lt_of_lt_of_le (by decide) hN) rfl rfl rfl rfl rfl (Nat.le_of_ble_eq_true rfl) (fun rr_20 τ19 hp_21 => ?_)
          obtain ⟨hs, hc⟩ := hp_21
          replace hs := hs.symm
          subst hs
          rcases hc with ⟨rfl, he1, he2, he3⟩ | ⟨rfl, hne⟩
          · refine j_ifn_eq (tgt := 124) C dX8_readItem_95 rfl (by omega) (fun h => absurd h (by decide)) (fun _ => ?_)
            refine j_aload_n C dX8_readItem_98 rfl rfl ?_
            refine j_iconst (v := nI 2) C dX8_readItem_99 rfl ?_
            refine j_iconst (v := nI 1) C dX8_readItem_100 rfl ?_
            refine j_bipush (v := nI 99) C dX8_readItem_101 rfl ?_
            refine j_calli (As := [.int (nI (2)), .int (nI (1)), .int (nI (99))]) (rest := []) C (tX8_isNumber hN (i := 2) (lo := 1) (hi := 99) (v := vs.getD 2 0) (by omega) (hnum 2 (by omega)) (by omega) (by omega) (by omega)) cdX8_isNumber mlX8_104 dX8_readItem_103 (by decide) (by decide) (Nat.lt_of_lt_of_le (by decide) hN) rfl rfl rfl rfl rfl (Nat.le_of_ble_eq_true rfl) (fun rr_23 τ22 hp_24 => ?_)
            obtain ⟨hs, hc⟩ := hp_24
            replace hs := hs.symm
            subst hs
            rcases hc with ⟨rfl, hy1, hy2⟩ | ⟨rfl, hn⟩
            · refine j_ifn_eq (tgt := 124) C dX8_readItem_106 rfl (by omega) (fun h => absurd h (by decide)) (fun _ => ?_)
              refine j_aload_n C dX8_readItem_109 rfl rfl ?_
              refine j_iconst (v := nI 3) C dX8_readItem_110 rfl ?_
              refine j_iconst (v := nI 1) C dX8_readItem_111 rfl ?_
              refine j_bipush (v := nI 20) C dX8_readItem_112 rfl ?_
              refine j_calli (As := [.int (nI (3)), .int (nI (1)), .int (nI (20))]) (rest := []) C (tX8_isNumber hN (i := 3) (lo := 1) (hi := 20) (v := vs.getD 3 0) (by omega) (hnum 3 (by omega)) (by omega) (by omega) (by omega)) cdX8_isNumber mlX8_104 dX8_readItem_114 (by decide) (by decide) (Nat.lt_of_lt_of_le (by decide) hN) rfl rfl rfl rfl rfl (Nat.le_of_ble_eq_true rfl) (fun rr_26 τ25 hp_27 => ?_)
              obtain ⟨hs, hc⟩ := hp_27
              replace hs := hs.symm
              subst hs
              rcases hc with ⟨rfl, hz1, hz2⟩ | ⟨rfl, hnz⟩
              · refine j_ifn_eq (tgt := 124) C dX8_readItem_117 rfl (by omega) (fun h => absurd h (by decide)) (fun _ => ?_)
                refine j_iconst (v := nI 1) C dX8_readItem_120 rfl ?_
                refine j_goto (tgt := 125) C dX8_readItem_121 rfl ?_
                refine j_istore_n (L' := [some (.ref (gad g (84))), some (.int (tx s)), some (.int (nI (1)))]) C dX8_readItem_125 rfl (by decide) rfl ?_
                refine j_iload_n C dX8_readItem_126 rfl rfl ?_
                refine j_ifn_eq (tgt := 234) C dX8_readItem_127 rfl (by omega) (fun h => absurd h (by decide)) (fun _ => ?_)
                refine j_aload_n C dX8_readItem_130 rfl rfl ?_
                refine j_aload_n C dX8_readItem_131 rfl rfl ?_
                refine j_get C flX8_31 dX8_readItem_132 (Nat.lt_of_lt_of_le (by decide) hN) rfl rfl ?_
                refine j_iconst (v := nI 0) C dX8_readItem_135 rfl ?_
                refine j_iald C dX8_readItem_136 (Nat.lt_of_lt_of_le (by decide) hN) (fun _ => rfl) (by decide) (by omega) ?_
                refine j_top (hnum 0 (by omega)) ?_
                refine j_aload_n C dX8_readItem_137 rfl rfl ?_
                refine j_get C flX8_31 dX8_readItem_138 (Nat.lt_of_lt_of_le (by decide) hN) rfl rfl ?_
                refine j_iconst (v := nI 1) C dX8_readItem_141 rfl ?_
                refine j_iald C dX8_readItem_142 (Nat.lt_of_lt_of_le (by decide) hN) (fun _ => rfl) (by decide) (by omega) ?_
                refine j_top (hnum 1 (by omega)) ?_
                refine j_aload_n C dX8_readItem_143 rfl rfl ?_
                refine j_get C flX8_31 dX8_readItem_144 (Nat.lt_of_lt_of_le (by decide) hN) rfl rfl ?_
                refine j_iconst (v := nI 2) C dX8_readItem_147 rfl ?_
                refine j_iald C dX8_readItem_148 (Nat.lt_of_lt_of_le (by decide) hN) (fun _ => rfl) (by decide) (by omega) ?_
                refine j_top (hnum 2 (by omega)) ?_
                refine j_aload_n C dX8_readItem_149 rfl rfl ?_
                refine j_get C flX8_31 dX8_readItem_150 (Nat.lt_of_lt_of_le (by decide) hN) rfl rfl ?_
                refine j_iconst (v := nI 3) C dX8_readItem_153 rfl ?_
                refine j_iald C dX8_readItem_154 (Nat.lt_of_lt_of_le (by decide) hN) (fun _ => rfl) (by decide) (by omega) ?_
                refine j_top (hnum 3 (by omega)) ?_
                refine j_callv (As := [.int (nI (vs.getD 0 0)), .int (nI (vs.getD 1 0)), .int (nI (vs.getD 2 0)), .int (nI (vs.getD 3 0))]) (rest := []) C (tX8_putLink hN (a := a) (p := vs.getD 0 0) (q := vs.getD 1 0) (s := vs.getD 2 0) (w := vs.getD 3 0) (hR.kept (fun j n h => by rw [hrf _ _ (by omega), hz_2 _ _ (by omega)])) (by omega)) cdX8_putLink mlX8_53 dX8_readItem_155 (by decide) (by decide) (Nat.lt_of_lt_of_le (by decide) hN) rfl rfl rfl rfl rfl (Nat.le_of_ble_eq_true rfl) (fun τ28 hp_30 => ?_)
                obtain ⟨hlf, hRl⟩ := hp_30
                refine j_goto (tgt := 234) C dX8_readItem_158 rfl ?_
                refine j_iload_n C dX8_readItem_234 rfl rfl ?_
                refine j_retz M dX8_readItem_235 rfl ?_
                refine ⟨fun j n h => by rw [hlf _ _ (by omega), hrf _ _ (by omega), hz_2 _ _ (by omega)], Or.inl ⟨rfl, hel, _, (itL hse hvs hvl h71).trans (if_pos ⟨by omega, he1, he2, he3, hy1, hy2, hz1, hz2⟩), hRl, ?_, by rw [hlf _ _ (by omega)]; exact hat⟩⟩
                rw [bgn_L, hlf _ _ (by omega), hrf _ _ (by omega)]; exact hw_3
              · refine j_ifn_eq (tgt := 124) C dX8_readItem_117 rfl (by omega) (fun _ => ?_) (fun h => absurd h (by decide))
                refine j_iconst (v := nI 0) C dX8_readItem_124 rfl ?_
                refine j_istore_n (L' := [some (.ref (gad g (84))), some (.int (tx s)), some (.int (nI (0)))]) C dX8_readItem_125 rfl (by decide) rfl ?_
                refine j_iload_n C dX8_readItem_126 rfl rfl ?_
                refine j_ifn_eq (tgt := 234) C dX8_readItem_127 rfl (by omega) (fun _ => ?_) (fun h => absurd h (by decide))
                refine j_iload_n C dX8_readItem_234 rfl rfl ?_
                refine j_retz M dX8_readItem_235 rfl ?_
                refine ⟨fun j n h => by rw [hrf _ _ (by omega), hz_2 _ _ (by omega)], Or.inr ⟨rfl, ?_⟩⟩
                first
                  | exact Or.inr (itL_full h71 (by omega))
                  | exact Or.inr (itD_full h164 (by omega))
                  | exact item_bad hbad (Or.inr (Or.inl ⟨h71, rfl⟩))
                  | exact item_bad hbad (Or.inr (Or.inr ⟨h164, rfl⟩))
                  | exact Or.inr (item_other h3 h71 h164)
                  | exact Or.inr ((itL hse hvs hvl h71).trans (if_neg (fun q => by omega)))
                  | exact Or.inr ((itD hse hvs hvl h164).trans (if_neg (fun q => by omega)))
            · refine j_ifn_eq (tgt := 124) C dX8_readItem_106 rfl (by omega) (fun _ => ?_) (fun h => absurd h (by decide))
              refine j_iconst (v := nI 0) C dX8_readItem_124 rfl ?_
              refine j_istore_n (L' := [some (.ref (gad g (84))), some (.int (tx s)), some (.int (nI (0)))]) C dX8_readItem_125 rfl (by decide) rfl ?_
              refine j_iload_n C dX8_readItem_126 rfl rfl ?_
              refine j_ifn_eq (tgt := 234) C dX8_readItem_127 rfl (by omega) (fun _ => ?_) (fun h => absurd h (by decide))
              refine j_iload_n C dX8_readItem_234 rfl rfl ?_
              refine j_retz M dX8_readItem_235 rfl ?_
              refine ⟨fun j n h => by rw [hrf _ _ (by omega), hz_2 _ _ (by omega)], Or.inr ⟨rfl, ?_⟩⟩
              first
                | exact Or.inr (itL_full h71 (by omega))
                | exact Or.inr (itD_full h164 (by omega))
                | exact item_bad hbad (Or.inr (Or.inl ⟨h71, rfl⟩))
                | exact item_bad hbad (Or.inr (Or.inr ⟨h164, rfl⟩))
                | exact Or.inr (item_other h3 h71 h164)
                | exact Or.inr ((itL hse hvs hvl h71).trans (if_neg (fun q => by omega)))
                | exact Or.inr ((itD hse hvs hvl h164).trans (if_neg (fun q => by omega)))
          · refine j_ifn_eq (tgt := 124) C dX8_readItem_95 rfl (by omega) (fun _ => ?_) (fun h => absurd h (by decide))
            refine j_iconst (v := nI 0) C dX8_readItem_124 rfl ?_
            refine j_istore_n (L' := [some (.ref (gad g (84))), some (.int (tx s)), some (.int (nI (0)))]) C dX8_readItem_125 rfl (by decide) rfl ?_
            refine j_iload_n C dX8_readItem_126 rfl rfl ?_
            refine j_ifn_eq (tgt := 234) C dX8_readItem_127 rfl (by omega) (fun _ => ?_) (fun h => absurd h (by decide))
            refine j_iload_n C dX8_readItem_234 rfl rfl ?_
            refine j_retz M dX8_readItem_235 rfl ?_
            refine ⟨fun j n h => by rw [hrf _ _ (by omega), hz_2 _ _ (by omega)], Or.inr ⟨rfl, ?_⟩⟩
            first
              | exact Or.inr (itL_full h71 (by omega))
              | exact Or.inr (itD_full h164 (by omega))
              | exact item_bad hbad (Or.inr (Or.inl ⟨h71, rfl⟩))
              | exact item_bad hbad (Or.inr (Or.inr ⟨h164, rfl⟩))
              | exact Or.inr (item_other h3 h71 h164)
              | exact Or.inr ((itL hse hvs hvl h71).trans (if_neg (fun q => by omega)))
              | exact Or.inr ((itD hse hvs hvl h164).trans (if_neg (fun q => by omega)))
        · refine j_ifn_eq (tgt := 124) C dX8_readItem_88 rfl (by omega) (fun _ => ?_) (fun h => absurd h (by decide))
          refine j_iconst (v := nI 0) C dX8_readItem_124 rfl ?_
          refine j_istore_n (L' := [some (.ref (gad g (84))), some (.int (tx s)), some (.int (nI (0)))]) C dX8_readItem_125 rfl (by decide) rfl ?_
          refine j_iload_n C dX8_readItem_126 rfl rfl ?_
          refine j_ifn_eq (tgt := 234) C dX8_readItem_127 rfl (by omega) (fun _ => ?_) (fun h => absurd h (by decide))
          refine j_iload_n C dX8_readItem_234 rfl rfl ?_
          refine j_retz M dX8_readItem_235 rfl ?_
          refine ⟨fun j n h => by rw [hrf _ _ (by omega), hz_2 _ _ (by omega)], Or.inr ⟨rfl, ?_⟩⟩
          first
            | exact Or.inr (itL_full h71 (by omega))
            | exact Or.inr (itD_full h164 (by omega))
            | exact item_bad hbad (Or.inr (Or.inl ⟨h71, rfl⟩))
            | exact item_bad hbad (Or.inr (Or.inr ⟨h164, rfl⟩))
            | exact Or.inr (item_other h3 h71 h164)
            | exact Or.inr ((itL hse hvs hvl h71).trans (if_neg (fun q => by omega)))
            | exact Or.inr ((itD hse hvs hvl h164).trans (if_neg (fun q => by omega)))
  · rcases hbg : bgn a with _ | _
    · refine j_aload_n C dX8_readItem_6 rfl rfl ?_
      refine j_get C flX8_70 dX8_readItem_7 (Nat.lt_of_lt_of_le (by decide) hN) rfl rfl ?_
      refine j_top (hbg0.trans (congrArg bI hbg)) ?_
      refine j_ifn_ne (tgt := 36) C dX8_readItem_10 rfl (by omega) (fun h => absurd h (by decide)) (fun _ => ?_)
      refine j_aload_n C dX8_readItem_13 rfl rfl ?_
      refine j_iconst (v := nI 1) C dX8_readItem_14 rfl ?_
      refine j_calli (As := [.int (nI (1))]) (rest := []) C (tX8_readNumbers hN (tx := tx) (len := len) (by exact hl) hlen (fun k hk => by exact ht k hk) (p := s + 1) (e := e) (r0 := 1) (by exact ha) hE (by omega) (by omega)) cdX8_readNumbers mlX8_107 dX8_readItem_15 (by decide) (by decide) (Nat.lt_of_lt_of_le (by decide) hN) rfl rfl rfl rfl rfl (Nat.le_of_ble_eq_true rfl) (fun rr_32 τ31 hp_33 => ?_)
      obtain ⟨hrf, ⟨rfl, hel, hat, vs, hvs, hvl, hall, hnum⟩ | ⟨rfl, hbad⟩⟩ := hp_33
      · have hvb := getD_lt hall (by omega)
        have hvb0 := hvb 0
        refine j_ifn_eq (tgt := 36) C dX8_readItem_18 rfl (by omega) (fun h => absurd h (by decide)) (fun _ => ?_)
        refine j_aload_n C dX8_readItem_21 rfl rfl ?_
        refine j_iconst (v := nI 0) C dX8_readItem_22 rfl ?_
        refine j_iconst (v := nI 2) C dX8_readItem_23 rfl ?_
        refine j_bipush (v := nI 7) C dX8_readItem_24 rfl ?_
        refine j_calli (As := [.int (nI (0)), .int (nI (2)), .int (nI (7))]) (rest := []) C (tX8_isNumber hN (i := 0) (lo := 2) (hi := 7) (v := vs.getD 0 0) (by omega) (hnum 0 (by omega)) (by omega) (by omega) (by omega)) cdX8_isNumber mlX8_104 dX8_readItem_26 (by decide) (by decide) (Nat.lt_of_lt_of_le (by decide) hN) rfl rfl rfl rfl rfl (Nat.le_of_ble_eq_true rfl) (fun rr_35 τ34 hp_36 => ?_)
        obtain ⟨hs, hc⟩ := hp_36
        replace hs := hs.symm
        subst hs
        rcases hc with ⟨rfl, hy1, hy2⟩ | ⟨rfl, hn⟩
        · refine j_ifn_eq (tgt := 36) C dX8_readItem_29 rfl (by omega) (fun h => absurd h (by decide)) (fun _ => ?_)
          refine j_iconst (v := nI 1) C dX8_readItem_32 rfl ?_
          refine j_goto (tgt := 37) C dX8_readItem_33 rfl ?_
          refine j_istore_n (L' := [some (.ref (gad g (84))), some (.int (tx s)), some (.int (nI (1)))]) C dX8_readItem_37 rfl (by decide) rfl ?_
          refine j_aload_n C dX8_readItem_38 rfl rfl ?_
          refine j_iload_n C dX8_readItem_39 rfl rfl ?_
          refine j_ifn_eq (tgt := 52) C dX8_readItem_40 rfl (by omega) (fun h => absurd h (by decide)) (fun _ => ?_)
          refine j_aload_n C dX8_readItem_43 rfl rfl ?_
          refine j_get C flX8_31 dX8_readItem_44 (Nat.lt_of_lt_of_le (by decide) hN) rfl rfl ?_
          refine j_iconst (v := nI 0) C dX8_readItem_47 rfl ?_
          refine j_iald C dX8_readItem_48 (Nat.lt_of_lt_of_le (by decide) hN) (fun _ => rfl) (by decide) (by omega) ?_
          refine j_top (hnum 0 (by omega)) ?_
          refine j_goto (tgt := 56) C dX8_readItem_49 rfl ?_
          refine j_put' C fpX8_49 dX8_readItem_56 (Nat.lt_of_lt_of_le (by decide) hN) (fun _ => rfl) rfl (Nat.le_of_ble_eq_true rfl) rfl rfl (fun τ37 hz_38 hw_39 => ?_)
          refine j_iload_n C dX8_readItem_59 rfl rfl ?_
          refine j_retz M dX8_readItem_60 rfl ?_
          obtain ⟨hb1, hb2⟩ := bgn_f hbg
          refine ⟨fun j n h => by rw [hz_38 _ _ (by omega), hrf _ _ (by omega)], Or.inl ⟨rfl, hel, ndN a (vs.getD 0 0), (itN hse hvs hvl h3).trans (if_pos ⟨hb1, hb2, hy1, hy2⟩), ⟨⟨hw_39, by rw [hz_38 _ _ (by omega), hrf _ _ (by omega)]; exact hR.1.2.1, by rw [hz_38 _ _ (by omega), hrf _ _ (by omega)]; exact hR.1.2.2⟩, fun l hl => absurd hl (by have : nM a = 0 := hb1; show ¬ l < nM a; omega), fun l hl => absurd hl (by have : nD a = 0 := hb2; show ¬ l < nD a; omega)⟩, ?_, by rw [hz_38 _ _ (by omega)]; exact hat⟩⟩
          rw [hz_38 _ _ (by omega), hrf _ _ (by omega)]; exact hbg0
        · refine j_ifn_eq (tgt := 36) C dX8_readItem_29 rfl (by omega) (fun _ => ?_) (fun h => absurd h (by decide))
          refine j_iconst (v := nI 0) C dX8_readItem_36 rfl ?_
          refine j_istore_n (L' := [some (.ref (gad g (84))), some (.int (tx s)), some (.int (nI (0)))]) C dX8_readItem_37 rfl (by decide) rfl ?_
          refine j_aload_n C dX8_readItem_38 rfl rfl ?_
          refine j_iload_n C dX8_readItem_39 rfl rfl ?_
          refine j_ifn_eq (tgt := 52) C dX8_readItem_40 rfl (by omega) (fun _ => ?_) (fun h => absurd h (by decide))
          refine j_aload_n C dX8_readItem_52 rfl rfl ?_
          refine j_get C flX8_49 dX8_readItem_53 (Nat.lt_of_lt_of_le (by decide) hN) rfl rfl ?_
          refine j_top ((hrf _ _ (by omega)).trans (hR.1.1)) ?_
          refine j_put' C fpX8_49 dX8_readItem_56 (Nat.lt_of_lt_of_le (by decide) hN) (fun _ => rfl) rfl (Nat.le_of_ble_eq_true rfl) rfl rfl (fun τ40 hz_41 hw_42 => ?_)
          refine j_iload_n C dX8_readItem_59 rfl rfl ?_
          refine j_retz M dX8_readItem_60 rfl ?_
          refine ⟨fun j n h => by rw [hz_41 _ _ (by omega), hrf _ _ (by omega)], Or.inr ⟨rfl, ?_⟩⟩
          first
            | exact Or.inr (itN_begun h3 hbg)
            | exact item_bad hbad (Or.inl ⟨h3, rfl⟩)
            | exact Or.inr ((itN hse hvs hvl h3).trans (if_neg (fun q => hn q.2.2)))
      · refine j_ifn_eq (tgt := 36) C dX8_readItem_18 rfl (by omega) (fun _ => ?_) (fun h => absurd h (by decide))
        refine j_iconst (v := nI 0) C dX8_readItem_36 rfl ?_
        refine j_istore_n (L' := [some (.ref (gad g (84))), some (.int (tx s)), some (.int (nI (0)))]) C dX8_readItem_37 rfl (by decide) rfl ?_
        refine j_aload_n C dX8_readItem_38 rfl rfl ?_
        refine j_iload_n C dX8_readItem_39 rfl rfl ?_
        refine j_ifn_eq (tgt := 52) C dX8_readItem_40 rfl (by omega) (fun _ => ?_) (fun h => absurd h (by decide))
        refine j_aload_n C dX8_readItem_52 rfl rfl ?_
        refine j_get C flX8_49 dX8_readItem_53 (Nat.lt_of_lt_of_le (by decide) hN) rfl rfl ?_
        refine j_top ((hrf _ _ (by omega)).trans (hR.1.1)) ?_
        refine j_put' C fpX8_49 dX8_readItem_56 (Nat.lt_of_lt_of_le (by decide) hN) (fun _ => rfl) rfl (Nat.le_of_ble_eq_true rfl) rfl rfl (fun τ43 hz_44 hw_45 => ?_)
        refine j_iload_n C dX8_readItem_59 rfl rfl ?_
        refine j_retz M dX8_readItem_60 rfl ?_
        refine ⟨fun j n h => by rw [hz_44 _ _ (by omega), hrf _ _ (by omega)], Or.inr ⟨rfl, ?_⟩⟩
        first
          | exact Or.inr (itN_begun h3 hbg)
          | exact item_bad hbad (Or.inl ⟨h3, rfl⟩)
          | exact Or.inr ((itN hse hvs hvl h3).trans (if_neg (fun q => hn q.2.2)))
    · refine j_aload_n C dX8_readItem_6 rfl rfl ?_
      refine j_get C flX8_70 dX8_readItem_7 (Nat.lt_of_lt_of_le (by decide) hN) rfl rfl ?_
      refine j_top (hbg0.trans (congrArg bI hbg)) ?_
      refine j_ifn_ne (tgt := 36) C dX8_readItem_10 rfl (by omega) (fun _ => ?_) (fun h => absurd h (by decide))
      refine j_iconst (v := nI 0) C dX8_readItem_36 rfl ?_
      refine j_istore_n (L' := [some (.ref (gad g (84))), some (.int (tx s)), some (.int (nI (0)))]) C dX8_readItem_37 rfl (by decide) rfl ?_
      refine j_aload_n C dX8_readItem_38 rfl rfl ?_
      refine j_iload_n C dX8_readItem_39 rfl rfl ?_
      refine j_ifn_eq (tgt := 52) C dX8_readItem_40 rfl (by omega) (fun _ => ?_) (fun h => absurd h (by decide))
      refine j_aload_n C dX8_readItem_52 rfl rfl ?_
      refine j_get C flX8_49 dX8_readItem_53 (Nat.lt_of_lt_of_le (by decide) hN) rfl rfl ?_
      refine j_top (hR.1.1) ?_
      refine j_put' C fpX8_49 dX8_readItem_56 (Nat.lt_of_lt_of_le (by decide) hN) (fun _ => rfl) rfl (Nat.le_of_ble_eq_true rfl) rfl rfl (fun τ46 hz_47 hw_48 => ?_)
      refine j_iload_n C dX8_readItem_59 rfl rfl ?_
      refine j_retz M dX8_readItem_60 rfl ?_
      refine ⟨fun j n h => by rw [hz_47 _ _ (by omega)], Or.inr ⟨rfl, ?_⟩⟩
      first
        | exact Or.inr (itN_begun h3 hbg)
        | exact item_bad hbad (Or.inl ⟨h3, rfl⟩)
        | exact Or.inr ((itN hse hvs hvl h3).trans (if_neg (fun q => hn q.2.2)))
set_option maxHeartbeats 4000000 in
set_option maxRecDepth 100000 in
theorem tX8_readText {g : jG} (hN : 97 ≤ gN g) {σ : Sg} {tx : Nat → Int32} {len : Nat} (hl : σ 84 1 = nI len) (hlen : len ≤ 200) (ht : ∀ k, k < len → σ 85 k = tx k) : MS g yX8_readText cX8_readText 3 (some .int) rmX8_readText [.ref (gad g (84))] σ (fun r σ' => (∀ j n, ¬ (j = 92 ∨ j = 84 ∧ (n = 2 ∨ 5 ≤ n ∧ n ≤ 7 ∨ n = 16) ∨ j = 86 ∨ j = 87) → σ' j n = σ j n) ∧ r = (rdT tx len len 0 0 (nd0 ndZ)).1 ∧ (r = -4 → RdI σ' (rdT tx len len 0 0 (nd0 ndZ)).2)) := by
  refine MJ_of (by decide) (Nat.le_of_ble_eq_true rfl) (List.forall_mem_cons.mpr ⟨rfl, fun _ h => absurd h List.not_mem_nil⟩) ?_
  intro κ M
  have C := M.1
  show J g κ 3 0 [some (.ref (gad g (84))), none, none] [] σ
  have lp : ∀ (k s : Nat) (a : ND) (σ1 : Sg), len - s = k → s ≤ len → NOk a → (∀ j n, ¬ (j = 92 ∨ j = 84 ∧ (n = 2 ∨ 5 ≤ n ∧ n ≤ 7 ∨ n = 16) ∨ j = 86 ∨ j = 87) → σ1 j n = σ j n) → σ1 84 2 = nI s → RdI σ1 a → σ1 84 16 = bI (bgn a) → rdT tx len len 0 0 (nd0 ndZ) = rdT tx len (len - s) s s a → J g κ 3 9 [some (.ref (gad g (84))), none, none] [] σ1 := by
    intro k
    induction k using Nat.strongRecOn with
    | _ k ih =>
      intro s a σ1 hk hs hO hf h2 hR h16 hrd
      refine j_aload_n C dX8_readText_9 rfl rfl ?_
      refine j_get C flX8_90 dX8_readText_10 (Nat.lt_of_lt_of_le (by decide) hN) rfl rfl ?_
      refine j_top (h2) ?_
      refine j_aload_n C dX8_readText_13 rfl rfl ?_
      refine j_get C flX8_93 dX8_readText_14 (Nat.lt_of_lt_of_le (by decide) hN) rfl rfl ?_
      refine j_top ((hf _ _ (by omega)).trans hl) ?_
      refine j_icmpn_ge (tgt := 58) C dX8_readText_17 rfl (by omega) (by omega) (fun h17 => ?_) (fun h17 => ?_)
      · refine j_bipush (v := -4) C dX8_readText_58 rfl ?_
        refine j_ret M dX8_readText_60 ?_
        have es : s = len := by omega
        have e0 : rdT tx len len 0 0 (nd0 ndZ) = (-4, a) := by rw [hrd, es, Nat.sub_self, rdT, if_neg (Nat.lt_irrefl _)]
        rw [e0]
        exact ⟨hf, rfl, fun _ => hR⟩
      · obtain ⟨e, hE⟩ := sem_ex tx len (show s + 1 ≤ len by omega)
        refine j_aload_n C dX8_readText_20 rfl rfl ?_
        refine j_get C flX8_90 dX8_readText_21 (Nat.lt_of_lt_of_le (by decide) hN) rfl rfl ?_
        refine j_top (h2) ?_
        refine j_istore_n (L' := [some (.ref (gad g (84))), some (.int (nI (s))), none]) C dX8_readText_24 rfl (by decide) rfl ?_
        refine j_aload_n C dX8_readText_25 rfl rfl ?_
        refine j_get C flX8_7 dX8_readText_26 (Nat.lt_of_lt_of_le (by decide) hN) rfl rfl ?_
        refine j_aload_n C dX8_readText_29 rfl rfl ?_
        refine j_get C flX8_90 dX8_readText_30 (Nat.lt_of_lt_of_le (by decide) hN) rfl rfl ?_
        refine j_top (h2) ?_
        refine j_iald C dX8_readText_33 (Nat.lt_of_lt_of_le (by decide) hN) (fun _ => rfl) (by decide) (by omega) ?_
        refine j_top ((hf _ _ (by omega)).trans (ht s (by omega))) ?_
        refine j_istore_n (L' := [some (.ref (gad g (84))), some (.int (nI (s))), some (.int (tx s))]) C dX8_readText_34 rfl (by decide) rfl ?_
        refine j_aload_n C dX8_readText_35 rfl rfl ?_
        refine j_dup C dX8_readText_36 rfl ?_
        refine j_get C flX8_90 dX8_readText_37 (Nat.lt_of_lt_of_le (by decide) hN) rfl rfl ?_
        refine j_top (h2) ?_
        refine j_iconst (v := nI 1) C dX8_readText_40 rfl ?_
        refine j_iadd C dX8_readText_41 ?_
        refine j_top (nI_add _ _) ?_
        refine j_put' C fpX8_90 dX8_readText_42 (Nat.lt_of_lt_of_le (by decide) hN) (fun _ => rfl) rfl (Nat.le_of_ble_eq_true rfl) rfl rfl (fun τ1 hz_2 hw_3 => ?_)
        refine j_aload_n C dX8_readText_45 rfl rfl ?_
        refine j_iload_n C dX8_readText_46 rfl rfl ?_
        refine j_calli (As := [.int (tx s)]) (rest := []) C (tX8_readItem hN (tx := tx) (len := len) (by rw [hz_2 _ _ (by omega), hf _ _ (by omega)]; exact hl) hlen (fun k hk => by rw [hz_2 _ _ (by omega), hf _ _ (by omega)]; exact ht k hk) (s := s) (e := e) (a := a) hw_3 hE (hR.kept (fun j n h => by rw [hz_2 _ _ (by omega)])) (by rw [hz_2 _ _ (by omega)]; exact h16) hO.1 hO.2.1 hO.2.2.1 hO.2.2.2.1) cdX8_readItem mlX8_114 dX8_readText_47 (by decide) (by decide) (Nat.lt_of_lt_of_le (by decide) hN) rfl rfl rfl rfl rfl (Nat.le_of_ble_eq_true rfl) (fun rr_5 τ4 hp_6 => ?_)
        obtain ⟨hif, ⟨rfl, hel, b, hit, hRb, hb16, hb2⟩ | ⟨rfl, hno⟩⟩ := hp_6
        · refine j_ifn_ne (tgt := 55) C dX8_readText_50 rfl (by omega) (fun _ => ?_) (fun h => absurd h (by decide))
          refine j_goto (tgt := 9) C dX8_readText_55 rfl ?_
          refine J_clr 1 (L' := [some (.ref (gad g (84))), none, some (.int (tx s))]) rfl ?_
          refine J_clr 2 (L' := [some (.ref (gad g (84))), none, none]) rfl ?_
          have h59 : ¬ tx s = nI 59 := fun q => by
            rw [item_other (by rw [q]; decide) (by rw [q]; decide) (by rw [q]; decide)] at hit
            cases hit
          exact ih (len - (e + 1)) (by have := hE.1; omega) (e + 1) b τ4 rfl (by omega) (item_ok hit hO) (fun j n h => by rw [hif _ _ (by omega), hz_2 _ _ (by omega)]; exact hf j n h) hb2 hRb hb16 (by rw [hrd, rdT_on (by omega) h59 hE hel hit])
        · refine j_ifn_ne (tgt := 55) C dX8_readText_50 rfl (by omega) (fun h => absurd h (by decide)) (fun _ => ?_)
          refine j_iload_n C dX8_readText_53 rfl rfl ?_
          refine j_ret M dX8_readText_54 ?_
          have e0 : rdT tx len len 0 0 (nd0 ndZ) = (nI s, a) := by
            rw [hrd]
            by_cases h59 : tx s = nI 59
            · exact rdT_semi (by omega) h59
            · exact rdT_stop (by omega) h59 hE hno
          rw [e0]
          exact ⟨fun j n h => by rw [hif _ _ (by omega), hz_2 _ _ (by omega)]; exact hf j n h, rfl, fun q => absurd q (nI_neg (by omega) (by decide))⟩
  refine j_aload_n C dX8_readText_0 rfl rfl ?_
  refine j_callv (As := []) (rest := []) C (tX8_beginRead hN ndZ) cdX8_beginRead mlX8_46 dX8_readText_1 (by decide) (by decide) (Nat.lt_of_lt_of_le (by decide) hN) rfl rfl rfl rfl rfl (Nat.le_of_ble_eq_true rfl) (fun τ1 hp_3 => ?_)
  obtain ⟨hbf, hRb, hb16⟩ := hp_3
  refine j_aload_n C dX8_readText_4 rfl rfl ?_
  refine j_iconst (v := nI 0) C dX8_readText_5 rfl ?_
  refine j_put' C fpX8_90 dX8_readText_6 (Nat.lt_of_lt_of_le (by decide) hN) (fun _ => rfl) rfl (Nat.le_of_ble_eq_true rfl) rfl rfl (fun τ4 hz_5 hw_6 => ?_)
  exact lp (len - 0) 0 (nd0 ndZ) τ4 rfl (by omega) nd0_ok (fun j n h => by rw [hz_5 _ _ (by omega), hbf _ _ (by omega)]) hw_6 (hRb.kept (fun j n h => by rw [hz_5 _ _ (by omega)])) (by rw [hz_5 _ _ (by omega)]; exact hb16) rfl
set_option maxHeartbeats 4000000 in
set_option maxRecDepth 100000 in
theorem tX8_takeRead {g : jG} (hN : 97 ≤ gN g) {σ : Sg} {a : ND} (hR : RdI σ a) (hO : NOk a) : MS g yX8_takeRead cX8_takeRead 2 none rmX8_takeRead [.ref (gad g (84))] σ (fun r σ' => (∀ j n, ¬ (j = 88 ∨ j = 89 ∨ j = 90 ∨ 93 ≤ j ∧ j ≤ 96 ∨ j = 84 ∧ (10 ≤ n ∧ n ≤ 12 ∨ n = 15 ∨ n = 22)) → σ' j n = σ j n) ∧ RNet σ' a ∧ RS1 σ' 90 0 (nM a) (newS a) ∧ σ' 84 15 = nI 0) := by
  refine MJ_of (by decide) (Nat.le_of_ble_eq_true rfl) (List.forall_mem_cons.mpr ⟨rfl, fun _ h => absurd h List.not_mem_nil⟩) ?_
  intro κ M
  have C := M.1
  show J g κ 2 0 [some (.ref (gad g (84))), none] [] σ
  have hn7 := hO.2.1
  have hm12 := hO.2.2.1
  have hd6 := hO.2.2.2.1
  have hd6 := hO.2.2.2.1
  have lp3 : ∀ (k i : Nat) (σ1 : Sg), 12 - i = k → i ≤ 12 → (∀ j n, ¬ (j = 88 ∨ j = 89 ∨ j = 90 ∨ 93 ≤ j ∧ j ≤ 96 ∨ j = 84 ∧ (10 ≤ n ∧ n ≤ 12 ∨ n = 15 ∨ n = 22)) → σ1 j n = σ j n) → RNet σ1 a → (∀ l, l < nM a → σ1 88 (4 * l + 3) = nI (nTw a l)) → (∀ l, l < i → l < nM a → σ1 90 l = nI (nTw a l)) → J g κ 2 78 [some (.ref (gad g (84))), some (.int (nI (i)))] [] σ1 := by
    intro k
    induction k using Nat.strongRecOn with
    | _ k ih =>
      intro i σ1 hk hi hf hIx htw hnw
      refine j_iload_n C dX8_takeRead_78 rfl rfl ?_
      refine j_bipush (v := nI 12) C dX8_takeRead_79 rfl ?_
      refine j_icmpn_ge (tgt := 118) C dX8_takeRead_81 rfl (by omega) (by omega) (fun h81 => ?_) (fun h81 => ?_)
      · refine j_aload_n C dX8_takeRead_118 rfl rfl ?_
        refine j_get C flX8_25 dX8_takeRead_119 (Nat.lt_of_lt_of_le (by decide) hN) rfl rfl ?_
        refine j_bipush (v := nI 12) C dX8_takeRead_122 rfl ?_
        refine j_iconst (v := nI 1) C dX8_takeRead_124 rfl ?_
        refine j_aload_n C dX8_takeRead_125 rfl rfl ?_
        refine j_get C flX8_77 dX8_takeRead_126 (Nat.lt_of_lt_of_le (by decide) hN) rfl rfl ?_
        refine j_top (hIx.1.2.1) ?_
        refine j_ishl C dX8_takeRead_129 ?_
        refine j_top (bit_sh (by omega)) ?_
        refine j_iconst (v := nI 1) C dX8_takeRead_130 rfl ?_
        refine j_isub C dX8_takeRead_131 ?_
        refine j_top ((pk_sub (Nat.one_le_two_pow)).trans (congrArg nI (show 2 ^ nM a - 1 = ub (fun _ => true) (nM a) by have := ub_true (nM a); omega))) ?_
        refine j_iast' C dX8_takeRead_132 (Nat.lt_of_lt_of_le (by decide) hN) (fun _ => rfl) (by decide) (by omega) (fun τ1 hz_2 hw_3 => ?_)
        refine j_aload_n C dX8_takeRead_133 rfl rfl ?_
        refine j_get C flX8_25 dX8_takeRead_134 (Nat.lt_of_lt_of_le (by decide) hN) rfl rfl ?_
        refine j_bipush (v := nI 14) C dX8_takeRead_137 rfl ?_
        refine j_iconst (v := nI 0) C dX8_takeRead_139 rfl ?_
        refine j_iast' C dX8_takeRead_140 (Nat.lt_of_lt_of_le (by decide) hN) (fun _ => rfl) (by decide) (by omega) (fun τ4 hz_5 hw_6 => ?_)
        have hIy : RNet τ4 a := hIx.kept (fun j n h => by rw [hz_5 _ _ (by omega), hz_2 _ _ (by omega)])
        have hWy : RW τ4 (nM a) (nTw a) (fun _ => true) := ⟨fun k hk => by rw [hz_5 _ _ (by omega), hz_2 _ _ (by omega)]; exact hnw k (by omega) hk, by rw [hz_5 _ _ (by omega)]; exact hw_3⟩
        have hwy : WOk (nM a) (nTw a) := fun l hl => (hO.2.2.2.2.1 l hl).2.2.2.2.2
        refine j_aload_n C dX8_takeRead_141 rfl rfl ?_
        refine j_get C flX8_25 dX8_takeRead_142 (Nat.lt_of_lt_of_le (by decide) hN) rfl rfl ?_
        refine j_bipush (v := nI 13) C dX8_takeRead_145 rfl ?_
        refine j_aload_n C dX8_takeRead_147 rfl rfl ?_
        refine j_calli (As := []) (rest := [.int (nI (13)), .ref (gad g (90))]) C (tX8_costNow hN (a := a) (w := (nTw a)) (u := (fun _ => true)) hIy hO hWy hwy) cdX8_costNow mlX8_83 dX8_takeRead_148 (by decide) (by decide) (Nat.lt_of_lt_of_le (by decide) hN) rfl rfl rfl rfl rfl (Nat.le_of_ble_eq_true rfl) (fun rr_8 τ7 hp_9 => ?_)
        have hr_hp_9 := hp_9.2
        subst hr_hp_9
        refine j_iast' C dX8_takeRead_151 (Nat.lt_of_lt_of_le (by decide) hN) (fun _ => rfl) (by decide) (by omega) (fun τ10 hz_11 hw_12 => ?_)
        refine j_aload_n C dX8_takeRead_152 rfl rfl ?_
        refine j_iconst (v := nI 0) C dX8_takeRead_153 rfl ?_
        refine j_put' C fpX8_87 dX8_takeRead_154 (Nat.lt_of_lt_of_le (by decide) hN) (fun _ => rfl) rfl (Nat.le_of_ble_eq_true rfl) rfl rfl (fun τ13 hz_14 hw_15 => ?_)
        refine j_retv M dX8_takeRead_157 ?_
        refine ⟨fun j n h => by rw [hz_14 _ _ (by omega), hz_11 _ _ (by omega), hp_9.1 _ _ (by omega), hz_5 _ _ (by omega), hz_2 _ _ (by omega)]; exact hf j n h, hIx.kept (fun j n h => by rw [hz_14 _ _ (by omega), hz_11 _ _ (by omega), hp_9.1 _ _ (by omega), hz_5 _ _ (by omega), hz_2 _ _ (by omega)]), RS1_mk (hWy.kept hm12 (fun n h => by rw [hz_14 _ _ (by omega), hz_11 _ _ (by omega), hp_9.1 _ _ (by omega)])) (by rw [hz_14 _ _ (by omega)]; exact hw_12) ⟨by rw [hz_14 _ _ (by omega), hz_11 _ _ (by omega), hp_9.1 _ _ (by omega)]; exact hw_6, fun k hk => absurd hk (Nat.not_lt_zero _)⟩, hw_15⟩
      · refine j_aload_n C dX8_takeRead_84 rfl rfl ?_
        refine j_get C flX8_25 dX8_takeRead_85 (Nat.lt_of_lt_of_le (by decide) hN) rfl rfl ?_
        refine j_iload_n C dX8_takeRead_88 rfl rfl ?_
        refine j_iload_n C dX8_takeRead_89 rfl rfl ?_
        refine j_aload_n C dX8_takeRead_90 rfl rfl ?_
        refine j_get C flX8_77 dX8_takeRead_91 (Nat.lt_of_lt_of_le (by decide) hN) rfl rfl ?_
        refine j_top (hIx.1.2.1) ?_
        refine j_icmpn_ge (tgt := 110) C dX8_takeRead_94 rfl (by omega) (by omega) (fun h94 => ?_) (fun h94 => ?_)
        · refine j_iconst (v := nI 0) C dX8_takeRead_110 rfl ?_
          refine j_iast' C dX8_takeRead_111 (Nat.lt_of_lt_of_le (by decide) hN) (fun _ => rfl) (by decide) (by omega) (fun τ16 hz_17 hw_18 => ?_)
          refine j_iinc (L' := [some (.ref (gad g (84))), some (.int (nI (i + 1)))]) C dX8_takeRead_112 rfl (nI_inc _) (by decide) rfl ?_
          refine j_goto (tgt := 78) C dX8_takeRead_115 rfl ?_
          refine ih (12 - (i + 1)) (by omega) (i + 1) τ16 rfl (by omega) (fun j n h => by rw [hz_17 _ _ (by omega)]; exact hf j n h) (hIx.kept (fun j n h => by rw [hz_17 _ _ (by omega)])) (fun l hl => by rw [hz_17 _ _ (by omega)]; exact htw l hl) (fun l hl hl2 => ?_)
          by_cases q : l = i
          · subst q; first | exact hw_18 | (exfalso; omega)
          · rw [hz_17 _ _ (by omega)]; exact hnw l (by omega) hl2
        · refine j_aload_n C dX8_takeRead_97 rfl rfl ?_
          refine j_get C flX8_19 dX8_takeRead_98 (Nat.lt_of_lt_of_le (by decide) hN) rfl rfl ?_
          refine j_iconst (v := nI 4) C dX8_takeRead_101 rfl ?_
          refine j_iload_n C dX8_takeRead_102 rfl rfl ?_
          refine j_imul C dX8_takeRead_103 ?_
          refine j_top (pk_mul _ _) ?_
          refine j_iconst (v := nI 3) C dX8_takeRead_104 rfl ?_
          refine j_iadd C dX8_takeRead_105 ?_
          refine j_top (nI_add _ _) ?_
          refine j_iald C dX8_takeRead_106 (Nat.lt_of_lt_of_le (by decide) hN) (fun _ => rfl) (by decide) (by omega) ?_
          refine j_top (htw i (by omega)) ?_
          refine j_goto (tgt := 111) C dX8_takeRead_107 rfl ?_
          refine j_iast' C dX8_takeRead_111 (Nat.lt_of_lt_of_le (by decide) hN) (fun _ => rfl) (by decide) (by omega) (fun τ19 hz_20 hw_21 => ?_)
          refine j_iinc (L' := [some (.ref (gad g (84))), some (.int (nI (i + 1)))]) C dX8_takeRead_112 rfl (nI_inc _) (by decide) rfl ?_
          refine j_goto (tgt := 78) C dX8_takeRead_115 rfl ?_
          refine ih (12 - (i + 1)) (by omega) (i + 1) τ19 rfl (by omega) (fun j n h => by rw [hz_20 _ _ (by omega)]; exact hf j n h) (hIx.kept (fun j n h => by rw [hz_20 _ _ (by omega)])) (fun l hl => by rw [hz_20 _ _ (by omega)]; exact htw l hl) (fun l hl hl2 => ?_)
          by_cases q : l = i
          · subst q; first | exact hw_21 | (exfalso; omega)
          · rw [hz_20 _ _ (by omega)]; exact hnw l (by omega) hl2
  have lp2 : ∀ (k i : Nat) (σ1 : Sg), 18 - i = k → i ≤ 18 → (∀ j n, ¬ (j = 88 ∨ j = 89 ∨ j = 90 ∨ 93 ≤ j ∧ j ≤ 96 ∨ j = 84 ∧ (10 ≤ n ∧ n ≤ 12 ∨ n = 15 ∨ n = 22)) → σ1 j n = σ j n) → (∀ n, n < 48 → σ1 88 n = σ 86 n) → (∀ n, n < i → σ1 89 n = σ 87 n) → J g κ 2 28 [some (.ref (gad g (84))), some (.int (nI (i)))] [] σ1 := by
    intro k
    induction k using Nat.strongRecOn with
    | _ k ih =>
      intro i σ1 hk hi hf h88 h89
      refine j_iload_n C dX8_takeRead_28 rfl rfl ?_
      refine j_bipush (v := nI 18) C dX8_takeRead_29 rfl ?_
      refine j_icmpn_ge (tgt := 52) C dX8_takeRead_31 rfl (by omega) (by omega) (fun h31 => ?_) (fun h31 => ?_)
      · refine j_aload_n C dX8_takeRead_52 rfl rfl ?_
        refine j_aload_n C dX8_takeRead_53 rfl rfl ?_
        refine j_get C flX8_49 dX8_takeRead_54 (Nat.lt_of_lt_of_le (by decide) hN) rfl rfl ?_
        refine j_top ((hf _ _ (by omega)).trans (hR.1.1)) ?_
        refine j_put' C fpX8_74 dX8_takeRead_57 (Nat.lt_of_lt_of_le (by decide) hN) (fun _ => rfl) rfl (Nat.le_of_ble_eq_true rfl) rfl rfl (fun τ1 hz_2 hw_3 => ?_)
        refine j_aload_n C dX8_takeRead_60 rfl rfl ?_
        refine j_aload_n C dX8_takeRead_61 rfl rfl ?_
        refine j_get C flX8_64 dX8_takeRead_62 (Nat.lt_of_lt_of_le (by decide) hN) rfl rfl ?_
        refine j_top ((hz_2 _ _ (by omega)).trans ((hf _ _ (by omega)).trans (hR.1.2.1))) ?_
        refine j_put' C fpX8_77 dX8_takeRead_65 (Nat.lt_of_lt_of_le (by decide) hN) (fun _ => rfl) rfl (Nat.le_of_ble_eq_true rfl) rfl rfl (fun τ4 hz_5 hw_6 => ?_)
        refine j_aload_n C dX8_takeRead_68 rfl rfl ?_
        refine j_aload_n C dX8_takeRead_69 rfl rfl ?_
        refine j_get C flX8_67 dX8_takeRead_70 (Nat.lt_of_lt_of_le (by decide) hN) rfl rfl ?_
        refine j_top ((hz_5 _ _ (by omega)).trans ((hz_2 _ _ (by omega)).trans ((hf _ _ (by omega)).trans (hR.1.2.2)))) ?_
        refine j_put' C fpX8_80 dX8_takeRead_73 (Nat.lt_of_lt_of_le (by decide) hN) (fun _ => rfl) rfl (Nat.le_of_ble_eq_true rfl) rfl rfl (fun τ7 hz_8 hw_9 => ?_)
        refine j_iconst (v := nI 0) C dX8_takeRead_76 rfl ?_
        refine j_istore_n (L' := [some (.ref (gad g (84))), some (.int (nI (0)))]) C dX8_takeRead_77 rfl (by decide) rfl ?_
        refine lp3 (12 - 0) 0 τ7 rfl (by omega) (fun j n h => by rw [hz_8 _ _ (by omega), hz_5 _ _ (by omega), hz_2 _ _ (by omega)]; exact hf j n h) ⟨⟨by rw [hz_8 _ _ (by omega), hz_5 _ _ (by omega)]; exact hw_3, by rw [hz_8 _ _ (by omega)]; exact hw_6, hw_9⟩, fun l hl => ?_, fun d hd => ?_⟩ (fun l hl => ?_) (fun l hl => by omega)
        · obtain ⟨q1, q2, q3, q4⟩ := hR.2.1 l hl
          have hl12 : l < 12 := by omega
          exact ⟨by rw [hz_8 _ _ (by omega), hz_5 _ _ (by omega), hz_2 _ _ (by omega), h88 _ (by omega)]; exact q1, by rw [hz_8 _ _ (by omega), hz_5 _ _ (by omega), hz_2 _ _ (by omega), h88 _ (by omega)]; exact q2, by rw [hz_8 _ _ (by omega), hz_5 _ _ (by omega), hz_2 _ _ (by omega), h88 _ (by omega)]; exact q3⟩
        · obtain ⟨q1, q2, q3⟩ := hR.2.2 d hd
          have hd12 : d < 6 := by omega
          exact ⟨by rw [hz_8 _ _ (by omega), hz_5 _ _ (by omega), hz_2 _ _ (by omega), h89 _ (by omega)]; exact q1, by rw [hz_8 _ _ (by omega), hz_5 _ _ (by omega), hz_2 _ _ (by omega), h89 _ (by omega)]; exact q2, by rw [hz_8 _ _ (by omega), hz_5 _ _ (by omega), hz_2 _ _ (by omega), h89 _ (by omega)]; exact q3⟩
        · obtain ⟨q1, q2, q3, q4⟩ := hR.2.1 l hl
          have hl12 : l < 12 := by omega
          rw [hz_8 _ _ (by omega), hz_5 _ _ (by omega), hz_2 _ _ (by omega), h88 _ (by omega)]; exact q4
      · refine j_aload_n C dX8_takeRead_34 rfl rfl ?_
        refine j_get C flX8_22 dX8_takeRead_35 (Nat.lt_of_lt_of_le (by decide) hN) rfl rfl ?_
        refine j_iload_n C dX8_takeRead_38 rfl rfl ?_
        refine j_aload_n C dX8_takeRead_39 rfl rfl ?_
        refine j_get C flX8_16 dX8_takeRead_40 (Nat.lt_of_lt_of_le (by decide) hN) rfl rfl ?_
        refine j_iload_n C dX8_takeRead_43 rfl rfl ?_
        refine j_iald C dX8_takeRead_44 (Nat.lt_of_lt_of_le (by decide) hN) (fun _ => rfl) (by decide) (by omega) ?_
        refine j_top (hf _ _ (by omega)) ?_
        refine j_iast' C dX8_takeRead_45 (Nat.lt_of_lt_of_le (by decide) hN) (fun _ => rfl) (by decide) (by omega) (fun τ10 hz_11 hw_12 => ?_)
        refine j_iinc (L' := [some (.ref (gad g (84))), some (.int (nI (i + 1)))]) C dX8_takeRead_46 rfl (nI_inc _) (by decide) rfl ?_
        refine j_goto (tgt := 28) C dX8_takeRead_49 rfl ?_
        refine ih (18 - (i + 1)) (by omega) (i + 1) τ10 rfl (by omega) (fun j n h => by rw [hz_11 _ _ (by omega)]; exact hf j n h) (fun n hn => by rw [hz_11 _ _ (by omega)]; exact h88 n hn) (fun n hn => ?_)
        by_cases q : n = i
        · subst q; exact hw_12
        · rw [hz_11 _ _ (by omega)]; exact h89 n (by omega)
  have lp1 : ∀ (k i : Nat) (σ1 : Sg), 48 - i = k → i ≤ 48 → (∀ j n, ¬ (j = 88 ∨ j = 89 ∨ j = 90 ∨ 93 ≤ j ∧ j ≤ 96 ∨ j = 84 ∧ (10 ≤ n ∧ n ≤ 12 ∨ n = 15 ∨ n = 22)) → σ1 j n = σ j n) → (∀ n, n < i → σ1 88 n = σ 86 n) → J g κ 2 2 [some (.ref (gad g (84))), some (.int (nI (i)))] [] σ1 := by
    intro k
    induction k using Nat.strongRecOn with
    | _ k ih =>
      intro i σ1 hk hi hf h88
      refine j_iload_n C dX8_takeRead_2 rfl rfl ?_
      refine j_bipush (v := nI 48) C dX8_takeRead_3 rfl ?_
      refine j_icmpn_ge (tgt := 26) C dX8_takeRead_5 rfl (by omega) (by omega) (fun h5 => ?_) (fun h5 => ?_)
      · refine j_iconst (v := nI 0) C dX8_takeRead_26 rfl ?_
        refine j_istore_n (L' := [some (.ref (gad g (84))), some (.int (nI (0)))]) C dX8_takeRead_27 rfl (by decide) rfl ?_
        exact lp2 (18 - 0) 0 σ1 rfl (by omega) hf (fun n hn => h88 n (by omega)) (fun n hn => by omega)
      · refine j_aload_n C dX8_takeRead_8 rfl rfl ?_
        refine j_get C flX8_19 dX8_takeRead_9 (Nat.lt_of_lt_of_le (by decide) hN) rfl rfl ?_
        refine j_iload_n C dX8_takeRead_12 rfl rfl ?_
        refine j_aload_n C dX8_takeRead_13 rfl rfl ?_
        refine j_get C flX8_13 dX8_takeRead_14 (Nat.lt_of_lt_of_le (by decide) hN) rfl rfl ?_
        refine j_iload_n C dX8_takeRead_17 rfl rfl ?_
        refine j_iald C dX8_takeRead_18 (Nat.lt_of_lt_of_le (by decide) hN) (fun _ => rfl) (by decide) (by omega) ?_
        refine j_top (hf _ _ (by omega)) ?_
        refine j_iast' C dX8_takeRead_19 (Nat.lt_of_lt_of_le (by decide) hN) (fun _ => rfl) (by decide) (by omega) (fun τ1 hz_2 hw_3 => ?_)
        refine j_iinc (L' := [some (.ref (gad g (84))), some (.int (nI (i + 1)))]) C dX8_takeRead_20 rfl (nI_inc _) (by decide) rfl ?_
        refine j_goto (tgt := 2) C dX8_takeRead_23 rfl ?_
        refine ih (48 - (i + 1)) (by omega) (i + 1) τ1 rfl (by omega) (fun j n h => by rw [hz_2 _ _ (by omega)]; exact hf j n h) (fun n hn => ?_)
        by_cases q : n = i
        · subst q; exact hw_3
        · rw [hz_2 _ _ (by omega)]; exact h88 n (by omega)
  refine j_iconst (v := nI 0) C dX8_takeRead_0 rfl ?_
  refine j_istore_n (L' := [some (.ref (gad g (84))), some (.int (nI (0)))]) C dX8_takeRead_1 rfl (by decide) rfl ?_
  exact lp1 (48 - 0) 0 σ rfl (by omega) (fun _ _ _ => rfl) (fun n hn => by omega)
set_option maxHeartbeats 4000000 in
set_option maxRecDepth 100000 in
theorem tX8_write {g : jG} (hN : 97 ≤ gN g) {σ : Sg} {tx : Nat → Int32} {len : Nat} {a : ND} {wt : Nat → Nat} {u : Nat → Bool} {tl : List Int32} {le : Nat} {p : List SD} (hC : RI σ (tx, len, a, (wt, u, tl, le), p)) (hA : AOk (tx, len, a, (wt, u, tl, le), p)) (h1m : 1 ≤ nM a) (h1d : 1 ≤ nD a) (x0 : Int32) : MS g yX8_write cX8_write 2 (some .int) rmX8_write [.ref (gad g (84)), .int (x0)] σ (fun r σ' => r = (abWrite x0 (tx, len, a, (wt, u, tl, le), p)).1 ∧ RI σ' (abWrite x0 (tx, len, a, (wt, u, tl, le), p)).2 ∧ ∀ j n, j < 84 → σ' j n = σ j n) := by
  refine MJ_of (by decide) (Nat.le_of_ble_eq_true rfl) (List.forall_mem_cons.mpr ⟨rfl, List.forall_mem_cons.mpr ⟨rfl, fun _ h => absurd h List.not_mem_nil⟩⟩) ?_
  intro κ M
  have C := M.1
  show J g κ 2 0 [some (.ref (gad g (84))), some (.int (x0))] [] σ
  have hI : RNet σ a := hC.2.1
  have hO : NOk a := hA.1
  have hS : RS1 σ 90 0 (nM a) (wt, u, tl, le) := hC.2.2.1
  have hW : RW σ (nM a) wt u := hS.w
  have hw : WOk (nM a) wt := hA.2.1.1
  have htl6 : tl.length ≤ 6 := hA.2.1.2.1
  have hle31 : le < 2 ^ 31 := hA.2.1.2.2
  have hlen : len ≤ 200 := hC.1.2.1
  have hCl : σ 84 1 = nI len := hC.1.1
  have hCt : ∀ k, k < len → σ 85 k = tx k := hC.1.2.2
  have hn2 := hO.1
  have hn7 := hO.2.1
  have hm12 := hO.2.2.1
  have hd6 := hO.2.2.2.1
  have hle : σ 90 13 = nI le := hS.2.2.1
  have hT : RT σ tl := ⟨hS.2.2.2.1, fun k hk => hS.2.2.2.2 k hk⟩
  have hPl : σ 84 15 = nI p.length := hC.2.2.2.1
  have hp6 : p.length ≤ 6 := hA.2.2.2.1
  refine j_iload_n C dX8_write_0 rfl rfl ?_
  refine j_bipush (v := nI 32) C dX8_write_1 rfl ?_
  refine j_bipush (v := nI 126) C dX8_write_3 rfl ?_
  refine j_calls (As := [.int (x0), .int (nI (32)), .int (nI (126))]) (rest := []) C (tX8_in hN _ (lo := 32) (hi := 126) (by omega) (by omega)) cdX8_in msX8_96 dX8_write_5 (by decide) (by decide) rfl rfl (Nat.le_of_ble_eq_true rfl) (fun rr_2 τ1 hp_3 => ?_)
  obtain ⟨hs, hc⟩ := hp_3
  replace hs := hs.symm
  subst hs
  rcases hc with ⟨rfl, x, hx1, hx2, rfl⟩ | ⟨rfl, hRno⟩
  · refine j_ifn_ne (tgt := 13) C dX8_write_8 rfl (by omega) (fun _ => ?_) (fun h => absurd h (by decide))
    refine j_aload_n C dX8_write_13 rfl rfl ?_
    refine j_get C flX8_93 dX8_write_14 (Nat.lt_of_lt_of_le (by decide) hN) rfl rfl ?_
    refine j_top (hCl) ?_
    refine j_sipush (v := nI 200) C dX8_write_17 rfl ?_
    refine j_icmpn_ne (tgt := 26) C dX8_write_20 rfl (by omega) (by omega) (fun h20 => ?_) (fun h20 => ?_)
    · refine j_aload_n C dX8_write_26 rfl rfl ?_
      refine j_get C flX8_7 dX8_write_27 (Nat.lt_of_lt_of_le (by decide) hN) rfl rfl ?_
      refine j_aload_n C dX8_write_30 rfl rfl ?_
      refine j_get C flX8_93 dX8_write_31 (Nat.lt_of_lt_of_le (by decide) hN) rfl rfl ?_
      refine j_top (hCl) ?_
      refine j_iload_n C dX8_write_34 rfl rfl ?_
      refine j_iast' C dX8_write_35 (Nat.lt_of_lt_of_le (by decide) hN) (fun _ => rfl) (by decide) (by omega) (fun τ4 hz_5 hw_6 => ?_)
      refine j_aload_n C dX8_write_36 rfl rfl ?_
      refine j_dup C dX8_write_37 rfl ?_
      refine j_get C flX8_93 dX8_write_38 (Nat.lt_of_lt_of_le (by decide) hN) rfl rfl ?_
      refine j_top ((hz_5 _ _ (by omega)).trans (hCl)) ?_
      refine j_iconst (v := nI 1) C dX8_write_41 rfl ?_
      refine j_iadd C dX8_write_42 ?_
      refine j_top (nI_add _ _) ?_
      refine j_put' C fpX8_93 dX8_write_43 (Nat.lt_of_lt_of_le (by decide) hN) (fun _ => rfl) rfl (Nat.le_of_ble_eq_true rfl) rfl rfl (fun τ7 hz_8 hw_9 => ?_)
      refine j_aload_n C dX8_write_46 rfl rfl ?_
      refine j_get C flX8_93 dX8_write_47 (Nat.lt_of_lt_of_le (by decide) hN) rfl rfl ?_
      refine j_top (hw_9) ?_
      refine j_ret M dX8_write_50 ?_
      rw [abWrite, pIf_t ⟨x, hx1, hx2, rfl⟩]
      dsimp only
      rw [if_pos (by omega)]
      refine ⟨rfl, ⟨⟨hw_9, by show len + 1 ≤ 200; omega, fun k hk => ?_⟩, hI.kept (fun j n h => by rw [hz_8 _ _ (by omega), hz_5 _ _ (by omega)]), hS.kept hm12 htl6 (fun n _ _ => by rw [hz_8 _ _ (by omega), hz_5 _ _ (by omega)]), by rw [hz_8 _ _ (by omega), hz_5 _ _ (by omega)]; exact hPl, fun k s hs => (hC.2.2.2.2 k s hs).kept hm12 (hA.2.2.2.2 s (List.mem_of_getElem? hs)).2.1 (fun n _ _ => by rw [hz_8 _ _ (by omega), hz_5 _ _ (by omega)])⟩, fun j n h => by rw [hz_8 _ _ (by omega), hz_5 _ _ (by omega)]⟩
      have hk2 : k < len + 1 := hk
      show _ = upd tx len (nI x) k
      by_cases e : k = len
      · subst e
        rw [hz_8 _ _ (by omega), hw_6]
        exact (if_pos rfl).symm
      · rw [hz_8 _ _ (by omega), hz_5 _ _ (by omega)]
        exact (hC.1.2.2 k (by show k < len; omega)).trans (if_neg e).symm
    · refine j_bipush (v := -3) C dX8_write_23 rfl ?_
      refine j_ret M dX8_write_25 ?_
      rw [abWrite, pIf_t ⟨x, hx1, hx2, rfl⟩]
      dsimp only
      rw [if_neg (by omega)]
      exact ⟨rfl, hC, fun _ _ _ => rfl⟩
  · refine j_ifn_ne (tgt := 13) C dX8_write_8 rfl (by omega) (fun h => absurd h (by decide)) (fun _ => ?_)
    refine j_iconst (v := -1) C dX8_write_11 rfl ?_
    refine j_ret M dX8_write_12 ?_
    rw [abWrite, pIf_f (by first | exact hRno | exact fun q => hno q.1 | exact fun q => hRno q.2 | exact fun q => hno2 q.2)]
    exact ⟨rfl, hC, fun _ _ _ => rfl⟩
set_option maxHeartbeats 4000000 in
set_option maxRecDepth 100000 in
theorem tX8_wipe {g : jG} (hN : 97 ≤ gN g) {σ : Sg} {tx : Nat → Int32} {len : Nat} {a : ND} {wt : Nat → Nat} {u : Nat → Bool} {tl : List Int32} {le : Nat} {p : List SD} (hC : RI σ (tx, len, a, (wt, u, tl, le), p)) (hA : AOk (tx, len, a, (wt, u, tl, le), p)) (h1m : 1 ≤ nM a) (h1d : 1 ≤ nD a) : MS g yX8_wipe cX8_wipe 2 (some .int) rmX8_wipe [.ref (gad g (84))] σ (fun r σ' => r = (abWipe (tx, len, a, (wt, u, tl, le), p)).1 ∧ RI σ' (abWipe (tx, len, a, (wt, u, tl, le), p)).2 ∧ ∀ j n, j < 84 → σ' j n = σ j n) := by
  refine MJ_of (by decide) (Nat.le_of_ble_eq_true rfl) (List.forall_mem_cons.mpr ⟨rfl, fun _ h => absurd h List.not_mem_nil⟩) ?_
  intro κ M
  have C := M.1
  show J g κ 2 0 [some (.ref (gad g (84))), none] [] σ
  have hI : RNet σ a := hC.2.1
  have hO : NOk a := hA.1
  have hS : RS1 σ 90 0 (nM a) (wt, u, tl, le) := hC.2.2.1
  have hW : RW σ (nM a) wt u := hS.w
  have hw : WOk (nM a) wt := hA.2.1.1
  have htl6 : tl.length ≤ 6 := hA.2.1.2.1
  have hle31 : le < 2 ^ 31 := hA.2.1.2.2
  have hlen : len ≤ 200 := hC.1.2.1
  have hCl : σ 84 1 = nI len := hC.1.1
  have hCt : ∀ k, k < len → σ 85 k = tx k := hC.1.2.2
  have hn2 := hO.1
  have hn7 := hO.2.1
  have hm12 := hO.2.2.1
  have hd6 := hO.2.2.2.1
  have hle : σ 90 13 = nI le := hS.2.2.1
  have hT : RT σ tl := ⟨hS.2.2.2.1, fun k hk => hS.2.2.2.2 k hk⟩
  have hPl : σ 84 15 = nI p.length := hC.2.2.2.1
  have hp6 : p.length ≤ 6 := hA.2.2.2.1
  refine j_aload_n C dX8_wipe_0 rfl rfl ?_
  refine j_get C flX8_93 dX8_wipe_1 (Nat.lt_of_lt_of_le (by decide) hN) rfl rfl ?_
  refine j_top (hCl) ?_
  refine j_istore_n (L' := [some (.ref (gad g (84))), some (.int (nI (len)))]) C dX8_wipe_4 rfl (by decide) rfl ?_
  refine j_aload_n C dX8_wipe_5 rfl rfl ?_
  refine j_iconst (v := nI 0) C dX8_wipe_6 rfl ?_
  refine j_put' C fpX8_93 dX8_wipe_7 (Nat.lt_of_lt_of_le (by decide) hN) (fun _ => rfl) rfl (Nat.le_of_ble_eq_true rfl) rfl rfl (fun τ1 hz_2 hw_3 => ?_)
  refine j_iload_n C dX8_wipe_10 rfl rfl ?_
  refine j_ret M dX8_wipe_11 ?_
  rw [abWipe]
  refine ⟨rfl, ⟨⟨hw_3, Nat.zero_le _, fun k hk => absurd hk (Nat.not_lt_zero _)⟩, hI.kept (fun j n h => by rw [hz_2 _ _ (by omega)]), hS.kept hm12 htl6 (fun n _ _ => by rw [hz_2 _ _ (by omega)]), by rw [hz_2 _ _ (by omega)]; exact hPl, fun k s hs => (hC.2.2.2.2 k s hs).kept hm12 (hA.2.2.2.2 s (List.mem_of_getElem? hs)).2.1 (fun n _ _ => by rw [hz_2 _ _ (by omega)])⟩, fun j n h => by rw [hz_2 _ _ (by omega)]⟩
set_option maxHeartbeats 4000000 in
set_option maxRecDepth 100000 in
theorem tX8_fault {g : jG} (hN : 97 ≤ gN g) {σ : Sg} {tx : Nat → Int32} {len : Nat} {a : ND} {wt : Nat → Nat} {u : Nat → Bool} {tl : List Int32} {le : Nat} {p : List SD} (hC : RI σ (tx, len, a, (wt, u, tl, le), p)) (hA : AOk (tx, len, a, (wt, u, tl, le), p)) (h1m : 1 ≤ nM a) (h1d : 1 ≤ nD a) : MS g yX8_fault cX8_fault 1 (some .int) rmX8_fault [.ref (gad g (84))] σ (fun r σ' => r = (abFault (tx, len, a, (wt, u, tl, le), p)).1 ∧ RI σ' (abFault (tx, len, a, (wt, u, tl, le), p)).2 ∧ ∀ j n, j < 84 → σ' j n = σ j n) := by
  refine MJ_of (by decide) (Nat.le_of_ble_eq_true rfl) (List.forall_mem_cons.mpr ⟨rfl, fun _ h => absurd h List.not_mem_nil⟩) ?_
  intro κ M
  have C := M.1
  show J g κ 1 0 [some (.ref (gad g (84)))] [] σ
  have hI : RNet σ a := hC.2.1
  have hO : NOk a := hA.1
  have hS : RS1 σ 90 0 (nM a) (wt, u, tl, le) := hC.2.2.1
  have hW : RW σ (nM a) wt u := hS.w
  have hw : WOk (nM a) wt := hA.2.1.1
  have htl6 : tl.length ≤ 6 := hA.2.1.2.1
  have hle31 : le < 2 ^ 31 := hA.2.1.2.2
  have hlen : len ≤ 200 := hC.1.2.1
  have hCl : σ 84 1 = nI len := hC.1.1
  have hCt : ∀ k, k < len → σ 85 k = tx k := hC.1.2.2
  have hn2 := hO.1
  have hn7 := hO.2.1
  have hm12 := hO.2.2.1
  have hd6 := hO.2.2.2.1
  have hle : σ 90 13 = nI le := hS.2.2.1
  have hT : RT σ tl := ⟨hS.2.2.2.1, fun k hk => hS.2.2.2.2 k hk⟩
  have hPl : σ 84 15 = nI p.length := hC.2.2.2.1
  have hp6 : p.length ≤ 6 := hA.2.2.2.1
  refine j_aload_n C dX8_fault_0 rfl rfl ?_
  refine j_calli (As := []) (rest := []) C (tX8_readText hN (tx := tx) (len := len) hC.1.1 hlen hC.1.2.2) cdX8_readText mlX8_117 dX8_fault_1 (by decide) (by decide) (Nat.lt_of_lt_of_le (by decide) hN) rfl rfl rfl rfl rfl (Nat.le_of_ble_eq_true rfl) (fun rr_2 τ1 hp_3 => ?_)
  obtain ⟨hrf, hrr, hrd⟩ := hp_3
  refine j_ret M dX8_fault_4 ?_
  exact ⟨hrr, hC.kept hA (fun j n h => hrf j n (by omega)), fun j n h => hrf j n (by omega)⟩
set_option maxHeartbeats 4000000 in
set_option maxRecDepth 100000 in
theorem tX8_lay {g : jG} (hN : 97 ≤ gN g) {σ : Sg} {tx : Nat → Int32} {len : Nat} {a : ND} {wt : Nat → Nat} {u : Nat → Bool} {tl : List Int32} {le : Nat} {p : List SD} (hC : RI σ (tx, len, a, (wt, u, tl, le), p)) (hA : AOk (tx, len, a, (wt, u, tl, le), p)) (h1m : 1 ≤ nM a) (h1d : 1 ≤ nD a) : MS g yX8_lay cX8_lay 1 (some .int) rmX8_lay [.ref (gad g (84))] σ (fun r σ' => r = (abLay (tx, len, a, (wt, u, tl, le), p)).1 ∧ RI σ' (abLay (tx, len, a, (wt, u, tl, le), p)).2 ∧ ∀ j n, j < 84 → σ' j n = σ j n) := by
  refine MJ_of (by decide) (Nat.le_of_ble_eq_true rfl) (List.forall_mem_cons.mpr ⟨rfl, fun _ h => absurd h List.not_mem_nil⟩) ?_
  intro κ M
  have C := M.1
  show J g κ 1 0 [some (.ref (gad g (84)))] [] σ
  have hI : RNet σ a := hC.2.1
  have hO : NOk a := hA.1
  have hS : RS1 σ 90 0 (nM a) (wt, u, tl, le) := hC.2.2.1
  have hW : RW σ (nM a) wt u := hS.w
  have hw : WOk (nM a) wt := hA.2.1.1
  have htl6 : tl.length ≤ 6 := hA.2.1.2.1
  have hle31 : le < 2 ^ 31 := hA.2.1.2.2
  have hlen : len ≤ 200 := hC.1.2.1
  have hCl : σ 84 1 = nI len := hC.1.1
  have hCt : ∀ k, k < len → σ 85 k = tx k := hC.1.2.2
  have hn2 := hO.1
  have hn7 := hO.2.1
  have hm12 := hO.2.2.1
  have hd6 := hO.2.2.2.1
  have hle : σ 90 13 = nI le := hS.2.2.1
  have hT : RT σ tl := ⟨hS.2.2.2.1, fun k hk => hS.2.2.2.2 k hk⟩
  have hPl : σ 84 15 = nI p.length := hC.2.2.2.1
  have hp6 : p.length ≤ 6 := hA.2.2.2.1
  have hOb : NOk (rdT tx len len 0 0 (nd0 ndZ)).2 := rdT_ok _ _ _ _ nd0_ok
  have hbm := hOb.2.2.1
  have hbd := hOb.2.2.2.1
  refine j_aload_n C dX8_lay_0 rfl rfl ?_
  refine j_calli (As := []) (rest := []) C (tX8_readText hN (tx := tx) (len := len) hC.1.1 hlen hC.1.2.2) cdX8_readText mlX8_117 dX8_lay_1 (by decide) (by decide) (Nat.lt_of_lt_of_le (by decide) hN) rfl rfl rfl rfl rfl (Nat.le_of_ble_eq_true rfl) (fun rr_2 τ1 hp_3 => ?_)
  obtain ⟨hrf, hrr, hrd⟩ := hp_3
  refine j_bipush (v := -4) C dX8_lay_4 rfl ?_
  refine j_icmp_ne (tgt := 23) C dX8_lay_6 rfl (fun h6 => ?_) (fun h6 => ?_)
  · refine j_bipush (v := -2) C dX8_lay_23 rfl ?_
    refine j_ret M dX8_lay_25 ?_
    have e0 : abLay (tx, len, a, (wt, u, tl, le), p) = (-2, (tx, len, a, (wt, u, tl, le), p)) := by
      unfold abLay
      exact if_neg (fun q => by
        have q1 : (rdT tx len len 0 0 (nd0 ndZ)).1 = -4 := q.1
        have q2 : nM (rdT tx len len 0 0 (nd0 ndZ)).2 ≠ 0 := q.2.1
        have q3 : nD (rdT tx len len 0 0 (nd0 ndZ)).2 ≠ 0 := q.2.2
        first | exact h6 (hrr.trans q1) | omega)
    rw [e0]
    exact ⟨rfl, hC.kept hA (fun j n h => hrf j n (by omega)), fun j n h => hrf j n (by omega)⟩
  · have hRb := hrd h6
    replace hrr := h6.symm.trans hrr
    refine j_aload_n C dX8_lay_9 rfl rfl ?_
    refine j_get C flX8_64 dX8_lay_10 (Nat.lt_of_lt_of_le (by decide) hN) rfl rfl ?_
    refine j_top (hRb.1.2.1) ?_
    refine j_ifn_eq (tgt := 23) C dX8_lay_13 rfl (by omega) (fun h13 => ?_) (fun h13 => ?_)
    · refine j_bipush (v := -2) C dX8_lay_23 rfl ?_
      refine j_ret M dX8_lay_25 ?_
      have e0 : abLay (tx, len, a, (wt, u, tl, le), p) = (-2, (tx, len, a, (wt, u, tl, le), p)) := by
        unfold abLay
        exact if_neg (fun q => by
          have q1 : (rdT tx len len 0 0 (nd0 ndZ)).1 = -4 := q.1
          have q2 : nM (rdT tx len len 0 0 (nd0 ndZ)).2 ≠ 0 := q.2.1
          have q3 : nD (rdT tx len len 0 0 (nd0 ndZ)).2 ≠ 0 := q.2.2
          first | exact h6 (hrr.trans q1) | omega)
      rw [e0]
      exact ⟨rfl, hC.kept hA (fun j n h => hrf j n (by omega)), fun j n h => hrf j n (by omega)⟩
    · refine j_aload_n C dX8_lay_16 rfl rfl ?_
      refine j_get C flX8_67 dX8_lay_17 (Nat.lt_of_lt_of_le (by decide) hN) rfl rfl ?_
      refine j_top (hRb.1.2.2) ?_
      refine j_ifn_ne (tgt := 26) C dX8_lay_20 rfl (by omega) (fun h20 => ?_) (fun h20 => ?_)
      · refine j_aload_n C dX8_lay_26 rfl rfl ?_
        refine j_callv (As := []) (rest := []) C (tX8_takeRead hN (a := (rdT tx len len 0 0 (nd0 ndZ)).2) hRb hOb) cdX8_takeRead mlX8_61 dX8_lay_27 (by decide) (by decide) (Nat.lt_of_lt_of_le (by decide) hN) rfl rfl rfl rfl rfl (Nat.le_of_ble_eq_true rfl) (fun τ4 hp_6 => ?_)
        obtain ⟨htf, hIn, hSn, hn15⟩ := hp_6
        refine j_aload_n C dX8_lay_30 rfl rfl ?_
        refine j_get C flX8_77 dX8_lay_31 (Nat.lt_of_lt_of_le (by decide) hN) rfl rfl ?_
        refine j_top (hIn.1.2.1) ?_
        refine j_ret M dX8_lay_34 ?_
        have e0 : abLay (tx, len, a, (wt, u, tl, le), p) = (nI (nM (rdT tx len len 0 0 (nd0 ndZ)).2), (tx, len, (rdT tx len len 0 0 (nd0 ndZ)).2, newS (rdT tx len len 0 0 (nd0 ndZ)).2, [])) := by
          unfold abLay
          exact if_pos ⟨hrr.symm, by show nM (rdT tx len len 0 0 (nd0 ndZ)).2 ≠ 0; omega, by show nD (rdT tx len len 0 0 (nd0 ndZ)).2 ≠ 0; omega⟩
        rw [e0]
        exact ⟨rfl, ⟨⟨by rw [htf _ _ (by omega), hrf _ _ (by omega)]; exact hC.1.1, hlen, fun k hk => by rw [htf _ _ (by omega), hrf _ _ (by omega)]; exact hC.1.2.2 k hk⟩, hIn, hSn, hn15, fun k s hs => by cases hs⟩, fun j n h => by rw [htf _ _ (by omega), hrf _ _ (by omega)]⟩
      · refine j_bipush (v := -2) C dX8_lay_23 rfl ?_
        refine j_ret M dX8_lay_25 ?_
        have e0 : abLay (tx, len, a, (wt, u, tl, le), p) = (-2, (tx, len, a, (wt, u, tl, le), p)) := by
          unfold abLay
          exact if_neg (fun q => by
            have q1 : (rdT tx len len 0 0 (nd0 ndZ)).1 = -4 := q.1
            have q2 : nM (rdT tx len len 0 0 (nd0 ndZ)).2 ≠ 0 := q.2.1
            have q3 : nD (rdT tx len len 0 0 (nd0 ndZ)).2 ≠ 0 := q.2.2
            first | exact h6 (hrr.trans q1) | omega)
        rw [e0]
        exact ⟨rfl, hC.kept hA (fun j n h => hrf j n (by omega)), fun j n h => hrf j n (by omega)⟩
