theorem not_inR {x : Int32} {lo hi : Nat} (h1 : lo < 2 ^ 31) (h2 : hi < 2 ^ 31) (h : ¬ inR x lo hi) : x.toInt < (lo : Int) ∨ (hi : Int) < x.toInt := by
  by_cases e : x.toInt < (lo : Int)
  · exact Or.inl e
  · refine Or.inr (Int.not_le.mp fun q => h ?_)
    exact (nI_rng h1 h2).mp ⟨Int32.le_iff_toInt_le.mpr (by rw [nI_toInt h1]; omega), Int32.le_iff_toInt_le.mpr (by rw [nI_toInt h2]; omega)⟩
theorem fnd_ok {a : ND} {w : Nat → Nat} {u : Nat → Bool} {hd : Bool} {le : Nat} {tl : List Int32} {ps : Int32} : ∀ {m l x c : Nat}, fndF a w u hd le tl ps m = some (l, x, c) → l < m ∧ 1 ≤ x ∧ x ≤ 20 ∧ x ≠ w l ∧ nI l ≠ ps ∧ c = costN a (updN w l x) u := by
  have tr : ∀ (l0 k : Nat) (b : BS) (l x c : Nat), tryF a w u hd le tl l0 k b = some (l, x, c) → b = some (l, x, c) ∨ (l = l0 ∧ 1 ≤ x ∧ x ≤ k ∧ x ≠ w l0 ∧ c = costN a (updN w l0 x) u) := by
    intro l0 k
    induction k with
    | zero => intro b l x c h; exact Or.inl h
    | succ k ih =>
      intro b l x c h
      rw [tryF] at h
      split at h
      · rcases ih b l x c h with q | q
        · exact Or.inl q
        · exact Or.inr ⟨q.1, q.2.1, by omega, q.2.2.2.1, q.2.2.2.2⟩
      · next hne =>
        split at h
        · cases h
          exact Or.inr ⟨rfl, by omega, by omega, hne, rfl⟩
        · rcases ih b l x c h with q | q
          · exact Or.inl q
          · exact Or.inr ⟨q.1, q.2.1, by omega, q.2.2.2.1, q.2.2.2.2⟩
  intro m
  induction m with
  | zero => intro l x c h; cases h
  | succ m ih =>
    intro l x c h
    rw [fndF] at h
    split at h
    · have := ih h
      exact ⟨by omega, this.2⟩
    · next hps =>
      rcases tr m 20 _ l x c h with q | ⟨rfl, q1, q2, q3, q4⟩
      · have := ih q
        exact ⟨by omega, this.2⟩
      · exact ⟨by omega, q1, q2, q3, hps, q4⟩
set_option maxHeartbeats 4000000 in
set_option maxRecDepth 100000 in
theorem tX7_link {g : jG} (hN : 84 ≤ gN g) {σ : Sg} {tx : Nat → Int32} {len : Nat} {a : ND} {wt : Nat → Nat} {u : Nat → Bool} {tl : List Int32} {le : Nat} {p : List SD} (hC : CI σ (tx, len, a, (wt, u, tl, le), p)) (hA : AOk (tx, len, a, (wt, u, tl, le), p)) (l0 x0 : Int32) : MS g yX7_link cX7_link 3 (some .int) rmX7_link [.ref (gad g (0)), .int (l0), .int (x0)] σ (fun r σ' => r = (abLink l0 x0 (tx, len, a, (wt, u, tl, le), p)).1 ∧ CI σ' (abLink l0 x0 (tx, len, a, (wt, u, tl, le), p)).2 ∧ ∀ j n, 84 ≤ j → σ' j n = σ j n) := by
  refine MJ_of (by decide) (Nat.le_of_ble_eq_true rfl) (List.forall_mem_cons.mpr ⟨rfl, List.forall_mem_cons.mpr ⟨rfl, List.forall_mem_cons.mpr ⟨rfl, fun _ h => absurd h List.not_mem_nil⟩⟩⟩) ?_
  intro κ M
  have C := M.1
  show J g κ 3 0 [some (.ref (gad g (0))), some (.int (l0)), some (.int (x0))] [] σ
  have hI : NetI σ 3 a := hC.2.1
  have hO : NOk a := hA.1
  have hS : StI σ 0 (nM a) (wt, u, tl, le) := hC.2.2.1
  have hW : StW σ 0 (nM a) wt u := hS.2.1
  have hw : WOk (nM a) wt := hA.2.1.1
  have htl6 : tl.length ≤ 6 := hA.2.1.2.1
  have hle31 : le < 2 ^ 31 := hA.2.1.2.2
  have hlen : len ≤ 200 := hC.1.2.1
  have hn7 := hO.2.1
  have hm12 := hO.2.2.1
  have hd6 := hO.2.2.2.1
  have hCl : σ 1 1 = nI len := hC.1.1
  have hCt : ∀ k, k < len → σ 2 k = tx k := hC.1.2.2
  refine j_aload_n C dX7_link_0 rfl rfl ?_
  refine j_get C flX7_19 dX7_link_1 (Nat.lt_of_lt_of_le (by decide) hN) rfl rfl ?_
  refine j_iload_n C dX7_link_4 rfl rfl ?_
  refine j_calli (As := [.int (l0)]) (rest := []) C (tX3_hasLink (i := 0) hN (by omega) hI.m (by omega) _) cdX3_hasLink mlX7_102 dX7_link_5 (by decide) (by decide) (Nat.lt_of_lt_of_le (by decide) hN) rfl rfl rfl rfl rfl (Nat.le_of_ble_eq_true rfl) (fun rr_2 τ1 hp_3 => ?_)
  obtain ⟨hs, hc⟩ := hp_3
  replace hs := hs.symm
  subst hs
  rcases hc with ⟨rfl, l, hl, rfl⟩ | ⟨rfl, hno⟩
  · refine j_ifn_ne (tgt := 13) C dX7_link_8 rfl (by omega) (fun _ => ?_) (fun h => absurd h (by decide))
    refine j_aload_n C dX7_link_13 rfl rfl ?_
    refine j_get C flX7_38 dX7_link_14 (Nat.lt_of_lt_of_le (by decide) hN) rfl rfl ?_
    refine j_aload_n C dX7_link_17 rfl rfl ?_
    refine j_get C flX7_54 dX7_link_18 (Nat.lt_of_lt_of_le (by decide) hN) rfl rfl ?_
    refine j_calli (As := [.ref (gad g (48))]) (rest := []) C (tX0_costOf (i := 0) (w := wt) (u := u) hN (σ := σ) (by omega) hI hO hW hw) cdX0_costOf mlX7_115 dX7_link_21 (by decide) (by decide) (Nat.lt_of_lt_of_le (by decide) hN) rfl rfl rfl rfl rfl (Nat.le_of_ble_eq_true rfl) (fun rr_5 τ4 hp_6 => ?_)
    obtain ⟨hfc, hFl, hrc⟩ := hp_6
    subst hrc
    refine j_pop C dX7_link_24 rfl ?_
    refine j_iload_n C dX7_link_25 rfl rfl ?_
    by_cases hin : inR x0 0 7
    · obtain ⟨q, hq1, hq2, rfl⟩ := hin
      rcases (by omega : q = 0 ∨ q = 1 ∨ q = 2 ∨ q = 3 ∨ q = 4 ∨ q = 5 ∨ q = 6 ∨ q = 7) with rfl | rfl | rfl | rfl | rfl | rfl | rfl | rfl
      · refine j_tableIn (tgt := 72) C dX7_link_26 (by decide) (by decide) rfl rfl ?_
        refine j_aload_n C dX7_link_72 rfl rfl ?_
        refine j_get C flX7_19 dX7_link_73 (Nat.lt_of_lt_of_le (by decide) hN) rfl rfl ?_
        refine j_get C flX7_159 dX7_link_76 (Nat.lt_of_lt_of_le (by decide) hN) rfl rfl ?_
        refine j_iload_n C dX7_link_79 rfl rfl ?_
        refine j_iald C dX7_link_80 (Nat.lt_of_lt_of_le (by decide) hN) (fun _ => rfl) (by decide) (by omega) ?_
        refine j_top ((hfc _ _ (by omega)).trans (hI.fr (l := l) (by omega))) ?_
        refine j_ret M dX7_link_81 ?_
        rw [abLink, pIf_t ⟨⟨l, hl, rfl⟩, ⟨0, by decide, by decide, rfl⟩⟩, idx_nI (by omega), idx_nI (by omega)]
        exact ⟨rfl, hC.kept (fun j n h => hfc j n (by omega)), fun j n h => hfc j n (by omega)⟩
      · refine j_tableIn (tgt := 82) C dX7_link_26 (by decide) (by decide) rfl rfl ?_
        refine j_aload_n C dX7_link_82 rfl rfl ?_
        refine j_get C flX7_19 dX7_link_83 (Nat.lt_of_lt_of_le (by decide) hN) rfl rfl ?_
        refine j_get C flX7_162 dX7_link_86 (Nat.lt_of_lt_of_le (by decide) hN) rfl rfl ?_
        refine j_iload_n C dX7_link_89 rfl rfl ?_
        refine j_iald C dX7_link_90 (Nat.lt_of_lt_of_le (by decide) hN) (fun _ => rfl) (by decide) (by omega) ?_
        refine j_top ((hfc _ _ (by omega)).trans (hI.to (l := l) (by omega))) ?_
        refine j_ret M dX7_link_91 ?_
        rw [abLink, pIf_t ⟨⟨l, hl, rfl⟩, ⟨1, by decide, by decide, rfl⟩⟩, idx_nI (by omega), idx_nI (by omega)]
        exact ⟨rfl, hC.kept (fun j n h => hfc j n (by omega)), fun j n h => hfc j n (by omega)⟩
      · refine j_tableIn (tgt := 92) C dX7_link_26 (by decide) (by decide) rfl rfl ?_
        refine j_aload_n C dX7_link_92 rfl rfl ?_
        refine j_get C flX7_19 dX7_link_93 (Nat.lt_of_lt_of_le (by decide) hN) rfl rfl ?_
        refine j_get C flX7_165 dX7_link_96 (Nat.lt_of_lt_of_le (by decide) hN) rfl rfl ?_
        refine j_iload_n C dX7_link_99 rfl rfl ?_
        refine j_iald C dX7_link_100 (Nat.lt_of_lt_of_le (by decide) hN) (fun _ => rfl) (by decide) (by omega) ?_
        refine j_top ((hfc _ _ (by omega)).trans (hI.rm (l := l) (by omega))) ?_
        refine j_ret M dX7_link_101 ?_
        rw [abLink, pIf_t ⟨⟨l, hl, rfl⟩, ⟨2, by decide, by decide, rfl⟩⟩, idx_nI (by omega), idx_nI (by omega)]
        exact ⟨rfl, hC.kept (fun j n h => hfc j n (by omega)), fun j n h => hfc j n (by omega)⟩
      · refine j_tableIn (tgt := 102) C dX7_link_26 (by decide) (by decide) rfl rfl ?_
        refine j_aload_n C dX7_link_102 rfl rfl ?_
        refine j_get C flX7_54 dX7_link_103 (Nat.lt_of_lt_of_le (by decide) hN) rfl rfl ?_
        refine j_get C flX7_108 dX7_link_106 (Nat.lt_of_lt_of_le (by decide) hN) rfl rfl ?_
        refine j_iload_n C dX7_link_109 rfl rfl ?_
        refine j_iald C dX7_link_110 (Nat.lt_of_lt_of_le (by decide) hN) (fun _ => rfl) (by decide) (by omega) ?_
        refine j_top ((hfc _ _ (by omega)).trans ((hW (l) (by omega)).1)) ?_
        refine j_ret M dX7_link_111 ?_
        rw [abLink, pIf_t ⟨⟨l, hl, rfl⟩, ⟨3, by decide, by decide, rfl⟩⟩, idx_nI (by omega), idx_nI (by omega)]
        exact ⟨rfl, hC.kept (fun j n h => hfc j n (by omega)), fun j n h => hfc j n (by omega)⟩
      · refine j_tableIn (tgt := 112) C dX7_link_26 (by decide) (by decide) rfl rfl ?_
        rcases hul : u l with _ | _
        · refine j_aload_n C dX7_link_112 rfl rfl ?_
          refine j_get C flX7_54 dX7_link_113 (Nat.lt_of_lt_of_le (by decide) hN) rfl rfl ?_
          refine j_get C flX7_148 dX7_link_116 (Nat.lt_of_lt_of_le (by decide) hN) rfl rfl ?_
          refine j_iload_n C dX7_link_119 rfl rfl ?_
          refine j_zald C dX7_link_120 (Nat.lt_of_lt_of_le (by decide) hN) (fun _ => rfl) (by decide) (by omega) ?_
          refine j_top ((hfc _ _ (by omega)).trans ((hW l (by omega)).2.trans (by rw [hul]))) ?_
          refine j_ifn_eq (tgt := 128) C dX7_link_121 rfl (by omega) (fun _ => ?_) (fun h => absurd h (by decide))
          refine j_iconst (v := nI 0) C dX7_link_128 rfl ?_
          refine j_ret M dX7_link_129 ?_
          rw [abLink, pIf_t ⟨⟨l, hl, rfl⟩, ⟨4, by decide, by decide, rfl⟩⟩, idx_nI (by omega), idx_nI (by omega)]
          dsimp only
          rw [hul]
          exact ⟨rfl, hC.kept (fun j n h => hfc j n (by omega)), fun j n h => hfc j n (by omega)⟩
        · refine j_aload_n C dX7_link_112 rfl rfl ?_
          refine j_get C flX7_54 dX7_link_113 (Nat.lt_of_lt_of_le (by decide) hN) rfl rfl ?_
          refine j_get C flX7_148 dX7_link_116 (Nat.lt_of_lt_of_le (by decide) hN) rfl rfl ?_
          refine j_iload_n C dX7_link_119 rfl rfl ?_
          refine j_zald C dX7_link_120 (Nat.lt_of_lt_of_le (by decide) hN) (fun _ => rfl) (by decide) (by omega) ?_
          refine j_top ((hfc _ _ (by omega)).trans ((hW l (by omega)).2.trans (by rw [hul]))) ?_
          refine j_ifn_eq (tgt := 128) C dX7_link_121 rfl (by omega) (fun h => absurd h (by decide)) (fun _ => ?_)
          refine j_iconst (v := nI 1) C dX7_link_124 rfl ?_
          refine j_goto (tgt := 129) C dX7_link_125 rfl ?_
          refine j_ret M dX7_link_129 ?_
          rw [abLink, pIf_t ⟨⟨l, hl, rfl⟩, ⟨4, by decide, by decide, rfl⟩⟩, idx_nI (by omega), idx_nI (by omega)]
          dsimp only
          rw [hul]
          exact ⟨rfl, hC.kept (fun j n h => hfc j n (by omega)), fun j n h => hfc j n (by omega)⟩
      · refine j_tableIn (tgt := 130) C dX7_link_26 (by decide) (by decide) rfl rfl ?_
        refine j_aload_n C dX7_link_130 rfl rfl ?_
        refine j_get C flX7_38 dX7_link_131 (Nat.lt_of_lt_of_le (by decide) hN) rfl rfl ?_
        refine j_get C flX7_168 dX7_link_134 (Nat.lt_of_lt_of_le (by decide) hN) rfl rfl ?_
        refine j_iload_n C dX7_link_137 rfl rfl ?_
        refine j_iald C dX7_link_138 (Nat.lt_of_lt_of_le (by decide) hN) (fun _ => rfl) (by decide) (by omega) ?_
        refine j_top (hFl.2.2.2 (l) (by omega)) ?_
        refine j_ret M dX7_link_139 ?_
        rw [abLink, pIf_t ⟨⟨l, hl, rfl⟩, ⟨5, by decide, by decide, rfl⟩⟩, idx_nI (by omega), idx_nI (by omega)]
        exact ⟨rfl, hC.kept (fun j n h => hfc j n (by omega)), fun j n h => hfc j n (by omega)⟩
      · refine j_tableIn (tgt := 140) C dX7_link_26 (by decide) (by decide) rfl rfl ?_
        refine j_aload_n C dX7_link_140 rfl rfl ?_
        refine j_get C flX7_38 dX7_link_141 (Nat.lt_of_lt_of_le (by decide) hN) rfl rfl ?_
        refine j_iload_n C dX7_link_144 rfl rfl ?_
        refine j_calli (As := [.int (nI (l))]) (rest := []) C (tX0_linkCost hN (hI.kept (fun j n h1 h2 => hfc j n (by omega))) hO (l := l) (L := LDD a wt u (nD a) l) hl (hFl.2.2.2 l hl) (by have := LDD_bd (w := wt) (u := u) hO (Nat.le_refl (nD a)) hl; omega)) cdX0_linkCost mlX7_171 dX7_link_145 (by decide) (by decide) (Nat.lt_of_lt_of_le (by decide) hN) rfl rfl rfl rfl rfl (Nat.le_of_ble_eq_true rfl) (fun rr_302 τ301 hp_303 => ?_)
        obtain ⟨hs, hr⟩ := hp_303
        replace hs := hs.symm
        subst hs
        subst hr
        refine j_ret M dX7_link_148 ?_
        rw [abLink, pIf_t ⟨⟨l, hl, rfl⟩, ⟨6, by decide, by decide, rfl⟩⟩, idx_nI (by omega), idx_nI (by omega)]
        exact ⟨rfl, hC.kept (fun j n h => hfc j n (by omega)), fun j n h => hfc j n (by omega)⟩
      · refine j_tableIn (tgt := 149) C dX7_link_26 (by decide) (by decide) rfl rfl ?_
        refine j_aload_n C dX7_link_149 rfl rfl ?_
        refine j_get C flX7_38 dX7_link_150 (Nat.lt_of_lt_of_le (by decide) hN) rfl rfl ?_
        refine j_aload_n C dX7_link_153 rfl rfl ?_
        refine j_get C flX7_54 dX7_link_154 (Nat.lt_of_lt_of_le (by decide) hN) rfl rfl ?_
        refine j_iload_n C dX7_link_157 rfl rfl ?_
        refine j_calli (As := [.ref (gad g (48)), .int (nI (l))]) (rest := []) C (tX0_shortDemands (i := 0) hN (by omega) (hI.kept (fun j n h1 h2 => hfc j n (by omega))) hO (hW.kept' (fun j n h1 => hfc j n (by omega))) hw (l := l) hl hFl) cdX0_shortDemands mlX7_175 dX7_link_158 (by decide) (by decide) (Nat.lt_of_lt_of_le (by decide) hN) rfl rfl rfl rfl rfl (Nat.le_of_ble_eq_true rfl) (fun rr_302 τ301 hp_303 => ?_)
        obtain ⟨hs, hr⟩ := hp_303
        replace hs := hs.symm
        subst hs
        subst hr
        refine j_ret M dX7_link_161 ?_
        rw [abLink, pIf_t ⟨⟨l, hl, rfl⟩, ⟨7, by decide, by decide, rfl⟩⟩, idx_nI (by omega), idx_nI (by omega)]
        exact ⟨rfl, hC.kept (fun j n h => hfc j n (by omega)), fun j n h => hfc j n (by omega)⟩
    · refine j_tableOut (tgt := 162) C dX7_link_26 (not_inR (by decide) (by decide) hin) rfl ?_
      refine j_iconst (v := -1) C dX7_link_162 rfl ?_
      refine j_ret M dX7_link_163 ?_
      rw [abLink, pIf_f (fun q => hin q.2)]
      exact ⟨rfl, hC.kept (fun j n h => hfc j n (by omega)), fun j n h => hfc j n (by omega)⟩
  · refine j_ifn_ne (tgt := 13) C dX7_link_8 rfl (by omega) (fun h => absurd h (by decide)) (fun _ => ?_)
    refine j_iconst (v := -1) C dX7_link_11 rfl ?_
    refine j_ret M dX7_link_12 ?_
    rw [abLink, pIf_f (fun q => hno q.1)]
    exact ⟨rfl, hC, fun _ _ _ => rfl⟩
set_option maxHeartbeats 4000000 in
set_option maxRecDepth 100000 in
theorem tX7_count {g : jG} (hN : 84 ≤ gN g) {σ : Sg} {tx : Nat → Int32} {len : Nat} {a : ND} {wt : Nat → Nat} {u : Nat → Bool} {tl : List Int32} {le : Nat} {p : List SD} (hC : CI σ (tx, len, a, (wt, u, tl, le), p)) (hA : AOk (tx, len, a, (wt, u, tl, le), p)) (x0 : Int32) : MS g yX7_count cX7_count 2 (some .int) rmX7_count [.ref (gad g (0)), .int (x0)] σ (fun r σ' => r = (abCount x0 (tx, len, a, (wt, u, tl, le), p)).1 ∧ CI σ' (abCount x0 (tx, len, a, (wt, u, tl, le), p)).2 ∧ ∀ j n, 84 ≤ j → σ' j n = σ j n) := by
  refine MJ_of (by decide) (Nat.le_of_ble_eq_true rfl) (List.forall_mem_cons.mpr ⟨rfl, List.forall_mem_cons.mpr ⟨rfl, fun _ h => absurd h List.not_mem_nil⟩⟩) ?_
  intro κ M
  have C := M.1
  show J g κ 2 0 [some (.ref (gad g (0))), some (.int (x0))] [] σ
  have hI : NetI σ 3 a := hC.2.1
  have hO : NOk a := hA.1
  have hS : StI σ 0 (nM a) (wt, u, tl, le) := hC.2.2.1
  have hW : StW σ 0 (nM a) wt u := hS.2.1
  have hw : WOk (nM a) wt := hA.2.1.1
  have htl6 : tl.length ≤ 6 := hA.2.1.2.1
  have hle31 : le < 2 ^ 31 := hA.2.1.2.2
  have hlen : len ≤ 200 := hC.1.2.1
  have hn7 := hO.2.1
  have hm12 := hO.2.2.1
  have hd6 := hO.2.2.2.1
  have hCl : σ 1 1 = nI len := hC.1.1
  have hCt : ∀ k, k < len → σ 2 k = tx k := hC.1.2.2
  have hS45 : σ 48 4 = nI tl.length := by obtain ⟨nt, h3, h4, h5, h6, h7⟩ := hS.2.2.1; exact h5
  have hP2 : σ 45 2 = nI p.length := by obtain ⟨nx, h1, h2, h3, h4, h5⟩ := hC.2.2.2; exact h4
  refine j_aload_n C dX7_count_0 rfl rfl ?_
  refine j_get C flX7_38 dX7_count_1 (Nat.lt_of_lt_of_le (by decide) hN) rfl rfl ?_
  refine j_aload_n C dX7_count_4 rfl rfl ?_
  refine j_get C flX7_54 dX7_count_5 (Nat.lt_of_lt_of_le (by decide) hN) rfl rfl ?_
  refine j_calli (As := [.ref (gad g (48))]) (rest := []) C (tX0_costOf (i := 0) (w := wt) (u := u) hN (σ := σ) (by omega) hI hO hW hw) cdX0_costOf mlX7_115 dX7_count_8 (by decide) (by decide) (Nat.lt_of_lt_of_le (by decide) hN) rfl rfl rfl rfl rfl (Nat.le_of_ble_eq_true rfl) (fun rr_2 τ1 hp_3 => ?_)
  obtain ⟨hfc, hFl, hrc⟩ := hp_3
  subst hrc
  refine j_pop C dX7_count_11 rfl ?_
  refine j_iload_n C dX7_count_12 rfl rfl ?_
  by_cases hin : inR x0 0 10
  · obtain ⟨q, hq1, hq2, rfl⟩ := hin
    rcases (by omega : q = 0 ∨ q = 1 ∨ q = 2 ∨ q = 3 ∨ q = 4 ∨ q = 5 ∨ q = 6 ∨ q = 7 ∨ q = 8 ∨ q = 9 ∨ q = 10) with rfl | rfl | rfl | rfl | rfl | rfl | rfl | rfl | rfl | rfl | rfl
    · refine j_tableIn (tgt := 72) C dX7_count_13 (by decide) (by decide) rfl rfl ?_
      refine j_aload_n C dX7_count_72 rfl rfl ?_
      refine j_get C flX7_19 dX7_count_73 (Nat.lt_of_lt_of_le (by decide) hN) rfl rfl ?_
      refine j_get C flX7_205 dX7_count_76 (Nat.lt_of_lt_of_le (by decide) hN) rfl rfl ?_
      refine j_top ((hfc _ _ (by omega)).trans (hI.n)) ?_
      refine j_ret M dX7_count_79 ?_
      rw [abCount, pIf_t ⟨0, by decide, by decide, rfl⟩, idx_nI (by omega)]
      exact ⟨rfl, hC.kept (fun j n h => hfc j n (by omega)), fun j n h => hfc j n (by omega)⟩
    · refine j_tableIn (tgt := 80) C dX7_count_13 (by decide) (by decide) rfl rfl ?_
      refine j_aload_n C dX7_count_80 rfl rfl ?_
      refine j_get C flX7_19 dX7_count_81 (Nat.lt_of_lt_of_le (by decide) hN) rfl rfl ?_
      refine j_get C flX7_99 dX7_count_84 (Nat.lt_of_lt_of_le (by decide) hN) rfl rfl ?_
      refine j_top ((hfc _ _ (by omega)).trans (hI.m)) ?_
      refine j_ret M dX7_count_87 ?_
      rw [abCount, pIf_t ⟨1, by decide, by decide, rfl⟩, idx_nI (by omega)]
      exact ⟨rfl, hC.kept (fun j n h => hfc j n (by omega)), fun j n h => hfc j n (by omega)⟩
    · refine j_tableIn (tgt := 88) C dX7_count_13 (by decide) (by decide) rfl rfl ?_
      refine j_aload_n C dX7_count_88 rfl rfl ?_
      refine j_get C flX7_19 dX7_count_89 (Nat.lt_of_lt_of_le (by decide) hN) rfl rfl ?_
      refine j_get C flX7_208 dX7_count_92 (Nat.lt_of_lt_of_le (by decide) hN) rfl rfl ?_
      refine j_top ((hfc _ _ (by omega)).trans (hI.d)) ?_
      refine j_ret M dX7_count_95 ?_
      rw [abCount, pIf_t ⟨2, by decide, by decide, rfl⟩, idx_nI (by omega)]
      exact ⟨rfl, hC.kept (fun j n h => hfc j n (by omega)), fun j n h => hfc j n (by omega)⟩
    · refine j_tableIn (tgt := 96) C dX7_count_13 (by decide) (by decide) rfl rfl ?_
      refine j_aload_n C dX7_count_96 rfl rfl ?_
      refine j_get C flX7_54 dX7_count_97 (Nat.lt_of_lt_of_le (by decide) hN) rfl rfl ?_
      refine j_calli (As := []) (rest := []) C (tX6_linksDown (u := u) hN ((hfc _ _ (by omega)).trans hS.1) hm12 (fun l hl => (hfc _ _ (by omega)).trans (hW l hl).2)) cdX6_linksDown mlX7_211 dX7_count_100 (by decide) (by decide) (Nat.lt_of_lt_of_le (by decide) hN) rfl rfl rfl rfl rfl (Nat.le_of_ble_eq_true rfl) (fun rr_302 τ301 hp_303 => ?_)
      obtain ⟨hs, hr⟩ := hp_303
      replace hs := hs.symm
      subst hs
      subst hr
      refine j_ret M dX7_count_103 ?_
      rw [abCount, pIf_t ⟨3, by decide, by decide, rfl⟩, idx_nI (by omega)]
      exact ⟨rfl, hC.kept (fun j n h => hfc j n (by omega)), fun j n h => hfc j n (by omega)⟩
    · refine j_tableIn (tgt := 104) C dX7_count_13 (by decide) (by decide) rfl rfl ?_
      refine j_aload_n C dX7_count_104 rfl rfl ?_
      refine j_get C flX7_38 dX7_count_105 (Nat.lt_of_lt_of_le (by decide) hN) rfl rfl ?_
      refine j_calli (As := []) (rest := []) C (tX0_lostDemands hN (hI.kept (fun j n h1 h2 => hfc j n (by omega))) hO (lo := lostB a wt u) hFl.2.1) cdX0_lostDemands mlX7_214 dX7_count_108 (by decide) (by decide) (Nat.lt_of_lt_of_le (by decide) hN) rfl rfl rfl rfl rfl (Nat.le_of_ble_eq_true rfl) (fun rr_302 τ301 hp_303 => ?_)
      obtain ⟨hs, hr⟩ := hp_303
      replace hs := hs.symm
      subst hs
      subst hr
      refine j_ret M dX7_count_111 ?_
      rw [abCount, pIf_t ⟨4, by decide, by decide, rfl⟩, idx_nI (by omega)]
      exact ⟨rfl, hC.kept (fun j n h => hfc j n (by omega)), fun j n h => hfc j n (by omega)⟩
    · refine j_tableIn (tgt := 112) C dX7_count_13 (by decide) (by decide) rfl rfl ?_
      refine j_aload_n C dX7_count_112 rfl rfl ?_
      refine j_get C flX7_38 dX7_count_113 (Nat.lt_of_lt_of_le (by decide) hN) rfl rfl ?_
      refine j_calli (As := []) (rest := []) C (tX0_overfullLinks hN (hI.kept (fun j n h1 h2 => hfc j n (by omega))) hO (ld := LDD a wt u (nD a)) (fun l hl => ⟨hFl.2.2.2 l hl, by have := LDD_bd (w := wt) (u := u) hO (Nat.le_refl (nD a)) hl; omega⟩)) cdX0_overfullLinks mlX7_217 dX7_count_116 (by decide) (by decide) (Nat.lt_of_lt_of_le (by decide) hN) rfl rfl rfl rfl rfl (Nat.le_of_ble_eq_true rfl) (fun rr_302 τ301 hp_303 => ?_)
      obtain ⟨hs, hr⟩ := hp_303
      replace hs := hs.symm
      subst hs
      subst hr
      refine j_ret M dX7_count_119 ?_
      rw [abCount, pIf_t ⟨5, by decide, by decide, rfl⟩, idx_nI (by omega)]
      exact ⟨rfl, hC.kept (fun j n h => hfc j n (by omega)), fun j n h => hfc j n (by omega)⟩
    · refine j_tableIn (tgt := 120) C dX7_count_13 (by decide) (by decide) rfl rfl ?_
      refine j_aload_n C dX7_count_120 rfl rfl ?_
      refine j_get C flX7_54 dX7_count_121 (Nat.lt_of_lt_of_le (by decide) hN) rfl rfl ?_
      refine j_get C flX7_220 dX7_count_124 (Nat.lt_of_lt_of_le (by decide) hN) rfl rfl ?_
      refine j_top ((hfc _ _ (by omega)).trans (hS.2.2.2)) ?_
      refine j_ret M dX7_count_127 ?_
      rw [abCount, pIf_t ⟨6, by decide, by decide, rfl⟩, idx_nI (by omega)]
      exact ⟨rfl, hC.kept (fun j n h => hfc j n (by omega)), fun j n h => hfc j n (by omega)⟩
    · refine j_tableIn (tgt := 128) C dX7_count_13 (by decide) (by decide) rfl rfl ?_
      refine j_aload_n C dX7_count_128 rfl rfl ?_
      refine j_get C flX7_54 dX7_count_129 (Nat.lt_of_lt_of_le (by decide) hN) rfl rfl ?_
      refine j_calli (As := []) (rest := []) C (tX6_mark hN ((hfc _ _ (by omega)).trans hS.1) hm12) cdX6_mark mlX7_134 dX7_count_132 (by decide) (by decide) (Nat.lt_of_lt_of_le (by decide) hN) rfl rfl rfl rfl rfl (Nat.le_of_ble_eq_true rfl) (fun rr_302 τ301 hp_303 => ?_)
      obtain ⟨hs, hr⟩ := hp_303
      replace hs := hs.symm
      subst hs
      replace hr : rr_302 = mkW wt (nM a) := hr.trans (mkL_congr (fun k hk => (hfc _ _ (by omega)).trans (hW k hk).1))
      subst hr
      refine j_ret M dX7_count_135 ?_
      rw [abCount, pIf_t ⟨7, by decide, by decide, rfl⟩, idx_nI (by omega)]
      exact ⟨rfl, hC.kept (fun j n h => hfc j n (by omega)), fun j n h => hfc j n (by omega)⟩
    · refine j_tableIn (tgt := 136) C dX7_count_13 (by decide) (by decide) rfl rfl ?_
      refine j_aload_n C dX7_count_136 rfl rfl ?_
      refine j_get C flX7_54 dX7_count_137 (Nat.lt_of_lt_of_le (by decide) hN) rfl rfl ?_
      refine j_get C flX7_223 dX7_count_140 (Nat.lt_of_lt_of_le (by decide) hN) rfl rfl ?_
      refine j_top ((hfc _ _ (by omega)).trans (hS45)) ?_
      refine j_ret M dX7_count_143 ?_
      rw [abCount, pIf_t ⟨8, by decide, by decide, rfl⟩, idx_nI (by omega)]
      exact ⟨rfl, hC.kept (fun j n h => hfc j n (by omega)), fun j n h => hfc j n (by omega)⟩
    · refine j_tableIn (tgt := 144) C dX7_count_13 (by decide) (by decide) rfl rfl ?_
      refine j_aload_n C dX7_count_144 rfl rfl ?_
      refine j_get C flX7_64 dX7_count_145 (Nat.lt_of_lt_of_le (by decide) hN) rfl rfl ?_
      refine j_get C flX7_156 dX7_count_148 (Nat.lt_of_lt_of_le (by decide) hN) rfl rfl ?_
      refine j_top ((hfc _ _ (by omega)).trans (hP2)) ?_
      refine j_ret M dX7_count_151 ?_
      rw [abCount, pIf_t ⟨9, by decide, by decide, rfl⟩, idx_nI (by omega)]
      exact ⟨rfl, hC.kept (fun j n h => hfc j n (by omega)), fun j n h => hfc j n (by omega)⟩
    · refine j_tableIn (tgt := 152) C dX7_count_13 (by decide) (by decide) rfl rfl ?_
      refine j_aload_n C dX7_count_152 rfl rfl ?_
      refine j_get C flX7_10 dX7_count_153 (Nat.lt_of_lt_of_le (by decide) hN) rfl rfl ?_
      refine j_get C flX7_92 dX7_count_156 (Nat.lt_of_lt_of_le (by decide) hN) rfl rfl ?_
      refine j_top ((hfc _ _ (by omega)).trans (hCl)) ?_
      refine j_ret M dX7_count_159 ?_
      rw [abCount, pIf_t ⟨10, by decide, by decide, rfl⟩, idx_nI (by omega)]
      exact ⟨rfl, hC.kept (fun j n h => hfc j n (by omega)), fun j n h => hfc j n (by omega)⟩
  · refine j_tableOut (tgt := 160) C dX7_count_13 (not_inR (by decide) (by decide) hin) rfl ?_
    refine j_iconst (v := -1) C dX7_count_160 rfl ?_
    refine j_ret M dX7_count_161 ?_
    rw [abCount, pIf_f hin]
    exact ⟨rfl, hC.kept (fun j n h => hfc j n (by omega)), fun j n h => hfc j n (by omega)⟩
set_option maxHeartbeats 4000000 in
set_option maxRecDepth 100000 in
theorem tX7_best {g : jG} (hN : 84 ≤ gN g) {σ : Sg} {tx : Nat → Int32} {len : Nat} {a : ND} {wt : Nat → Nat} {u : Nat → Bool} {tl : List Int32} {le : Nat} {p : List SD} (hC : CI σ (tx, len, a, (wt, u, tl, le), p)) (hA : AOk (tx, len, a, (wt, u, tl, le), p)) (x0 : Int32) : MS g yX7_best cX7_best 2 (some .int) rmX7_best [.ref (gad g (0)), .int (x0)] σ (fun r σ' => r = (abBest x0 (tx, len, a, (wt, u, tl, le), p)).1 ∧ CI σ' (abBest x0 (tx, len, a, (wt, u, tl, le), p)).2 ∧ ∀ j n, 84 ≤ j → σ' j n = σ j n) := by
  refine MJ_of (by decide) (Nat.le_of_ble_eq_true rfl) (List.forall_mem_cons.mpr ⟨rfl, List.forall_mem_cons.mpr ⟨rfl, fun _ h => absurd h List.not_mem_nil⟩⟩) ?_
  intro κ M
  have C := M.1
  show J g κ 2 0 [some (.ref (gad g (0))), some (.int (x0))] [] σ
  have hI : NetI σ 3 a := hC.2.1
  have hO : NOk a := hA.1
  have hS : StI σ 0 (nM a) (wt, u, tl, le) := hC.2.2.1
  have hW : StW σ 0 (nM a) wt u := hS.2.1
  have hw : WOk (nM a) wt := hA.2.1.1
  have htl6 : tl.length ≤ 6 := hA.2.1.2.1
  have hle31 : le < 2 ^ 31 := hA.2.1.2.2
  have hlen : len ≤ 200 := hC.1.2.1
  have hn7 := hO.2.1
  have hm12 := hO.2.2.1
  have hd6 := hO.2.2.2.1
  have hCl : σ 1 1 = nI len := hC.1.1
  have hCt : ∀ k, k < len → σ 2 k = tx k := hC.1.2.2
  refine j_iload_n C dX7_best_0 rfl rfl ?_
  refine j_if_lt (tgt := 9) C dX7_best_1 rfl (fun h1 => ?_) (fun h1 => ?_)
  · refine j_iconst (v := -1) C dX7_best_9 rfl ?_
    refine j_ret M dX7_best_10 ?_
    rw [abBest, pIf_f (fun q => by
      first | exact hno q.1 | (obtain ⟨q1, q2⟩ := (nI_rng (a := 0) (b := 2) (by decide) (by decide)).mpr (by first | exact q | exact q.2); first | exact absurd (Int32.not_lt.mpr q1) (fun z => z (by assumption)) | exact absurd q2 (by assumption)))]
    exact ⟨rfl, hC, fun _ _ _ => rfl⟩
  · refine j_iload_n C dX7_best_4 rfl rfl ?_
    refine j_iconst (v := nI 2) C dX7_best_5 rfl ?_
    refine j_icmp_le (tgt := 11) C dX7_best_6 rfl (fun h6 => ?_) (fun h6 => ?_)
    · obtain ⟨x, hx1, hx2, rfl⟩ := (nI_rng (a := 0) (b := 2) (by decide) (by decide)).mp ⟨Int32.not_lt.mp h1, h6⟩
      refine j_aload_n C dX7_best_11 rfl rfl ?_
      refine j_get C flX7_47 dX7_best_12 (Nat.lt_of_lt_of_le (by decide) hN) rfl rfl ?_
      refine j_aload_n C dX7_best_15 rfl rfl ?_
      refine j_get C flX7_54 dX7_best_16 (Nat.lt_of_lt_of_le (by decide) hN) rfl rfl ?_
      refine j_iconst (v := -1) C dX7_best_19 rfl ?_
      refine j_iconst (v := nI 0) C dX7_best_20 rfl ?_
      refine j_calli (As := [.ref (gad g (48)), .int (-1), .int (nI (0))]) (rest := []) C (tX2_find hN (bs := 0) (le := le) (wt := wt) (u := u) (hd := false) (tl := tl) (by omega) hI hO hW hw (fun h => by cases h) (-1)) cdX2_find mlX7_130 dX7_best_21 (by decide) (by decide) (Nat.lt_of_lt_of_le (by decide) hN) rfl rfl rfl rfl rfl (Nat.le_of_ble_eq_true rfl) (fun rr_2 τ1 hp_3 => ?_)
      obtain ⟨hff, hrf, hbi⟩ := hp_3
      rcases hfd : fndF a wt u false le tl (-1) (nM a) with _ | ⟨l1, x1, c1⟩ <;> rw [hfd] at hrf hbi <;> subst hrf
      · refine j_ifn_eq (tgt := 38) C dX7_best_24 rfl (by omega) (fun _ => ?_) (fun h => absurd h (by decide))
        refine j_bipush (v := -4) C dX7_best_38 rfl ?_
        refine j_ret M dX7_best_40 ?_
        have e : fnd a (wt, u, tl, le) false (-1) = fndF a wt u false le tl (-1) (nM a) := rfl
        rw [abBest, pIf_t ⟨x, hx1, hx2, rfl⟩, idx_nI (by omega)]
        dsimp only
        rw [e, hfd]
        exact ⟨rfl, hC.kept (fun j n h => hff j n (by omega)), fun j n h => hff j n (by omega)⟩
      · have hbk := fnd_ok hfd
        have hb21 := hbi.2
        refine j_ifn_eq (tgt := 38) C dX7_best_24 rfl (by omega) (fun h => absurd h (by decide)) (fun _ => ?_)
        refine j_aload_n C dX7_best_27 rfl rfl ?_
        refine j_get C flX7_47 dX7_best_28 (Nat.lt_of_lt_of_le (by decide) hN) rfl rfl ?_
        refine j_iload_n C dX7_best_31 rfl rfl ?_
        refine j_calli (As := [.int (nI (x))]) (rest := []) C (tX2_found hN (q := x) (by omega) hbi) cdX2_found mlX7_199 dX7_best_32 (by decide) (by decide) (Nat.lt_of_lt_of_le (by decide) hN) rfl rfl rfl rfl rfl (Nat.le_of_ble_eq_true rfl) (fun rr_5 τ4 hp_6 => ?_)
        obtain ⟨hs, hr⟩ := hp_6
        replace hs := hs.symm
        subst hs
        subst hr
        refine j_goto (tgt := 40) C dX7_best_35 rfl ?_
        refine j_ret M dX7_best_40 ?_
        have e : fnd a (wt, u, tl, le) false (-1) = fndF a wt u false le tl (-1) (nM a) := rfl
        rw [abBest, pIf_t ⟨x, hx1, hx2, rfl⟩, idx_nI (by omega)]
        dsimp only
        rw [e, hfd]
        exact ⟨rfl, hC.kept (fun j n h => hff j n (by omega)), fun j n h => hff j n (by omega)⟩
    · refine j_iconst (v := -1) C dX7_best_9 rfl ?_
      refine j_ret M dX7_best_10 ?_
      rw [abBest, pIf_f (fun q => by
        first | exact hno q.1 | (obtain ⟨q1, q2⟩ := (nI_rng (a := 0) (b := 2) (by decide) (by decide)).mpr (by first | exact q | exact q.2); first | exact absurd (Int32.not_lt.mpr q1) (fun z => z (by assumption)) | exact absurd q2 (by assumption)))]
      exact ⟨rfl, hC, fun _ _ _ => rfl⟩
set_option maxHeartbeats 4000000 in
set_option maxRecDepth 100000 in
theorem tX7_costWithout {g : jG} (hN : 84 ≤ gN g) {σ : Sg} {tx : Nat → Int32} {len : Nat} {a : ND} {wt : Nat → Nat} {u : Nat → Bool} {tl : List Int32} {le : Nat} {p : List SD} (hC : CI σ (tx, len, a, (wt, u, tl, le), p)) (hA : AOk (tx, len, a, (wt, u, tl, le), p)) {l : Nat} (hl : l < nM a) : MS g yX7_costWithout cX7_costWithout 2 (some .int) rmX7_costWithout [.ref (gad g (0)), .int (nI (l))] σ (fun r σ' => (∀ j n, ¬ (25 ≤ j ∧ j ≤ 43 ∨ 52 ≤ j ∧ j ≤ 55) → σ' j n = σ j n) ∧ r = nI (costN a wt (dnU u l)) ∧ StW σ' 1 (nM a) wt (dnU u l)) := by
  refine MJ_of (by decide) (Nat.le_of_ble_eq_true rfl) (List.forall_mem_cons.mpr ⟨rfl, List.forall_mem_cons.mpr ⟨rfl, fun _ h => absurd h List.not_mem_nil⟩⟩) ?_
  intro κ M
  have C := M.1
  show J g κ 2 0 [some (.ref (gad g (0))), some (.int (nI (l)))] [] σ
  have hI : NetI σ 3 a := hC.2.1
  have hO : NOk a := hA.1
  have hS : StI σ 0 (nM a) (wt, u, tl, le) := hC.2.2.1
  have hW : StW σ 0 (nM a) wt u := hS.2.1
  have hw : WOk (nM a) wt := hA.2.1.1
  have htl6 : tl.length ≤ 6 := hA.2.1.2.1
  have hle31 : le < 2 ^ 31 := hA.2.1.2.2
  have hlen : len ≤ 200 := hC.1.2.1
  have hn7 := hO.2.1
  have hm12 := hO.2.2.1
  have hd6 := hO.2.2.2.1
  have hCl : σ 1 1 = nI len := hC.1.1
  have hCt : ∀ k, k < len → σ 2 k = tx k := hC.1.2.2
  refine j_aload_n C dX7_costWithout_0 rfl rfl ?_
  refine j_get C flX7_58 dX7_costWithout_1 (Nat.lt_of_lt_of_le (by decide) hN) rfl rfl ?_
  refine j_aload_n C dX7_costWithout_4 rfl rfl ?_
  refine j_get C flX7_54 dX7_costWithout_5 (Nat.lt_of_lt_of_le (by decide) hN) rfl rfl ?_
  refine j_callv (As := [.ref (gad g (48))]) (rest := []) C (tX6_copyFrom (i := 1) (c := 0) hN (by omega) (by omega) (by omega)) cdX6_copyFrom mlX7_238 dX7_costWithout_8 (by decide) (by decide) (Nat.lt_of_lt_of_le (by decide) hN) rfl rfl rfl rfl rfl (Nat.le_of_ble_eq_true rfl) (fun τ1 hp_3 => ?_)
  obtain ⟨hf8, c0, c4, c5, c6, c7, c8⟩ := hp_3
  refine j_aload_n C dX7_costWithout_11 rfl rfl ?_
  refine j_get C flX7_58 dX7_costWithout_12 (Nat.lt_of_lt_of_le (by decide) hN) rfl rfl ?_
  refine j_get C flX7_148 dX7_costWithout_15 (Nat.lt_of_lt_of_le (by decide) hN) rfl rfl ?_
  refine j_iload_n C dX7_costWithout_18 rfl rfl ?_
  refine j_iconst (v := nI 0) C dX7_costWithout_19 rfl ?_
  refine j_zast' C dX7_costWithout_20 (Nat.lt_of_lt_of_le (by decide) hN) (fun _ => rfl) (by decide) (by omega) rfl (fun τ4 hz_5 hw_6 => ?_)
  have hWx : StW τ4 1 (nM a) wt (dnU u l) := fun k hk => by
    obtain ⟨e1, e2⟩ := c7 k (by omega)
    refine ⟨by rw [hz_5 _ _ (by omega)]; exact e1.trans (hW k hk).1, ?_⟩
    show _ = bI (if k = l then false else u k)
    by_cases e : k = l
    · subst e; rw [if_pos rfl]; assumption
    · rw [if_neg e, hz_5 _ _ (by omega)]
      refine e2.trans ?_
      rw [(hW k hk).2]; exact bI_nar _
  refine j_aload_n C dX7_costWithout_21 rfl rfl ?_
  refine j_get C flX7_38 dX7_costWithout_22 (Nat.lt_of_lt_of_le (by decide) hN) rfl rfl ?_
  refine j_aload_n C dX7_costWithout_25 rfl rfl ?_
  refine j_get C flX7_58 dX7_costWithout_26 (Nat.lt_of_lt_of_le (by decide) hN) rfl rfl ?_
  refine j_calli (As := [.ref (gad g (52))]) (rest := []) C (tX0_costOf (i := 1) (w := wt) (u := (dnU u l)) hN (σ := τ4) (by omega) (hI.kept (fun j n h1 h2 => by rw [hz_5 _ _ (by omega), hf8 _ _ (by omega)])) hO hWx hw) cdX0_costOf mlX7_115 dX7_costWithout_29 (by decide) (by decide) (Nat.lt_of_lt_of_le (by decide) hN) rfl rfl rfl rfl rfl (Nat.le_of_ble_eq_true rfl) (fun rr_8 τ7 hp_9 => ?_)
  obtain ⟨hfc, hFl, hrc⟩ := hp_9
  subst hrc
  refine j_ret M dX7_costWithout_32 ?_
  exact ⟨fun j n h => by rw [hfc _ _ (by omega), hz_5 _ _ (by omega), hf8 _ _ (by omega)], rfl, hWx.kept' (fun j n h => hfc j n (by omega))⟩
set_option maxHeartbeats 4000000 in
set_option maxRecDepth 100000 in
theorem tX7_rescue {g : jG} (hN : 84 ≤ gN g) {σ : Sg} {tx : Nat → Int32} {len : Nat} {a : ND} {wt : Nat → Nat} {u : Nat → Bool} {tl : List Int32} {le : Nat} {p : List SD} (hC : CI σ (tx, len, a, (wt, u, tl, le), p)) (hA : AOk (tx, len, a, (wt, u, tl, le), p)) (l0 x0 : Int32) : MS g yX7_rescue cX7_rescue 4 (some .int) rmX7_rescue [.ref (gad g (0)), .int (l0), .int (x0)] σ (fun r σ' => r = (abRescue l0 x0 (tx, len, a, (wt, u, tl, le), p)).1 ∧ CI σ' (abRescue l0 x0 (tx, len, a, (wt, u, tl, le), p)).2 ∧ ∀ j n, 84 ≤ j → σ' j n = σ j n) := by
  refine MJ_of (by decide) (Nat.le_of_ble_eq_true rfl) (List.forall_mem_cons.mpr ⟨rfl, List.forall_mem_cons.mpr ⟨rfl, List.forall_mem_cons.mpr ⟨rfl, fun _ h => absurd h List.not_mem_nil⟩⟩⟩) ?_
  intro κ M
  have C := M.1
  show J g κ 4 0 [some (.ref (gad g (0))), some (.int (l0)), some (.int (x0)), none] [] σ
  have hI : NetI σ 3 a := hC.2.1
  have hO : NOk a := hA.1
  have hS : StI σ 0 (nM a) (wt, u, tl, le) := hC.2.2.1
  have hW : StW σ 0 (nM a) wt u := hS.2.1
  have hw : WOk (nM a) wt := hA.2.1.1
  have htl6 : tl.length ≤ 6 := hA.2.1.2.1
  have hle31 : le < 2 ^ 31 := hA.2.1.2.2
  have hlen : len ≤ 200 := hC.1.2.1
  have hn7 := hO.2.1
  have hm12 := hO.2.2.1
  have hd6 := hO.2.2.2.1
  have hCl : σ 1 1 = nI len := hC.1.1
  have hCt : ∀ k, k < len → σ 2 k = tx k := hC.1.2.2
  refine j_aload_n C dX7_rescue_0 rfl rfl ?_
  refine j_get C flX7_19 dX7_rescue_1 (Nat.lt_of_lt_of_le (by decide) hN) rfl rfl ?_
  refine j_iload_n C dX7_rescue_4 rfl rfl ?_
  refine j_calli (As := [.int (l0)]) (rest := []) C (tX3_hasLink (i := 0) hN (by omega) hI.m (by omega) _) cdX3_hasLink mlX7_102 dX7_rescue_5 (by decide) (by decide) (Nat.lt_of_lt_of_le (by decide) hN) rfl rfl rfl rfl rfl (Nat.le_of_ble_eq_true rfl) (fun rr_2 τ1 hp_3 => ?_)
  obtain ⟨hs, hc⟩ := hp_3
  replace hs := hs.symm
  subst hs
  rcases hc with ⟨rfl, l, hl, rfl⟩ | ⟨rfl, hno⟩
  · refine j_ifn_eq (tgt := 20) C dX7_rescue_8 rfl (by omega) (fun h => absurd h (by decide)) (fun _ => ?_)
    refine j_iload_n C dX7_rescue_11 rfl rfl ?_
    refine j_if_lt (tgt := 20) C dX7_rescue_12 rfl (fun h12 => ?_) (fun h12 => ?_)
    · refine j_iconst (v := -1) C dX7_rescue_20 rfl ?_
      refine j_ret M dX7_rescue_21 ?_
      rw [abRescue, pIf_f (fun q => by
        first | exact hno q.1 | (obtain ⟨q1, q2⟩ := (nI_rng (a := 0) (b := 2) (by decide) (by decide)).mpr (by first | exact q | exact q.2); first | exact absurd (Int32.not_lt.mpr q1) (fun z => z (by assumption)) | exact absurd q2 (by assumption)))]
      exact ⟨rfl, hC, fun _ _ _ => rfl⟩
    · refine j_iload_n C dX7_rescue_15 rfl rfl ?_
      refine j_iconst (v := nI 2) C dX7_rescue_16 rfl ?_
      refine j_icmp_le (tgt := 22) C dX7_rescue_17 rfl (fun h17 => ?_) (fun h17 => ?_)
      · obtain ⟨x, hx1, hx2, rfl⟩ := (nI_rng (a := 0) (b := 2) (by decide) (by decide)).mp ⟨Int32.not_lt.mp h12, h17⟩
        rcases hul : u l with _ | _
        · refine j_aload_n C dX7_rescue_22 rfl rfl ?_
          refine j_get C flX7_54 dX7_rescue_23 (Nat.lt_of_lt_of_le (by decide) hN) rfl rfl ?_
          refine j_get C flX7_148 dX7_rescue_26 (Nat.lt_of_lt_of_le (by decide) hN) rfl rfl ?_
          refine j_iload_n C dX7_rescue_29 rfl rfl ?_
          refine j_zald C dX7_rescue_30 (Nat.lt_of_lt_of_le (by decide) hN) (fun _ => rfl) (by decide) (by omega) ?_
          refine j_top ((hW l (by omega)).2.trans (by rw [hul])) ?_
          refine j_ifn_ne (tgt := 37) C dX7_rescue_31 rfl (by omega) (fun h => absurd h (by decide)) (fun _ => ?_)
          refine j_bipush (v := -2) C dX7_rescue_34 rfl ?_
          refine j_ret M dX7_rescue_36 ?_
          rw [abRescue, pIf_t ⟨⟨l, hl, rfl⟩, ⟨x, hx1, hx2, rfl⟩⟩, idx_nI (by omega), idx_nI (by omega)]
          dsimp only
          rw [if_pos hul]
          exact ⟨rfl, hC, fun _ _ _ => rfl⟩
        · refine j_aload_n C dX7_rescue_22 rfl rfl ?_
          refine j_get C flX7_54 dX7_rescue_23 (Nat.lt_of_lt_of_le (by decide) hN) rfl rfl ?_
          refine j_get C flX7_148 dX7_rescue_26 (Nat.lt_of_lt_of_le (by decide) hN) rfl rfl ?_
          refine j_iload_n C dX7_rescue_29 rfl rfl ?_
          refine j_zald C dX7_rescue_30 (Nat.lt_of_lt_of_le (by decide) hN) (fun _ => rfl) (by decide) (by omega) ?_
          refine j_top ((hW l (by omega)).2.trans (by rw [hul])) ?_
          refine j_ifn_ne (tgt := 37) C dX7_rescue_31 rfl (by omega) (fun _ => ?_) (fun h => absurd h (by decide))
          refine j_aload_n C dX7_rescue_37 rfl rfl ?_
          refine j_iload_n C dX7_rescue_38 rfl rfl ?_
          refine j_calli (As := [.int (nI (l))]) (rest := []) C (tX7_costWithout hN hC hA (l := l) hl) cdX7_costWithout mlX7_202 dX7_rescue_39 (by decide) (by decide) (Nat.lt_of_lt_of_le (by decide) hN) rfl rfl rfl rfl rfl (Nat.le_of_ble_eq_true rfl) (fun rr_5 τ4 hp_6 => ?_)
          obtain ⟨hfw, hrw, hWf⟩ := hp_6
          subst hrw
          have hcb := costN_bd (w := wt) (u := dnU u l) hO
          refine j_istore_n (L' := [some (.ref (gad g (0))), some (.int (nI (l))), some (.int (nI (x))), some (.int (nI (costN a wt (dnU u l))))]) C dX7_rescue_42 rfl (by decide) rfl ?_
          refine j_aload_n C dX7_rescue_43 rfl rfl ?_
          refine j_get C flX7_47 dX7_rescue_44 (Nat.lt_of_lt_of_le (by decide) hN) rfl rfl ?_
          refine j_aload_n C dX7_rescue_47 rfl rfl ?_
          refine j_get C flX7_58 dX7_rescue_48 (Nat.lt_of_lt_of_le (by decide) hN) rfl rfl ?_
          refine j_iload_n C dX7_rescue_51 rfl rfl ?_
          refine j_iconst (v := nI 0) C dX7_rescue_52 rfl ?_
          refine j_calli (As := [.ref (gad g (52)), .int (nI (l)), .int (nI (0))]) (rest := []) C (tX2_find hN (bs := 1) (le := le) (wt := wt) (u := (dnU u l)) (hd := false) (tl := tl) (by omega) (hI.kept (fun j n h1 h2 => by rw [hfw _ _ (by omega)])) hO hWf hw (fun h => by cases h) (nI l)) cdX2_find mlX7_130 dX7_rescue_53 (by decide) (by decide) (Nat.lt_of_lt_of_le (by decide) hN) rfl rfl rfl rfl rfl (Nat.le_of_ble_eq_true rfl) (fun rr_8 τ7 hp_9 => ?_)
          obtain ⟨hff, hrf, hbi⟩ := hp_9
          rcases hfd : fndF a wt (dnU u l) false le tl (nI l) (nM a) with _ | ⟨l1, x1, c1⟩ <;> rw [hfd] at hrf hbi <;> subst hrf
          · refine j_ifn_eq (tgt := 70) C dX7_rescue_56 rfl (by omega) (fun _ => ?_) (fun h => absurd h (by decide))
            refine j_bipush (v := -4) C dX7_rescue_70 rfl ?_
            refine j_ret M dX7_rescue_72 ?_
            rw [abRescue, pIf_t ⟨⟨l, hl, rfl⟩, ⟨x, hx1, hx2, rfl⟩⟩, idx_nI (by omega), idx_nI (by omega)]
            dsimp only
            rw [if_neg (show ¬ u l = false by rw [hul]; decide), show fnd a (wt, dnU u l, tl, le) false (nI l) = fndF a wt (dnU u l) false le tl (nI l) (nM a) from rfl, hfd]
            dsimp only
            try rw [if_neg (show ¬ c1 < costN a wt (dnU u l) by omega)]
            exact ⟨rfl, hC.kept (fun j n h => by rw [hff _ _ (by omega), hfw _ _ (by omega)]), fun j n h => by rw [hff _ _ (by omega), hfw _ _ (by omega)]⟩
          · have hbk := fnd_ok hfd
            have hb21 := hbi.2
            refine j_ifn_eq (tgt := 70) C dX7_rescue_56 rfl (by omega) (fun h => absurd h (by decide)) (fun _ => ?_)
            refine j_aload_n C dX7_rescue_59 rfl rfl ?_
            refine j_get C flX7_47 dX7_rescue_60 (Nat.lt_of_lt_of_le (by decide) hN) rfl rfl ?_
            refine j_get C flX7_145 dX7_rescue_63 (Nat.lt_of_lt_of_le (by decide) hN) rfl rfl ?_
            refine j_top (hbi.1.2.2) ?_
            refine j_iload_n C dX7_rescue_66 rfl rfl ?_
            refine j_icmpn_lt (tgt := 73) C dX7_rescue_67 rfl (by omega) (by omega) (fun h67 => ?_) (fun h67 => ?_)
            · refine j_aload_n C dX7_rescue_73 rfl rfl ?_
              refine j_get C flX7_47 dX7_rescue_74 (Nat.lt_of_lt_of_le (by decide) hN) rfl rfl ?_
              refine j_iload_n C dX7_rescue_77 rfl rfl ?_
              refine j_calli (As := [.int (nI (x))]) (rest := []) C (tX2_found hN (q := x) (by omega) hbi) cdX2_found mlX7_199 dX7_rescue_78 (by decide) (by decide) (Nat.lt_of_lt_of_le (by decide) hN) rfl rfl rfl rfl rfl (Nat.le_of_ble_eq_true rfl) (fun rr_11 τ10 hp_12 => ?_)
              obtain ⟨hs, hr⟩ := hp_12
              replace hs := hs.symm
              subst hs
              subst hr
              refine j_ret M dX7_rescue_81 ?_
              rw [abRescue, pIf_t ⟨⟨l, hl, rfl⟩, ⟨x, hx1, hx2, rfl⟩⟩, idx_nI (by omega), idx_nI (by omega)]
              dsimp only
              rw [if_neg (show ¬ u l = false by rw [hul]; decide), show fnd a (wt, dnU u l, tl, le) false (nI l) = fndF a wt (dnU u l) false le tl (nI l) (nM a) from rfl, hfd]
              dsimp only
              rw [if_pos (show c1 < costN a wt (dnU u l) by omega)]
              exact ⟨rfl, hC.kept (fun j n h => by rw [hff _ _ (by omega), hfw _ _ (by omega)]), fun j n h => by rw [hff _ _ (by omega), hfw _ _ (by omega)]⟩
            · refine j_bipush (v := -4) C dX7_rescue_70 rfl ?_
              refine j_ret M dX7_rescue_72 ?_
              rw [abRescue, pIf_t ⟨⟨l, hl, rfl⟩, ⟨x, hx1, hx2, rfl⟩⟩, idx_nI (by omega), idx_nI (by omega)]
              dsimp only
              rw [if_neg (show ¬ u l = false by rw [hul]; decide), show fnd a (wt, dnU u l, tl, le) false (nI l) = fndF a wt (dnU u l) false le tl (nI l) (nM a) from rfl, hfd]
              dsimp only
              try rw [if_neg (show ¬ c1 < costN a wt (dnU u l) by omega)]
              exact ⟨rfl, hC.kept (fun j n h => by rw [hff _ _ (by omega), hfw _ _ (by omega)]), fun j n h => by rw [hff _ _ (by omega), hfw _ _ (by omega)]⟩
      · refine j_iconst (v := -1) C dX7_rescue_20 rfl ?_
        refine j_ret M dX7_rescue_21 ?_
        rw [abRescue, pIf_f (fun q => by
          first | exact hno q.1 | (obtain ⟨q1, q2⟩ := (nI_rng (a := 0) (b := 2) (by decide) (by decide)).mpr (by first | exact q | exact q.2); first | exact absurd (Int32.not_lt.mpr q1) (fun z => z (by assumption)) | exact absurd q2 (by assumption)))]
        exact ⟨rfl, hC, fun _ _ _ => rfl⟩
  · refine j_ifn_eq (tgt := 20) C dX7_rescue_8 rfl (by omega) (fun _ => ?_) (fun h => absurd h (by decide))
    refine j_iconst (v := -1) C dX7_rescue_20 rfl ?_
    refine j_ret M dX7_rescue_21 ?_
    rw [abRescue, pIf_f (fun q => by
      first | exact hno q.1 | (obtain ⟨q1, q2⟩ := (nI_rng (a := 0) (b := 2) (by decide) (by decide)).mpr (by first | exact q | exact q.2); first | exact absurd (Int32.not_lt.mpr q1) (fun z => z (by assumption)) | exact absurd q2 (by assumption)))]
    exact ⟨rfl, hC, fun _ _ _ => rfl⟩
def wl_ (b : Option (Nat × Nat)) : Int32 := match b with | none => -1 | some z => nI z.1
def wm_ (b : Option (Nat × Nat)) : Int32 := match b with | none => nI 0 | some z => nI z.2
theorem wrst_ok {a : ND} {w : Nat → Nat} {u : Nat → Bool} (hO : NOk a) : ∀ {m l c : Nat}, wrst a w u m = some (l, c) → l < m ∧ c ≤ 459756000
  | 0, l, c, h => by cases h
  | m + 1, l, c, h => by
    rw [wrst] at h
    by_cases q : u m = true ∧ wLs (wrst a w u m) (costN a w (dnU u m)) = true
    · rw [if_pos q] at h
      cases h
      exact ⟨by omega, costN_bd hO⟩
    · rw [if_neg q] at h
      have := wrst_ok hO h
      exact ⟨by omega, this.2⟩
set_option maxHeartbeats 4000000 in
set_option maxRecDepth 100000 in
theorem tX7_worst {g : jG} (hN : 84 ≤ gN g) {σ : Sg} {tx : Nat → Int32} {len : Nat} {a : ND} {wt : Nat → Nat} {u : Nat → Bool} {tl : List Int32} {le : Nat} {p : List SD} (hC : CI σ (tx, len, a, (wt, u, tl, le), p)) (hA : AOk (tx, len, a, (wt, u, tl, le), p)) (x0 : Int32) : MS g yX7_worst cX7_worst 6 (some .int) rmX7_worst [.ref (gad g (0)), .int (x0)] σ (fun r σ' => r = (abWorst x0 (tx, len, a, (wt, u, tl, le), p)).1 ∧ CI σ' (abWorst x0 (tx, len, a, (wt, u, tl, le), p)).2 ∧ ∀ j n, 84 ≤ j → σ' j n = σ j n) := by
  refine MJ_of (by decide) (Nat.le_of_ble_eq_true rfl) (List.forall_mem_cons.mpr ⟨rfl, List.forall_mem_cons.mpr ⟨rfl, fun _ h => absurd h List.not_mem_nil⟩⟩) ?_
  intro κ M
  have C := M.1
  show J g κ 6 0 [some (.ref (gad g (0))), some (.int (x0)), none, none, none, none] [] σ
  have hI : NetI σ 3 a := hC.2.1
  have hO : NOk a := hA.1
  have hS : StI σ 0 (nM a) (wt, u, tl, le) := hC.2.2.1
  have hW : StW σ 0 (nM a) wt u := hS.2.1
  have hw : WOk (nM a) wt := hA.2.1.1
  have htl6 : tl.length ≤ 6 := hA.2.1.2.1
  have hle31 : le < 2 ^ 31 := hA.2.1.2.2
  have hlen : len ≤ 200 := hC.1.2.1
  have hn7 := hO.2.1
  have hm12 := hO.2.2.1
  have hd6 := hO.2.2.2.1
  have hCl : σ 1 1 = nI len := hC.1.1
  have hCt : ∀ k, k < len → σ 2 k = tx k := hC.1.2.2
  refine j_iload_n C dX7_worst_0 rfl rfl ?_
  refine j_if_lt (tgt := 9) C dX7_worst_1 rfl (fun h1 => ?_) (fun h1 => ?_)
  · refine j_iconst (v := -1) C dX7_worst_9 rfl ?_
    refine j_ret M dX7_worst_10 ?_
    rw [abWorst, pIf_f (fun q => by
      first | exact hno q.1 | (obtain ⟨q1, q2⟩ := (nI_rng (a := 0) (b := 1) (by decide) (by decide)).mpr (by first | exact q | exact q.2); first | exact absurd (Int32.not_lt.mpr q1) (fun z => z (by assumption)) | exact absurd q2 (by assumption)))]
    exact ⟨rfl, hC, fun _ _ _ => rfl⟩
  · refine j_iload_n C dX7_worst_4 rfl rfl ?_
    refine j_iconst (v := nI 1) C dX7_worst_5 rfl ?_
    refine j_icmp_le (tgt := 11) C dX7_worst_6 rfl (fun h6 => ?_) (fun h6 => ?_)
    · obtain ⟨x, hx1, hx2, rfl⟩ := (nI_rng (a := 0) (b := 1) (by decide) (by decide)).mp ⟨Int32.not_lt.mp h1, h6⟩
      have lp : ∀ (k l : Nat) (σ1 : Sg), nM a - l = k → l ≤ nM a → (∀ j n, ¬ (25 ≤ j ∧ j ≤ 43 ∨ 52 ≤ j ∧ j ≤ 55) → σ1 j n = σ j n) → J g κ 6 18 [some (.ref (gad g (0))), some (.int (nI (x))), some (.int (wl_ (wrst a wt u l))), some (.int (wm_ (wrst a wt u l))), some (.int (nI (l))), none] [] σ1 := by
        intro k
        induction k using Nat.strongRecOn with
        | _ k ih =>
          intro l σ1 hk hl hf
          refine j_iload C dX7_worst_18 rfl ?_
          refine j_aload_n C dX7_worst_20 rfl rfl ?_
          refine j_get C flX7_19 dX7_worst_21 (Nat.lt_of_lt_of_le (by decide) hN) rfl rfl ?_
          refine j_get C flX7_99 dX7_worst_24 (Nat.lt_of_lt_of_le (by decide) hN) rfl rfl ?_
          refine j_top ((hf _ _ (by omega)).trans (hI.m)) ?_
          refine j_icmpn_ge (tgt := 74) C dX7_worst_27 rfl (by omega) (by omega) (fun h27 => ?_) (fun h27 => ?_)
          · have el : l = nM a := by omega
            rcases hwr : (wrst a wt u l) with _ | ⟨l1, c1⟩
            · refine j_iload_n C dX7_worst_74 rfl rfl ?_
              refine j_iconst (v := -1) C dX7_worst_75 rfl ?_
              refine j_icmp_ne (tgt := 82) C dX7_worst_76 rfl (fun h => absurd h (by decide)) (fun _ => ?_)
              refine j_bipush (v := -4) C dX7_worst_79 rfl ?_
              refine j_ret M dX7_worst_81 ?_
              rw [abWorst, pIf_t ⟨x, hx1, hx2, rfl⟩, idx_nI (by omega)]
              dsimp only
              rw [← el, hwr]
              dsimp only
              exact ⟨rfl, hC.kept (fun j n h => hf j n (by omega)), fun j n h => hf j n (by omega)⟩
            · have hwk := wrst_ok hO hwr
              refine j_iload_n C dX7_worst_74 rfl rfl ?_
              refine j_iconst (v := -1) C dX7_worst_75 rfl ?_
              refine j_icmp_ne (tgt := 82) C dX7_worst_76 rfl (fun _ => ?_) (fun h => absurd h (nI_neg (by omega) (by decide)))
              refine j_iload_n C dX7_worst_82 rfl rfl ?_
              refine j_ifn_ne (tgt := 90) C dX7_worst_83 rfl (by omega) (fun h83 => ?_) (fun h83 => ?_)
              · refine j_iload_n C dX7_worst_90 rfl rfl ?_
                refine j_ret M dX7_worst_91 ?_
                rw [abWorst, pIf_t ⟨x, hx1, hx2, rfl⟩, idx_nI (by omega)]
                dsimp only
                rw [← el, hwr]
                dsimp only
                first | rw [if_pos (by omega)] | rw [if_neg (by omega)]
                exact ⟨rfl, hC.kept (fun j n h => hf j n (by omega)), fun j n h => hf j n (by omega)⟩
              · refine j_iload_n C dX7_worst_86 rfl rfl ?_
                refine j_goto (tgt := 91) C dX7_worst_87 rfl ?_
                refine j_ret M dX7_worst_91 ?_
                rw [abWorst, pIf_t ⟨x, hx1, hx2, rfl⟩, idx_nI (by omega)]
                dsimp only
                rw [← el, hwr]
                dsimp only
                first | rw [if_pos (by omega)] | rw [if_neg (by omega)]
                exact ⟨rfl, hC.kept (fun j n h => hf j n (by omega)), fun j n h => hf j n (by omega)⟩
          · rcases hul : u l with _ | _ <;> rcases hwr : (wrst a wt u l) with _ | ⟨l1, c1⟩
            · refine j_aload_n C dX7_worst_30 rfl rfl ?_
              refine j_get C flX7_54 dX7_worst_31 (Nat.lt_of_lt_of_le (by decide) hN) rfl rfl ?_
              refine j_get C flX7_148 dX7_worst_34 (Nat.lt_of_lt_of_le (by decide) hN) rfl rfl ?_
              refine j_iload C dX7_worst_37 rfl ?_
              refine j_zald C dX7_worst_39 (Nat.lt_of_lt_of_le (by decide) hN) (fun _ => rfl) (by decide) (by omega) ?_
              refine j_top ((hf _ _ (by omega)).trans ((hW l (by omega)).2.trans (by rw [hul]))) ?_
              refine j_ifn_eq (tgt := 68) C dX7_worst_40 rfl (by omega) (fun _ => ?_) (fun h => absurd h (by decide))
              refine j_iinc (L' := [some (.ref (gad g (0))), some (.int (nI (x))), some (.int (-1)), some (.int (nI (0))), some (.int (nI (l + 1))), none]) C dX7_worst_68 rfl (nI_inc _) (by decide) rfl ?_
              refine j_goto (tgt := 18) C dX7_worst_71 rfl ?_
              have e : (wrst a wt u (l + 1)) = (wrst a wt u l) := by
                rw [wrst, if_neg (fun q => by first | (rw [hul] at q; exact absurd q.1 (by decide)) | (have q2 := q.2; rw [hwr] at q2; simp [wLs] at q2; omega))]
              refine J_loc (L' := [some (.ref (gad g (0))), some (.int (nI (x))), some (.int (wl_ (wrst a wt u (l + 1)))), some (.int (wm_ (wrst a wt u (l + 1)))), some (.int (nI (l + 1))), none]) (by rw [e, hwr]; rfl) (ih (nM a - (l + 1)) (by omega) (l + 1) σ1 rfl (by omega) hf)
            · have hwk := wrst_ok hO hwr
              refine j_aload_n C dX7_worst_30 rfl rfl ?_
              refine j_get C flX7_54 dX7_worst_31 (Nat.lt_of_lt_of_le (by decide) hN) rfl rfl ?_
              refine j_get C flX7_148 dX7_worst_34 (Nat.lt_of_lt_of_le (by decide) hN) rfl rfl ?_
              refine j_iload C dX7_worst_37 rfl ?_
              refine j_zald C dX7_worst_39 (Nat.lt_of_lt_of_le (by decide) hN) (fun _ => rfl) (by decide) (by omega) ?_
              refine j_top ((hf _ _ (by omega)).trans ((hW l (by omega)).2.trans (by rw [hul]))) ?_
              refine j_ifn_eq (tgt := 68) C dX7_worst_40 rfl (by omega) (fun _ => ?_) (fun h => absurd h (by decide))
              refine j_iinc (L' := [some (.ref (gad g (0))), some (.int (nI (x))), some (.int (nI (l1))), some (.int (nI (c1))), some (.int (nI (l + 1))), none]) C dX7_worst_68 rfl (nI_inc _) (by decide) rfl ?_
              refine j_goto (tgt := 18) C dX7_worst_71 rfl ?_
              have e : (wrst a wt u (l + 1)) = (wrst a wt u l) := by
                rw [wrst, if_neg (fun q => by first | (rw [hul] at q; exact absurd q.1 (by decide)) | (have q2 := q.2; rw [hwr] at q2; simp [wLs] at q2; omega))]
              refine J_loc (L' := [some (.ref (gad g (0))), some (.int (nI (x))), some (.int (wl_ (wrst a wt u (l + 1)))), some (.int (wm_ (wrst a wt u (l + 1)))), some (.int (nI (l + 1))), none]) (by rw [e, hwr]; rfl) (ih (nM a - (l + 1)) (by omega) (l + 1) σ1 rfl (by omega) hf)
            · refine j_aload_n C dX7_worst_30 rfl rfl ?_
              refine j_get C flX7_54 dX7_worst_31 (Nat.lt_of_lt_of_le (by decide) hN) rfl rfl ?_
              refine j_get C flX7_148 dX7_worst_34 (Nat.lt_of_lt_of_le (by decide) hN) rfl rfl ?_
              refine j_iload C dX7_worst_37 rfl ?_
              refine j_zald C dX7_worst_39 (Nat.lt_of_lt_of_le (by decide) hN) (fun _ => rfl) (by decide) (by omega) ?_
              refine j_top ((hf _ _ (by omega)).trans ((hW l (by omega)).2.trans (by rw [hul]))) ?_
              refine j_ifn_eq (tgt := 68) C dX7_worst_40 rfl (by omega) (fun h => absurd h (by decide)) (fun _ => ?_)
              refine j_aload_n C dX7_worst_43 rfl rfl ?_
              refine j_iload C dX7_worst_44 rfl ?_
              refine j_calli (As := [.int (nI (l))]) (rest := []) C (tX7_costWithout hN (hC.kept (fun j n h => hf j n (by omega))) hA (l := l) (by omega)) cdX7_costWithout mlX7_202 dX7_worst_46 (by decide) (by decide) (Nat.lt_of_lt_of_le (by decide) hN) rfl rfl rfl rfl rfl (Nat.le_of_ble_eq_true rfl) (fun rr_2 τ1 hp_3 => ?_)
              obtain ⟨hfw, hrw, hWf⟩ := hp_3
              subst hrw
              have hcb := costN_bd (w := wt) (u := dnU u l) hO
              refine j_istore (L' := [some (.ref (gad g (0))), some (.int (nI (x))), some (.int (-1)), some (.int (nI (0))), some (.int (nI (l))), some (.int (nI (costN a wt (dnU u l))))]) C dX7_worst_49 (by decide) rfl ?_
              refine j_iload_n C dX7_worst_51 rfl rfl ?_
              refine j_iconst (v := -1) C dX7_worst_52 rfl ?_
              refine j_icmp_eq (tgt := 62) C dX7_worst_53 rfl (fun _ => ?_) (fun h => absurd h (by decide))
              refine j_iload C dX7_worst_62 rfl ?_
              refine j_istore_n (L' := [some (.ref (gad g (0))), some (.int (nI (x))), some (.int (nI (l))), some (.int (nI (0))), some (.int (nI (l))), some (.int (nI (costN a wt (dnU u l))))]) C dX7_worst_64 rfl (by decide) rfl ?_
              refine j_iload C dX7_worst_65 rfl ?_
              refine j_istore_n (L' := [some (.ref (gad g (0))), some (.int (nI (x))), some (.int (nI (l))), some (.int (nI (costN a wt (dnU u l)))), some (.int (nI (l))), some (.int (nI (costN a wt (dnU u l))))]) C dX7_worst_67 rfl (by decide) rfl ?_
              refine j_iinc (L' := [some (.ref (gad g (0))), some (.int (nI (x))), some (.int (nI (l))), some (.int (nI (costN a wt (dnU u l)))), some (.int (nI (l + 1))), some (.int (nI (costN a wt (dnU u l))))]) C dX7_worst_68 rfl (nI_inc _) (by decide) rfl ?_
              refine j_goto (tgt := 18) C dX7_worst_71 rfl ?_
              have e : (wrst a wt u (l + 1)) = some (l, costN a wt (dnU u l)) := by
                rw [wrst, if_pos ⟨hul, by rw [hwr]; first | (simp [wLs]; done) | (simp [wLs]; omega)⟩]
              refine J_clr 5 (L' := [some (.ref (gad g (0))), some (.int (nI (x))), some (.int (nI (l))), some (.int (nI (costN a wt (dnU u l)))), some (.int (nI (l + 1))), none]) rfl ?_
              refine J_loc (L' := [some (.ref (gad g (0))), some (.int (nI (x))), some (.int (wl_ (wrst a wt u (l + 1)))), some (.int (wm_ (wrst a wt u (l + 1)))), some (.int (nI (l + 1))), none]) (by rw [e]; rfl) (ih (nM a - (l + 1)) (by omega) (l + 1) τ1 rfl (by omega) (fun j n h => by rw [hfw _ _ (by omega)]; exact hf j n h))
            · have hwk := wrst_ok hO hwr
              refine j_aload_n C dX7_worst_30 rfl rfl ?_
              refine j_get C flX7_54 dX7_worst_31 (Nat.lt_of_lt_of_le (by decide) hN) rfl rfl ?_
              refine j_get C flX7_148 dX7_worst_34 (Nat.lt_of_lt_of_le (by decide) hN) rfl rfl ?_
              refine j_iload C dX7_worst_37 rfl ?_
              refine j_zald C dX7_worst_39 (Nat.lt_of_lt_of_le (by decide) hN) (fun _ => rfl) (by decide) (by omega) ?_
              refine j_top ((hf _ _ (by omega)).trans ((hW l (by omega)).2.trans (by rw [hul]))) ?_
              refine j_ifn_eq (tgt := 68) C dX7_worst_40 rfl (by omega) (fun h => absurd h (by decide)) (fun _ => ?_)
              refine j_aload_n C dX7_worst_43 rfl rfl ?_
              refine j_iload C dX7_worst_44 rfl ?_
              refine j_calli (As := [.int (nI (l))]) (rest := []) C (tX7_costWithout hN (hC.kept (fun j n h => hf j n (by omega))) hA (l := l) (by omega)) cdX7_costWithout mlX7_202 dX7_worst_46 (by decide) (by decide) (Nat.lt_of_lt_of_le (by decide) hN) rfl rfl rfl rfl rfl (Nat.le_of_ble_eq_true rfl) (fun rr_5 τ4 hp_6 => ?_)
              obtain ⟨hfw, hrw, hWf⟩ := hp_6
              subst hrw
              have hcb := costN_bd (w := wt) (u := dnU u l) hO
              refine j_istore (L' := [some (.ref (gad g (0))), some (.int (nI (x))), some (.int (nI (l1))), some (.int (nI (c1))), some (.int (nI (l))), some (.int (nI (costN a wt (dnU u l))))]) C dX7_worst_49 (by decide) rfl ?_
              refine j_iload_n C dX7_worst_51 rfl rfl ?_
              refine j_iconst (v := -1) C dX7_worst_52 rfl ?_
              refine j_icmp_eq (tgt := 62) C dX7_worst_53 rfl (fun h => absurd h (nI_neg (by omega) (by decide))) (fun _ => ?_)
              refine j_iload C dX7_worst_56 rfl ?_
              refine j_iload_n C dX7_worst_58 rfl rfl ?_
              refine j_icmpn_le (tgt := 68) C dX7_worst_59 rfl (by omega) (by omega) (fun h59 => ?_) (fun h59 => ?_)
              · refine j_iinc (L' := [some (.ref (gad g (0))), some (.int (nI (x))), some (.int (nI (l1))), some (.int (nI (c1))), some (.int (nI (l + 1))), some (.int (nI (costN a wt (dnU u l))))]) C dX7_worst_68 rfl (nI_inc _) (by decide) rfl ?_
                refine j_goto (tgt := 18) C dX7_worst_71 rfl ?_
                have e : (wrst a wt u (l + 1)) = (wrst a wt u l) := by
                  rw [wrst, if_neg (fun q => by first | (rw [hul] at q; exact absurd q.1 (by decide)) | (have q2 := q.2; rw [hwr] at q2; simp [wLs] at q2; omega))]
                refine J_clr 5 (L' := [some (.ref (gad g (0))), some (.int (nI (x))), some (.int (nI (l1))), some (.int (nI (c1))), some (.int (nI (l + 1))), none]) rfl ?_
                refine J_loc (L' := [some (.ref (gad g (0))), some (.int (nI (x))), some (.int (wl_ (wrst a wt u (l + 1)))), some (.int (wm_ (wrst a wt u (l + 1)))), some (.int (nI (l + 1))), none]) (by rw [e, hwr]; rfl) (ih (nM a - (l + 1)) (by omega) (l + 1) τ4 rfl (by omega) (fun j n h => by rw [hfw _ _ (by omega)]; exact hf j n h))
              · refine j_iload C dX7_worst_62 rfl ?_
                refine j_istore_n (L' := [some (.ref (gad g (0))), some (.int (nI (x))), some (.int (nI (l))), some (.int (nI (c1))), some (.int (nI (l))), some (.int (nI (costN a wt (dnU u l))))]) C dX7_worst_64 rfl (by decide) rfl ?_
                refine j_iload C dX7_worst_65 rfl ?_
                refine j_istore_n (L' := [some (.ref (gad g (0))), some (.int (nI (x))), some (.int (nI (l))), some (.int (nI (costN a wt (dnU u l)))), some (.int (nI (l))), some (.int (nI (costN a wt (dnU u l))))]) C dX7_worst_67 rfl (by decide) rfl ?_
                refine j_iinc (L' := [some (.ref (gad g (0))), some (.int (nI (x))), some (.int (nI (l))), some (.int (nI (costN a wt (dnU u l)))), some (.int (nI (l + 1))), some (.int (nI (costN a wt (dnU u l))))]) C dX7_worst_68 rfl (nI_inc _) (by decide) rfl ?_
                refine j_goto (tgt := 18) C dX7_worst_71 rfl ?_
                have e : (wrst a wt u (l + 1)) = some (l, costN a wt (dnU u l)) := by
                  rw [wrst, if_pos ⟨hul, by rw [hwr]; first | (simp [wLs]; done) | (simp [wLs]; omega)⟩]
                refine J_clr 5 (L' := [some (.ref (gad g (0))), some (.int (nI (x))), some (.int (nI (l))), some (.int (nI (costN a wt (dnU u l)))), some (.int (nI (l + 1))), none]) rfl ?_
                refine J_loc (L' := [some (.ref (gad g (0))), some (.int (nI (x))), some (.int (wl_ (wrst a wt u (l + 1)))), some (.int (wm_ (wrst a wt u (l + 1)))), some (.int (nI (l + 1))), none]) (by rw [e]; rfl) (ih (nM a - (l + 1)) (by omega) (l + 1) τ4 rfl (by omega) (fun j n h => by rw [hfw _ _ (by omega)]; exact hf j n h))
      refine j_iconst (v := -1) C dX7_worst_11 rfl ?_
      refine j_istore_n (L' := [some (.ref (gad g (0))), some (.int (nI (x))), some (.int (-1)), none, none, none]) C dX7_worst_12 rfl (by decide) rfl ?_
      refine j_iconst (v := nI 0) C dX7_worst_13 rfl ?_
      refine j_istore_n (L' := [some (.ref (gad g (0))), some (.int (nI (x))), some (.int (-1)), some (.int (nI (0))), none, none]) C dX7_worst_14 rfl (by decide) rfl ?_
      refine j_iconst (v := nI 0) C dX7_worst_15 rfl ?_
      refine j_istore (L' := [some (.ref (gad g (0))), some (.int (nI (x))), some (.int (-1)), some (.int (nI (0))), some (.int (nI (0))), none]) C dX7_worst_16 (by decide) rfl ?_
      exact lp (nM a - 0) 0 σ rfl (by omega) (fun _ _ _ => rfl)
    · refine j_iconst (v := -1) C dX7_worst_9 rfl ?_
      refine j_ret M dX7_worst_10 ?_
      rw [abWorst, pIf_f (fun q => by
        first | exact hno q.1 | (obtain ⟨q1, q2⟩ := (nI_rng (a := 0) (b := 1) (by decide) (by decide)).mpr (by first | exact q | exact q.2); first | exact absurd (Int32.not_lt.mpr q1) (fun z => z (by assumption)) | exact absurd q2 (by assumption)))]
      exact ⟨rfl, hC, fun _ _ _ => rfl⟩
