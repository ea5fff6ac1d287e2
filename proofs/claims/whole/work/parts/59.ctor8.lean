def rmX8_init : Room := { frames := 7, cells := 12, slots := 521, locals := 160 }
theorem jx_eq {g : jG} {κ : jC} {nL pc : Nat} {L : List (Option Value)} {S : List Value} {ws ws' : va_W} {kc ks : Nat} (h : ws = ws') (k : Jw g κ nL pc L S ws' kc ks) : Jw g κ nL pc L S ws kc ks := h ▸ k
set_option maxHeartbeats 4000000 in
set_option maxRecDepth 100000 in
theorem X8_rest {g : jG} {κ : jC} (hN : 97 ≤ gN g) (C : Cx g κ cX8_init 1 RX8 rmX8_init) {σ : Sg} (hz : ∀ j n, 84 ≤ j → σ j n = 0) (tx : Nat → Int32) (kE : ∀ σ' : Sg, RI σ' (tx, 0, ndC, newS ndC, []) → (∀ j n, j < 84 → σ' j n = σ j n) → JJ g κ 1 190 [some (.ref (gad g (84)))] [] σ' 12 521) : JJ g κ 1 100 [some (.ref (gad g (84)))] [] σ 12 521 := by
  refine j_aload_n C dX8_init_100 rfl rfl ?_
  refine jk_callv (As := []) (rest := []) C (tX8_beginRead hN ndZ) cdX8_beginRead mlX8_46 dX8_init_101 (by decide) (by decide) (by decide) (Nat.lt_of_lt_of_le (by decide) hN) rfl rfl rfl rfl rfl (Nat.le_of_ble_eq_true rfl) (fun τ1 hp_3 => ?_)
  obtain ⟨hbf, hR0, hb16⟩ := hp_3
  refine j_aload_n C dX8_init_104 rfl rfl ?_
  refine j_iconst (v := nI 5) C dX8_init_105 rfl ?_
  refine jk_put' C fpX8_49 dX8_init_106 (Nat.lt_of_lt_of_le (by decide) hN) (fun _ => rfl) rfl (Nat.le_of_ble_eq_true rfl) rfl rfl (fun τ4 hz_5 hw_6 => ?_)
  have hRn : RdI τ4 nR0 := ⟨⟨hw_6, by rw [hz_5 _ _ (by omega)]; exact hR0.1.2.1, by rw [hz_5 _ _ (by omega)]; exact hR0.1.2.2⟩, fun l hl => absurd hl (Nat.not_lt_zero _), fun l hl => absurd hl (Nat.not_lt_zero _)⟩
  refine j_aload_n C dX8_init_109 rfl rfl ?_
  refine j_iconst (v := nI 0) C dX8_init_110 rfl ?_
  refine j_iconst (v := nI 1) C dX8_init_111 rfl ?_
  refine j_bipush (v := nI 10) C dX8_init_112 rfl ?_
  refine j_iconst (v := nI 2) C dX8_init_114 rfl ?_
  refine jk_callv (As := [.int (nI (0)), .int (nI (1)), .int (nI (10)), .int (nI (2))]) (rest := []) C (tX8_putLink hN (a := nR0) (p := 0) (q := 1) (s := 10) (w := 2) hRn (Nat.le_of_ble_eq_true rfl)) cdX8_putLink mlX8_53 dX8_init_115 (by decide) (by decide) (by decide) (Nat.lt_of_lt_of_le (by decide) hN) rfl rfl rfl rfl rfl (Nat.le_of_ble_eq_true rfl) (fun τ7 hp_9 => ?_)
  obtain ⟨hlf1, hR1_⟩ := hp_9
  refine j_aload_n C dX8_init_118 rfl rfl ?_
  refine j_iconst (v := nI 1) C dX8_init_119 rfl ?_
  refine j_iconst (v := nI 4) C dX8_init_120 rfl ?_
  refine j_bipush (v := nI 8) C dX8_init_121 rfl ?_
  refine j_iconst (v := nI 2) C dX8_init_123 rfl ?_
  refine jk_callv (As := [.int (nI (1)), .int (nI (4)), .int (nI (8)), .int (nI (2))]) (rest := []) C (tX8_putLink hN (a := nR1) (p := 1) (q := 4) (s := 8) (w := 2) hR1_ (Nat.le_of_ble_eq_true rfl)) cdX8_putLink mlX8_53 dX8_init_124 (by decide) (by decide) (by decide) (Nat.lt_of_lt_of_le (by decide) hN) rfl rfl rfl rfl rfl (Nat.le_of_ble_eq_true rfl) (fun τ10 hp_12 => ?_)
  obtain ⟨hlf2, hR2_⟩ := hp_12
  refine j_aload_n C dX8_init_127 rfl rfl ?_
  refine j_iconst (v := nI 0) C dX8_init_128 rfl ?_
  refine j_iconst (v := nI 2) C dX8_init_129 rfl ?_
  refine j_bipush (v := nI 9) C dX8_init_130 rfl ?_
  refine j_iconst (v := nI 1) C dX8_init_132 rfl ?_
  refine jk_callv (As := [.int (nI (0)), .int (nI (2)), .int (nI (9)), .int (nI (1))]) (rest := []) C (tX8_putLink hN (a := nR2) (p := 0) (q := 2) (s := 9) (w := 1) hR2_ (Nat.le_of_ble_eq_true rfl)) cdX8_putLink mlX8_53 dX8_init_133 (by decide) (by decide) (by decide) (Nat.lt_of_lt_of_le (by decide) hN) rfl rfl rfl rfl rfl (Nat.le_of_ble_eq_true rfl) (fun τ13 hp_15 => ?_)
  obtain ⟨hlf3, hR3_⟩ := hp_15
  refine j_aload_n C dX8_init_136 rfl rfl ?_
  refine j_iconst (v := nI 2) C dX8_init_137 rfl ?_
  refine j_iconst (v := nI 4) C dX8_init_138 rfl ?_
  refine j_bipush (v := nI 6) C dX8_init_139 rfl ?_
  refine j_iconst (v := nI 3) C dX8_init_141 rfl ?_
  refine jk_callv (As := [.int (nI (2)), .int (nI (4)), .int (nI (6)), .int (nI (3))]) (rest := []) C (tX8_putLink hN (a := nR3) (p := 2) (q := 4) (s := 6) (w := 3) hR3_ (Nat.le_of_ble_eq_true rfl)) cdX8_putLink mlX8_53 dX8_init_142 (by decide) (by decide) (by decide) (Nat.lt_of_lt_of_le (by decide) hN) rfl rfl rfl rfl rfl (Nat.le_of_ble_eq_true rfl) (fun τ16 hp_18 => ?_)
  obtain ⟨hlf4, hR4_⟩ := hp_18
  refine j_aload_n C dX8_init_145 rfl rfl ?_
  refine j_iconst (v := nI 0) C dX8_init_146 rfl ?_
  refine j_iconst (v := nI 3) C dX8_init_147 rfl ?_
  refine j_bipush (v := nI 20) C dX8_init_148 rfl ?_
  refine j_iconst (v := nI 4) C dX8_init_150 rfl ?_
  refine jk_callv (As := [.int (nI (0)), .int (nI (3)), .int (nI (20)), .int (nI (4))]) (rest := []) C (tX8_putLink hN (a := nR4) (p := 0) (q := 3) (s := 20) (w := 4) hR4_ (Nat.le_of_ble_eq_true rfl)) cdX8_putLink mlX8_53 dX8_init_151 (by decide) (by decide) (by decide) (Nat.lt_of_lt_of_le (by decide) hN) rfl rfl rfl rfl rfl (Nat.le_of_ble_eq_true rfl) (fun τ19 hp_21 => ?_)
  obtain ⟨hlf5, hR5_⟩ := hp_21
  refine j_aload_n C dX8_init_154 rfl rfl ?_
  refine j_iconst (v := nI 3) C dX8_init_155 rfl ?_
  refine j_iconst (v := nI 4) C dX8_init_156 rfl ?_
  refine j_bipush (v := nI 20) C dX8_init_157 rfl ?_
  refine j_iconst (v := nI 4) C dX8_init_159 rfl ?_
  refine jk_callv (As := [.int (nI (3)), .int (nI (4)), .int (nI (20)), .int (nI (4))]) (rest := []) C (tX8_putLink hN (a := nR5) (p := 3) (q := 4) (s := 20) (w := 4) hR5_ (Nat.le_of_ble_eq_true rfl)) cdX8_putLink mlX8_53 dX8_init_160 (by decide) (by decide) (by decide) (Nat.lt_of_lt_of_le (by decide) hN) rfl rfl rfl rfl rfl (Nat.le_of_ble_eq_true rfl) (fun τ22 hp_24 => ?_)
  obtain ⟨hlf6, hR6_⟩ := hp_24
  refine j_aload_n C dX8_init_163 rfl rfl ?_
  refine j_iconst (v := nI 2) C dX8_init_164 rfl ?_
  refine j_iconst (v := nI 1) C dX8_init_165 rfl ?_
  refine j_iconst (v := nI 5) C dX8_init_166 rfl ?_
  refine j_iconst (v := nI 1) C dX8_init_167 rfl ?_
  refine jk_callv (As := [.int (nI (2)), .int (nI (1)), .int (nI (5)), .int (nI (1))]) (rest := []) C (tX8_putLink hN (a := nR6) (p := 2) (q := 1) (s := 5) (w := 1) hR6_ (Nat.le_of_ble_eq_true rfl)) cdX8_putLink mlX8_53 dX8_init_168 (by decide) (by decide) (by decide) (Nat.lt_of_lt_of_le (by decide) hN) rfl rfl rfl rfl rfl (Nat.le_of_ble_eq_true rfl) (fun τ25 hp_27 => ?_)
  obtain ⟨hlf7, hR7_⟩ := hp_27
  refine j_aload_n C dX8_init_171 rfl rfl ?_
  refine j_iconst (v := nI 0) C dX8_init_172 rfl ?_
  refine j_iconst (v := nI 4) C dX8_init_173 rfl ?_
  refine j_bipush (v := nI 12) C dX8_init_174 rfl ?_
  refine jk_callv (As := [.int (nI (0)), .int (nI (4)), .int (nI (12))]) (rest := []) C (tX8_putDemand hN (a := nR7) (p := 0) (q := 4) (s := 12) hR7_ (Nat.le_of_ble_eq_true rfl)) cdX8_putDemand mlX8_57 dX8_init_176 (by decide) (by decide) (by decide) (Nat.lt_of_lt_of_le (by decide) hN) rfl rfl rfl rfl rfl (Nat.le_of_ble_eq_true rfl) (fun τ28 hp_30 => ?_)
  obtain ⟨hlf8, hR8_⟩ := hp_30
  refine j_aload_n C dX8_init_179 rfl rfl ?_
  refine j_iconst (v := nI 2) C dX8_init_180 rfl ?_
  refine j_iconst (v := nI 4) C dX8_init_181 rfl ?_
  refine j_iconst (v := nI 5) C dX8_init_182 rfl ?_
  refine jk_callv (As := [.int (nI (2)), .int (nI (4)), .int (nI (5))]) (rest := []) C (tX8_putDemand hN (a := nR8) (p := 2) (q := 4) (s := 5) hR8_ (Nat.le_of_ble_eq_true rfl)) cdX8_putDemand mlX8_57 dX8_init_183 (by decide) (by decide) (by decide) (Nat.lt_of_lt_of_le (by decide) hN) rfl rfl rfl rfl rfl (Nat.le_of_ble_eq_true rfl) (fun τ31 hp_33 => ?_)
  obtain ⟨hlf9, hR9_⟩ := hp_33
  refine j_aload_n C dX8_init_186 rfl rfl ?_
  refine jk_callv (As := []) (rest := []) C (tX8_takeRead hN (a := ndC) (nR9_C hR9_) ndC_ok) cdX8_takeRead mlX8_61 dX8_init_187 (by decide) (by decide) (by decide) (Nat.lt_of_lt_of_le (by decide) hN) rfl rfl rfl rfl rfl (Nat.le_of_ble_eq_true rfl) (fun τ34 hp_36 => ?_)
  obtain ⟨htf, hIn, hSn, hn15⟩ := hp_36
  refine kE τ34 ⟨⟨by rw [htf _ _ (by omega), hlf9 _ _ (by omega), hlf8 _ _ (by omega), hlf7 _ _ (by omega), hlf6 _ _ (by omega), hlf5 _ _ (by omega), hlf4 _ _ (by omega), hlf3 _ _ (by omega), hlf2 _ _ (by omega), hlf1 _ _ (by omega), hz_5 _ _ (by omega), hbf _ _ (by omega)]; exact hz 84 1 (by omega), Nat.zero_le _, fun k hk => absurd hk (Nat.not_lt_zero _)⟩, hIn, hSn, hn15, fun k s hs => by cases hs⟩ (fun j n h => by rw [htf _ _ (by omega), hlf9 _ _ (by omega), hlf8 _ _ (by omega), hlf7 _ _ (by omega), hlf6 _ _ (by omega), hlf5 _ _ (by omega), hlf4 _ _ (by omega), hlf3 _ _ (by omega), hlf2 _ _ (by omega), hlf1 _ _ (by omega), hz_5 _ _ (by omega), hbf _ _ (by omega)])
set_option maxHeartbeats 4000000 in
set_option maxRecDepth 100000 in
theorem tX8_init {g : jG} {E : jX} (hN : gN g = 84) {σ : Sg} {a : Nat} (tx : Nat → Int32) : MX g E yX8_init cX8_init 1 none rmX8_init [.ref a] (Wd g σ ++ [(a, .inr (8, [.null, .int 0, .int 0, .null, .null, .int 0, .int 0, .int 0, .null, .null, .int 0, .int 0, .int 0, .null, .null, .int 0, .int 0, .null, .null, .null, .null, .null, .int 0, .int 0, .int 0, .int 0]))]) (fun _ w' => ∃ (r : Nat → Nat) (σ' : Sg), r 0 = a ∧ w' = Wd (g97 g r) σ' ∧ RI σ' (tx, 0, ndC, newS ndC, []) ∧ ∀ j n, j < 84 → σ' j n = σ j n) := by
  refine MX_of (by decide) (Nat.le_of_ble_eq_true rfl) (List.forall_mem_cons.mpr ⟨rfl, fun _ h => absurd h List.not_mem_nil⟩) ?_
  intro κ M X
  have C := M.1
  generalize hws : Wd g σ = ws
  refine j_aload_n C dX8_init_0 rfl rfl ?_
  refine jw_oi C oiX8 dX8_init_1 (by decide) (Nat.le_of_ble_eq_true rfl) ?_
  refine j_aload_n C dX8_init_4 rfl rfl ?_
  refine j_sipush (v := nI 200) C dX8_init_5 rfl ?_
  refine jx_newi (ws := ws) (T := [(a, .inr (8, [.null, .int 0, .int 0, .null, .null, .int 0, .int 0, .int 0, .null, .null, .int 0, .int 0, .int 0, .null, .null, .int 0, .int 0, .null, .null, .null, .null, .null, .int 0, .int 0, .int 0, .int 0]))]) (kc := 0) (ks := 0) (n := 200) C dX8_init_8 (by decide) (by decide) (by decide) (fun q1 => ?_)
  refine jx_putF (ws := ws) (T := [(a, .inr (8, [.null, .int 0, .int 0, .null, .null, .int 0, .int 0, .int 0, .null, .null, .int 0, .int 0, .int 0, .null, .null, .int 0, .int 0, .null, .null, .null, .null, .null, .int 0, .int 0, .int 0, .int 0])), (q1, cI g 200 (fun _ => 0))]) (kc := 1) (ks := 200) (i := 0) (v := .ref q1) C M.2.2.2.2 ffX8_7 dX8_init_10 rfl (Nat.le_of_ble_eq_true rfl) rfl rfl ?_
  refine j_aload_n C dX8_init_13 rfl rfl ?_
  refine j_bipush (v := nI 48) C dX8_init_14 rfl ?_
  refine jx_newi (ws := ws) (T := [(a, .inr (8, [.ref q1, .int 0, .int 0, .null, .null, .int 0, .int 0, .int 0, .null, .null, .int 0, .int 0, .int 0, .null, .null, .int 0, .int 0, .null, .null, .null, .null, .null, .int 0, .int 0, .int 0, .int 0])), (q1, cI g 200 (fun _ => 0))]) (kc := 1) (ks := 200) (n := 48) C dX8_init_16 (by decide) (by decide) (by decide) (fun q2 => ?_)
  refine jx_putF (ws := ws) (T := [(a, .inr (8, [.ref q1, .int 0, .int 0, .null, .null, .int 0, .int 0, .int 0, .null, .null, .int 0, .int 0, .int 0, .null, .null, .int 0, .int 0, .null, .null, .null, .null, .null, .int 0, .int 0, .int 0, .int 0])), (q1, cI g 200 (fun _ => 0)), (q2, cI g 48 (fun _ => 0))]) (kc := 2) (ks := 248) (i := 0) (v := .ref q2) C M.2.2.2.2 ffX8_13 dX8_init_18 rfl (Nat.le_of_ble_eq_true rfl) rfl rfl ?_
  refine j_aload_n C dX8_init_21 rfl rfl ?_
  refine j_bipush (v := nI 18) C dX8_init_22 rfl ?_
  refine jx_newi (ws := ws) (T := [(a, .inr (8, [.ref q1, .int 0, .int 0, .ref q2, .null, .int 0, .int 0, .int 0, .null, .null, .int 0, .int 0, .int 0, .null, .null, .int 0, .int 0, .null, .null, .null, .null, .null, .int 0, .int 0, .int 0, .int 0])), (q1, cI g 200 (fun _ => 0)), (q2, cI g 48 (fun _ => 0))]) (kc := 2) (ks := 248) (n := 18) C dX8_init_24 (by decide) (by decide) (by decide) (fun q3 => ?_)
  refine jx_putF (ws := ws) (T := [(a, .inr (8, [.ref q1, .int 0, .int 0, .ref q2, .null, .int 0, .int 0, .int 0, .null, .null, .int 0, .int 0, .int 0, .null, .null, .int 0, .int 0, .null, .null, .null, .null, .null, .int 0, .int 0, .int 0, .int 0])), (q1, cI g 200 (fun _ => 0)), (q2, cI g 48 (fun _ => 0)), (q3, cI g 18 (fun _ => 0))]) (kc := 3) (ks := 266) (i := 0) (v := .ref q3) C M.2.2.2.2 ffX8_16 dX8_init_26 rfl (Nat.le_of_ble_eq_true rfl) rfl rfl ?_
  refine j_aload_n C dX8_init_29 rfl rfl ?_
  refine j_bipush (v := nI 48) C dX8_init_30 rfl ?_
  refine jx_newi (ws := ws) (T := [(a, .inr (8, [.ref q1, .int 0, .int 0, .ref q2, .ref q3, .int 0, .int 0, .int 0, .null, .null, .int 0, .int 0, .int 0, .null, .null, .int 0, .int 0, .null, .null, .null, .null, .null, .int 0, .int 0, .int 0, .int 0])), (q1, cI g 200 (fun _ => 0)), (q2, cI g 48 (fun _ => 0)), (q3, cI g 18 (fun _ => 0))]) (kc := 3) (ks := 266) (n := 48) C dX8_init_32 (by decide) (by decide) (by decide) (fun q4 => ?_)
  refine jx_putF (ws := ws) (T := [(a, .inr (8, [.ref q1, .int 0, .int 0, .ref q2, .ref q3, .int 0, .int 0, .int 0, .null, .null, .int 0, .int 0, .int 0, .null, .null, .int 0, .int 0, .null, .null, .null, .null, .null, .int 0, .int 0, .int 0, .int 0])), (q1, cI g 200 (fun _ => 0)), (q2, cI g 48 (fun _ => 0)), (q3, cI g 18 (fun _ => 0)), (q4, cI g 48 (fun _ => 0))]) (kc := 4) (ks := 314) (i := 0) (v := .ref q4) C M.2.2.2.2 ffX8_19 dX8_init_34 rfl (Nat.le_of_ble_eq_true rfl) rfl rfl ?_
  refine j_aload_n C dX8_init_37 rfl rfl ?_
  refine j_bipush (v := nI 18) C dX8_init_38 rfl ?_
  refine jx_newi (ws := ws) (T := [(a, .inr (8, [.ref q1, .int 0, .int 0, .ref q2, .ref q3, .int 0, .int 0, .int 0, .ref q4, .null, .int 0, .int 0, .int 0, .null, .null, .int 0, .int 0, .null, .null, .null, .null, .null, .int 0, .int 0, .int 0, .int 0])), (q1, cI g 200 (fun _ => 0)), (q2, cI g 48 (fun _ => 0)), (q3, cI g 18 (fun _ => 0)), (q4, cI g 48 (fun _ => 0))]) (kc := 4) (ks := 314) (n := 18) C dX8_init_40 (by decide) (by decide) (by decide) (fun q5 => ?_)
  refine jx_putF (ws := ws) (T := [(a, .inr (8, [.ref q1, .int 0, .int 0, .ref q2, .ref q3, .int 0, .int 0, .int 0, .ref q4, .null, .int 0, .int 0, .int 0, .null, .null, .int 0, .int 0, .null, .null, .null, .null, .null, .int 0, .int 0, .int 0, .int 0])), (q1, cI g 200 (fun _ => 0)), (q2, cI g 48 (fun _ => 0)), (q3, cI g 18 (fun _ => 0)), (q4, cI g 48 (fun _ => 0)), (q5, cI g 18 (fun _ => 0))]) (kc := 5) (ks := 332) (i := 0) (v := .ref q5) C M.2.2.2.2 ffX8_22 dX8_init_42 rfl (Nat.le_of_ble_eq_true rfl) rfl rfl ?_
  refine j_aload_n C dX8_init_45 rfl rfl ?_
  refine j_bipush (v := nI 21) C dX8_init_46 rfl ?_
  refine jx_newi (ws := ws) (T := [(a, .inr (8, [.ref q1, .int 0, .int 0, .ref q2, .ref q3, .int 0, .int 0, .int 0, .ref q4, .ref q5, .int 0, .int 0, .int 0, .null, .null, .int 0, .int 0, .null, .null, .null, .null, .null, .int 0, .int 0, .int 0, .int 0])), (q1, cI g 200 (fun _ => 0)), (q2, cI g 48 (fun _ => 0)), (q3, cI g 18 (fun _ => 0)), (q4, cI g 48 (fun _ => 0)), (q5, cI g 18 (fun _ => 0))]) (kc := 5) (ks := 332) (n := 21) C dX8_init_48 (by decide) (by decide) (by decide) (fun q6 => ?_)
  refine jx_putF (ws := ws) (T := [(a, .inr (8, [.ref q1, .int 0, .int 0, .ref q2, .ref q3, .int 0, .int 0, .int 0, .ref q4, .ref q5, .int 0, .int 0, .int 0, .null, .null, .int 0, .int 0, .null, .null, .null, .null, .null, .int 0, .int 0, .int 0, .int 0])), (q1, cI g 200 (fun _ => 0)), (q2, cI g 48 (fun _ => 0)), (q3, cI g 18 (fun _ => 0)), (q4, cI g 48 (fun _ => 0)), (q5, cI g 18 (fun _ => 0)), (q6, cI g 21 (fun _ => 0))]) (kc := 6) (ks := 353) (i := 0) (v := .ref q6) C M.2.2.2.2 ffX8_25 dX8_init_50 rfl (Nat.le_of_ble_eq_true rfl) rfl rfl ?_
  refine j_aload_n C dX8_init_53 rfl rfl ?_
  refine j_bipush (v := nI 126) C dX8_init_54 rfl ?_
  refine jx_newi (ws := ws) (T := [(a, .inr (8, [.ref q1, .int 0, .int 0, .ref q2, .ref q3, .int 0, .int 0, .int 0, .ref q4, .ref q5, .int 0, .int 0, .int 0, .ref q6, .null, .int 0, .int 0, .null, .null, .null, .null, .null, .int 0, .int 0, .int 0, .int 0])), (q1, cI g 200 (fun _ => 0)), (q2, cI g 48 (fun _ => 0)), (q3, cI g 18 (fun _ => 0)), (q4, cI g 48 (fun _ => 0)), (q5, cI g 18 (fun _ => 0)), (q6, cI g 21 (fun _ => 0))]) (kc := 6) (ks := 353) (n := 126) C dX8_init_56 (by decide) (by decide) (by decide) (fun q7 => ?_)
  refine jx_putF (ws := ws) (T := [(a, .inr (8, [.ref q1, .int 0, .int 0, .ref q2, .ref q3, .int 0, .int 0, .int 0, .ref q4, .ref q5, .int 0, .int 0, .int 0, .ref q6, .null, .int 0, .int 0, .null, .null, .null, .null, .null, .int 0, .int 0, .int 0, .int 0])), (q1, cI g 200 (fun _ => 0)), (q2, cI g 48 (fun _ => 0)), (q3, cI g 18 (fun _ => 0)), (q4, cI g 48 (fun _ => 0)), (q5, cI g 18 (fun _ => 0)), (q6, cI g 21 (fun _ => 0)), (q7, cI g 126 (fun _ => 0))]) (kc := 7) (ks := 479) (i := 0) (v := .ref q7) C M.2.2.2.2 ffX8_28 dX8_init_58 rfl (Nat.le_of_ble_eq_true rfl) rfl rfl ?_
  refine j_aload_n C dX8_init_61 rfl rfl ?_
  refine j_iconst (v := nI 4) C dX8_init_62 rfl ?_
  refine jx_newi (ws := ws) (T := [(a, .inr (8, [.ref q1, .int 0, .int 0, .ref q2, .ref q3, .int 0, .int 0, .int 0, .ref q4, .ref q5, .int 0, .int 0, .int 0, .ref q6, .ref q7, .int 0, .int 0, .null, .null, .null, .null, .null, .int 0, .int 0, .int 0, .int 0])), (q1, cI g 200 (fun _ => 0)), (q2, cI g 48 (fun _ => 0)), (q3, cI g 18 (fun _ => 0)), (q4, cI g 48 (fun _ => 0)), (q5, cI g 18 (fun _ => 0)), (q6, cI g 21 (fun _ => 0)), (q7, cI g 126 (fun _ => 0))]) (kc := 7) (ks := 479) (n := 4) C dX8_init_63 (by decide) (by decide) (by decide) (fun q8 => ?_)
  refine jx_putF (ws := ws) (T := [(a, .inr (8, [.ref q1, .int 0, .int 0, .ref q2, .ref q3, .int 0, .int 0, .int 0, .ref q4, .ref q5, .int 0, .int 0, .int 0, .ref q6, .ref q7, .int 0, .int 0, .null, .null, .null, .null, .null, .int 0, .int 0, .int 0, .int 0])), (q1, cI g 200 (fun _ => 0)), (q2, cI g 48 (fun _ => 0)), (q3, cI g 18 (fun _ => 0)), (q4, cI g 48 (fun _ => 0)), (q5, cI g 18 (fun _ => 0)), (q6, cI g 21 (fun _ => 0)), (q7, cI g 126 (fun _ => 0)), (q8, cI g 4 (fun _ => 0))]) (kc := 8) (ks := 483) (i := 0) (v := .ref q8) C M.2.2.2.2 ffX8_31 dX8_init_65 rfl (Nat.le_of_ble_eq_true rfl) rfl rfl ?_
  refine j_aload_n C dX8_init_68 rfl rfl ?_
  refine j_bipush (v := nI 7) C dX8_init_69 rfl ?_
  refine jx_newi (ws := ws) (T := [(a, .inr (8, [.ref q1, .int 0, .int 0, .ref q2, .ref q3, .int 0, .int 0, .int 0, .ref q4, .ref q5, .int 0, .int 0, .int 0, .ref q6, .ref q7, .int 0, .int 0, .ref q8, .null, .null, .null, .null, .int 0, .int 0, .int 0, .int 0])), (q1, cI g 200 (fun _ => 0)), (q2, cI g 48 (fun _ => 0)), (q3, cI g 18 (fun _ => 0)), (q4, cI g 48 (fun _ => 0)), (q5, cI g 18 (fun _ => 0)), (q6, cI g 21 (fun _ => 0)), (q7, cI g 126 (fun _ => 0)), (q8, cI g 4 (fun _ => 0))]) (kc := 8) (ks := 483) (n := 7) C dX8_init_71 (by decide) (by decide) (by decide) (fun q9 => ?_)
  refine jx_putF (ws := ws) (T := [(a, .inr (8, [.ref q1, .int 0, .int 0, .ref q2, .ref q3, .int 0, .int 0, .int 0, .ref q4, .ref q5, .int 0, .int 0, .int 0, .ref q6, .ref q7, .int 0, .int 0, .ref q8, .null, .null, .null, .null, .int 0, .int 0, .int 0, .int 0])), (q1, cI g 200 (fun _ => 0)), (q2, cI g 48 (fun _ => 0)), (q3, cI g 18 (fun _ => 0)), (q4, cI g 48 (fun _ => 0)), (q5, cI g 18 (fun _ => 0)), (q6, cI g 21 (fun _ => 0)), (q7, cI g 126 (fun _ => 0)), (q8, cI g 4 (fun _ => 0)), (q9, cI g 7 (fun _ => 0))]) (kc := 9) (ks := 490) (i := 0) (v := .ref q9) C M.2.2.2.2 ffX8_34 dX8_init_73 rfl (Nat.le_of_ble_eq_true rfl) rfl rfl ?_
  refine j_aload_n C dX8_init_76 rfl rfl ?_
  refine j_bipush (v := nI 12) C dX8_init_77 rfl ?_
  refine jx_newi (ws := ws) (T := [(a, .inr (8, [.ref q1, .int 0, .int 0, .ref q2, .ref q3, .int 0, .int 0, .int 0, .ref q4, .ref q5, .int 0, .int 0, .int 0, .ref q6, .ref q7, .int 0, .int 0, .ref q8, .ref q9, .null, .null, .null, .int 0, .int 0, .int 0, .int 0])), (q1, cI g 200 (fun _ => 0)), (q2, cI g 48 (fun _ => 0)), (q3, cI g 18 (fun _ => 0)), (q4, cI g 48 (fun _ => 0)), (q5, cI g 18 (fun _ => 0)), (q6, cI g 21 (fun _ => 0)), (q7, cI g 126 (fun _ => 0)), (q8, cI g 4 (fun _ => 0)), (q9, cI g 7 (fun _ => 0))]) (kc := 9) (ks := 490) (n := 12) C dX8_init_79 (by decide) (by decide) (by decide) (fun q10 => ?_)
  refine jx_putF (ws := ws) (T := [(a, .inr (8, [.ref q1, .int 0, .int 0, .ref q2, .ref q3, .int 0, .int 0, .int 0, .ref q4, .ref q5, .int 0, .int 0, .int 0, .ref q6, .ref q7, .int 0, .int 0, .ref q8, .ref q9, .null, .null, .null, .int 0, .int 0, .int 0, .int 0])), (q1, cI g 200 (fun _ => 0)), (q2, cI g 48 (fun _ => 0)), (q3, cI g 18 (fun _ => 0)), (q4, cI g 48 (fun _ => 0)), (q5, cI g 18 (fun _ => 0)), (q6, cI g 21 (fun _ => 0)), (q7, cI g 126 (fun _ => 0)), (q8, cI g 4 (fun _ => 0)), (q9, cI g 7 (fun _ => 0)), (q10, cI g 12 (fun _ => 0))]) (kc := 10) (ks := 502) (i := 0) (v := .ref q10) C M.2.2.2.2 ffX8_37 dX8_init_81 rfl (Nat.le_of_ble_eq_true rfl) rfl rfl ?_
  refine j_aload_n C dX8_init_84 rfl rfl ?_
  refine j_bipush (v := nI 7) C dX8_init_85 rfl ?_
  refine jx_newi (ws := ws) (T := [(a, .inr (8, [.ref q1, .int 0, .int 0, .ref q2, .ref q3, .int 0, .int 0, .int 0, .ref q4, .ref q5, .int 0, .int 0, .int 0, .ref q6, .ref q7, .int 0, .int 0, .ref q8, .ref q9, .ref q10, .null, .null, .int 0, .int 0, .int 0, .int 0])), (q1, cI g 200 (fun _ => 0)), (q2, cI g 48 (fun _ => 0)), (q3, cI g 18 (fun _ => 0)), (q4, cI g 48 (fun _ => 0)), (q5, cI g 18 (fun _ => 0)), (q6, cI g 21 (fun _ => 0)), (q7, cI g 126 (fun _ => 0)), (q8, cI g 4 (fun _ => 0)), (q9, cI g 7 (fun _ => 0)), (q10, cI g 12 (fun _ => 0))]) (kc := 10) (ks := 502) (n := 7) C dX8_init_87 (by decide) (by decide) (by decide) (fun q11 => ?_)
  refine jx_putF (ws := ws) (T := [(a, .inr (8, [.ref q1, .int 0, .int 0, .ref q2, .ref q3, .int 0, .int 0, .int 0, .ref q4, .ref q5, .int 0, .int 0, .int 0, .ref q6, .ref q7, .int 0, .int 0, .ref q8, .ref q9, .ref q10, .null, .null, .int 0, .int 0, .int 0, .int 0])), (q1, cI g 200 (fun _ => 0)), (q2, cI g 48 (fun _ => 0)), (q3, cI g 18 (fun _ => 0)), (q4, cI g 48 (fun _ => 0)), (q5, cI g 18 (fun _ => 0)), (q6, cI g 21 (fun _ => 0)), (q7, cI g 126 (fun _ => 0)), (q8, cI g 4 (fun _ => 0)), (q9, cI g 7 (fun _ => 0)), (q10, cI g 12 (fun _ => 0)), (q11, cI g 7 (fun _ => 0))]) (kc := 11) (ks := 509) (i := 0) (v := .ref q11) C M.2.2.2.2 ffX8_40 dX8_init_89 rfl (Nat.le_of_ble_eq_true rfl) rfl rfl ?_
  refine j_aload_n C dX8_init_92 rfl rfl ?_
  refine j_bipush (v := nI 12) C dX8_init_93 rfl ?_
  refine jx_newi (ws := ws) (T := [(a, .inr (8, [.ref q1, .int 0, .int 0, .ref q2, .ref q3, .int 0, .int 0, .int 0, .ref q4, .ref q5, .int 0, .int 0, .int 0, .ref q6, .ref q7, .int 0, .int 0, .ref q8, .ref q9, .ref q10, .ref q11, .null, .int 0, .int 0, .int 0, .int 0])), (q1, cI g 200 (fun _ => 0)), (q2, cI g 48 (fun _ => 0)), (q3, cI g 18 (fun _ => 0)), (q4, cI g 48 (fun _ => 0)), (q5, cI g 18 (fun _ => 0)), (q6, cI g 21 (fun _ => 0)), (q7, cI g 126 (fun _ => 0)), (q8, cI g 4 (fun _ => 0)), (q9, cI g 7 (fun _ => 0)), (q10, cI g 12 (fun _ => 0)), (q11, cI g 7 (fun _ => 0))]) (kc := 11) (ks := 509) (n := 12) C dX8_init_95 (by decide) (by decide) (by decide) (fun q12 => ?_)
  refine jx_putF (ws := ws) (T := [(a, .inr (8, [.ref q1, .int 0, .int 0, .ref q2, .ref q3, .int 0, .int 0, .int 0, .ref q4, .ref q5, .int 0, .int 0, .int 0, .ref q6, .ref q7, .int 0, .int 0, .ref q8, .ref q9, .ref q10, .ref q11, .null, .int 0, .int 0, .int 0, .int 0])), (q1, cI g 200 (fun _ => 0)), (q2, cI g 48 (fun _ => 0)), (q3, cI g 18 (fun _ => 0)), (q4, cI g 48 (fun _ => 0)), (q5, cI g 18 (fun _ => 0)), (q6, cI g 21 (fun _ => 0)), (q7, cI g 126 (fun _ => 0)), (q8, cI g 4 (fun _ => 0)), (q9, cI g 7 (fun _ => 0)), (q10, cI g 12 (fun _ => 0)), (q11, cI g 7 (fun _ => 0)), (q12, cI g 12 (fun _ => 0))]) (kc := 12) (ks := 521) (i := 0) (v := .ref q12) C M.2.2.2.2 ffX8_43 dX8_init_97 rfl (Nat.le_of_ble_eq_true rfl) rfl rfl ?_
  subst hws
  have hr : ∃ r : Nat → Nat, r = (fun i => match i with | 0 => a | 1 => q1 | 2 => q2 | 3 => q3 | 4 => q4 | 5 => q5 | 6 => q6 | 7 => q7 | 8 => q8 | 9 => q9 | 10 => q10 | 11 => q11 | 12 => q12 | _ => 0) := ⟨_, rfl⟩
  obtain ⟨r, hr⟩ := hr
  have hσ : ∃ σ0 : Sg, σ0 = (fun j => cond (Nat.blt j 84) (σ j) (fun _ => 0)) := ⟨_, rfl⟩
  obtain ⟨σ0, hσ⟩ := hσ
  have hlo : ∀ j, j < 84 → σ0 j = σ j := fun j hj => by rw [hσ]; show cond (Nat.blt j 84) (σ j) (fun _ => 0) = σ j; rw [show Nat.blt j 84 = true from Nat.ble_eq_true_of_le hj]; rfl
  have hhi : ∀ j n, 84 ≤ j → σ0 j n = 0 := fun j n hj => by rw [hσ]; show cond (Nat.blt j 84) (σ j) (fun _ => 0) n = 0; rw [show Nat.blt j 84 = false from by cases q : Nat.blt j 84 with | false => rfl | true => exact absurd (Nat.le_of_ble_eq_true q) (by omega)]; rfl
  have hw := wd97 (g := g) (r := r) (σ := σ) (σ' := σ0) hN hlo
  have hw2 : Wd g σ ++ [(a, .inr (8, [.ref q1, .int 0, .int 0, .ref q2, .ref q3, .int 0, .int 0, .int 0, .ref q4, .ref q5, .int 0, .int 0, .int 0, .ref q6, .ref q7, .int 0, .int 0, .ref q8, .ref q9, .ref q10, .ref q11, .ref q12, .int 0, .int 0, .int 0, .int 0])), (q1, cI g 200 (fun _ => 0)), (q2, cI g 48 (fun _ => 0)), (q3, cI g 18 (fun _ => 0)), (q4, cI g 48 (fun _ => 0)), (q5, cI g 18 (fun _ => 0)), (q6, cI g 21 (fun _ => 0)), (q7, cI g 126 (fun _ => 0)), (q8, cI g 4 (fun _ => 0)), (q9, cI g 7 (fun _ => 0)), (q10, cI g 12 (fun _ => 0)), (q11, cI g 7 (fun _ => 0)), (q12, cI g 12 (fun _ => 0))] = Wd (g97 g r) σ0 := by rw [hw, hr, hσ]; rfl
  refine jx_eq (pc := 100) (kc := 12) (ks := 521) hw2 ?_
  have hra : a = gad (g97 g r) 84 := by rw [hr]; rfl
  have k0 : JJ (g97 g r) κ 1 100 [some (.ref (gad (g97 g r) (84)))] [] σ0 12 521 := by
    refine X8_rest (g := g97 g r) (Nat.le_refl _) C hhi tx (fun σ' hR hf => ?_)
    exact j_return (g := g) M dX8_init_190 (by decide) (by decide) ⟨r, σ', by rw [hr]; rfl, rfl, hR, fun j n h => by rw [hf j n h, hlo j h]⟩
  rw [← hra] at k0
  exact k0
