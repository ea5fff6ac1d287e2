/-! the law's loop -/
theorem jl_scr {g : jG} {κ : jC} {cc : ByteArray} {nL pc : Nat} {own : String} {rm : Room} {L : List (Option Value)} {S : List Value} {ws : va_W} {kc ks : Nat} (C : Cx g κ cc nL own rm) {b Ln e : Nat} {xs : Nat → Int32} (hX : va_X b Ln xs (kS κ) (kS κ).heap) (hb : b < (kS κ).heap.size) (hbA : ¬ kA κ b) (hd : decode cc pc = .ok (.iaload, 1)) (he : e < Ln) (hL : Ln < 2 ^ 31) (k : Jw g κ nL (pc + 1) L (.int (xs e) :: S) ws kc ks) : Jw g κ nL pc L (.int (nI e) :: .ref b :: S) ws kc ks := fun ls H locs hjl hP hD hS => by
  refine va_sld C.1 C.2.1 hX hb hbA hS (vp_in_nI he hL) hd ?_
  rw [nI_clamp (by omega)]
  exact k ls H locs hjl hP hD hS
theorem jl_len {g : jG} {κ : jC} {cc : ByteArray} {nL pc : Nat} {own : String} {rm : Room} {L : List (Option Value)} {S : List Value} {ws : va_W} {kc ks : Nat} (C : Cx g κ cc nL own rm) {b Ln : Nat} {xs : Nat → Int32} (hX : va_X b Ln xs (kS κ) (kS κ).heap) (hb : b < (kS κ).heap.size) (hbA : ¬ kA κ b) (hd : decode cc pc = .ok (.arraylength, 1)) (k : Jw g κ nL (pc + 1) L (.int (nI Ln) :: S) ws kc ks) : Jw g κ nL pc L (.ref b :: S) ws kc ks := fun ls H locs hjl hP hD hS => va_slen C.1 C.2.1 hX hb hbA hS hd (k ls H locs hjl hP hD hS)
set_option maxHeartbeats 8000000 in
set_option maxRecDepth 100000 in
theorem law_loop {g : jG} {κ : jC} (hN : gN g = 97) (C : Cx g κ cL_law 4 RL room_1) {b Ln : Nat} {xs : Nat → Int32} (hX : va_X b Ln xs (kS κ) (kS κ).heap) (hb : b < (kS κ).heap.size) (hbA : ¬ kA κ b) (hL : Ln ≤ 1536) (kE : ∀ (σ : Sg) (i : Nat), JJ g κ 4 570 [some (.ref b), some (.ref (gad g (0))), some (.ref (gad g (84))), some (.int (nI (i)))] [] σ 97 1478) : ∀ (k i : Nat) (σ : Sg) (A : AB), Ln + 3 - i = k → i ≤ 1539 → CI σ A → RI σ A → AOk1 A → JJ g κ 4 18 [some (.ref b), some (.ref (gad g (0))), some (.ref (gad g (84))), some (.int (nI (i)))] [] σ 97 1478 := by
  intro k
  have hLn : Ln < 2 ^ 31 := by omega
  induction k using Nat.strongRecOn with
  | _ k ih =>
    intro i σ A hk hi hC hR hA
    refine j_iload_n C dL_law_18 rfl rfl ?_
    refine j_aload_n C dL_law_19 rfl rfl ?_
    refine jl_len C hX hb hbA dL_law_20 ?_
    refine j_iconst (v := nI 3) C dL_law_21 rfl ?_
    refine j_isub C dL_law_22 ?_
    refine j_icmp_gt (tgt := 570) C dL_law_23 rfl (fun _ => kE σ i) (fun h => ?_)
    have hle : i + 3 ≤ Ln := by
      have h1 : ¬ (nI Ln - nI 3).toInt < (nI i).toInt := fun q => h (Int32.lt_iff_toInt_lt.mpr q)
      rw [pk_sub_toInt (by omega) (by omega), nI_toInt (by omega)] at h1
      omega
    have back : ∀ (σ2 : Sg) (A2 : AB), CI σ2 A2 → RI σ2 A2 → AOk1 A2 → JJ g κ 4 564 [some (.ref b), some (.ref (gad g (0))), some (.ref (gad g (84))), some (.int (nI (i)))] [] σ2 97 1478 := by
      intro σ2 A2 h1 h2 h3
      refine j_iinc (L' := [some (.ref b), some (.ref (gad g (0))), some (.ref (gad g (84))), some (.int (nI (i + 3)))]) C dL_law_564 rfl (nI_add i 3) (by decide) rfl ?_
      refine j_goto (tgt := 18) C dL_law_567 rfl ?_
      exact ih (Ln + 3 - (i + 3)) (by omega) (i + 3) σ2 A2 rfl (by omega) h1 h2 h3
    refine j_aload_n C dL_law_26 rfl rfl ?_
    refine j_iload_n C dL_law_27 rfl rfl ?_
    refine jl_scr C hX hb hbA dL_law_28 (e := i) (by omega) hLn ?_
    refine j_bipush (v := nI 31) C dL_law_29 rfl ?_
    refine j_iand C dL_law_31 ?_
    obtain ⟨tx, len, a, ⟨wt, u, tl, le⟩, p⟩ := A
    by_cases hin : inR (xs i &&& nI 31) 0 17
    · obtain ⟨q, hq1, hq2, hqe⟩ := hin
      rw [hqe]
      rcases (by omega : q = 0 ∨ q = 1 ∨ q = 2 ∨ q = 3 ∨ q = 4 ∨ q = 5 ∨ q = 6 ∨ q = 7 ∨ q = 8 ∨ q = 9 ∨ q = 10 ∨ q = 11 ∨ q = 12 ∨ q = 13 ∨ q = 14 ∨ q = 15 ∨ q = 16 ∨ q = 17) with rfl | rfl | rfl | rfl | rfl | rfl | rfl | rfl | rfl | rfl | rfl | rfl | rfl | rfl | rfl | rfl | rfl | rfl
      · refine j_tableIn (tgt := 120) C dL_law_32 (by decide) (by decide) rfl rfl ?_
        refine j_aload_n C dL_law_120 rfl rfl ?_
        refine j_aload_n C dL_law_121 rfl rfl ?_
        refine j_iload_n C dL_law_122 rfl rfl ?_
        refine j_iconst (v := nI 1) C dL_law_123 rfl ?_
        refine j_iadd C dL_law_124 ?_
        refine j_top (nI_add _ _) ?_
        refine jl_scr C hX hb hbA dL_law_125 (e := i + 1) (by omega) hLn ?_
        refine jk_calli (q := 0) (As := [.int (xs (i + 1))]) (rest := []) C (tX7_write (by omega) hC hA.1 (xs (i + 1))) cdX7_write mlL_13 dL_law_126 (by decide) (by decide) (by decide) (by omega) rfl rfl rfl rfl rfl (Nat.le_of_ble_eq_true rfl) (fun r1 σ1 hp1 => ?_)
        obtain ⟨hr1, hC1, hf1⟩ := hp1
        have hR1 := hR.kept hA.1 (σ' := σ1) (fun j n h => hf1 j n (by omega))
        refine j_aload_n C dL_law_129 rfl rfl ?_
        refine j_aload_n C dL_law_130 rfl rfl ?_
        refine j_iload_n C dL_law_131 rfl rfl ?_
        refine j_iconst (v := nI 1) C dL_law_132 rfl ?_
        refine j_iadd C dL_law_133 ?_
        refine j_top (nI_add _ _) ?_
        refine jl_scr C hX hb hbA dL_law_134 (e := i + 1) (by omega) hLn ?_
        refine jk_calli (q := 84) (As := [.int (xs (i + 1))]) (rest := [.int r1]) C (tX8_write (by omega) hR1 hA.1 hA.2.1 hA.2.2 (xs (i + 1))) cdX8_write mlL_17 dL_law_135 (by decide) (by decide) (by decide) (by omega) rfl rfl rfl rfl rfl (Nat.le_of_ble_eq_true rfl) (fun r2 σ2 hp2 => ?_)
        obtain ⟨hr2, hR2, hf2⟩ := hp2
        have hC2 := hC1.kept (σ' := σ2) (fun j n h => hf2 j n (by omega))
        refine j_icmp_eq (tgt := 564) C dL_law_138 rfl (fun _ => ?_) (fun h => absurd (hr1.trans hr2.symm) h)
        exact back σ2 (abWrite (xs (i + 1)) (tx, len, a, (wt, u, tl, le), p)).2 hC2 hR2 (ok_write hA)
      · refine j_tableIn (tgt := 143) C dL_law_32 (by decide) (by decide) rfl rfl ?_
        refine j_aload_n C dL_law_143 rfl rfl ?_
        refine jk_calli (q := 0) (As := []) (rest := []) C (tX7_wipe (by omega) hC hA.1 ) cdX7_wipe mlL_18 dL_law_144 (by decide) (by decide) (by decide) (by omega) rfl rfl rfl rfl rfl (Nat.le_of_ble_eq_true rfl) (fun r1 σ1 hp1 => ?_)
        obtain ⟨hr1, hC1, hf1⟩ := hp1
        have hR1 := hR.kept hA.1 (σ' := σ1) (fun j n h => hf1 j n (by omega))
        refine j_aload_n C dL_law_147 rfl rfl ?_
        refine jk_calli (q := 84) (As := []) (rest := [.int r1]) C (tX8_wipe (by omega) hR1 hA.1 hA.2.1 hA.2.2 ) cdX8_wipe mlL_22 dL_law_148 (by decide) (by decide) (by decide) (by omega) rfl rfl rfl rfl rfl (Nat.le_of_ble_eq_true rfl) (fun r2 σ2 hp2 => ?_)
        obtain ⟨hr2, hR2, hf2⟩ := hp2
        have hC2 := hC1.kept (σ' := σ2) (fun j n h => hf2 j n (by omega))
        refine j_icmp_eq (tgt := 564) C dL_law_151 rfl (fun _ => ?_) (fun h => absurd (hr1.trans hr2.symm) h)
        exact back σ2 (abWipe  (tx, len, a, (wt, u, tl, le), p)).2 hC2 hR2 (ok_wipe hA)
      · refine j_tableIn (tgt := 156) C dL_law_32 (by decide) (by decide) rfl rfl ?_
        refine j_aload_n C dL_law_156 rfl rfl ?_
        refine jk_calli (q := 0) (As := []) (rest := []) C (tX7_fault (by omega) hC hA.1 ) cdX7_fault mlL_23 dL_law_157 (by decide) (by decide) (by decide) (by omega) rfl rfl rfl rfl rfl (Nat.le_of_ble_eq_true rfl) (fun r1 σ1 hp1 => ?_)
        obtain ⟨hr1, hC1, hf1⟩ := hp1
        have hR1 := hR.kept hA.1 (σ' := σ1) (fun j n h => hf1 j n (by omega))
        refine j_aload_n C dL_law_160 rfl rfl ?_
        refine jk_calli (q := 84) (As := []) (rest := [.int r1]) C (tX8_fault (by omega) hR1 hA.1 hA.2.1 hA.2.2 ) cdX8_fault mlL_26 dL_law_161 (by decide) (by decide) (by decide) (by omega) rfl rfl rfl rfl rfl (Nat.le_of_ble_eq_true rfl) (fun r2 σ2 hp2 => ?_)
        obtain ⟨hr2, hR2, hf2⟩ := hp2
        have hC2 := hC1.kept (σ' := σ2) (fun j n h => hf2 j n (by omega))
        refine j_icmp_eq (tgt := 564) C dL_law_164 rfl (fun _ => ?_) (fun h => absurd (hr1.trans hr2.symm) h)
        exact back σ2 (abFault  (tx, len, a, (wt, u, tl, le), p)).2 hC2 hR2 hA
      · refine j_tableIn (tgt := 169) C dL_law_32 (by decide) (by decide) rfl rfl ?_
        refine j_aload_n C dL_law_169 rfl rfl ?_
        refine jk_calli (q := 0) (As := []) (rest := []) C (tX7_lay (by omega) hC hA.1 ) cdX7_lay mlL_27 dL_law_170 (by decide) (by decide) (by decide) (by omega) rfl rfl rfl rfl rfl (Nat.le_of_ble_eq_true rfl) (fun r1 σ1 hp1 => ?_)
        obtain ⟨hr1, hC1, hf1⟩ := hp1
        have hR1 := hR.kept hA.1 (σ' := σ1) (fun j n h => hf1 j n (by omega))
        refine j_aload_n C dL_law_173 rfl rfl ?_
        refine jk_calli (q := 84) (As := []) (rest := [.int r1]) C (tX8_lay (by omega) hR1 hA.1 hA.2.1 hA.2.2 ) cdX8_lay mlL_30 dL_law_174 (by decide) (by decide) (by decide) (by omega) rfl rfl rfl rfl rfl (Nat.le_of_ble_eq_true rfl) (fun r2 σ2 hp2 => ?_)
        obtain ⟨hr2, hR2, hf2⟩ := hp2
        have hC2 := hC1.kept (σ' := σ2) (fun j n h => hf2 j n (by omega))
        refine j_icmp_eq (tgt := 564) C dL_law_177 rfl (fun _ => ?_) (fun h => absurd (hr1.trans hr2.symm) h)
        exact back σ2 (abLay  (tx, len, a, (wt, u, tl, le), p)).2 hC2 hR2 (ok_lay hA)
      · refine j_tableIn (tgt := 182) C dL_law_32 (by decide) (by decide) rfl rfl ?_
        refine j_aload_n C dL_law_182 rfl rfl ?_
        refine j_aload_n C dL_law_183 rfl rfl ?_
        refine j_iload_n C dL_law_184 rfl rfl ?_
        refine j_iconst (v := nI 1) C dL_law_185 rfl ?_
        refine j_iadd C dL_law_186 ?_
        refine j_top (nI_add _ _) ?_
        refine jl_scr C hX hb hbA dL_law_187 (e := i + 1) (by omega) hLn ?_
        refine j_aload_n C dL_law_188 rfl rfl ?_
        refine j_iload_n C dL_law_189 rfl rfl ?_
        refine j_iconst (v := nI 2) C dL_law_190 rfl ?_
        refine j_iadd C dL_law_191 ?_
        refine j_top (nI_add _ _) ?_
        refine jl_scr C hX hb hbA dL_law_192 (e := i + 2) (by omega) hLn ?_
        refine jk_calli (q := 0) (As := [.int (xs (i + 1)), .int (xs (i + 2))]) (rest := []) C (tX7_move (by omega) hC hA.1 (xs (i + 1)) (xs (i + 2))) cdX7_move mlL_31 dL_law_193 (by decide) (by decide) (by decide) (by omega) rfl rfl rfl rfl rfl (Nat.le_of_ble_eq_true rfl) (fun r1 σ1 hp1 => ?_)
        obtain ⟨hr1, hC1, hf1⟩ := hp1
        have hR1 := hR.kept hA.1 (σ' := σ1) (fun j n h => hf1 j n (by omega))
        refine j_aload_n C dL_law_196 rfl rfl ?_
        refine j_aload_n C dL_law_197 rfl rfl ?_
        refine j_iload_n C dL_law_198 rfl rfl ?_
        refine j_iconst (v := nI 1) C dL_law_199 rfl ?_
        refine j_iadd C dL_law_200 ?_
        refine j_top (nI_add _ _) ?_
        refine jl_scr C hX hb hbA dL_law_201 (e := i + 1) (by omega) hLn ?_
        refine j_aload_n C dL_law_202 rfl rfl ?_
        refine j_iload_n C dL_law_203 rfl rfl ?_
        refine j_iconst (v := nI 2) C dL_law_204 rfl ?_
        refine j_iadd C dL_law_205 ?_
        refine j_top (nI_add _ _) ?_
        refine jl_scr C hX hb hbA dL_law_206 (e := i + 2) (by omega) hLn ?_
        refine jk_calli (q := 84) (As := [.int (xs (i + 1)), .int (xs (i + 2))]) (rest := [.int r1]) C (tX8_move (by omega) hR1 hA.1 hA.2.1 hA.2.2 (xs (i + 1)) (xs (i + 2))) cdX8_move mlL_35 dL_law_207 (by decide) (by decide) (by decide) (by omega) rfl rfl rfl rfl rfl (Nat.le_of_ble_eq_true rfl) (fun r2 σ2 hp2 => ?_)
        obtain ⟨hr2, hR2, hf2⟩ := hp2
        have hC2 := hC1.kept (σ' := σ2) (fun j n h => hf2 j n (by omega))
        refine j_icmp_eq (tgt := 564) C dL_law_210 rfl (fun _ => ?_) (fun h => absurd (hr1.trans hr2.symm) h)
        exact back σ2 (abMove (xs (i + 1)) (xs (i + 2)) (tx, len, a, (wt, u, tl, le), p)).2 hC2 hR2 (ok_move hA)
      · refine j_tableIn (tgt := 215) C dL_law_32 (by decide) (by decide) rfl rfl ?_
        refine j_aload_n C dL_law_215 rfl rfl ?_
        refine j_aload_n C dL_law_216 rfl rfl ?_
        refine j_iload_n C dL_law_217 rfl rfl ?_
        refine j_iconst (v := nI 1) C dL_law_218 rfl ?_
        refine j_iadd C dL_law_219 ?_
        refine j_top (nI_add _ _) ?_
        refine jl_scr C hX hb hbA dL_law_220 (e := i + 1) (by omega) hLn ?_
        refine j_aload_n C dL_law_221 rfl rfl ?_
        refine j_iload_n C dL_law_222 rfl rfl ?_
        refine j_iconst (v := nI 2) C dL_law_223 rfl ?_
        refine j_iadd C dL_law_224 ?_
        refine j_top (nI_add _ _) ?_
        refine jl_scr C hX hb hbA dL_law_225 (e := i + 2) (by omega) hLn ?_
        refine jk_calli (q := 0) (As := [.int (xs (i + 1)), .int (xs (i + 2))]) (rest := []) C (tX7_even (by omega) hC hA.1 (xs (i + 1)) (xs (i + 2))) cdX7_even mlL_36 dL_law_226 (by decide) (by decide) (by decide) (by omega) rfl rfl rfl rfl rfl (Nat.le_of_ble_eq_true rfl) (fun r1 σ1 hp1 => ?_)
        obtain ⟨hr1, hC1, hf1⟩ := hp1
        have hR1 := hR.kept hA.1 (σ' := σ1) (fun j n h => hf1 j n (by omega))
        refine j_aload_n C dL_law_229 rfl rfl ?_
        refine j_aload_n C dL_law_230 rfl rfl ?_
        refine j_iload_n C dL_law_231 rfl rfl ?_
        refine j_iconst (v := nI 1) C dL_law_232 rfl ?_
        refine j_iadd C dL_law_233 ?_
        refine j_top (nI_add _ _) ?_
        refine jl_scr C hX hb hbA dL_law_234 (e := i + 1) (by omega) hLn ?_
        refine j_aload_n C dL_law_235 rfl rfl ?_
        refine j_iload_n C dL_law_236 rfl rfl ?_
        refine j_iconst (v := nI 2) C dL_law_237 rfl ?_
        refine j_iadd C dL_law_238 ?_
        refine j_top (nI_add _ _) ?_
        refine jl_scr C hX hb hbA dL_law_239 (e := i + 2) (by omega) hLn ?_
        refine jk_calli (q := 84) (As := [.int (xs (i + 1)), .int (xs (i + 2))]) (rest := [.int r1]) C (tX8_even (by omega) hR1 hA.1 hA.2.1 hA.2.2 (xs (i + 1)) (xs (i + 2))) cdX8_even mlL_39 dL_law_240 (by decide) (by decide) (by decide) (by omega) rfl rfl rfl rfl rfl (Nat.le_of_ble_eq_true rfl) (fun r2 σ2 hp2 => ?_)
        obtain ⟨hr2, hR2, hf2⟩ := hp2
        have hC2 := hC1.kept (σ' := σ2) (fun j n h => hf2 j n (by omega))
        refine j_icmp_eq (tgt := 564) C dL_law_243 rfl (fun _ => ?_) (fun h => absurd (hr1.trans hr2.symm) h)
        exact back σ2 (abEven (xs (i + 1)) (xs (i + 2)) (tx, len, a, (wt, u, tl, le), p)).2 hC2 hR2 (ok_even hA)
      · refine j_tableIn (tgt := 248) C dL_law_32 (by decide) (by decide) rfl rfl ?_
        refine j_aload_n C dL_law_248 rfl rfl ?_
        refine j_aload_n C dL_law_249 rfl rfl ?_
        refine j_iload_n C dL_law_250 rfl rfl ?_
        refine j_iconst (v := nI 1) C dL_law_251 rfl ?_
        refine j_iadd C dL_law_252 ?_
        refine j_top (nI_add _ _) ?_
        refine jl_scr C hX hb hbA dL_law_253 (e := i + 1) (by omega) hLn ?_
        refine jk_calli (q := 0) (As := [.int (xs (i + 1))]) (rest := []) C (tX7_step (by omega) hC hA.1 (xs (i + 1))) cdX7_step mlL_40 dL_law_254 (by decide) (by decide) (by decide) (by omega) rfl rfl rfl rfl rfl (Nat.le_of_ble_eq_true rfl) (fun r1 σ1 hp1 => ?_)
        obtain ⟨hr1, hC1, hf1⟩ := hp1
        have hR1 := hR.kept hA.1 (σ' := σ1) (fun j n h => hf1 j n (by omega))
        refine j_aload_n C dL_law_257 rfl rfl ?_
        refine j_aload_n C dL_law_258 rfl rfl ?_
        refine j_iload_n C dL_law_259 rfl rfl ?_
        refine j_iconst (v := nI 1) C dL_law_260 rfl ?_
        refine j_iadd C dL_law_261 ?_
        refine j_top (nI_add _ _) ?_
        refine jl_scr C hX hb hbA dL_law_262 (e := i + 1) (by omega) hLn ?_
        refine jk_calli (q := 84) (As := [.int (xs (i + 1))]) (rest := [.int r1]) C (tX8_step (by omega) hR1 hA.1 hA.2.1 hA.2.2 (xs (i + 1))) cdX8_step mlL_43 dL_law_263 (by decide) (by decide) (by decide) (by omega) rfl rfl rfl rfl rfl (Nat.le_of_ble_eq_true rfl) (fun r2 σ2 hp2 => ?_)
        obtain ⟨hr2, hR2, hf2⟩ := hp2
        have hC2 := hC1.kept (σ' := σ2) (fun j n h => hf2 j n (by omega))
        refine j_icmp_eq (tgt := 564) C dL_law_266 rfl (fun _ => ?_) (fun h => absurd (hr1.trans hr2.symm) h)
        exact back σ2 (abStep (xs (i + 1)) (tx, len, a, (wt, u, tl, le), p)).2 hC2 hR2 (ok_step hA)
      · refine j_tableIn (tgt := 271) C dL_law_32 (by decide) (by decide) rfl rfl ?_
        refine j_aload_n C dL_law_271 rfl rfl ?_
        refine j_aload_n C dL_law_272 rfl rfl ?_
        refine j_iload_n C dL_law_273 rfl rfl ?_
        refine j_iconst (v := nI 1) C dL_law_274 rfl ?_
        refine j_iadd C dL_law_275 ?_
        refine j_top (nI_add _ _) ?_
        refine jl_scr C hX hb hbA dL_law_276 (e := i + 1) (by omega) hLn ?_
        refine j_aload_n C dL_law_277 rfl rfl ?_
        refine j_iload_n C dL_law_278 rfl rfl ?_
        refine j_iconst (v := nI 2) C dL_law_279 rfl ?_
        refine j_iadd C dL_law_280 ?_
        refine j_top (nI_add _ _) ?_
        refine jl_scr C hX hb hbA dL_law_281 (e := i + 2) (by omega) hLn ?_
        refine jk_calli (q := 0) (As := [.int (xs (i + 1)), .int (xs (i + 2))]) (rest := []) C (tX7_turn (by omega) hC hA.1 (xs (i + 1)) (xs (i + 2))) cdX7_turn mlL_44 dL_law_282 (by decide) (by decide) (by decide) (by omega) rfl rfl rfl rfl rfl (Nat.le_of_ble_eq_true rfl) (fun r1 σ1 hp1 => ?_)
        obtain ⟨hr1, hC1, hf1⟩ := hp1
        have hR1 := hR.kept hA.1 (σ' := σ1) (fun j n h => hf1 j n (by omega))
        refine j_aload_n C dL_law_285 rfl rfl ?_
        refine j_aload_n C dL_law_286 rfl rfl ?_
        refine j_iload_n C dL_law_287 rfl rfl ?_
        refine j_iconst (v := nI 1) C dL_law_288 rfl ?_
        refine j_iadd C dL_law_289 ?_
        refine j_top (nI_add _ _) ?_
        refine jl_scr C hX hb hbA dL_law_290 (e := i + 1) (by omega) hLn ?_
        refine j_aload_n C dL_law_291 rfl rfl ?_
        refine j_iload_n C dL_law_292 rfl rfl ?_
        refine j_iconst (v := nI 2) C dL_law_293 rfl ?_
        refine j_iadd C dL_law_294 ?_
        refine j_top (nI_add _ _) ?_
        refine jl_scr C hX hb hbA dL_law_295 (e := i + 2) (by omega) hLn ?_
        refine jk_calli (q := 84) (As := [.int (xs (i + 1)), .int (xs (i + 2))]) (rest := [.int r1]) C (tX8_turn (by omega) hR1 hA.1 hA.2.1 hA.2.2 (xs (i + 1)) (xs (i + 2))) cdX8_turn mlL_47 dL_law_296 (by decide) (by decide) (by decide) (by omega) rfl rfl rfl rfl rfl (Nat.le_of_ble_eq_true rfl) (fun r2 σ2 hp2 => ?_)
        obtain ⟨hr2, hR2, hf2⟩ := hp2
        have hC2 := hC1.kept (σ' := σ2) (fun j n h => hf2 j n (by omega))
        refine j_icmp_eq (tgt := 564) C dL_law_299 rfl (fun _ => ?_) (fun h => absurd (hr1.trans hr2.symm) h)
        exact back σ2 (abTurn (xs (i + 1)) (xs (i + 2)) (tx, len, a, (wt, u, tl, le), p)).2 hC2 hR2 (ok_turn hA)
      · refine j_tableIn (tgt := 304) C dL_law_32 (by decide) (by decide) rfl rfl ?_
        refine j_aload_n C dL_law_304 rfl rfl ?_
        refine jk_calli (q := 0) (As := []) (rest := []) C (tX7_undo (by omega) hC hA.1 ) cdX7_undo mlL_48 dL_law_305 (by decide) (by decide) (by decide) (by omega) rfl rfl rfl rfl rfl (Nat.le_of_ble_eq_true rfl) (fun r1 σ1 hp1 => ?_)
        obtain ⟨hr1, hC1, hf1⟩ := hp1
        have hR1 := hR.kept hA.1 (σ' := σ1) (fun j n h => hf1 j n (by omega))
        refine j_aload_n C dL_law_308 rfl rfl ?_
        refine jk_calli (q := 84) (As := []) (rest := [.int r1]) C (tX8_undo (by omega) hR1 hA.1 hA.2.1 hA.2.2 ) cdX8_undo mlL_51 dL_law_309 (by decide) (by decide) (by decide) (by omega) rfl rfl rfl rfl rfl (Nat.le_of_ble_eq_true rfl) (fun r2 σ2 hp2 => ?_)
        obtain ⟨hr2, hR2, hf2⟩ := hp2
        have hC2 := hC1.kept (σ' := σ2) (fun j n h => hf2 j n (by omega))
        refine j_icmp_eq (tgt := 564) C dL_law_312 rfl (fun _ => ?_) (fun h => absurd (hr1.trans hr2.symm) h)
        exact back σ2 (abUndo  (tx, len, a, (wt, u, tl, le), p)).2 hC2 hR2 (ok_undo hA)
      · refine j_tableIn (tgt := 317) C dL_law_32 (by decide) (by decide) rfl rfl ?_
        refine j_aload_n C dL_law_317 rfl rfl ?_
        refine j_aload_n C dL_law_318 rfl rfl ?_
        refine j_iload_n C dL_law_319 rfl rfl ?_
        refine j_iconst (v := nI 1) C dL_law_320 rfl ?_
        refine j_iadd C dL_law_321 ?_
        refine j_top (nI_add _ _) ?_
        refine jl_scr C hX hb hbA dL_law_322 (e := i + 1) (by omega) hLn ?_
        refine j_aload_n C dL_law_323 rfl rfl ?_
        refine j_iload_n C dL_law_324 rfl rfl ?_
        refine j_iconst (v := nI 2) C dL_law_325 rfl ?_
        refine j_iadd C dL_law_326 ?_
        refine j_top (nI_add _ _) ?_
        refine jl_scr C hX hb hbA dL_law_327 (e := i + 2) (by omega) hLn ?_
        refine jk_calli (q := 0) (As := [.int (xs (i + 1)), .int (xs (i + 2))]) (rest := []) C (tX7_link (by omega) hC hA.1 (xs (i + 1)) (xs (i + 2))) cdX7_link mlL_52 dL_law_328 (by decide) (by decide) (by decide) (by omega) rfl rfl rfl rfl rfl (Nat.le_of_ble_eq_true rfl) (fun r1 σ1 hp1 => ?_)
        obtain ⟨hr1, hC1, hf1⟩ := hp1
        have hR1 := hR.kept hA.1 (σ' := σ1) (fun j n h => hf1 j n (by omega))
        refine j_aload_n C dL_law_331 rfl rfl ?_
        refine j_aload_n C dL_law_332 rfl rfl ?_
        refine j_iload_n C dL_law_333 rfl rfl ?_
        refine j_iconst (v := nI 1) C dL_law_334 rfl ?_
        refine j_iadd C dL_law_335 ?_
        refine j_top (nI_add _ _) ?_
        refine jl_scr C hX hb hbA dL_law_336 (e := i + 1) (by omega) hLn ?_
        refine j_aload_n C dL_law_337 rfl rfl ?_
        refine j_iload_n C dL_law_338 rfl rfl ?_
        refine j_iconst (v := nI 2) C dL_law_339 rfl ?_
        refine j_iadd C dL_law_340 ?_
        refine j_top (nI_add _ _) ?_
        refine jl_scr C hX hb hbA dL_law_341 (e := i + 2) (by omega) hLn ?_
        refine jk_calli (q := 84) (As := [.int (xs (i + 1)), .int (xs (i + 2))]) (rest := [.int r1]) C (tX8_link (by omega) hR1 hA.1 hA.2.1 hA.2.2 (xs (i + 1)) (xs (i + 2))) cdX8_link mlL_55 dL_law_342 (by decide) (by decide) (by decide) (by omega) rfl rfl rfl rfl rfl (Nat.le_of_ble_eq_true rfl) (fun r2 σ2 hp2 => ?_)
        obtain ⟨hr2, hR2, hf2⟩ := hp2
        have hC2 := hC1.kept (σ' := σ2) (fun j n h => hf2 j n (by omega))
        refine j_icmp_eq (tgt := 564) C dL_law_345 rfl (fun _ => ?_) (fun h => absurd (hr1.trans hr2.symm) h)
        exact back σ2 (abLink (xs (i + 1)) (xs (i + 2)) (tx, len, a, (wt, u, tl, le), p)).2 hC2 hR2 (ok_id hA)
      · refine j_tableIn (tgt := 350) C dL_law_32 (by decide) (by decide) rfl rfl ?_
        refine j_aload_n C dL_law_350 rfl rfl ?_
        refine j_aload_n C dL_law_351 rfl rfl ?_
        refine j_iload_n C dL_law_352 rfl rfl ?_
        refine j_iconst (v := nI 1) C dL_law_353 rfl ?_
        refine j_iadd C dL_law_354 ?_
        refine j_top (nI_add _ _) ?_
        refine jl_scr C hX hb hbA dL_law_355 (e := i + 1) (by omega) hLn ?_
        refine j_aload_n C dL_law_356 rfl rfl ?_
        refine j_iload_n C dL_law_357 rfl rfl ?_
        refine j_iconst (v := nI 2) C dL_law_358 rfl ?_
        refine j_iadd C dL_law_359 ?_
        refine j_top (nI_add _ _) ?_
        refine jl_scr C hX hb hbA dL_law_360 (e := i + 2) (by omega) hLn ?_
        refine jk_calli (q := 0) (As := [.int (xs (i + 1)), .int (xs (i + 2))]) (rest := []) C (tX7_far (by omega) hC hA.1 (xs (i + 1)) (xs (i + 2))) cdX7_far mlL_56 dL_law_361 (by decide) (by decide) (by decide) (by omega) rfl rfl rfl rfl rfl (Nat.le_of_ble_eq_true rfl) (fun r1 σ1 hp1 => ?_)
        obtain ⟨hr1, hC1, hf1⟩ := hp1
        have hR1 := hR.kept hA.1 (σ' := σ1) (fun j n h => hf1 j n (by omega))
        refine j_aload_n C dL_law_364 rfl rfl ?_
        refine j_aload_n C dL_law_365 rfl rfl ?_
        refine j_iload_n C dL_law_366 rfl rfl ?_
        refine j_iconst (v := nI 1) C dL_law_367 rfl ?_
        refine j_iadd C dL_law_368 ?_
        refine j_top (nI_add _ _) ?_
        refine jl_scr C hX hb hbA dL_law_369 (e := i + 1) (by omega) hLn ?_
        refine j_aload_n C dL_law_370 rfl rfl ?_
        refine j_iload_n C dL_law_371 rfl rfl ?_
        refine j_iconst (v := nI 2) C dL_law_372 rfl ?_
        refine j_iadd C dL_law_373 ?_
        refine j_top (nI_add _ _) ?_
        refine jl_scr C hX hb hbA dL_law_374 (e := i + 2) (by omega) hLn ?_
        refine jk_calli (q := 84) (As := [.int (xs (i + 1)), .int (xs (i + 2))]) (rest := [.int r1]) C (tX8_far (by omega) hR1 hA.1 hA.2.1 hA.2.2 (xs (i + 1)) (xs (i + 2))) cdX8_far mlL_59 dL_law_375 (by decide) (by decide) (by decide) (by omega) rfl rfl rfl rfl rfl (Nat.le_of_ble_eq_true rfl) (fun r2 σ2 hp2 => ?_)
        obtain ⟨hr2, hR2, hf2⟩ := hp2
        have hC2 := hC1.kept (σ' := σ2) (fun j n h => hf2 j n (by omega))
        refine j_icmp_eq (tgt := 564) C dL_law_378 rfl (fun _ => ?_) (fun h => absurd (hr1.trans hr2.symm) h)
        exact back σ2 (abFar (xs (i + 1)) (xs (i + 2)) (tx, len, a, (wt, u, tl, le), p)).2 hC2 hR2 (ok_id hA)
      · refine j_tableIn (tgt := 383) C dL_law_32 (by decide) (by decide) rfl rfl ?_
        refine j_aload_n C dL_law_383 rfl rfl ?_
        refine j_aload_n C dL_law_384 rfl rfl ?_
        refine j_iload_n C dL_law_385 rfl rfl ?_
        refine j_iconst (v := nI 1) C dL_law_386 rfl ?_
        refine j_iadd C dL_law_387 ?_
        refine j_top (nI_add _ _) ?_
        refine jl_scr C hX hb hbA dL_law_388 (e := i + 1) (by omega) hLn ?_
        refine j_aload_n C dL_law_389 rfl rfl ?_
        refine j_iload_n C dL_law_390 rfl rfl ?_
        refine j_iconst (v := nI 2) C dL_law_391 rfl ?_
        refine j_iadd C dL_law_392 ?_
        refine j_top (nI_add _ _) ?_
        refine jl_scr C hX hb hbA dL_law_393 (e := i + 2) (by omega) hLn ?_
        refine jk_calli (q := 0) (As := [.int (xs (i + 1)), .int (xs (i + 2))]) (rest := []) C (tX7_share (by omega) hC hA.1 (xs (i + 1)) (xs (i + 2))) cdX7_share mlL_60 dL_law_394 (by decide) (by decide) (by decide) (by omega) rfl rfl rfl rfl rfl (Nat.le_of_ble_eq_true rfl) (fun r1 σ1 hp1 => ?_)
        obtain ⟨hr1, hC1, hf1⟩ := hp1
        have hR1 := hR.kept hA.1 (σ' := σ1) (fun j n h => hf1 j n (by omega))
        refine j_aload_n C dL_law_397 rfl rfl ?_
        refine j_aload_n C dL_law_398 rfl rfl ?_
        refine j_iload_n C dL_law_399 rfl rfl ?_
        refine j_iconst (v := nI 1) C dL_law_400 rfl ?_
        refine j_iadd C dL_law_401 ?_
        refine j_top (nI_add _ _) ?_
        refine jl_scr C hX hb hbA dL_law_402 (e := i + 1) (by omega) hLn ?_
        refine j_aload_n C dL_law_403 rfl rfl ?_
        refine j_iload_n C dL_law_404 rfl rfl ?_
        refine j_iconst (v := nI 2) C dL_law_405 rfl ?_
        refine j_iadd C dL_law_406 ?_
        refine j_top (nI_add _ _) ?_
        refine jl_scr C hX hb hbA dL_law_407 (e := i + 2) (by omega) hLn ?_
        refine jk_calli (q := 84) (As := [.int (xs (i + 1)), .int (xs (i + 2))]) (rest := [.int r1]) C (tX8_share (by omega) hR1 hA.1 hA.2.1 hA.2.2 (xs (i + 1)) (xs (i + 2))) cdX8_share mlL_63 dL_law_408 (by decide) (by decide) (by decide) (by omega) rfl rfl rfl rfl rfl (Nat.le_of_ble_eq_true rfl) (fun r2 σ2 hp2 => ?_)
        obtain ⟨hr2, hR2, hf2⟩ := hp2
        have hC2 := hC1.kept (σ' := σ2) (fun j n h => hf2 j n (by omega))
        refine j_icmp_eq (tgt := 564) C dL_law_411 rfl (fun _ => ?_) (fun h => absurd (hr1.trans hr2.symm) h)
        exact back σ2 (abShare (xs (i + 1)) (xs (i + 2)) (tx, len, a, (wt, u, tl, le), p)).2 hC2 hR2 (ok_id hA)
      · refine j_tableIn (tgt := 416) C dL_law_32 (by decide) (by decide) rfl rfl ?_
        refine j_aload_n C dL_law_416 rfl rfl ?_
        refine jk_calli (q := 0) (As := []) (rest := []) C (tX7_cost (by omega) hC hA.1 ) cdX7_cost mlL_64 dL_law_417 (by decide) (by decide) (by decide) (by omega) rfl rfl rfl rfl rfl (Nat.le_of_ble_eq_true rfl) (fun r1 σ1 hp1 => ?_)
        obtain ⟨hr1, hC1, hf1⟩ := hp1
        have hR1 := hR.kept hA.1 (σ' := σ1) (fun j n h => hf1 j n (by omega))
        refine j_aload_n C dL_law_420 rfl rfl ?_
        refine jk_calli (q := 84) (As := []) (rest := [.int r1]) C (tX8_cost (by omega) hR1 hA.1 hA.2.1 hA.2.2 ) cdX8_cost mlL_67 dL_law_421 (by decide) (by decide) (by decide) (by omega) rfl rfl rfl rfl rfl (Nat.le_of_ble_eq_true rfl) (fun r2 σ2 hp2 => ?_)
        obtain ⟨hr2, hR2, hf2⟩ := hp2
        have hC2 := hC1.kept (σ' := σ2) (fun j n h => hf2 j n (by omega))
        refine j_icmp_eq (tgt := 564) C dL_law_424 rfl (fun _ => ?_) (fun h => absurd (hr1.trans hr2.symm) h)
        exact back σ2 (abCost  (tx, len, a, (wt, u, tl, le), p)).2 hC2 hR2 hA
      · refine j_tableIn (tgt := 429) C dL_law_32 (by decide) (by decide) rfl rfl ?_
        refine j_aload_n C dL_law_429 rfl rfl ?_
        refine j_aload_n C dL_law_430 rfl rfl ?_
        refine j_iload_n C dL_law_431 rfl rfl ?_
        refine j_iconst (v := nI 1) C dL_law_432 rfl ?_
        refine j_iadd C dL_law_433 ?_
        refine j_top (nI_add _ _) ?_
        refine jl_scr C hX hb hbA dL_law_434 (e := i + 1) (by omega) hLn ?_
        refine j_aload_n C dL_law_435 rfl rfl ?_
        refine j_iload_n C dL_law_436 rfl rfl ?_
        refine j_iconst (v := nI 2) C dL_law_437 rfl ?_
        refine j_iadd C dL_law_438 ?_
        refine j_top (nI_add _ _) ?_
        refine jl_scr C hX hb hbA dL_law_439 (e := i + 2) (by omega) hLn ?_
        refine jk_calli (q := 0) (As := [.int (xs (i + 1)), .int (xs (i + 2))]) (rest := []) C (tX7_tabu (by omega) hC hA.1 (xs (i + 1)) (xs (i + 2))) cdX7_tabu mlL_68 dL_law_440 (by decide) (by decide) (by decide) (by omega) rfl rfl rfl rfl rfl (Nat.le_of_ble_eq_true rfl) (fun r1 σ1 hp1 => ?_)
        obtain ⟨hr1, hC1, hf1⟩ := hp1
        have hR1 := hR.kept hA.1 (σ' := σ1) (fun j n h => hf1 j n (by omega))
        refine j_aload_n C dL_law_443 rfl rfl ?_
        refine j_aload_n C dL_law_444 rfl rfl ?_
        refine j_iload_n C dL_law_445 rfl rfl ?_
        refine j_iconst (v := nI 1) C dL_law_446 rfl ?_
        refine j_iadd C dL_law_447 ?_
        refine j_top (nI_add _ _) ?_
        refine jl_scr C hX hb hbA dL_law_448 (e := i + 1) (by omega) hLn ?_
        refine j_aload_n C dL_law_449 rfl rfl ?_
        refine j_iload_n C dL_law_450 rfl rfl ?_
        refine j_iconst (v := nI 2) C dL_law_451 rfl ?_
        refine j_iadd C dL_law_452 ?_
        refine j_top (nI_add _ _) ?_
        refine jl_scr C hX hb hbA dL_law_453 (e := i + 2) (by omega) hLn ?_
        refine jk_calli (q := 84) (As := [.int (xs (i + 1)), .int (xs (i + 2))]) (rest := [.int r1]) C (tX8_tabu (by omega) hR1 hA.1 hA.2.1 hA.2.2 (xs (i + 1)) (xs (i + 2))) cdX8_tabu mlL_71 dL_law_454 (by decide) (by decide) (by decide) (by omega) rfl rfl rfl rfl rfl (Nat.le_of_ble_eq_true rfl) (fun r2 σ2 hp2 => ?_)
        obtain ⟨hr2, hR2, hf2⟩ := hp2
        have hC2 := hC1.kept (σ' := σ2) (fun j n h => hf2 j n (by omega))
        refine j_icmp_eq (tgt := 564) C dL_law_457 rfl (fun _ => ?_) (fun h => absurd (hr1.trans hr2.symm) h)
        exact back σ2 (abTabu (xs (i + 1)) (xs (i + 2)) (tx, len, a, (wt, u, tl, le), p)).2 hC2 hR2 (ok_id hA)
      · refine j_tableIn (tgt := 462) C dL_law_32 (by decide) (by decide) rfl rfl ?_
        refine j_aload_n C dL_law_462 rfl rfl ?_
        refine j_aload_n C dL_law_463 rfl rfl ?_
        refine j_iload_n C dL_law_464 rfl rfl ?_
        refine j_iconst (v := nI 1) C dL_law_465 rfl ?_
        refine j_iadd C dL_law_466 ?_
        refine j_top (nI_add _ _) ?_
        refine jl_scr C hX hb hbA dL_law_467 (e := i + 1) (by omega) hLn ?_
        refine jk_calli (q := 0) (As := [.int (xs (i + 1))]) (rest := []) C (tX7_best (by omega) hC hA.1 (xs (i + 1))) cdX7_best mlL_72 dL_law_468 (by decide) (by decide) (by decide) (by omega) rfl rfl rfl rfl rfl (Nat.le_of_ble_eq_true rfl) (fun r1 σ1 hp1 => ?_)
        obtain ⟨hr1, hC1, hf1⟩ := hp1
        have hR1 := hR.kept hA.1 (σ' := σ1) (fun j n h => hf1 j n (by omega))
        refine j_aload_n C dL_law_471 rfl rfl ?_
        refine j_aload_n C dL_law_472 rfl rfl ?_
        refine j_iload_n C dL_law_473 rfl rfl ?_
        refine j_iconst (v := nI 1) C dL_law_474 rfl ?_
        refine j_iadd C dL_law_475 ?_
        refine j_top (nI_add _ _) ?_
        refine jl_scr C hX hb hbA dL_law_476 (e := i + 1) (by omega) hLn ?_
        refine jk_calli (q := 84) (As := [.int (xs (i + 1))]) (rest := [.int r1]) C (tX8_best (by omega) hR1 hA.1 hA.2.1 hA.2.2 (xs (i + 1))) cdX8_best mlL_75 dL_law_477 (by decide) (by decide) (by decide) (by omega) rfl rfl rfl rfl rfl (Nat.le_of_ble_eq_true rfl) (fun r2 σ2 hp2 => ?_)
        obtain ⟨hr2, hR2, hf2⟩ := hp2
        have hC2 := hC1.kept (σ' := σ2) (fun j n h => hf2 j n (by omega))
        refine j_icmp_eq (tgt := 564) C dL_law_480 rfl (fun _ => ?_) (fun h => absurd (hr1.trans hr2.symm) h)
        exact back σ2 (abBest (xs (i + 1)) (tx, len, a, (wt, u, tl, le), p)).2 hC2 hR2 (ok_id hA)
      · refine j_tableIn (tgt := 485) C dL_law_32 (by decide) (by decide) rfl rfl ?_
        refine j_aload_n C dL_law_485 rfl rfl ?_
        refine j_aload_n C dL_law_486 rfl rfl ?_
        refine j_iload_n C dL_law_487 rfl rfl ?_
        refine j_iconst (v := nI 1) C dL_law_488 rfl ?_
        refine j_iadd C dL_law_489 ?_
        refine j_top (nI_add _ _) ?_
        refine jl_scr C hX hb hbA dL_law_490 (e := i + 1) (by omega) hLn ?_
        refine jk_calli (q := 0) (As := [.int (xs (i + 1))]) (rest := []) C (tX7_worst (by omega) hC hA.1 (xs (i + 1))) cdX7_worst mlL_76 dL_law_491 (by decide) (by decide) (by decide) (by omega) rfl rfl rfl rfl rfl (Nat.le_of_ble_eq_true rfl) (fun r1 σ1 hp1 => ?_)
        obtain ⟨hr1, hC1, hf1⟩ := hp1
        have hR1 := hR.kept hA.1 (σ' := σ1) (fun j n h => hf1 j n (by omega))
        refine j_aload_n C dL_law_494 rfl rfl ?_
        refine j_aload_n C dL_law_495 rfl rfl ?_
        refine j_iload_n C dL_law_496 rfl rfl ?_
        refine j_iconst (v := nI 1) C dL_law_497 rfl ?_
        refine j_iadd C dL_law_498 ?_
        refine j_top (nI_add _ _) ?_
        refine jl_scr C hX hb hbA dL_law_499 (e := i + 1) (by omega) hLn ?_
        refine jk_calli (q := 84) (As := [.int (xs (i + 1))]) (rest := [.int r1]) C (tX8_worst (by omega) hR1 hA.1 hA.2.1 hA.2.2 (xs (i + 1))) cdX8_worst mlL_79 dL_law_500 (by decide) (by decide) (by decide) (by omega) rfl rfl rfl rfl rfl (Nat.le_of_ble_eq_true rfl) (fun r2 σ2 hp2 => ?_)
        obtain ⟨hr2, hR2, hf2⟩ := hp2
        have hC2 := hC1.kept (σ' := σ2) (fun j n h => hf2 j n (by omega))
        refine j_icmp_eq (tgt := 564) C dL_law_503 rfl (fun _ => ?_) (fun h => absurd (hr1.trans hr2.symm) h)
        exact back σ2 (abWorst (xs (i + 1)) (tx, len, a, (wt, u, tl, le), p)).2 hC2 hR2 (ok_id hA)
      · refine j_tableIn (tgt := 508) C dL_law_32 (by decide) (by decide) rfl rfl ?_
        refine j_aload_n C dL_law_508 rfl rfl ?_
        refine j_aload_n C dL_law_509 rfl rfl ?_
        refine j_iload_n C dL_law_510 rfl rfl ?_
        refine j_iconst (v := nI 1) C dL_law_511 rfl ?_
        refine j_iadd C dL_law_512 ?_
        refine j_top (nI_add _ _) ?_
        refine jl_scr C hX hb hbA dL_law_513 (e := i + 1) (by omega) hLn ?_
        refine j_aload_n C dL_law_514 rfl rfl ?_
        refine j_iload_n C dL_law_515 rfl rfl ?_
        refine j_iconst (v := nI 2) C dL_law_516 rfl ?_
        refine j_iadd C dL_law_517 ?_
        refine j_top (nI_add _ _) ?_
        refine jl_scr C hX hb hbA dL_law_518 (e := i + 2) (by omega) hLn ?_
        refine jk_calli (q := 0) (As := [.int (xs (i + 1)), .int (xs (i + 2))]) (rest := []) C (tX7_rescue (by omega) hC hA.1 (xs (i + 1)) (xs (i + 2))) cdX7_rescue mlL_80 dL_law_519 (by decide) (by decide) (by decide) (by omega) rfl rfl rfl rfl rfl (Nat.le_of_ble_eq_true rfl) (fun r1 σ1 hp1 => ?_)
        obtain ⟨hr1, hC1, hf1⟩ := hp1
        have hR1 := hR.kept hA.1 (σ' := σ1) (fun j n h => hf1 j n (by omega))
        refine j_aload_n C dL_law_522 rfl rfl ?_
        refine j_aload_n C dL_law_523 rfl rfl ?_
        refine j_iload_n C dL_law_524 rfl rfl ?_
        refine j_iconst (v := nI 1) C dL_law_525 rfl ?_
        refine j_iadd C dL_law_526 ?_
        refine j_top (nI_add _ _) ?_
        refine jl_scr C hX hb hbA dL_law_527 (e := i + 1) (by omega) hLn ?_
        refine j_aload_n C dL_law_528 rfl rfl ?_
        refine j_iload_n C dL_law_529 rfl rfl ?_
        refine j_iconst (v := nI 2) C dL_law_530 rfl ?_
        refine j_iadd C dL_law_531 ?_
        refine j_top (nI_add _ _) ?_
        refine jl_scr C hX hb hbA dL_law_532 (e := i + 2) (by omega) hLn ?_
        refine jk_calli (q := 84) (As := [.int (xs (i + 1)), .int (xs (i + 2))]) (rest := [.int r1]) C (tX8_rescue (by omega) hR1 hA.1 hA.2.1 hA.2.2 (xs (i + 1)) (xs (i + 2))) cdX8_rescue mlL_83 dL_law_533 (by decide) (by decide) (by decide) (by omega) rfl rfl rfl rfl rfl (Nat.le_of_ble_eq_true rfl) (fun r2 σ2 hp2 => ?_)
        obtain ⟨hr2, hR2, hf2⟩ := hp2
        have hC2 := hC1.kept (σ' := σ2) (fun j n h => hf2 j n (by omega))
        refine j_icmp_eq (tgt := 564) C dL_law_536 rfl (fun _ => ?_) (fun h => absurd (hr1.trans hr2.symm) h)
        exact back σ2 (abRescue (xs (i + 1)) (xs (i + 2)) (tx, len, a, (wt, u, tl, le), p)).2 hC2 hR2 (ok_rescue hA)
      · refine j_tableIn (tgt := 541) C dL_law_32 (by decide) (by decide) rfl rfl ?_
        refine j_aload_n C dL_law_541 rfl rfl ?_
        refine j_aload_n C dL_law_542 rfl rfl ?_
        refine j_iload_n C dL_law_543 rfl rfl ?_
        refine j_iconst (v := nI 1) C dL_law_544 rfl ?_
        refine j_iadd C dL_law_545 ?_
        refine j_top (nI_add _ _) ?_
        refine jl_scr C hX hb hbA dL_law_546 (e := i + 1) (by omega) hLn ?_
        refine jk_calli (q := 0) (As := [.int (xs (i + 1))]) (rest := []) C (tX7_count (by omega) hC hA.1 (xs (i + 1))) cdX7_count mlL_84 dL_law_547 (by decide) (by decide) (by decide) (by omega) rfl rfl rfl rfl rfl (Nat.le_of_ble_eq_true rfl) (fun r1 σ1 hp1 => ?_)
        obtain ⟨hr1, hC1, hf1⟩ := hp1
        have hR1 := hR.kept hA.1 (σ' := σ1) (fun j n h => hf1 j n (by omega))
        refine j_aload_n C dL_law_550 rfl rfl ?_
        refine j_aload_n C dL_law_551 rfl rfl ?_
        refine j_iload_n C dL_law_552 rfl rfl ?_
        refine j_iconst (v := nI 1) C dL_law_553 rfl ?_
        refine j_iadd C dL_law_554 ?_
        refine j_top (nI_add _ _) ?_
        refine jl_scr C hX hb hbA dL_law_555 (e := i + 1) (by omega) hLn ?_
        refine jk_calli (q := 84) (As := [.int (xs (i + 1))]) (rest := [.int r1]) C (tX8_count (by omega) hR1 hA.1 hA.2.1 hA.2.2 (xs (i + 1))) cdX8_count mlL_87 dL_law_556 (by decide) (by decide) (by decide) (by omega) rfl rfl rfl rfl rfl (Nat.le_of_ble_eq_true rfl) (fun r2 σ2 hp2 => ?_)
        obtain ⟨hr2, hR2, hf2⟩ := hp2
        have hC2 := hC1.kept (σ' := σ2) (fun j n h => hf2 j n (by omega))
        refine j_icmp_eq (tgt := 564) C dL_law_559 rfl (fun _ => ?_) (fun h => absurd (hr1.trans hr2.symm) h)
        exact back σ2 (abCount (xs (i + 1)) (tx, len, a, (wt, u, tl, le), p)).2 hC2 hR2 (ok_id hA)
    · refine j_tableOut (tgt := 564) C dL_law_32 (not_inR (by decide) (by decide) hin) rfl ?_
      exact back σ (tx, len, a, (wt, u, tl, le), p) hC hR hA
