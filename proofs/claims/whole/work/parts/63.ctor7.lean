def rmX7_init : Room := { frames := 6, cells := 83, slots := 921, locals := 136 }
set_option maxHeartbeats 4000000 in
set_option maxRecDepth 100000 in
theorem X7_rest {g : jG} {κ : jC} (hN : 84 ≤ gN g) (C : Cx g κ cX7_init 2 RX7 rmX7_init) (X : eX g (kA κ) (kS κ)) {σ : Sg} (hz : ∀ j n, σ j n = 0) (kE : ∀ σ' : Sg, CI σ' (tx0, 0, ndC, newS ndC, []) → Jw g κ 2 167 [some (.ref (gad g (0))), some (.int (nI 84))] [] (Wd g σ') 83 921) : JJ g κ 2 123 [some (.ref (gad g (0))), none] [] σ 83 921 := by
  have lp : ∀ (k i : Nat) (σ1 : Sg), 84 - i = k → i ≤ 84 → (∀ j n, ¬ (j = 1 ∨ j = 2) → σ1 j n = σ j n) → σ1 1 1 = nI i → (∀ z, z < i → σ1 2 z = tx0 z) → JJ g κ 2 125 [some (.ref (gad g (0))), some (.int (nI (i)))] [] σ1 83 921 := by
    intro k
    induction k using Nat.strongRecOn with
    | _ k ih =>
      intro i σ1 hk hi hf h1 h2
      refine j_iload_n C dX7_init_125 rfl rfl ?_
      refine js_ldc C X.1.2.2.2 dX7_init_126 ?_
      refine js_callV (eX_ok g) (As := []) (rest := [.int (nI i)]) C X (str_rv X) tJ0_length cdJ0_length_8abf5 mlX7_74 dX7_init_128 (by decide) (by decide) rfl rfl (Nat.le_of_ble_eq_true rfl) (fun r w' hw => ?_)
      obtain ⟨rfl, rfl⟩ := hw
      refine j_icmpn_ge (tgt := 154) C dX7_init_131 rfl (by omega) (by omega) (fun h => ?_) (fun h => ?_)
      · have ei : i = 84 := by omega
        subst ei
        refine j_aload_n C dX7_init_154 rfl rfl ?_
        refine jk_calli (q := 0) (As := []) (rest := []) C (tX7_layText0 hN (tx := tx0) (len := 84) h1 (by decide) h2 ndC_1 (by have := ndC_n.2.1; show nM ndC ≠ 0; omega) (by have := ndC_n.2.2; show nD ndC ≠ 0; omega) (by rw [hf _ _ (by omega)]; exact hz 45 1)) cdX7_layText mlX7_88 dX7_init_155 (by decide) (by decide) (by decide) (Nat.lt_of_lt_of_le (by decide) hN) rfl rfl rfl rfl rfl (Nat.le_of_ble_eq_true rfl) (fun rr_ σ2 hC2 => ?_)
        refine j_pop C dX7_init_158 rfl ?_
        refine j_aload_n C dX7_init_159 rfl rfl ?_
        refine jk_get (q := 0) C flX7_10 dX7_init_160 (Nat.lt_of_lt_of_le (by decide) hN) rfl rfl ?_
        refine j_iconst (v := nI 0) C dX7_init_163 rfl ?_
        refine jk_put' (q := 1) C fpX7_92 dX7_init_164 (Nat.lt_of_lt_of_le (by decide) hN) (fun _ => rfl) rfl (Nat.le_of_ble_eq_true rfl) rfl rfl (fun σ3 hf3 hv3 => ?_)
        obtain ⟨⟨q1, q2, q3⟩, q4, q5, q6⟩ := hC2
        exact kE σ3 ⟨⟨hv3, Nat.zero_le _, fun k hk => absurd hk (Nat.not_lt_zero _)⟩, q4.kept (fun j n h1 h2 => hf3 j n (by omega)), q5.kept (fun j n h1 h2 => hf3 j n (by omega)), q6.kept (fun j n h => hf3 j n (by omega))⟩
      · refine j_aload_n C dX7_init_134 rfl rfl ?_
        refine jk_get (q := 0) C flX7_10 dX7_init_135 (Nat.lt_of_lt_of_le (by decide) hN) rfl rfl ?_
        refine js_ldc C X.1.2.2.2 dX7_init_138 ?_
        refine j_iload_n C dX7_init_140 rfl rfl ?_
        refine js_callV (eX_ok g) (As := [.int (nI i)]) (rest := [.ref (gad g 1)]) C X (str_rv X) (tJ0_charAt (k := i) (by omega)) cdJ0_charAt_5068e mlX7_80 dX7_init_141 (by decide) (by decide) rfl rfl (Nat.le_of_ble_eq_true rfl) (fun r w' hw => ?_)
        obtain ⟨rfl, rfl⟩ := hw
        refine jk_calli (q := 1) (As := [.int (tx0 i)]) (rest := []) C (tX1_put hN (len := i) h1 (by omega) (tx0 i)) cdX1_put mlX7_84 dX7_init_144 (by decide) (by decide) (by decide) (Nat.lt_of_lt_of_le (by decide) hN) rfl rfl rfl rfl rfl (Nat.le_of_ble_eq_true rfl) (fun rr_ σ2 hp => ?_)
        rcases hp with ⟨-, -, hf2, hv2, hl2⟩ | ⟨hbad, -, -⟩
        · refine j_pop C dX7_init_147 rfl ?_
          refine j_iinc (L' := [some (.ref (gad g (0))), some (.int (nI (i + 1)))]) C dX7_init_148 rfl (nI_inc _) (by decide) rfl ?_
          refine j_goto (tgt := 125) C dX7_init_151 rfl ?_
          refine ih (84 - (i + 1)) (by omega) (i + 1) σ2 rfl (by omega) (fun j n h => by rw [hf2 _ _ (by omega)]; exact hf j n h) hl2 (fun z hz => ?_)
          by_cases e : z = i
          · subst e; exact hv2
          · rw [hf2 _ _ (by omega)]; exact h2 z (by omega)
        · omega
  refine j_iconst (v := nI 0) C dX7_init_123 rfl ?_
  refine j_istore_n (L' := [some (.ref (gad g (0))), some (.int (nI (0)))]) C dX7_init_124 rfl (by decide) rfl ?_
  exact lp (84 - 0) 0 σ rfl (by omega) (fun _ _ _ => rfl) (hz 1 1) (fun z hz => by omega)
def g84 (g : jG) (r : Nat → Nat) : jG := (g.1, g.2.1, g.2.2.1, r, 84, g.2.2.2.2.2)
def permL : List Nat := [0, 1, 2, 3, 4, 5, 6, 7, 8, 9, 10, 11, 12, 13, 14, 15, 16, 17, 18, 19, 20, 21, 22, 23, 24, 25, 26, 27, 28, 29, 30, 31, 32, 33, 34, 35, 36, 37, 38, 39, 40, 41, 42, 43, 44, 57, 58, 83, 49, 50, 51, 52, 53, 54, 55, 56, 45, 46, 47, 48, 59, 60, 61, 62, 63, 64, 65, 66, 67, 68, 69, 70, 71, 72, 73, 74, 75, 76, 77, 78, 79, 80, 81, 82]
theorem permL_ok : (∀ i, i < 84 → ∀ j, j < 84 → permL.getD i 0 = permL.getD j 0 → i = j) ∧ permL.length = 84 ∧ ∀ i ∈ permL, i < 84 := by decide +kernel
theorem perm_get {T : va_W} {d : Nat × va_E} (hT : T.length = 84) {k : Nat} {q : Nat × va_E} (h : (permL.map (fun i => T.getD i d))[k]? = some q) : T[permL.getD k 0]? = some q := by
  rw [List.getElem?_map] at h
  cases e : permL[k]? with
  | none => rw [e] at h; cases h
  | some i =>
    rw [e] at h
    have hi := permL_ok.2.2 i (List.mem_of_getElem? e)
    rw [List.getD_eq_getElem?_getD (l := permL), e]
    show T[i]? = some q
    have h1 : T.getD i d = q := Option.some.inj h
    rw [List.getD_eq_getElem?_getD, List.getElem?_eq_getElem (by omega)] at h1
    rw [List.getElem?_eq_getElem (by omega)]
    exact congrArg some h1
