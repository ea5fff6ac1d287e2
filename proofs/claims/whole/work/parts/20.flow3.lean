set_option maxHeartbeats 4000000 in
set_option maxRecDepth 100000 in
theorem tX0_orderFarthestFirst {g : jG} (hN : 84 ≤ gN g) {σ : Sg} {a : ND} (hI : NetI σ 3 a) (hO : NOk a) {t : Nat} {f : Nat → Option Nat} (ht : t < 7) (hF : ∀ y, y < nN a → σ (25 + 1 * t) y = c1 (f y)) (hB : fBd f 1680) : MS g yX0_orderFarthestFirst cX0_orderFarthestFirst 4 none rmX0_orderFarthestFirst [.ref (gad g (23)), .int (nI (t))] σ (fun r σ' => (∀ j n, ¬ (j = 41) → σ' j n = σ j n) ∧ ∃ L : Nat → Nat, Ord (fun y => key (f y)) (nN a) L ∧ ∀ i, i < nN a → σ' 41 i = nI (L i)) := by
  refine MJ_of (by decide) (Nat.le_of_ble_eq_true rfl) (List.forall_mem_cons.mpr ⟨rfl, List.forall_mem_cons.mpr ⟨rfl, fun _ h => absurd h List.not_mem_nil⟩⟩) ?_
  intro κ M
  have C := M.1
  show J g κ 4 0 [some (.ref (gad g (23))), some (.int (nI (t))), none, none] [] σ
  have hn7 := hO.2.1
  have hm12 := hO.2.2.1
  have hd6 := hO.2.2.2.1
  have lpI : ∀ (x : Nat) (L : Nat → Nat), x < nN a → Ord (fun y => key (f y)) x L → (∀ (σ1 : Sg) (L' : Nat → Nat), (∀ j n, ¬ (j = 41) → σ1 j n = σ j n) → Ord (fun y => key (f y)) (x + 1) L' → (∀ i, i < x + 1 → σ1 41 i = nI (L' i)) → J g κ 4 72 [some (.ref (gad g (23))), some (.int (nI (t))), some (.int (nI (x))), none] [] σ1) → ∀ (k p : Nat) (σ1 : Sg), p = k → p ≤ x → (∀ j n, ¬ (j = 41) → σ1 j n = σ j n) → (∀ i, i < p → σ1 41 i = nI (L i)) → (∀ i, p < i → i ≤ x → σ1 41 i = nI (L (i - 1))) → (∀ j, p ≤ j → j < x → key (f (L j)) < key (f x)) → J g κ 4 15 [some (.ref (gad g (23))), some (.int (nI (t))), some (.int (nI (x))), some (.int (nI (p)))] [] σ1 := by
    intro x L hx hord kk k
    induction k using Nat.strongRecOn with
    | _ k ih =>
      intro p σ1 hk hp hf hlo hhi hk2
      refine j_iload_n C dX0_orderFarthestFirst_15 rfl rfl ?_
      refine j_ifn_le (tgt := 65) C dX0_orderFarthestFirst_16 rfl (by omega) (fun h16 => ?_) (fun h16 => ?_)
      · refine j_aload_n C dX0_orderFarthestFirst_65 rfl rfl ?_
        refine j_get C flX0_27 dX0_orderFarthestFirst_66 (Nat.lt_of_lt_of_le (by decide) hN) rfl rfl ?_
        refine j_iload_n C dX0_orderFarthestFirst_69 rfl rfl ?_
        refine j_iload_n C dX0_orderFarthestFirst_70 rfl rfl ?_
        refine j_iast' C dX0_orderFarthestFirst_71 (Nat.lt_of_lt_of_le (by decide) hN) (fun _ => rfl) (by decide) (by omega) (fun τ71 hz_72 hw_73 => ?_)
        refine J_clr 3 (L' := [some (.ref (gad g (23))), some (.int (nI (t))), some (.int (nI (x))), none]) rfl ?_
        refine kk τ71 (insF L p x) (fun j n h => by rw [hz_72 _ _ (by omega)]; exact hf j n h) (ord_ins hord hp hk2 ?_) (fun i hi => ?_)
        · first | exact Or.inl (by omega) | exact Or.inr (Nat.not_lt.mp fun q => absurd h42 (Int32.not_le.mpr ((c1_lt (b := 1680) (by decide) (hB _) (hB _)).mpr q)))
        · unfold insF
          by_cases e1 : i < p
          · rw [if_pos e1, hz_72 _ _ (by omega)]; exact hlo i e1
          · rw [if_neg e1]
            by_cases e2 : i = p
            · subst e2; rw [if_pos rfl]; assumption
            · rw [if_neg e2, hz_72 _ _ (by omega)]; exact hhi i (by omega) (by omega)
      · have hL1 := hord.1 (p - 1) (by omega)
        refine j_aload_n C dX0_orderFarthestFirst_19 rfl rfl ?_
        refine j_get C flX0_11 dX0_orderFarthestFirst_20 (Nat.lt_of_lt_of_le (by decide) hN) rfl rfl ?_
        refine j_iload_n C dX0_orderFarthestFirst_23 rfl rfl ?_
        refine j_aald C dX0_orderFarthestFirst_24 (Nat.lt_of_lt_of_le (by decide) hN) (fun _ => rfl) (by decide) (by omega) ?_
        refine j_aload_n C dX0_orderFarthestFirst_25 rfl rfl ?_
        refine j_get C flX0_27 dX0_orderFarthestFirst_26 (Nat.lt_of_lt_of_le (by decide) hN) rfl rfl ?_
        refine j_iload_n C dX0_orderFarthestFirst_29 rfl rfl ?_
        refine j_iconst (v := nI 1) C dX0_orderFarthestFirst_30 rfl ?_
        refine j_isub C dX0_orderFarthestFirst_31 ?_
        refine j_top (pk_sub (by omega)) ?_
        refine j_iald C dX0_orderFarthestFirst_32 (Nat.lt_of_lt_of_le (by decide) hN) (fun _ => rfl) (by decide) (by omega) ?_
        refine j_top (hlo (p - 1) (by omega)) ?_
        refine j_iald C dX0_orderFarthestFirst_33 (by omega) (cf_far (by omega)) (by decide) (by omega) ?_
        refine j_top ((hf _ _ (by omega)).trans (hF (L (p - 1)) (by omega))) ?_
        refine j_aload_n C dX0_orderFarthestFirst_34 rfl rfl ?_
        refine j_get C flX0_11 dX0_orderFarthestFirst_35 (Nat.lt_of_lt_of_le (by decide) hN) rfl rfl ?_
        refine j_iload_n C dX0_orderFarthestFirst_38 rfl rfl ?_
        refine j_aald C dX0_orderFarthestFirst_39 (Nat.lt_of_lt_of_le (by decide) hN) (fun _ => rfl) (by decide) (by omega) ?_
        refine j_iload_n C dX0_orderFarthestFirst_40 rfl rfl ?_
        refine j_iald C dX0_orderFarthestFirst_41 (by omega) (cf_far (by omega)) (by decide) (by omega) ?_
        refine j_top ((hf _ _ (by omega)).trans (hF (x) (by omega))) ?_
        refine j_icmp_ge (tgt := 65) C dX0_orderFarthestFirst_42 rfl (fun h42 => ?_) (fun h42 => ?_)
        · refine j_aload_n C dX0_orderFarthestFirst_65 rfl rfl ?_
          refine j_get C flX0_27 dX0_orderFarthestFirst_66 (Nat.lt_of_lt_of_le (by decide) hN) rfl rfl ?_
          refine j_iload_n C dX0_orderFarthestFirst_69 rfl rfl ?_
          refine j_iload_n C dX0_orderFarthestFirst_70 rfl rfl ?_
          refine j_iast' C dX0_orderFarthestFirst_71 (Nat.lt_of_lt_of_le (by decide) hN) (fun _ => rfl) (by decide) (by omega) (fun τ71 hz_72 hw_73 => ?_)
          refine J_clr 3 (L' := [some (.ref (gad g (23))), some (.int (nI (t))), some (.int (nI (x))), none]) rfl ?_
          refine kk τ71 (insF L p x) (fun j n h => by rw [hz_72 _ _ (by omega)]; exact hf j n h) (ord_ins hord hp hk2 ?_) (fun i hi => ?_)
          · first | exact Or.inl (by omega) | exact Or.inr (Nat.not_lt.mp fun q => absurd h42 (Int32.not_le.mpr ((c1_lt (b := 1680) (by decide) (hB _) (hB _)).mpr q)))
          · unfold insF
            by_cases e1 : i < p
            · rw [if_pos e1, hz_72 _ _ (by omega)]; exact hlo i e1
            · rw [if_neg e1]
              by_cases e2 : i = p
              · subst e2; rw [if_pos rfl]; assumption
              · rw [if_neg e2, hz_72 _ _ (by omega)]; exact hhi i (by omega) (by omega)
        · refine j_aload_n C dX0_orderFarthestFirst_45 rfl rfl ?_
          refine j_get C flX0_27 dX0_orderFarthestFirst_46 (Nat.lt_of_lt_of_le (by decide) hN) rfl rfl ?_
          refine j_iload_n C dX0_orderFarthestFirst_49 rfl rfl ?_
          refine j_aload_n C dX0_orderFarthestFirst_50 rfl rfl ?_
          refine j_get C flX0_27 dX0_orderFarthestFirst_51 (Nat.lt_of_lt_of_le (by decide) hN) rfl rfl ?_
          refine j_iload_n C dX0_orderFarthestFirst_54 rfl rfl ?_
          refine j_iconst (v := nI 1) C dX0_orderFarthestFirst_55 rfl ?_
          refine j_isub C dX0_orderFarthestFirst_56 ?_
          refine j_top (pk_sub (by omega)) ?_
          refine j_iald C dX0_orderFarthestFirst_57 (Nat.lt_of_lt_of_le (by decide) hN) (fun _ => rfl) (by decide) (by omega) ?_
          refine j_top (hlo (p - 1) (by omega)) ?_
          refine j_iast' C dX0_orderFarthestFirst_58 (Nat.lt_of_lt_of_le (by decide) hN) (fun _ => rfl) (by decide) (by omega) (fun τ1 hz_2 hw_3 => ?_)
          refine j_iinc (L' := [some (.ref (gad g (23))), some (.int (nI (t))), some (.int (nI (x))), some (.int (nI (p - 1)))]) C dX0_orderFarthestFirst_59 rfl (sb_m1 (by omega)) (by decide) rfl ?_
          refine j_goto (tgt := 15) C dX0_orderFarthestFirst_62 rfl ?_
          have hlt : key (f (L (p - 1))) < key (f x) := (c1_lt (b := 1680) (by decide) (hB _) (hB _)).mp (Int32.not_le.mp h42)
          refine ih (p - 1) (by omega) (p - 1) τ1 rfl (by omega) (fun j n h => by rw [hz_2 _ _ (by omega)]; exact hf j n h) (fun i hi => by rw [hz_2 _ _ (by omega)]; exact hlo i (by omega)) (fun i h1 h2 => ?_) (fun j h1 h2 => ?_)
          · by_cases e : i = p
            · subst e; assumption
            · rw [hz_2 _ _ (by omega)]; exact hhi i (by omega) h2
          · by_cases e : j = p - 1
            · subst e; exact hlt
            · exact hk2 j (by omega) h2
  have lpO : ∀ (k : Nat) (x : Nat) (L : Nat → Nat) (σ1 : Sg), nN a - x = k → x ≤ nN a → (∀ j n, ¬ (j = 41) → σ1 j n = σ j n) → Ord (fun y => key (f y)) x L → (∀ i, i < x → σ1 41 i = nI (L i)) → J g κ 4 2 [some (.ref (gad g (23))), some (.int (nI (t))), some (.int (nI (x))), none] [] σ1 := by
    intro k
    induction k using Nat.strongRecOn with
    | _ k ih =>
      intro x L σ1 hk hx hf hord hlo
      refine j_iload_n C dX0_orderFarthestFirst_2 rfl rfl ?_
      refine j_aload_n C dX0_orderFarthestFirst_3 rfl rfl ?_
      refine j_get C flX0_36 dX0_orderFarthestFirst_4 (Nat.lt_of_lt_of_le (by decide) hN) rfl rfl ?_
      refine j_get C flX0_40 dX0_orderFarthestFirst_7 (Nat.lt_of_lt_of_le (by decide) hN) rfl rfl ?_
      refine j_top ((hf _ _ (by omega)).trans (hI.n)) ?_
      refine j_icmpn_ge (tgt := 78) C dX0_orderFarthestFirst_10 rfl (by omega) (by omega) (fun h10 => ?_) (fun h10 => ?_)
      · refine j_retv M dX0_orderFarthestFirst_78 ?_
        obtain rfl : x = nN a := by omega
        exact ⟨hf, L, hord, hlo⟩
      · refine j_iload_n C dX0_orderFarthestFirst_13 rfl rfl ?_
        refine j_istore_n (L' := [some (.ref (gad g (23))), some (.int (nI (t))), some (.int (nI (x))), some (.int (nI (x)))]) C dX0_orderFarthestFirst_14 rfl (by decide) rfl ?_
        refine lpI x L (by omega) hord ?_ x x σ1 rfl (Nat.le_refl _) hf hlo (fun i h1 h2 => by omega) (fun j h1 h2 => by omega)
        intro σ2 L' hf2 ho2 hl2
        refine j_iinc (L' := [some (.ref (gad g (23))), some (.int (nI (t))), some (.int (nI (x + 1))), none]) C dX0_orderFarthestFirst_72 rfl (nI_inc _) (by decide) rfl ?_
        refine j_goto (tgt := 2) C dX0_orderFarthestFirst_75 rfl ?_
        exact ih (nN a - (x + 1)) (by omega) (x + 1) L' σ2 rfl (by omega) hf2 ho2 hl2
  refine j_iconst (v := nI 0) C dX0_orderFarthestFirst_0 rfl ?_
  refine j_istore_n (L' := [some (.ref (gad g (23))), some (.int (nI (t))), some (.int (nI (0))), none]) C dX0_orderFarthestFirst_1 rfl (by decide) rfl ?_
  exact lpO (nN a - 0) 0 (fun _ => 0) σ rfl (by omega) (fun _ _ _ => rfl) ⟨fun i hi => by omega, fun i j h1 h2 => by omega, fun y hy => by omega⟩ (fun i hi => by omega)
set_option maxHeartbeats 4000000 in
set_option maxRecDepth 100000 in
theorem tX0_send {g : jG} (hN : 84 ≤ gN g) {σ : Sg} {i : Nat} {a : ND} {w : Nat → Nat} {u : Nat → Bool} (hi : i < 9) (hI : NetI σ 3 a) (hO : NOk a) (hW : StW σ i (nM a) w u) (hw : WOk (nM a) w) {d : Nat} {f : Nat → Option Nat} {ld : Nat → Nat} (hd : d < nD a) (hF : ∀ y, y < nN a → σ (25 + 1 * (nGo a d)) y = c1 (f y)) (hB : fBd f 1680) (hld : ∀ l, l < nM a → σ 39 l = nI (ld l)) : MS g yX0_send cX0_send 5 none rmX0_send [.ref (gad g (23)), .ref (gad g (48 + 4 * i)), .int (nI (d))] σ (fun r σ' => (∀ j n, ¬ (j = 39 ∨ j = 40 ∧ n = d ∨ j = 41 ∨ j = 42 ∨ j = 43 ∨ j = 33 + 1 * d) → σ' j n = σ j n) ∧ ((f (nSt a d) = none ∧ σ' 40 d = bI true ∧ (∀ l, l < nM a → σ' (33 + 1 * d) l = nI 0 ∧ σ' 39 l = nI (ld l))) ∨ ((∃ v, f (nSt a d) = some v) ∧ σ' 40 d = bI false ∧ ∃ L : Nat → Nat, Ord (fun y => key (f y)) (nN a) L ∧ ∀ l, l < nM a → σ' (33 + 1 * d) l = nI ((runS a w u f L (cm0 (nSt a d) (nSz a d), (fun _ => 0), ld) (nN a)).2.1 l) ∧ σ' 39 l = nI ((runS a w u f L (cm0 (nSt a d) (nSz a d), (fun _ => 0), ld) (nN a)).2.2 l)))) := by
  refine MJ_of (by decide) (Nat.le_of_ble_eq_true rfl) (List.forall_mem_cons.mpr ⟨rfl, List.forall_mem_cons.mpr ⟨rfl, List.forall_mem_cons.mpr ⟨rfl, fun _ h => absurd h List.not_mem_nil⟩⟩⟩) ?_
  intro κ M
  have C := M.1
  show J g κ 5 0 [some (.ref (gad g (23))), some (.ref (gad g (48 + 4 * i))), some (.int (nI (d))), none, none] [] σ
  have hn7 := hO.2.1
  have hm12 := hO.2.2.1
  have hd6 := hO.2.2.2.1
  obtain ⟨hg1, hg2, hg3, hg4, hg5⟩ := hO.2.2.2.2.2 d hd
  have lp3 : ∀ (L : Nat → Nat), Ord (fun y => key (f y)) (nN a) L → (∃ v, f (nSt a d) = some v) → ∀ (k q : Nat) (σ1 : Sg), nN a - q = k → q ≤ nN a → (∀ j n, ¬ (j = 39 ∨ j = 40 ∧ n = d ∨ j = 41 ∨ j = 42 ∨ j = 43 ∨ j = 33 + 1 * d) → σ1 j n = σ j n) → σ1 40 d = bI false → (∀ i, i < nN a → σ1 41 i = nI (L i)) → (∀ y, y < nN a → σ1 42 y = nI ((runS a w u f L (cm0 (nSt a d) (nSz a d), (fun _ => 0), ld) q).1 y)) → (∀ l, l < nM a → σ1 (33 + 1 * d) l = nI ((runS a w u f L (cm0 (nSt a d) (nSz a d), (fun _ => 0), ld) q).2.1 l)) → (∀ l, l < nM a → σ1 39 l = nI ((runS a w u f L (cm0 (nSt a d) (nSz a d), (fun _ => 0), ld) q).2.2 l)) → J g κ 5 142 [some (.ref (gad g (23))), some (.ref (gad g (48 + 4 * i))), some (.int (nI (d))), some (.int (nI (nGo a d))), some (.int (nI (q)))] [] σ1 := by
    intro L hord hnl k
    induction k using Nat.strongRecOn with
    | _ k ih =>
      intro q σ1 hk hq hf hlo hord1 hcm hsh hld1
      refine j_iload C dX0_send_142 rfl ?_
      refine j_aload_n C dX0_send_144 rfl rfl ?_
      refine j_get C flX0_36 dX0_send_145 (Nat.lt_of_lt_of_le (by decide) hN) rfl rfl ?_
      refine j_get C flX0_40 dX0_send_148 (Nat.lt_of_lt_of_le (by decide) hN) rfl rfl ?_
      refine j_top ((hf _ _ (by omega)).trans (hI.n)) ?_
      refine j_icmpn_ge (tgt := 188) C dX0_send_151 rfl (by omega) (by omega) (fun h151 => ?_) (fun h151 => ?_)
      · refine j_retv M dX0_send_188 ?_
        obtain rfl : q = nN a := by omega
        exact ⟨hf, Or.inr ⟨hnl, hlo, L, hord, fun l hl => ⟨hsh l hl, hld1 l hl⟩⟩⟩
      · have hL1 := hord.1 q h151
        have hbd : ∀ y, (runS a w u f L (cm0 (nSt a d) (nSz a d), (fun _ => 0), ld) q).1 y ≤ 1188 * 128 := fun y => by
          have h1 := runS_bd (a := a) (w := w) (u := u) (f := f) (L := L) (B := 1188) (s := (cm0 (nSt a d) (nSz a d), (fun _ => 0), ld)) (fun y => by show cm0 _ _ y ≤ 1188; unfold cm0; split <;> omega) q y
          have h2 : 2 ^ q ≤ 2 ^ 7 := Nat.pow_le_pow_right (by decide) (by omega)
          have h3 : 1188 * 2 ^ q ≤ 1188 * 2 ^ 7 := Nat.mul_le_mul_left _ h2
          omega
        have hb1 := hbd (L q)
        refine j_aload_n C dX0_send_154 rfl rfl ?_
        refine j_get C flX0_30 dX0_send_155 (Nat.lt_of_lt_of_le (by decide) hN) rfl rfl ?_
        refine j_aload_n C dX0_send_158 rfl rfl ?_
        refine j_get C flX0_27 dX0_send_159 (Nat.lt_of_lt_of_le (by decide) hN) rfl rfl ?_
        refine j_iload C dX0_send_162 rfl ?_
        refine j_iald C dX0_send_164 (Nat.lt_of_lt_of_le (by decide) hN) (fun _ => rfl) (by decide) (by omega) ?_
        refine j_top (hord1 (q) (by omega)) ?_
        refine j_iald C dX0_send_165 (Nat.lt_of_lt_of_le (by decide) hN) (fun _ => rfl) (by decide) (by omega) ?_
        refine j_top (hcm (L (q)) (by omega)) ?_
        refine j_ifn_le (tgt := 182) C dX0_send_166 rfl (by omega) (fun h166 => ?_) (fun h166 => ?_)
        · refine j_iinc (L' := [some (.ref (gad g (23))), some (.ref (gad g (48 + 4 * i))), some (.int (nI (d))), some (.int (nI (nGo a d))), some (.int (nI (q + 1)))]) C dX0_send_182 rfl (nI_inc _) (by decide) rfl ?_
          refine j_goto (tgt := 142) C dX0_send_185 rfl ?_
          have e : (runS a w u f L (cm0 (nSt a d) (nSz a d), (fun _ => 0), ld) (q + 1)) = (runS a w u f L (cm0 (nSt a d) (nSz a d), (fun _ => 0), ld) q) := by
            rw [runS, if_neg (by omega)]
          exact ih (nN a - (q + 1)) (by omega) (q + 1) σ1 rfl (by omega) hf hlo hord1 (by rw [e]; exact hcm) (by rw [e]; exact hsh) (by rw [e]; exact hld1)
        · refine j_aload_n C dX0_send_169 rfl rfl ?_
          refine j_aload_n C dX0_send_170 rfl rfl ?_
          refine j_iload_n C dX0_send_171 rfl rfl ?_
          refine j_aload_n C dX0_send_172 rfl rfl ?_
          refine j_get C flX0_27 dX0_send_173 (Nat.lt_of_lt_of_le (by decide) hN) rfl rfl ?_
          refine j_iload C dX0_send_176 rfl ?_
          refine j_iald C dX0_send_178 (Nat.lt_of_lt_of_le (by decide) hN) (fun _ => rfl) (by decide) (by omega) ?_
          refine j_top (hord1 (q) (by omega)) ?_
          refine j_callv (As := [.ref (gad g (48 + 4 * i)), .int (nI (d)), .int (nI (L (q)))]) (rest := []) C (tX0_sendOn hN hi (hI.kept (fun j n h1 h2 => hf j n (by omega))) hO (hW.kept (fun j n h1 => hf j n (by omega))) hw (d := d) (x := L q) (f := f) (cm := (runS a w u f L (cm0 (nSt a d) (nSz a d), (fun _ => 0), ld) q).1) (sh := (runS a w u f L (cm0 (nSt a d) (nSz a d), (fun _ => 0), ld) q).2.1) (ld := (runS a w u f L (cm0 (nSt a d) (nSz a d), (fun _ => 0), ld) q).2.2) hd hL1 (fun y hy => (hf _ _ (by omega)).trans (hF y hy)) hB hcm hsh hld1 (by omega)) cdX0_sendOn mlX0_112 dX0_send_179 (by decide) (by decide) (Nat.lt_of_lt_of_le (by decide) hN) rfl rfl rfl rfl rfl (Nat.le_of_ble_eq_true rfl) (fun τ1 hp_3 => ?_)
          obtain ⟨hf9, hcm9, hsh9, hld9⟩ := hp_3
          refine j_iinc (L' := [some (.ref (gad g (23))), some (.ref (gad g (48 + 4 * i))), some (.int (nI (d))), some (.int (nI (nGo a d))), some (.int (nI (q + 1)))]) C dX0_send_182 rfl (nI_inc _) (by decide) rfl ?_
          refine j_goto (tgt := 142) C dX0_send_185 rfl ?_
          have e : (runS a w u f L (cm0 (nSt a d) (nSz a d), (fun _ => 0), ld) (q + 1)) = stp3 a w u f (L q) (runS a w u f L (cm0 (nSt a d) (nSz a d), (fun _ => 0), ld) q) := by
            rw [runS, if_pos (by omega)]
          exact ih (nN a - (q + 1)) (by omega) (q + 1) τ1 rfl (by omega) (fun j n h => by rw [hf9 _ _ (by omega)]; exact hf j n h) (by rw [hf9 _ _ (by omega)]; exact hlo) (fun i hi => by rw [hf9 _ _ (by omega)]; exact hord1 i hi) (by rw [e]; exact hcm9) (by rw [e]; exact hsh9) (by rw [e]; exact hld9)
  have lp2 : ∀ (k : Nat) (x : Nat) (σ1 : Sg), nN a - x = k → x ≤ nN a → (∀ j n, ¬ (j = 39 ∨ j = 40 ∧ n = d ∨ j = 41 ∨ j = 42 ∨ j = 43 ∨ j = 33 + 1 * d) → σ1 j n = σ j n) → σ1 40 d = bI false → (∃ v, f (nSt a d) = some v) → (∀ y, y < x → σ1 42 y = nI 0) → (∀ l, l < nM a → σ1 (33 + 1 * d) l = nI 0) → (∀ l, l < nM a → σ1 39 l = nI (ld l)) → J g κ 5 82 [some (.ref (gad g (23))), some (.ref (gad g (48 + 4 * i))), some (.int (nI (d))), some (.int (nI (nGo a d))), some (.int (nI (x)))] [] σ1 := by
    intro k
    induction k using Nat.strongRecOn with
    | _ k ih =>
      intro x σ1 hk hx hf hlo hnl hcm hsh hld1
      refine j_iload C dX0_send_82 rfl ?_
      refine j_aload_n C dX0_send_84 rfl rfl ?_
      refine j_get C flX0_36 dX0_send_85 (Nat.lt_of_lt_of_le (by decide) hN) rfl rfl ?_
      refine j_get C flX0_40 dX0_send_88 (Nat.lt_of_lt_of_le (by decide) hN) rfl rfl ?_
      refine j_top ((hf _ _ (by omega)).trans (hI.n)) ?_
      refine j_icmpn_ge (tgt := 108) C dX0_send_91 rfl (by omega) (by omega) (fun h91 => ?_) (fun h91 => ?_)
      · refine j_aload_n C dX0_send_108 rfl rfl ?_
        refine j_get C flX0_30 dX0_send_109 (Nat.lt_of_lt_of_le (by decide) hN) rfl rfl ?_
        refine j_aload_n C dX0_send_112 rfl rfl ?_
        refine j_get C flX0_36 dX0_send_113 (Nat.lt_of_lt_of_le (by decide) hN) rfl rfl ?_
        refine j_get C flX0_105 dX0_send_116 (Nat.lt_of_lt_of_le (by decide) hN) rfl rfl ?_
        refine j_iload_n C dX0_send_119 rfl rfl ?_
        refine j_iald C dX0_send_120 (Nat.lt_of_lt_of_le (by decide) hN) (fun _ => rfl) (by decide) (by omega) ?_
        refine j_top ((hf _ _ (by omega)).trans (hI.st (l := d) (by omega))) ?_
        refine j_bipush (v := nI 12) C dX0_send_121 rfl ?_
        refine j_aload_n C dX0_send_123 rfl rfl ?_
        refine j_get C flX0_36 dX0_send_124 (Nat.lt_of_lt_of_le (by decide) hN) rfl rfl ?_
        refine j_get C flX0_62 dX0_send_127 (Nat.lt_of_lt_of_le (by decide) hN) rfl rfl ?_
        refine j_iload_n C dX0_send_130 rfl rfl ?_
        refine j_iald C dX0_send_131 (Nat.lt_of_lt_of_le (by decide) hN) (fun _ => rfl) (by decide) (by omega) ?_
        refine j_top ((hf _ _ (by omega)).trans (hI.sz (l := d) (by omega))) ?_
        refine j_imul C dX0_send_132 ?_
        refine j_top (pk_mul _ _) ?_
        refine j_iast' C dX0_send_133 (Nat.lt_of_lt_of_le (by decide) hN) (fun _ => rfl) (by decide) (by omega) (fun τ1 hz_2 hw_3 => ?_)
        refine j_aload_n C dX0_send_134 rfl rfl ?_
        refine j_iload_n C dX0_send_135 rfl rfl ?_
        refine j_callv (As := [.int (nI (nGo a d))]) (rest := []) C (tX0_orderFarthestFirst hN (σ := τ1) (hI.kept (fun j n h1 h2 => by rw [hz_2 _ _ (by omega)]; exact hf j n (by omega))) hO (t := nGo a d) (f := f) (by omega) (fun y hy => by rw [hz_2 _ _ (by omega)]; exact (hf _ _ (by omega)).trans (hF y hy)) hB) cdX0_orderFarthestFirst mlX0_108 dX0_send_136 (by decide) (by decide) (Nat.lt_of_lt_of_le (by decide) hN) rfl rfl rfl rfl rfl (Nat.le_of_ble_eq_true rfl) (fun τ4 hp_6 => ?_)
        obtain ⟨hf8, L, hord, hord1⟩ := hp_6
        refine j_iconst (v := nI 0) C dX0_send_139 rfl ?_
        refine j_istore (L' := [some (.ref (gad g (23))), some (.ref (gad g (48 + 4 * i))), some (.int (nI (d))), some (.int (nI (nGo a d))), some (.int (nI (0)))]) C dX0_send_140 (by decide) rfl ?_
        refine lp3 L hord hnl (nN a - 0) 0 τ4 rfl (by omega) (fun j n h => by rw [hf8 _ _ (by omega), hz_2 _ _ (by omega)]; exact hf j n h) (by rw [hf8 _ _ (by omega), hz_2 _ _ (by omega)]; exact hlo) hord1 (fun y hy => ?_) (fun l hl => by rw [hf8 _ _ (by omega), hz_2 _ _ (by omega)]; exact hsh l hl) (fun l hl => by rw [hf8 _ _ (by omega), hz_2 _ _ (by omega)]; exact hld1 l hl)
        show _ = nI (cm0 (nSt a d) (nSz a d) y)
        unfold cm0
        by_cases e : y = nSt a d
        · subst e
          rw [if_pos rfl, hf8 _ _ (by omega)]; assumption
        · rw [if_neg e, hf8 _ _ (by omega), hz_2 _ _ (by omega)]; exact hcm y (by omega)
      · refine j_aload_n C dX0_send_94 rfl rfl ?_
        refine j_get C flX0_30 dX0_send_95 (Nat.lt_of_lt_of_le (by decide) hN) rfl rfl ?_
        refine j_iload C dX0_send_98 rfl ?_
        refine j_iconst (v := nI 0) C dX0_send_100 rfl ?_
        refine j_iast' C dX0_send_101 (Nat.lt_of_lt_of_le (by decide) hN) (fun _ => rfl) (by decide) (by omega) (fun τ7 hz_8 hw_9 => ?_)
        refine j_iinc (L' := [some (.ref (gad g (23))), some (.ref (gad g (48 + 4 * i))), some (.int (nI (d))), some (.int (nI (nGo a d))), some (.int (nI (x + 1)))]) C dX0_send_102 rfl (nI_inc _) (by decide) rfl ?_
        refine j_goto (tgt := 82) C dX0_send_105 rfl ?_
        refine ih (nN a - (x + 1)) (by omega) (x + 1) τ7 rfl (by omega) (fun j n h => by rw [hz_8 _ _ (by omega)]; exact hf j n h) (by rw [hz_8 _ _ (by omega)]; exact hlo) hnl (fun y hy => ?_) (fun l hl => by rw [hz_8 _ _ (by omega)]; exact hsh l hl) (fun l hl => by rw [hz_8 _ _ (by omega)]; exact hld1 l hl)
        by_cases e : y = x
        · subst e; assumption
        · rw [hz_8 _ _ (by omega)]; exact hcm y (by omega)
  have lp1 : ∀ (k : Nat) (l : Nat) (σ1 : Sg), nM a - l = k → l ≤ nM a → (∀ j n, ¬ (j = 33 + 1 * d) → σ1 j n = σ j n) → (∀ z, z < l → σ1 (33 + 1 * d) z = nI 0) → J g κ 5 2 [some (.ref (gad g (23))), some (.ref (gad g (48 + 4 * i))), some (.int (nI (d))), some (.int (nI (l))), none] [] σ1 := by
    intro k
    induction k using Nat.strongRecOn with
    | _ k ih =>
      intro l σ1 hk hl hf hz0
      refine j_iload_n C dX0_send_2 rfl rfl ?_
      refine j_aload_n C dX0_send_3 rfl rfl ?_
      refine j_get C flX0_36 dX0_send_4 (Nat.lt_of_lt_of_le (by decide) hN) rfl rfl ?_
      refine j_get C flX0_53 dX0_send_7 (Nat.lt_of_lt_of_le (by decide) hN) rfl rfl ?_
      refine j_top ((hf _ _ (by omega)).trans (hI.m)) ?_
      refine j_icmpn_ge (tgt := 28) C dX0_send_10 rfl (by omega) (by omega) (fun h10 => ?_) (fun h10 => ?_)
      · rcases hst : f (nSt a d) with _ | v
        · refine j_aload_n C dX0_send_28 rfl rfl ?_
          refine j_get C flX0_36 dX0_send_29 (Nat.lt_of_lt_of_le (by decide) hN) rfl rfl ?_
          refine j_get C flX0_87 dX0_send_32 (Nat.lt_of_lt_of_le (by decide) hN) rfl rfl ?_
          refine j_iload_n C dX0_send_35 rfl rfl ?_
          refine j_iald C dX0_send_36 (Nat.lt_of_lt_of_le (by decide) hN) (fun _ => rfl) (by decide) (by omega) ?_
          refine j_top ((hf _ _ (by omega)).trans (hI.go (l := d) (by omega))) ?_
          refine j_istore_n (L' := [some (.ref (gad g (23))), some (.ref (gad g (48 + 4 * i))), some (.int (nI (d))), some (.int (nI (nGo a (d)))), none]) C dX0_send_37 rfl (by decide) rfl ?_
          skip
          refine j_aload_n C dX0_send_38 rfl rfl ?_
          refine j_get C flX0_23 dX0_send_39 (Nat.lt_of_lt_of_le (by decide) hN) rfl rfl ?_
          refine j_iload_n C dX0_send_42 rfl rfl ?_
          refine j_aload_n C dX0_send_43 rfl rfl ?_
          refine j_get C flX0_11 dX0_send_44 (Nat.lt_of_lt_of_le (by decide) hN) rfl rfl ?_
          refine j_iload_n C dX0_send_47 rfl rfl ?_
          refine j_aald C dX0_send_48 (Nat.lt_of_lt_of_le (by decide) hN) (fun _ => rfl) (by decide) (by omega) ?_
          refine j_aload_n C dX0_send_49 rfl rfl ?_
          refine j_get C flX0_36 dX0_send_50 (Nat.lt_of_lt_of_le (by decide) hN) rfl rfl ?_
          refine j_get C flX0_105 dX0_send_53 (Nat.lt_of_lt_of_le (by decide) hN) rfl rfl ?_
          refine j_iload_n C dX0_send_56 rfl rfl ?_
          refine j_iald C dX0_send_57 (Nat.lt_of_lt_of_le (by decide) hN) (fun _ => rfl) (by decide) (by omega) ?_
          refine j_top ((hf _ _ (by omega)).trans (hI.st (l := d) (by omega))) ?_
          refine j_iald C dX0_send_58 (by omega) (cf_far (by omega)) (by decide) (by omega) ?_
          refine j_top ((hf _ _ (by omega)).trans ((hF (nSt a d) (by omega)).trans (congrArg c1 hst))) ?_
          refine j_iconst (v := -1) C dX0_send_59 rfl ?_
          refine j_icmp_ne (tgt := 67) C dX0_send_60 rfl (fun h => absurd h (by decide)) (fun _ => ?_)
          refine j_iconst (v := nI 1) C dX0_send_63 rfl ?_
          refine j_goto (tgt := 68) C dX0_send_64 rfl ?_
          refine j_zast' C dX0_send_68 (Nat.lt_of_lt_of_le (by decide) hN) (fun _ => rfl) (by decide) (by omega) rfl (fun τ1 hz_2 hw_3 => ?_)
          refine j_aload_n C dX0_send_69 rfl rfl ?_
          refine j_get C flX0_23 dX0_send_70 (Nat.lt_of_lt_of_le (by decide) hN) rfl rfl ?_
          refine j_iload_n C dX0_send_73 rfl rfl ?_
          refine j_zald C dX0_send_74 (Nat.lt_of_lt_of_le (by decide) hN) (fun _ => rfl) (by decide) (by omega) ?_
          refine j_top (hw_3) ?_
          refine j_ifn_eq (tgt := 79) C dX0_send_75 rfl (by omega) (fun h => absurd h (by decide)) (fun _ => ?_)
          refine j_retv M dX0_send_78 ?_
          refine ⟨fun j n h => by rw [hz_2 _ _ (by omega)]; exact hf j n (by omega), Or.inl ⟨hst, by assumption, fun z hz => ⟨by rw [hz_2 _ _ (by omega)]; exact hz0 z (by omega), by rw [hz_2 _ _ (by omega)]; exact (hf _ _ (by omega)).trans (hld z hz)⟩⟩⟩
        · have hv := hB _ _ hst
          refine j_aload_n C dX0_send_28 rfl rfl ?_
          refine j_get C flX0_36 dX0_send_29 (Nat.lt_of_lt_of_le (by decide) hN) rfl rfl ?_
          refine j_get C flX0_87 dX0_send_32 (Nat.lt_of_lt_of_le (by decide) hN) rfl rfl ?_
          refine j_iload_n C dX0_send_35 rfl rfl ?_
          refine j_iald C dX0_send_36 (Nat.lt_of_lt_of_le (by decide) hN) (fun _ => rfl) (by decide) (by omega) ?_
          refine j_top ((hf _ _ (by omega)).trans (hI.go (l := d) (by omega))) ?_
          refine j_istore_n (L' := [some (.ref (gad g (23))), some (.ref (gad g (48 + 4 * i))), some (.int (nI (d))), some (.int (nI (nGo a (d)))), none]) C dX0_send_37 rfl (by decide) rfl ?_
          skip
          refine j_aload_n C dX0_send_38 rfl rfl ?_
          refine j_get C flX0_23 dX0_send_39 (Nat.lt_of_lt_of_le (by decide) hN) rfl rfl ?_
          refine j_iload_n C dX0_send_42 rfl rfl ?_
          refine j_aload_n C dX0_send_43 rfl rfl ?_
          refine j_get C flX0_11 dX0_send_44 (Nat.lt_of_lt_of_le (by decide) hN) rfl rfl ?_
          refine j_iload_n C dX0_send_47 rfl rfl ?_
          refine j_aald C dX0_send_48 (Nat.lt_of_lt_of_le (by decide) hN) (fun _ => rfl) (by decide) (by omega) ?_
          refine j_aload_n C dX0_send_49 rfl rfl ?_
          refine j_get C flX0_36 dX0_send_50 (Nat.lt_of_lt_of_le (by decide) hN) rfl rfl ?_
          refine j_get C flX0_105 dX0_send_53 (Nat.lt_of_lt_of_le (by decide) hN) rfl rfl ?_
          refine j_iload_n C dX0_send_56 rfl rfl ?_
          refine j_iald C dX0_send_57 (Nat.lt_of_lt_of_le (by decide) hN) (fun _ => rfl) (by decide) (by omega) ?_
          refine j_top ((hf _ _ (by omega)).trans (hI.st (l := d) (by omega))) ?_
          refine j_iald C dX0_send_58 (by omega) (cf_far (by omega)) (by decide) (by omega) ?_
          refine j_top ((hf _ _ (by omega)).trans ((hF (nSt a d) (by omega)).trans (congrArg c1 hst))) ?_
          refine j_iconst (v := -1) C dX0_send_59 rfl ?_
          refine j_icmp_ne (tgt := 67) C dX0_send_60 rfl (fun _ => ?_) (fun h => absurd h (nI_neg (by omega) (by decide)))
          refine j_iconst (v := nI 0) C dX0_send_67 rfl ?_
          refine j_zast' C dX0_send_68 (Nat.lt_of_lt_of_le (by decide) hN) (fun _ => rfl) (by decide) (by omega) rfl (fun τ4 hz_5 hw_6 => ?_)
          refine j_aload_n C dX0_send_69 rfl rfl ?_
          refine j_get C flX0_23 dX0_send_70 (Nat.lt_of_lt_of_le (by decide) hN) rfl rfl ?_
          refine j_iload_n C dX0_send_73 rfl rfl ?_
          refine j_zald C dX0_send_74 (Nat.lt_of_lt_of_le (by decide) hN) (fun _ => rfl) (by decide) (by omega) ?_
          refine j_top (hw_6) ?_
          refine j_ifn_eq (tgt := 79) C dX0_send_75 rfl (by omega) (fun _ => ?_) (fun h => absurd h (by decide))
          refine j_iconst (v := nI 0) C dX0_send_79 rfl ?_
          refine j_istore (L' := [some (.ref (gad g (23))), some (.ref (gad g (48 + 4 * i))), some (.int (nI (d))), some (.int (nI (nGo a d))), some (.int (nI (0)))]) C dX0_send_80 (by decide) rfl ?_
          exact lp2 (nN a - 0) 0 τ4 rfl (by omega) (fun j n h => by rw [hz_5 _ _ (by omega)]; exact hf j n (by omega)) (by assumption) ⟨v, hst⟩ (fun y hy => by omega) (fun z hz => by rw [hz_5 _ _ (by omega)]; exact hz0 z (by omega)) (fun z hz => by rw [hz_5 _ _ (by omega)]; exact (hf _ _ (by omega)).trans (hld z hz))
      · refine j_aload_n C dX0_send_13 rfl rfl ?_
        refine j_get C flX0_16 dX0_send_14 (Nat.lt_of_lt_of_le (by decide) hN) rfl rfl ?_
        refine j_iload_n C dX0_send_17 rfl rfl ?_
        refine j_aald C dX0_send_18 (Nat.lt_of_lt_of_le (by decide) hN) (fun _ => rfl) (by decide) (by omega) ?_
        refine j_iload_n C dX0_send_19 rfl rfl ?_
        refine j_iconst (v := nI 0) C dX0_send_20 rfl ?_
        refine j_iast' C dX0_send_21 (by omega) (cf_share (by omega)) (by decide) (by omega) (fun τ7 hz_8 hw_9 => ?_)
        refine j_iinc (L' := [some (.ref (gad g (23))), some (.ref (gad g (48 + 4 * i))), some (.int (nI (d))), some (.int (nI (l + 1))), none]) C dX0_send_22 rfl (nI_inc _) (by decide) rfl ?_
        refine j_goto (tgt := 2) C dX0_send_25 rfl ?_
        refine ih (nM a - (l + 1)) (by omega) (l + 1) τ7 rfl (by omega) (fun j n h => by rw [hz_8 _ _ (by omega)]; exact hf j n h) (fun z hz => ?_)
        by_cases e : z = l
        · subst e; assumption
        · rw [hz_8 _ _ (by omega)]; exact hz0 z (by omega)
  refine j_iconst (v := nI 0) C dX0_send_0 rfl ?_
  refine j_istore_n (L' := [some (.ref (gad g (23))), some (.ref (gad g (48 + 4 * i))), some (.int (nI (d))), some (.int (nI (0))), none]) C dX0_send_1 rfl (by decide) rfl ?_
  exact lp1 (nM a - 0) 0 σ rfl (by omega) (fun _ _ _ => rfl) (fun z hz => by omega)
