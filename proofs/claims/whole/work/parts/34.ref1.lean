set_option maxHeartbeats 4000000 in
set_option maxRecDepth 100000 in
theorem tX8_in {g : jG} (hN : 97 ≤ gN g) {σ : Sg} (x : Int32) {lo hi : Nat} (h1 : lo < 2 ^ 31) (h2 : hi < 2 ^ 31) : MS g yX8_in cX8_in 3 (some .boolean) rmX8_in [.int (x), .int (nI (lo)), .int (nI (hi))] σ (fun r σ' => σ' = σ ∧ ((r = nI 1 ∧ inR x lo hi) ∨ (r = nI 0 ∧ ¬ inR x lo hi))) := by
  refine MJ_of (by decide) (Nat.le_of_ble_eq_true rfl) (List.forall_mem_cons.mpr ⟨rfl, List.forall_mem_cons.mpr ⟨rfl, List.forall_mem_cons.mpr ⟨rfl, fun _ h => absurd h List.not_mem_nil⟩⟩⟩) ?_
  intro κ M
  have C := M.1
  show J g κ 3 0 [some (.int (x)), some (.int (nI (lo))), some (.int (nI (hi)))] [] σ
  refine j_iload_n C dX8_in_0 rfl rfl ?_
  refine j_iload_n C dX8_in_1 rfl rfl ?_
  refine j_icmp_lt (tgt := 14) C dX8_in_2 rfl (fun h2_ => ?_) (fun h2_ => ?_)
  · refine j_iconst (v := nI 0) C dX8_in_14 rfl ?_
    refine j_retz M dX8_in_15 rfl ?_
    refine ⟨rfl, Or.inr ⟨rfl, fun q => ?_⟩⟩
    obtain ⟨q1, q2⟩ := (nI_rng h1 h2).mpr q
    first | exact absurd q1 (Int32.not_le.mpr h2_) | exact absurd q2 (Int32.not_le.mpr h7_)
  · refine j_iload_n C dX8_in_5 rfl rfl ?_
    refine j_iload_n C dX8_in_6 rfl rfl ?_
    refine j_icmp_gt (tgt := 14) C dX8_in_7 rfl (fun h7_ => ?_) (fun h7_ => ?_)
    · refine j_iconst (v := nI 0) C dX8_in_14 rfl ?_
      refine j_retz M dX8_in_15 rfl ?_
      refine ⟨rfl, Or.inr ⟨rfl, fun q => ?_⟩⟩
      obtain ⟨q1, q2⟩ := (nI_rng h1 h2).mpr q
      first | exact absurd q1 (Int32.not_le.mpr h2_) | exact absurd q2 (Int32.not_le.mpr h7_)
    · refine j_iconst (v := nI 1) C dX8_in_10 rfl ?_
      refine j_goto (tgt := 15) C dX8_in_11 rfl ?_
      refine j_retz M dX8_in_15 rfl ?_
      exact ⟨rfl, Or.inl ⟨rfl, (nI_rng h1 h2).mp ⟨Int32.not_lt.mp h2_, Int32.not_lt.mp h7_⟩⟩⟩
theorem inR_0 {x : Int32} {b : Nat} (hb : 1 ≤ b) : inR x 0 (b - 1) ↔ inB x b := ⟨fun ⟨k, _, h2, h3⟩ => ⟨k, by omega, h3⟩, fun ⟨k, h1, h2⟩ => ⟨k, Nat.zero_le _, by omega, h2⟩⟩
theorem nI_m1 : nI 0 - nI 1 = -1 := by decide
set_option maxHeartbeats 4000000 in
set_option maxRecDepth 100000 in
theorem tX8_isLink {g : jG} (hN : 97 ≤ gN g) {σ : Sg} {b : Nat} (hb : σ 84 11 = nI b) (hb1 : 1 ≤ b) (hb2 : b < 2 ^ 31) (x : Int32) : MS g yX8_isLink cX8_isLink 2 (some .boolean) rmX8_isLink [.ref (gad g (84)), .int (x)] σ (fun r σ' => σ' = σ ∧ ((r = nI 1 ∧ inB x b) ∨ (r = nI 0 ∧ ¬ inB x b))) := by
  refine MJ_of (by decide) (Nat.le_of_ble_eq_true rfl) (List.forall_mem_cons.mpr ⟨rfl, List.forall_mem_cons.mpr ⟨rfl, fun _ h => absurd h List.not_mem_nil⟩⟩) ?_
  intro κ M
  have C := M.1
  show J g κ 2 0 [some (.ref (gad g (84))), some (.int (x))] [] σ
  refine j_iload_n C dX8_isLink_0 rfl rfl ?_
  refine j_iconst (v := nI 0) C dX8_isLink_1 rfl ?_
  refine j_aload_n C dX8_isLink_2 rfl rfl ?_
  refine j_get C flX8_77 dX8_isLink_3 (Nat.lt_of_lt_of_le (by decide) hN) rfl rfl ?_
  refine j_top (hb) ?_
  refine j_iconst (v := nI 1) C dX8_isLink_6 rfl ?_
  refine j_isub C dX8_isLink_7 ?_
  refine j_top (pk_sub hb1) ?_
  refine j_calls (As := [.int (x), .int (nI (0)), .int (nI (b - 1))]) (rest := []) C (tX8_in hN (x) (lo := 0) (hi := b - 1) (by omega) (by omega)) cdX8_in msX8_96 dX8_isLink_8 (by decide) (by decide) rfl rfl (Nat.le_of_ble_eq_true rfl) (fun rr_2 τ1 hp_3 => ?_)
  obtain ⟨hs, hc⟩ := hp_3
  replace hs := hs.symm
  subst hs
  rcases hc with ⟨rfl, hq⟩ | ⟨rfl, hnoq⟩
  · refine j_retz M dX8_isLink_11 rfl ?_
    exact ⟨rfl, Or.inl ⟨rfl, (inR_0 hb1).mp hq⟩⟩
  · refine j_retz M dX8_isLink_11 rfl ?_
    exact ⟨rfl, Or.inr ⟨rfl, fun z => hnoq ((inR_0 hb1).mpr z)⟩⟩
set_option maxHeartbeats 4000000 in
set_option maxRecDepth 100000 in
theorem tX8_isNode {g : jG} (hN : 97 ≤ gN g) {σ : Sg} {b : Nat} (hb : σ 84 10 = nI b) (hb1 : 1 ≤ b) (hb2 : b < 2 ^ 31) (x : Int32) : MS g yX8_isNode cX8_isNode 2 (some .boolean) rmX8_isNode [.ref (gad g (84)), .int (x)] σ (fun r σ' => σ' = σ ∧ ((r = nI 1 ∧ inB x b) ∨ (r = nI 0 ∧ ¬ inB x b))) := by
  refine MJ_of (by decide) (Nat.le_of_ble_eq_true rfl) (List.forall_mem_cons.mpr ⟨rfl, List.forall_mem_cons.mpr ⟨rfl, fun _ h => absurd h List.not_mem_nil⟩⟩) ?_
  intro κ M
  have C := M.1
  show J g κ 2 0 [some (.ref (gad g (84))), some (.int (x))] [] σ
  refine j_iload_n C dX8_isNode_0 rfl rfl ?_
  refine j_iconst (v := nI 0) C dX8_isNode_1 rfl ?_
  refine j_aload_n C dX8_isNode_2 rfl rfl ?_
  refine j_get C flX8_74 dX8_isNode_3 (Nat.lt_of_lt_of_le (by decide) hN) rfl rfl ?_
  refine j_top (hb) ?_
  refine j_iconst (v := nI 1) C dX8_isNode_6 rfl ?_
  refine j_isub C dX8_isNode_7 ?_
  refine j_top (pk_sub hb1) ?_
  refine j_calls (As := [.int (x), .int (nI (0)), .int (nI (b - 1))]) (rest := []) C (tX8_in hN (x) (lo := 0) (hi := b - 1) (by omega) (by omega)) cdX8_in msX8_96 dX8_isNode_8 (by decide) (by decide) rfl rfl (Nat.le_of_ble_eq_true rfl) (fun rr_2 τ1 hp_3 => ?_)
  obtain ⟨hs, hc⟩ := hp_3
  replace hs := hs.symm
  subst hs
  rcases hc with ⟨rfl, hq⟩ | ⟨rfl, hnoq⟩
  · refine j_retz M dX8_isNode_11 rfl ?_
    exact ⟨rfl, Or.inl ⟨rfl, (inR_0 hb1).mp hq⟩⟩
  · refine j_retz M dX8_isNode_11 rfl ?_
    exact ⟨rfl, Or.inr ⟨rfl, fun z => hnoq ((inR_0 hb1).mpr z)⟩⟩
set_option maxHeartbeats 4000000 in
set_option maxRecDepth 100000 in
theorem tX8_begin {g : jG} (hN : 97 ≤ gN g) {σ : Sg} {a : ND} (hI : RNet σ a) (hO : NOk a) {l : Nat} (hl : l < nM a) : MS g yX8_begin cX8_begin 2 (some .int) rmX8_begin [.ref (gad g (84)), .int (nI (l))] σ (fun r σ' => σ' = σ ∧ r = nI (nFr a l)) := by
  refine MJ_of (by decide) (Nat.le_of_ble_eq_true rfl) (List.forall_mem_cons.mpr ⟨rfl, List.forall_mem_cons.mpr ⟨rfl, fun _ h => absurd h List.not_mem_nil⟩⟩) ?_
  intro κ M
  have C := M.1
  show J g κ 2 0 [some (.ref (gad g (84))), some (.int (nI (l)))] [] σ
  have hn7 := hO.2.1
  have hm12 := hO.2.2.1
  have hd6 := hO.2.2.2.1
  refine j_aload_n C dX8_begin_0 rfl rfl ?_
  refine j_get C flX8_19 dX8_begin_1 (Nat.lt_of_lt_of_le (by decide) hN) rfl rfl ?_
  refine j_iconst (v := nI 4) C dX8_begin_4 rfl ?_
  refine j_iload_n C dX8_begin_5 rfl rfl ?_
  refine j_imul C dX8_begin_6 ?_
  refine j_top (pk_mul _ _) ?_
  refine j_iald C dX8_begin_7 (Nat.lt_of_lt_of_le (by decide) hN) (fun _ => rfl) (by decide) (by omega) ?_
  refine j_top ((hI.2.1 l hl).1) ?_
  refine j_ret M dX8_begin_8 ?_
  exact ⟨rfl, rfl⟩
set_option maxHeartbeats 4000000 in
set_option maxRecDepth 100000 in
theorem tX8_end {g : jG} (hN : 97 ≤ gN g) {σ : Sg} {a : ND} (hI : RNet σ a) (hO : NOk a) {l : Nat} (hl : l < nM a) : MS g yX8_end cX8_end 2 (some .int) rmX8_end [.ref (gad g (84)), .int (nI (l))] σ (fun r σ' => σ' = σ ∧ r = nI (nTo a l)) := by
  refine MJ_of (by decide) (Nat.le_of_ble_eq_true rfl) (List.forall_mem_cons.mpr ⟨rfl, List.forall_mem_cons.mpr ⟨rfl, fun _ h => absurd h List.not_mem_nil⟩⟩) ?_
  intro κ M
  have C := M.1
  show J g κ 2 0 [some (.ref (gad g (84))), some (.int (nI (l)))] [] σ
  have hn7 := hO.2.1
  have hm12 := hO.2.2.1
  have hd6 := hO.2.2.2.1
  refine j_aload_n C dX8_end_0 rfl rfl ?_
  refine j_get C flX8_19 dX8_end_1 (Nat.lt_of_lt_of_le (by decide) hN) rfl rfl ?_
  refine j_iconst (v := nI 4) C dX8_end_4 rfl ?_
  refine j_iload_n C dX8_end_5 rfl rfl ?_
  refine j_imul C dX8_end_6 ?_
  refine j_top (pk_mul _ _) ?_
  refine j_iconst (v := nI 1) C dX8_end_7 rfl ?_
  refine j_iadd C dX8_end_8 ?_
  refine j_top (nI_add _ _) ?_
  refine j_iald C dX8_end_9 (Nat.lt_of_lt_of_le (by decide) hN) (fun _ => rfl) (by decide) (by omega) ?_
  refine j_top ((hI.2.1 l hl).2.1) ?_
  refine j_ret M dX8_end_10 ?_
  exact ⟨rfl, rfl⟩
set_option maxHeartbeats 4000000 in
set_option maxRecDepth 100000 in
theorem tX8_isUp {g : jG} (hN : 97 ≤ gN g) {σ : Sg} {m : Nat} {u : Nat → Bool} (hm : m ≤ 12) (hU : σ 90 12 = nI (ub u m)) {l : Nat} (hl : l < m) : MS g yX8_isUp cX8_isUp 2 (some .boolean) rmX8_isUp [.ref (gad g (84)), .int (nI (l))] σ (fun r σ' => σ' = σ ∧ r = bI (u l)) := by
  refine MJ_of (by decide) (Nat.le_of_ble_eq_true rfl) (List.forall_mem_cons.mpr ⟨rfl, List.forall_mem_cons.mpr ⟨rfl, fun _ h => absurd h List.not_mem_nil⟩⟩) ?_
  intro κ M
  have C := M.1
  show J g κ 2 0 [some (.ref (gad g (84))), some (.int (nI (l)))] [] σ
  have hub := ub_lt u m
  have hub2 : 2 ^ m ≤ 2 ^ 12 := Nat.pow_le_pow_right (by decide) hm
  have hbit := ub_bit u m l
  refine j_aload_n C dX8_isUp_0 rfl rfl ?_
  refine j_get C flX8_25 dX8_isUp_1 (Nat.lt_of_lt_of_le (by decide) hN) rfl rfl ?_
  refine j_bipush (v := nI 12) C dX8_isUp_4 rfl ?_
  refine j_iald C dX8_isUp_6 (Nat.lt_of_lt_of_le (by decide) hN) (fun _ => rfl) (by decide) (by omega) ?_
  refine j_top (hU) ?_
  refine j_iload_n C dX8_isUp_7 rfl rfl ?_
  refine j_ishr C dX8_isUp_8 ?_
  refine j_iconst (v := nI 1) C dX8_isUp_9 rfl ?_
  refine j_iand C dX8_isUp_10 ?_
  refine j_top (bit_rd (by omega) (by omega)) ?_
  rcases hul : u l with _ | _
  · rw [if_neg (fun q => by rw [hul] at q; exact absurd q.2 (by decide))] at hbit
    refine j_top (y := nI 0) (by rw [hbit]) ?_
    refine j_iconst (v := nI 1) C dX8_isUp_11 rfl ?_
    refine j_icmpn_ne (tgt := 19) C dX8_isUp_12 rfl (by omega) (by omega) (fun _ => ?_) (fun h => absurd h (by decide))
    refine j_iconst (v := nI 0) C dX8_isUp_19 rfl ?_
    refine j_retz M dX8_isUp_20 rfl ?_
    exact ⟨rfl, (congrArg bI hul).symm⟩
  · rw [if_pos ⟨hl, hul⟩] at hbit
    refine j_top (y := nI 1) (by rw [hbit]) ?_
    refine j_iconst (v := nI 1) C dX8_isUp_11 rfl ?_
    refine j_icmpn_ne (tgt := 19) C dX8_isUp_12 rfl (by omega) (by omega) (fun h => absurd h (by decide)) (fun _ => ?_)
    refine j_iconst (v := nI 1) C dX8_isUp_15 rfl ?_
    refine j_goto (tgt := 20) C dX8_isUp_16 rfl ?_
    refine j_retz M dX8_isUp_20 rfl ?_
    exact ⟨rfl, (congrArg bI hul).symm⟩
set_option maxHeartbeats 4000000 in
set_option maxRecDepth 100000 in
theorem tX8_findFar {g : jG} (hN : 97 ≤ gN g) {σ : Sg} {a : ND} {w : Nat → Nat} {u : Nat → Bool} (hI : RNet σ a) (hO : NOk a) (hW : RW σ (nM a) w u) (hw : WOk (nM a) w) {t : Nat} (ht : t < nN a) : MS g yX8_findFar cX8_findFar 6 none rmX8_findFar [.ref (gad g (84)), .int (nI (t))] σ (fun r σ' => (∀ j n, ¬ (j = 93) → σ' j n = σ j n) ∧ ∀ x, x < 7 → σ' 93 x = c4 (FAR a w u t x)) := by
  refine MJ_of (by decide) (Nat.le_of_ble_eq_true rfl) (List.forall_mem_cons.mpr ⟨rfl, List.forall_mem_cons.mpr ⟨rfl, fun _ h => absurd h List.not_mem_nil⟩⟩) ?_
  intro κ M
  have C := M.1
  show J g κ 6 0 [some (.ref (gad g (84))), some (.int (nI (t))), none, none, none, none] [] σ
  have hn7 := hO.2.1
  have hm12 := hO.2.2.1
  have hd6 := hO.2.2.2.1
  have lpC : ∀ (r : Nat), r < nN a → (∀ (σ1 : Sg), (∀ j n, ¬ (j = 93) → σ1 j n = σ j n) → (∀ x, x < 7 → σ1 93 x = c4 (itr a w u (far0 t) (r + 1) x)) → J g κ 6 166 [some (.ref (gad g (84))), some (.int (nI (t))), some (.int (nI (r + 1))), none, none, none] [] σ1) → ∀ (k l : Nat) (σ1 : Sg), nM a - l = k → l ≤ nM a → (∀ j n, ¬ (j = 93) → σ1 j n = σ j n) → (∀ x, x < 7 → σ1 93 x = c4 (rnd a w u (itr a w u (far0 t) r) l x)) → J g κ 6 43 [some (.ref (gad g (84))), some (.int (nI (t))), some (.int (nI (r + 1))), some (.int (nI (l))), none, none] [] σ1 := by
    intro r hr kB k
    induction k using Nat.strongRecOn with
    | _ k ih =>
      intro l σ1 hk hl hf hrow
      refine j_iload_n C dX8_findFar_43 rfl rfl ?_
      refine j_aload_n C dX8_findFar_44 rfl rfl ?_
      refine j_get C flX8_77 dX8_findFar_45 (Nat.lt_of_lt_of_le (by decide) hN) rfl rfl ?_
      refine j_top ((hf _ _ (by omega)).trans (hI.1.2.1)) ?_
      refine j_icmpn_ge (tgt := 166) C dX8_findFar_48 rfl (by omega) (by omega) (fun h48 => ?_) (fun h48 => ?_)
      · refine J_clr 3 (L' := [some (.ref (gad g (84))), some (.int (nI (t))), some (.int (nI (r + 1))), none, none, none]) rfl ?_
        exact kB σ1 hf (fun x hx => by rw [hrow x hx, show l = nM a by omega]; rfl)
      · obtain ⟨hb1, hb2, hb3, hb4⟩ := hO.2.2.2.2.1 l h48
        have hw1 := hw l h48
        have hbd : fBd (rnd a w u (itr a w u (far0 t) r) l) 2000 := by
          have := rnd_bd (u := u) (itr_bd (a := a) (u := u) (t := t) hm12 hw r) hw l hl
          exact fun x v hx => by have := this x v hx; omega
        rcases hto : rnd a w u (itr a w u (far0 t) r) l (nTo a l) with _ | v <;> rcases hfr : rnd a w u (itr a w u (far0 t) r) l (nFr a l) with _ | z
        · refine j_aload_n C dX8_findFar_51 rfl rfl ?_
          refine j_get C flX8_34 dX8_findFar_52 (Nat.lt_of_lt_of_le (by decide) hN) rfl rfl ?_
          refine j_aload_n C dX8_findFar_55 rfl rfl ?_
          refine j_iload_n C dX8_findFar_56 rfl rfl ?_
          refine j_calli (As := [.int (nI (l))]) (rest := [.ref (gad g (93))]) C (tX8_end hN (hI.kept (fun j n h => hf j n (by omega))) hO (l := l) (by omega)) cdX8_end mlX8_120 dX8_findFar_57 (by decide) (by decide) (Nat.lt_of_lt_of_le (by decide) hN) rfl rfl rfl rfl rfl (Nat.le_of_ble_eq_true rfl) (fun rr_2 τ1 hp_3 => ?_)
          obtain ⟨hs, hr⟩ := hp_3
          replace hs := hs.symm
          subst hs
          subst hr
          refine j_iald C dX8_findFar_60 (Nat.lt_of_lt_of_le (by decide) hN) (fun _ => rfl) (by decide) (by omega) ?_
          refine j_top ((hrow (nTo a l) (by omega)).trans (congrArg c4 hto)) ?_
          refine j_aload_n C dX8_findFar_61 rfl rfl ?_
          refine j_get C flX8_25 dX8_findFar_62 (Nat.lt_of_lt_of_le (by decide) hN) rfl rfl ?_
          refine j_iload_n C dX8_findFar_65 rfl rfl ?_
          refine j_iald C dX8_findFar_66 (Nat.lt_of_lt_of_le (by decide) hN) (fun _ => rfl) (by decide) (by omega) ?_
          refine j_top ((hf _ _ (by omega)).trans (hW.1 (l) (by omega))) ?_
          refine j_iadd C dX8_findFar_67 ?_
          refine j_top rfl ?_
          refine j_istore (L' := [some (.ref (gad g (84))), some (.int (nI (t))), some (.int (nI (r + 1))), some (.int (nI (l))), some (.int ((-4 + nI (w (l))))), none]) C dX8_findFar_68 (by decide) rfl ?_
          refine j_aload_n C dX8_findFar_70 rfl rfl ?_
          refine j_iload_n C dX8_findFar_71 rfl rfl ?_
          refine j_calli (As := [.int (nI (l))]) (rest := []) C (tX8_isUp hN (m := nM a) (u := u) (by omega) ((hf _ _ (by omega)).trans hW.2) (l := l) (by omega)) cdX8_isUp mlX8_124 dX8_findFar_72 (by decide) (by decide) (Nat.lt_of_lt_of_le (by decide) hN) rfl rfl rfl rfl rfl (Nat.le_of_ble_eq_true rfl) (fun rr_5 τ4 hp_6 => ?_)
          obtain ⟨hs, hr⟩ := hp_6
          replace hs := hs.symm
          subst hs
          rcases hul : u l with _ | _ <;> rw [hul] at hr <;> subst hr
          · refine j_ifn_eq (tgt := 97) C dX8_findFar_75 rfl (by omega) (fun _ => ?_) (fun h => absurd h (by decide))
            refine j_iconst (v := nI 0) C dX8_findFar_97 rfl ?_
            refine j_istore (L' := [some (.ref (gad g (84))), some (.int (nI (t))), some (.int (nI (r + 1))), some (.int (nI (l))), some (.int ((-4 + nI (w (l))))), some (.int (nI (0)))]) C dX8_findFar_98 (by decide) rfl ?_
            refine j_aload_n C dX8_findFar_100 rfl rfl ?_
            refine j_get C flX8_34 dX8_findFar_101 (Nat.lt_of_lt_of_le (by decide) hN) rfl rfl ?_
            refine j_aload_n C dX8_findFar_104 rfl rfl ?_
            refine j_iload_n C dX8_findFar_105 rfl rfl ?_
            refine j_calli (As := [.int (nI (l))]) (rest := [.ref (gad g (93))]) C (tX8_begin hN (hI.kept (fun j n h => hf j n (by omega))) hO (l := l) (by omega)) cdX8_begin mlX8_127 dX8_findFar_106 (by decide) (by decide) (Nat.lt_of_lt_of_le (by decide) hN) rfl rfl rfl rfl rfl (Nat.le_of_ble_eq_true rfl) (fun rr_8 τ7 hp_9 => ?_)
            obtain ⟨hs, hr⟩ := hp_9
            replace hs := hs.symm
            subst hs
            subst hr
            refine j_iload C dX8_findFar_109 rfl ?_
            refine j_ifn_eq (tgt := 149) C dX8_findFar_111 rfl (by omega) (fun _ => ?_) (fun h => absurd h (by decide))
            refine j_aload_n C dX8_findFar_149 rfl rfl ?_
            refine j_get C flX8_34 dX8_findFar_150 (Nat.lt_of_lt_of_le (by decide) hN) rfl rfl ?_
            refine j_aload_n C dX8_findFar_153 rfl rfl ?_
            refine j_iload_n C dX8_findFar_154 rfl rfl ?_
            refine j_calli (As := [.int (nI (l))]) (rest := [.ref (gad g (93)), .int (nI (nFr a (l))), .ref (gad g (93))]) C (tX8_begin hN (hI.kept (fun j n h => hf j n (by omega))) hO (l := l) (by omega)) cdX8_begin mlX8_127 dX8_findFar_155 (by decide) (by decide) (Nat.lt_of_lt_of_le (by decide) hN) rfl rfl rfl rfl rfl (Nat.le_of_ble_eq_true rfl) (fun rr_11 τ10 hp_12 => ?_)
            obtain ⟨hs, hr⟩ := hp_12
            replace hs := hs.symm
            subst hs
            subst hr
            refine j_iald C dX8_findFar_158 (Nat.lt_of_lt_of_le (by decide) hN) (fun _ => rfl) (by decide) (by omega) ?_
            refine j_top ((hrow (nFr a l) (by omega)).trans (congrArg c4 hfr)) ?_
            refine j_iast' C dX8_findFar_159 (Nat.lt_of_lt_of_le (by decide) hN) (fun _ => rfl) (by decide) (by omega) (fun τ13 hz_14 hw_15 => ?_)
            refine j_iinc (L' := [some (.ref (gad g (84))), some (.int (nI (t))), some (.int (nI (r + 1))), some (.int (nI (l + 1))), some (.int ((-4 + nI (w (l))))), some (.int (nI (0)))]) C dX8_findFar_160 rfl (nI_inc _) (by decide) rfl ?_
            refine j_goto (tgt := 43) C dX8_findFar_163 rfl ?_
            refine J_clr 4 (L' := [some (.ref (gad g (84))), some (.int (nI (t))), some (.int (nI (r + 1))), some (.int (nI (l + 1))), none, some (.int (nI (0)))]) rfl ?_
            refine J_clr 5 (L' := [some (.ref (gad g (84))), some (.int (nI (t))), some (.int (nI (r + 1))), some (.int (nI (l + 1))), none, none]) rfl ?_
            have hq : rlq a w u (rnd a w u (itr a w u (far0 t) r) l) l = none := by
              unfold rlq
              rw [hul]
              simp only [hto, hfr]
              first | rfl | (simp; done) | (rw [if_pos trivial, if_neg (by omega)]) | (rw [if_pos trivial, if_pos (by omega)])
            refine ih (nM a - (l + 1)) (by omega) (l + 1) τ13 rfl (by omega) (fun j n h => by rw [hz_14 _ _ (by omega)]; exact hf j n h) (fun x hx => ?_)
            · rw [rnd, rlx_none hq]
              by_cases e : x = nFr a l
              · subst e; rw [hfr]; assumption
              · rw [hz_14 _ _ (by omega)]; exact hrow x hx
          · refine j_ifn_eq (tgt := 97) C dX8_findFar_75 rfl (by omega) (fun h => absurd h (by decide)) (fun _ => ?_)
            refine j_aload_n C dX8_findFar_78 rfl rfl ?_
            refine j_get C flX8_34 dX8_findFar_79 (Nat.lt_of_lt_of_le (by decide) hN) rfl rfl ?_
            refine j_aload_n C dX8_findFar_82 rfl rfl ?_
            refine j_iload_n C dX8_findFar_83 rfl rfl ?_
            refine j_calli (As := [.int (nI (l))]) (rest := [.ref (gad g (93))]) C (tX8_end hN (hI.kept (fun j n h => hf j n (by omega))) hO (l := l) (by omega)) cdX8_end mlX8_120 dX8_findFar_84 (by decide) (by decide) (Nat.lt_of_lt_of_le (by decide) hN) rfl rfl rfl rfl rfl (Nat.le_of_ble_eq_true rfl) (fun rr_17 τ16 hp_18 => ?_)
            obtain ⟨hs, hr⟩ := hp_18
            replace hs := hs.symm
            subst hs
            subst hr
            refine j_iald C dX8_findFar_87 (Nat.lt_of_lt_of_le (by decide) hN) (fun _ => rfl) (by decide) (by omega) ?_
            refine j_top ((hrow (nTo a l) (by omega)).trans (congrArg c4 hto)) ?_
            refine j_bipush (v := -4) C dX8_findFar_88 rfl ?_
            refine j_icmp_eq (tgt := 97) C dX8_findFar_90 rfl (fun _ => ?_) (fun h => absurd h (by decide))
            refine j_iconst (v := nI 0) C dX8_findFar_97 rfl ?_
            refine j_istore (L' := [some (.ref (gad g (84))), some (.int (nI (t))), some (.int (nI (r + 1))), some (.int (nI (l))), some (.int ((-4 + nI (w (l))))), some (.int (nI (0)))]) C dX8_findFar_98 (by decide) rfl ?_
            refine j_aload_n C dX8_findFar_100 rfl rfl ?_
            refine j_get C flX8_34 dX8_findFar_101 (Nat.lt_of_lt_of_le (by decide) hN) rfl rfl ?_
            refine j_aload_n C dX8_findFar_104 rfl rfl ?_
            refine j_iload_n C dX8_findFar_105 rfl rfl ?_
            refine j_calli (As := [.int (nI (l))]) (rest := [.ref (gad g (93))]) C (tX8_begin hN (hI.kept (fun j n h => hf j n (by omega))) hO (l := l) (by omega)) cdX8_begin mlX8_127 dX8_findFar_106 (by decide) (by decide) (Nat.lt_of_lt_of_le (by decide) hN) rfl rfl rfl rfl rfl (Nat.le_of_ble_eq_true rfl) (fun rr_20 τ19 hp_21 => ?_)
            obtain ⟨hs, hr⟩ := hp_21
            replace hs := hs.symm
            subst hs
            subst hr
            refine j_iload C dX8_findFar_109 rfl ?_
            refine j_ifn_eq (tgt := 149) C dX8_findFar_111 rfl (by omega) (fun _ => ?_) (fun h => absurd h (by decide))
            refine j_aload_n C dX8_findFar_149 rfl rfl ?_
            refine j_get C flX8_34 dX8_findFar_150 (Nat.lt_of_lt_of_le (by decide) hN) rfl rfl ?_
            refine j_aload_n C dX8_findFar_153 rfl rfl ?_
            refine j_iload_n C dX8_findFar_154 rfl rfl ?_
            refine j_calli (As := [.int (nI (l))]) (rest := [.ref (gad g (93)), .int (nI (nFr a (l))), .ref (gad g (93))]) C (tX8_begin hN (hI.kept (fun j n h => hf j n (by omega))) hO (l := l) (by omega)) cdX8_begin mlX8_127 dX8_findFar_155 (by decide) (by decide) (Nat.lt_of_lt_of_le (by decide) hN) rfl rfl rfl rfl rfl (Nat.le_of_ble_eq_true rfl) (fun rr_23 τ22 hp_24 => ?_)
            obtain ⟨hs, hr⟩ := hp_24
            replace hs := hs.symm
            subst hs
            subst hr
            refine j_iald C dX8_findFar_158 (Nat.lt_of_lt_of_le (by decide) hN) (fun _ => rfl) (by decide) (by omega) ?_
            refine j_top ((hrow (nFr a l) (by omega)).trans (congrArg c4 hfr)) ?_
            refine j_iast' C dX8_findFar_159 (Nat.lt_of_lt_of_le (by decide) hN) (fun _ => rfl) (by decide) (by omega) (fun τ25 hz_26 hw_27 => ?_)
            refine j_iinc (L' := [some (.ref (gad g (84))), some (.int (nI (t))), some (.int (nI (r + 1))), some (.int (nI (l + 1))), some (.int ((-4 + nI (w (l))))), some (.int (nI (0)))]) C dX8_findFar_160 rfl (nI_inc _) (by decide) rfl ?_
            refine j_goto (tgt := 43) C dX8_findFar_163 rfl ?_
            refine J_clr 4 (L' := [some (.ref (gad g (84))), some (.int (nI (t))), some (.int (nI (r + 1))), some (.int (nI (l + 1))), none, some (.int (nI (0)))]) rfl ?_
            refine J_clr 5 (L' := [some (.ref (gad g (84))), some (.int (nI (t))), some (.int (nI (r + 1))), some (.int (nI (l + 1))), none, none]) rfl ?_
            have hq : rlq a w u (rnd a w u (itr a w u (far0 t) r) l) l = none := by
              unfold rlq
              rw [hul]
              simp only [hto, hfr]
              first | rfl | (simp; done) | (rw [if_pos trivial, if_neg (by omega)]) | (rw [if_pos trivial, if_pos (by omega)])
            refine ih (nM a - (l + 1)) (by omega) (l + 1) τ25 rfl (by omega) (fun j n h => by rw [hz_26 _ _ (by omega)]; exact hf j n h) (fun x hx => ?_)
            · rw [rnd, rlx_none hq]
              by_cases e : x = nFr a l
              · subst e; rw [hfr]; assumption
              · rw [hz_26 _ _ (by omega)]; exact hrow x hx
        · have hz := hbd _ _ hfr
          refine j_aload_n C dX8_findFar_51 rfl rfl ?_
          refine j_get C flX8_34 dX8_findFar_52 (Nat.lt_of_lt_of_le (by decide) hN) rfl rfl ?_
          refine j_aload_n C dX8_findFar_55 rfl rfl ?_
          refine j_iload_n C dX8_findFar_56 rfl rfl ?_
          refine j_calli (As := [.int (nI (l))]) (rest := [.ref (gad g (93))]) C (tX8_end hN (hI.kept (fun j n h => hf j n (by omega))) hO (l := l) (by omega)) cdX8_end mlX8_120 dX8_findFar_57 (by decide) (by decide) (Nat.lt_of_lt_of_le (by decide) hN) rfl rfl rfl rfl rfl (Nat.le_of_ble_eq_true rfl) (fun rr_29 τ28 hp_30 => ?_)
          obtain ⟨hs, hr⟩ := hp_30
          replace hs := hs.symm
          subst hs
          subst hr
          refine j_iald C dX8_findFar_60 (Nat.lt_of_lt_of_le (by decide) hN) (fun _ => rfl) (by decide) (by omega) ?_
          refine j_top ((hrow (nTo a l) (by omega)).trans (congrArg c4 hto)) ?_
          refine j_aload_n C dX8_findFar_61 rfl rfl ?_
          refine j_get C flX8_25 dX8_findFar_62 (Nat.lt_of_lt_of_le (by decide) hN) rfl rfl ?_
          refine j_iload_n C dX8_findFar_65 rfl rfl ?_
          refine j_iald C dX8_findFar_66 (Nat.lt_of_lt_of_le (by decide) hN) (fun _ => rfl) (by decide) (by omega) ?_
          refine j_top ((hf _ _ (by omega)).trans (hW.1 (l) (by omega))) ?_
          refine j_iadd C dX8_findFar_67 ?_
          refine j_top rfl ?_
          refine j_istore (L' := [some (.ref (gad g (84))), some (.int (nI (t))), some (.int (nI (r + 1))), some (.int (nI (l))), some (.int ((-4 + nI (w (l))))), none]) C dX8_findFar_68 (by decide) rfl ?_
          refine j_aload_n C dX8_findFar_70 rfl rfl ?_
          refine j_iload_n C dX8_findFar_71 rfl rfl ?_
          refine j_calli (As := [.int (nI (l))]) (rest := []) C (tX8_isUp hN (m := nM a) (u := u) (by omega) ((hf _ _ (by omega)).trans hW.2) (l := l) (by omega)) cdX8_isUp mlX8_124 dX8_findFar_72 (by decide) (by decide) (Nat.lt_of_lt_of_le (by decide) hN) rfl rfl rfl rfl rfl (Nat.le_of_ble_eq_true rfl) (fun rr_32 τ31 hp_33 => ?_)
          obtain ⟨hs, hr⟩ := hp_33
          replace hs := hs.symm
          subst hs
          rcases hul : u l with _ | _ <;> rw [hul] at hr <;> subst hr
          · refine j_ifn_eq (tgt := 97) C dX8_findFar_75 rfl (by omega) (fun _ => ?_) (fun h => absurd h (by decide))
            refine j_iconst (v := nI 0) C dX8_findFar_97 rfl ?_
            refine j_istore (L' := [some (.ref (gad g (84))), some (.int (nI (t))), some (.int (nI (r + 1))), some (.int (nI (l))), some (.int ((-4 + nI (w (l))))), some (.int (nI (0)))]) C dX8_findFar_98 (by decide) rfl ?_
            refine j_aload_n C dX8_findFar_100 rfl rfl ?_
            refine j_get C flX8_34 dX8_findFar_101 (Nat.lt_of_lt_of_le (by decide) hN) rfl rfl ?_
            refine j_aload_n C dX8_findFar_104 rfl rfl ?_
            refine j_iload_n C dX8_findFar_105 rfl rfl ?_
            refine j_calli (As := [.int (nI (l))]) (rest := [.ref (gad g (93))]) C (tX8_begin hN (hI.kept (fun j n h => hf j n (by omega))) hO (l := l) (by omega)) cdX8_begin mlX8_127 dX8_findFar_106 (by decide) (by decide) (Nat.lt_of_lt_of_le (by decide) hN) rfl rfl rfl rfl rfl (Nat.le_of_ble_eq_true rfl) (fun rr_35 τ34 hp_36 => ?_)
            obtain ⟨hs, hr⟩ := hp_36
            replace hs := hs.symm
            subst hs
            subst hr
            refine j_iload C dX8_findFar_109 rfl ?_
            refine j_ifn_eq (tgt := 149) C dX8_findFar_111 rfl (by omega) (fun _ => ?_) (fun h => absurd h (by decide))
            refine j_aload_n C dX8_findFar_149 rfl rfl ?_
            refine j_get C flX8_34 dX8_findFar_150 (Nat.lt_of_lt_of_le (by decide) hN) rfl rfl ?_
            refine j_aload_n C dX8_findFar_153 rfl rfl ?_
            refine j_iload_n C dX8_findFar_154 rfl rfl ?_
            refine j_calli (As := [.int (nI (l))]) (rest := [.ref (gad g (93)), .int (nI (nFr a (l))), .ref (gad g (93))]) C (tX8_begin hN (hI.kept (fun j n h => hf j n (by omega))) hO (l := l) (by omega)) cdX8_begin mlX8_127 dX8_findFar_155 (by decide) (by decide) (Nat.lt_of_lt_of_le (by decide) hN) rfl rfl rfl rfl rfl (Nat.le_of_ble_eq_true rfl) (fun rr_38 τ37 hp_39 => ?_)
            obtain ⟨hs, hr⟩ := hp_39
            replace hs := hs.symm
            subst hs
            subst hr
            refine j_iald C dX8_findFar_158 (Nat.lt_of_lt_of_le (by decide) hN) (fun _ => rfl) (by decide) (by omega) ?_
            refine j_top ((hrow (nFr a l) (by omega)).trans (congrArg c4 hfr)) ?_
            refine j_iast' C dX8_findFar_159 (Nat.lt_of_lt_of_le (by decide) hN) (fun _ => rfl) (by decide) (by omega) (fun τ40 hz_41 hw_42 => ?_)
            refine j_iinc (L' := [some (.ref (gad g (84))), some (.int (nI (t))), some (.int (nI (r + 1))), some (.int (nI (l + 1))), some (.int ((-4 + nI (w (l))))), some (.int (nI (0)))]) C dX8_findFar_160 rfl (nI_inc _) (by decide) rfl ?_
            refine j_goto (tgt := 43) C dX8_findFar_163 rfl ?_
            refine J_clr 4 (L' := [some (.ref (gad g (84))), some (.int (nI (t))), some (.int (nI (r + 1))), some (.int (nI (l + 1))), none, some (.int (nI (0)))]) rfl ?_
            refine J_clr 5 (L' := [some (.ref (gad g (84))), some (.int (nI (t))), some (.int (nI (r + 1))), some (.int (nI (l + 1))), none, none]) rfl ?_
            have hq : rlq a w u (rnd a w u (itr a w u (far0 t) r) l) l = none := by
              unfold rlq
              rw [hul]
              simp only [hto, hfr]
              first | rfl | (simp; done) | (rw [if_pos trivial, if_neg (by omega)]) | (rw [if_pos trivial, if_pos (by omega)])
            refine ih (nM a - (l + 1)) (by omega) (l + 1) τ40 rfl (by omega) (fun j n h => by rw [hz_41 _ _ (by omega)]; exact hf j n h) (fun x hx => ?_)
            · rw [rnd, rlx_none hq]
              by_cases e : x = nFr a l
              · subst e; rw [hfr]; assumption
              · rw [hz_41 _ _ (by omega)]; exact hrow x hx
          · refine j_ifn_eq (tgt := 97) C dX8_findFar_75 rfl (by omega) (fun h => absurd h (by decide)) (fun _ => ?_)
            refine j_aload_n C dX8_findFar_78 rfl rfl ?_
            refine j_get C flX8_34 dX8_findFar_79 (Nat.lt_of_lt_of_le (by decide) hN) rfl rfl ?_
            refine j_aload_n C dX8_findFar_82 rfl rfl ?_
            refine j_iload_n C dX8_findFar_83 rfl rfl ?_
            refine j_calli (As := [.int (nI (l))]) (rest := [.ref (gad g (93))]) C (tX8_end hN (hI.kept (fun j n h => hf j n (by omega))) hO (l := l) (by omega)) cdX8_end mlX8_120 dX8_findFar_84 (by decide) (by decide) (Nat.lt_of_lt_of_le (by decide) hN) rfl rfl rfl rfl rfl (Nat.le_of_ble_eq_true rfl) (fun rr_44 τ43 hp_45 => ?_)
            obtain ⟨hs, hr⟩ := hp_45
            replace hs := hs.symm
            subst hs
            subst hr
            refine j_iald C dX8_findFar_87 (Nat.lt_of_lt_of_le (by decide) hN) (fun _ => rfl) (by decide) (by omega) ?_
            refine j_top ((hrow (nTo a l) (by omega)).trans (congrArg c4 hto)) ?_
            refine j_bipush (v := -4) C dX8_findFar_88 rfl ?_
            refine j_icmp_eq (tgt := 97) C dX8_findFar_90 rfl (fun _ => ?_) (fun h => absurd h (by decide))
            refine j_iconst (v := nI 0) C dX8_findFar_97 rfl ?_
            refine j_istore (L' := [some (.ref (gad g (84))), some (.int (nI (t))), some (.int (nI (r + 1))), some (.int (nI (l))), some (.int ((-4 + nI (w (l))))), some (.int (nI (0)))]) C dX8_findFar_98 (by decide) rfl ?_
            refine j_aload_n C dX8_findFar_100 rfl rfl ?_
            refine j_get C flX8_34 dX8_findFar_101 (Nat.lt_of_lt_of_le (by decide) hN) rfl rfl ?_
            refine j_aload_n C dX8_findFar_104 rfl rfl ?_
            refine j_iload_n C dX8_findFar_105 rfl rfl ?_
            refine j_calli (As := [.int (nI (l))]) (rest := [.ref (gad g (93))]) C (tX8_begin hN (hI.kept (fun j n h => hf j n (by omega))) hO (l := l) (by omega)) cdX8_begin mlX8_127 dX8_findFar_106 (by decide) (by decide) (Nat.lt_of_lt_of_le (by decide) hN) rfl rfl rfl rfl rfl (Nat.le_of_ble_eq_true rfl) (fun rr_47 τ46 hp_48 => ?_)
            obtain ⟨hs, hr⟩ := hp_48
            replace hs := hs.symm
            subst hs
            subst hr
            refine j_iload C dX8_findFar_109 rfl ?_
            refine j_ifn_eq (tgt := 149) C dX8_findFar_111 rfl (by omega) (fun _ => ?_) (fun h => absurd h (by decide))
            refine j_aload_n C dX8_findFar_149 rfl rfl ?_
            refine j_get C flX8_34 dX8_findFar_150 (Nat.lt_of_lt_of_le (by decide) hN) rfl rfl ?_
            refine j_aload_n C dX8_findFar_153 rfl rfl ?_
            refine j_iload_n C dX8_findFar_154 rfl rfl ?_
            refine j_calli (As := [.int (nI (l))]) (rest := [.ref (gad g (93)), .int (nI (nFr a (l))), .ref (gad g (93))]) C (tX8_begin hN (hI.kept (fun j n h => hf j n (by omega))) hO (l := l) (by omega)) cdX8_begin mlX8_127 dX8_findFar_155 (by decide) (by decide) (Nat.lt_of_lt_of_le (by decide) hN) rfl rfl rfl rfl rfl (Nat.le_of_ble_eq_true rfl) (fun rr_50 τ49 hp_51 => ?_)
            obtain ⟨hs, hr⟩ := hp_51
            replace hs := hs.symm
            subst hs
            subst hr
            refine j_iald C dX8_findFar_158 (Nat.lt_of_lt_of_le (by decide) hN) (fun _ => rfl) (by decide) (by omega) ?_
            refine j_top ((hrow (nFr a l) (by omega)).trans (congrArg c4 hfr)) ?_
            refine j_iast' C dX8_findFar_159 (Nat.lt_of_lt_of_le (by decide) hN) (fun _ => rfl) (by decide) (by omega) (fun τ52 hz_53 hw_54 => ?_)
            refine j_iinc (L' := [some (.ref (gad g (84))), some (.int (nI (t))), some (.int (nI (r + 1))), some (.int (nI (l + 1))), some (.int ((-4 + nI (w (l))))), some (.int (nI (0)))]) C dX8_findFar_160 rfl (nI_inc _) (by decide) rfl ?_
            refine j_goto (tgt := 43) C dX8_findFar_163 rfl ?_
            refine J_clr 4 (L' := [some (.ref (gad g (84))), some (.int (nI (t))), some (.int (nI (r + 1))), some (.int (nI (l + 1))), none, some (.int (nI (0)))]) rfl ?_
            refine J_clr 5 (L' := [some (.ref (gad g (84))), some (.int (nI (t))), some (.int (nI (r + 1))), some (.int (nI (l + 1))), none, none]) rfl ?_
            have hq : rlq a w u (rnd a w u (itr a w u (far0 t) r) l) l = none := by
              unfold rlq
              rw [hul]
              simp only [hto, hfr]
              first | rfl | (simp; done) | (rw [if_pos trivial, if_neg (by omega)]) | (rw [if_pos trivial, if_pos (by omega)])
            refine ih (nM a - (l + 1)) (by omega) (l + 1) τ52 rfl (by omega) (fun j n h => by rw [hz_53 _ _ (by omega)]; exact hf j n h) (fun x hx => ?_)
            · rw [rnd, rlx_none hq]
              by_cases e : x = nFr a l
              · subst e; rw [hfr]; assumption
              · rw [hz_53 _ _ (by omega)]; exact hrow x hx
        · have hv := hbd _ _ hto
          refine j_aload_n C dX8_findFar_51 rfl rfl ?_
          refine j_get C flX8_34 dX8_findFar_52 (Nat.lt_of_lt_of_le (by decide) hN) rfl rfl ?_
          refine j_aload_n C dX8_findFar_55 rfl rfl ?_
          refine j_iload_n C dX8_findFar_56 rfl rfl ?_
          refine j_calli (As := [.int (nI (l))]) (rest := [.ref (gad g (93))]) C (tX8_end hN (hI.kept (fun j n h => hf j n (by omega))) hO (l := l) (by omega)) cdX8_end mlX8_120 dX8_findFar_57 (by decide) (by decide) (Nat.lt_of_lt_of_le (by decide) hN) rfl rfl rfl rfl rfl (Nat.le_of_ble_eq_true rfl) (fun rr_56 τ55 hp_57 => ?_)
          obtain ⟨hs, hr⟩ := hp_57
          replace hs := hs.symm
          subst hs
          subst hr
          refine j_iald C dX8_findFar_60 (Nat.lt_of_lt_of_le (by decide) hN) (fun _ => rfl) (by decide) (by omega) ?_
          refine j_top ((hrow (nTo a l) (by omega)).trans (congrArg c4 hto)) ?_
          refine j_aload_n C dX8_findFar_61 rfl rfl ?_
          refine j_get C flX8_25 dX8_findFar_62 (Nat.lt_of_lt_of_le (by decide) hN) rfl rfl ?_
          refine j_iload_n C dX8_findFar_65 rfl rfl ?_
          refine j_iald C dX8_findFar_66 (Nat.lt_of_lt_of_le (by decide) hN) (fun _ => rfl) (by decide) (by omega) ?_
          refine j_top ((hf _ _ (by omega)).trans (hW.1 (l) (by omega))) ?_
          refine j_iadd C dX8_findFar_67 ?_
          refine j_top (nI_add _ _) ?_
          refine j_istore (L' := [some (.ref (gad g (84))), some (.int (nI (t))), some (.int (nI (r + 1))), some (.int (nI (l))), some (.int (nI ((v + w (l))))), none]) C dX8_findFar_68 (by decide) rfl ?_
          refine j_aload_n C dX8_findFar_70 rfl rfl ?_
          refine j_iload_n C dX8_findFar_71 rfl rfl ?_
          refine j_calli (As := [.int (nI (l))]) (rest := []) C (tX8_isUp hN (m := nM a) (u := u) (by omega) ((hf _ _ (by omega)).trans hW.2) (l := l) (by omega)) cdX8_isUp mlX8_124 dX8_findFar_72 (by decide) (by decide) (Nat.lt_of_lt_of_le (by decide) hN) rfl rfl rfl rfl rfl (Nat.le_of_ble_eq_true rfl) (fun rr_59 τ58 hp_60 => ?_)
          obtain ⟨hs, hr⟩ := hp_60
          replace hs := hs.symm
          subst hs
          rcases hul : u l with _ | _ <;> rw [hul] at hr <;> subst hr
          · refine j_ifn_eq (tgt := 97) C dX8_findFar_75 rfl (by omega) (fun _ => ?_) (fun h => absurd h (by decide))
            refine j_iconst (v := nI 0) C dX8_findFar_97 rfl ?_
            refine j_istore (L' := [some (.ref (gad g (84))), some (.int (nI (t))), some (.int (nI (r + 1))), some (.int (nI (l))), some (.int (nI ((v + w (l))))), some (.int (nI (0)))]) C dX8_findFar_98 (by decide) rfl ?_
            refine j_aload_n C dX8_findFar_100 rfl rfl ?_
            refine j_get C flX8_34 dX8_findFar_101 (Nat.lt_of_lt_of_le (by decide) hN) rfl rfl ?_
            refine j_aload_n C dX8_findFar_104 rfl rfl ?_
            refine j_iload_n C dX8_findFar_105 rfl rfl ?_
            refine j_calli (As := [.int (nI (l))]) (rest := [.ref (gad g (93))]) C (tX8_begin hN (hI.kept (fun j n h => hf j n (by omega))) hO (l := l) (by omega)) cdX8_begin mlX8_127 dX8_findFar_106 (by decide) (by decide) (Nat.lt_of_lt_of_le (by decide) hN) rfl rfl rfl rfl rfl (Nat.le_of_ble_eq_true rfl) (fun rr_62 τ61 hp_63 => ?_)
            obtain ⟨hs, hr⟩ := hp_63
            replace hs := hs.symm
            subst hs
            subst hr
            refine j_iload C dX8_findFar_109 rfl ?_
            refine j_ifn_eq (tgt := 149) C dX8_findFar_111 rfl (by omega) (fun _ => ?_) (fun h => absurd h (by decide))
            refine j_aload_n C dX8_findFar_149 rfl rfl ?_
            refine j_get C flX8_34 dX8_findFar_150 (Nat.lt_of_lt_of_le (by decide) hN) rfl rfl ?_
            refine j_aload_n C dX8_findFar_153 rfl rfl ?_
            refine j_iload_n C dX8_findFar_154 rfl rfl ?_
            refine j_calli (As := [.int (nI (l))]) (rest := [.ref (gad g (93)), .int (nI (nFr a (l))), .ref (gad g (93))]) C (tX8_begin hN (hI.kept (fun j n h => hf j n (by omega))) hO (l := l) (by omega)) cdX8_begin mlX8_127 dX8_findFar_155 (by decide) (by decide) (Nat.lt_of_lt_of_le (by decide) hN) rfl rfl rfl rfl rfl (Nat.le_of_ble_eq_true rfl) (fun rr_65 τ64 hp_66 => ?_)
            obtain ⟨hs, hr⟩ := hp_66
            replace hs := hs.symm
            subst hs
            subst hr
            refine j_iald C dX8_findFar_158 (Nat.lt_of_lt_of_le (by decide) hN) (fun _ => rfl) (by decide) (by omega) ?_
            refine j_top ((hrow (nFr a l) (by omega)).trans (congrArg c4 hfr)) ?_
            refine j_iast' C dX8_findFar_159 (Nat.lt_of_lt_of_le (by decide) hN) (fun _ => rfl) (by decide) (by omega) (fun τ67 hz_68 hw_69 => ?_)
            refine j_iinc (L' := [some (.ref (gad g (84))), some (.int (nI (t))), some (.int (nI (r + 1))), some (.int (nI (l + 1))), some (.int (nI ((v + w (l))))), some (.int (nI (0)))]) C dX8_findFar_160 rfl (nI_inc _) (by decide) rfl ?_
            refine j_goto (tgt := 43) C dX8_findFar_163 rfl ?_
            refine J_clr 4 (L' := [some (.ref (gad g (84))), some (.int (nI (t))), some (.int (nI (r + 1))), some (.int (nI (l + 1))), none, some (.int (nI (0)))]) rfl ?_
            refine J_clr 5 (L' := [some (.ref (gad g (84))), some (.int (nI (t))), some (.int (nI (r + 1))), some (.int (nI (l + 1))), none, none]) rfl ?_
            have hq : rlq a w u (rnd a w u (itr a w u (far0 t) r) l) l = none := by
              unfold rlq
              rw [hul]
              simp only [hto, hfr]
              first | rfl | (simp; done) | (rw [if_pos trivial, if_neg (by omega)]) | (rw [if_pos trivial, if_pos (by omega)])
            refine ih (nM a - (l + 1)) (by omega) (l + 1) τ67 rfl (by omega) (fun j n h => by rw [hz_68 _ _ (by omega)]; exact hf j n h) (fun x hx => ?_)
            · rw [rnd, rlx_none hq]
              by_cases e : x = nFr a l
              · subst e; rw [hfr]; assumption
              · rw [hz_68 _ _ (by omega)]; exact hrow x hx
          · refine j_ifn_eq (tgt := 97) C dX8_findFar_75 rfl (by omega) (fun h => absurd h (by decide)) (fun _ => ?_)
            refine j_aload_n C dX8_findFar_78 rfl rfl ?_
            refine j_get C flX8_34 dX8_findFar_79 (Nat.lt_of_lt_of_le (by decide) hN) rfl rfl ?_
            refine j_aload_n C dX8_findFar_82 rfl rfl ?_
            refine j_iload_n C dX8_findFar_83 rfl rfl ?_
            refine j_calli (As := [.int (nI (l))]) (rest := [.ref (gad g (93))]) C (tX8_end hN (hI.kept (fun j n h => hf j n (by omega))) hO (l := l) (by omega)) cdX8_end mlX8_120 dX8_findFar_84 (by decide) (by decide) (Nat.lt_of_lt_of_le (by decide) hN) rfl rfl rfl rfl rfl (Nat.le_of_ble_eq_true rfl) (fun rr_71 τ70 hp_72 => ?_)
            obtain ⟨hs, hr⟩ := hp_72
            replace hs := hs.symm
            subst hs
            subst hr
            refine j_iald C dX8_findFar_87 (Nat.lt_of_lt_of_le (by decide) hN) (fun _ => rfl) (by decide) (by omega) ?_
            refine j_top ((hrow (nTo a l) (by omega)).trans (congrArg c4 hto)) ?_
            refine j_bipush (v := -4) C dX8_findFar_88 rfl ?_
            refine j_icmp_eq (tgt := 97) C dX8_findFar_90 rfl (fun h => absurd h (nI_neg (by omega) (by decide))) (fun _ => ?_)
            refine j_iconst (v := nI 1) C dX8_findFar_93 rfl ?_
            refine j_goto (tgt := 98) C dX8_findFar_94 rfl ?_
            refine j_istore (L' := [some (.ref (gad g (84))), some (.int (nI (t))), some (.int (nI (r + 1))), some (.int (nI (l))), some (.int (nI ((v + w (l))))), some (.int (nI (1)))]) C dX8_findFar_98 (by decide) rfl ?_
            refine j_aload_n C dX8_findFar_100 rfl rfl ?_
            refine j_get C flX8_34 dX8_findFar_101 (Nat.lt_of_lt_of_le (by decide) hN) rfl rfl ?_
            refine j_aload_n C dX8_findFar_104 rfl rfl ?_
            refine j_iload_n C dX8_findFar_105 rfl rfl ?_
            refine j_calli (As := [.int (nI (l))]) (rest := [.ref (gad g (93))]) C (tX8_begin hN (hI.kept (fun j n h => hf j n (by omega))) hO (l := l) (by omega)) cdX8_begin mlX8_127 dX8_findFar_106 (by decide) (by decide) (Nat.lt_of_lt_of_le (by decide) hN) rfl rfl rfl rfl rfl (Nat.le_of_ble_eq_true rfl) (fun rr_74 τ73 hp_75 => ?_)
            obtain ⟨hs, hr⟩ := hp_75
            replace hs := hs.symm
            subst hs
            subst hr
            refine j_iload C dX8_findFar_109 rfl ?_
            refine j_ifn_eq (tgt := 149) C dX8_findFar_111 rfl (by omega) (fun h => absurd h (by decide)) (fun _ => ?_)
            refine j_aload_n C dX8_findFar_114 rfl rfl ?_
            refine j_get C flX8_34 dX8_findFar_115 (Nat.lt_of_lt_of_le (by decide) hN) rfl rfl ?_
            refine j_aload_n C dX8_findFar_118 rfl rfl ?_
            refine j_iload_n C dX8_findFar_119 rfl rfl ?_
            refine j_calli (As := [.int (nI (l))]) (rest := [.ref (gad g (93)), .int (nI (nFr a (l))), .ref (gad g (93))]) C (tX8_begin hN (hI.kept (fun j n h => hf j n (by omega))) hO (l := l) (by omega)) cdX8_begin mlX8_127 dX8_findFar_120 (by decide) (by decide) (Nat.lt_of_lt_of_le (by decide) hN) rfl rfl rfl rfl rfl (Nat.le_of_ble_eq_true rfl) (fun rr_77 τ76 hp_78 => ?_)
            obtain ⟨hs, hr⟩ := hp_78
            replace hs := hs.symm
            subst hs
            subst hr
            refine j_iald C dX8_findFar_123 (Nat.lt_of_lt_of_le (by decide) hN) (fun _ => rfl) (by decide) (by omega) ?_
            refine j_top ((hrow (nFr a l) (by omega)).trans (congrArg c4 hfr)) ?_
            refine j_bipush (v := -4) C dX8_findFar_124 rfl ?_
            refine j_icmp_eq (tgt := 144) C dX8_findFar_126 rfl (fun _ => ?_) (fun h => absurd h (by decide))
            refine j_iload C dX8_findFar_144 rfl ?_
            refine j_goto (tgt := 159) C dX8_findFar_146 rfl ?_
            refine j_iast' C dX8_findFar_159 (Nat.lt_of_lt_of_le (by decide) hN) (fun _ => rfl) (by decide) (by omega) (fun τ79 hz_80 hw_81 => ?_)
            refine j_iinc (L' := [some (.ref (gad g (84))), some (.int (nI (t))), some (.int (nI (r + 1))), some (.int (nI (l + 1))), some (.int (nI ((v + w (l))))), some (.int (nI (1)))]) C dX8_findFar_160 rfl (nI_inc _) (by decide) rfl ?_
            refine j_goto (tgt := 43) C dX8_findFar_163 rfl ?_
            refine J_clr 4 (L' := [some (.ref (gad g (84))), some (.int (nI (t))), some (.int (nI (r + 1))), some (.int (nI (l + 1))), none, some (.int (nI (1)))]) rfl ?_
            refine J_clr 5 (L' := [some (.ref (gad g (84))), some (.int (nI (t))), some (.int (nI (r + 1))), some (.int (nI (l + 1))), none, none]) rfl ?_
            have hq : rlq a w u (rnd a w u (itr a w u (far0 t) r) l) l = some (w l + v) := by
              unfold rlq
              rw [hul]
              simp only [hto, hfr]
              first | rfl | (simp; done) | (rw [if_pos trivial, if_neg (by omega)]) | (rw [if_pos trivial, if_pos (by omega)])
            refine ih (nM a - (l + 1)) (by omega) (l + 1) τ79 rfl (by omega) (fun j n h => by rw [hz_80 _ _ (by omega)]; exact hf j n h) (fun x hx => ?_)
            · rw [rnd, rlx_some hq]
              by_cases e : x = nFr a l
              · subst e; rw [if_pos rfl]; refine Eq.trans (by assumption) ?_; show _ = nI (w l + v); rw [Nat.add_comm]
              · rw [if_neg e, hz_80 _ _ (by omega)]; exact hrow x hx
        · have hv := hbd _ _ hto
          have hz := hbd _ _ hfr
          refine j_aload_n C dX8_findFar_51 rfl rfl ?_
          refine j_get C flX8_34 dX8_findFar_52 (Nat.lt_of_lt_of_le (by decide) hN) rfl rfl ?_
          refine j_aload_n C dX8_findFar_55 rfl rfl ?_
          refine j_iload_n C dX8_findFar_56 rfl rfl ?_
          refine j_calli (As := [.int (nI (l))]) (rest := [.ref (gad g (93))]) C (tX8_end hN (hI.kept (fun j n h => hf j n (by omega))) hO (l := l) (by omega)) cdX8_end mlX8_120 dX8_findFar_57 (by decide) (by decide) (Nat.lt_of_lt_of_le (by decide) hN) rfl rfl rfl rfl rfl (Nat.le_of_ble_eq_true rfl) (fun rr_83 τ82 hp_84 => ?_)
          obtain ⟨hs, hr⟩ := hp_84
          replace hs := hs.symm
          subst hs
          subst hr
          refine j_iald C dX8_findFar_60 (Nat.lt_of_lt_of_le (by decide) hN) (fun _ => rfl) (by decide) (by omega) ?_
          refine j_top ((hrow (nTo a l) (by omega)).trans (congrArg c4 hto)) ?_
          refine j_aload_n C dX8_findFar_61 rfl rfl ?_
          refine j_get C flX8_25 dX8_findFar_62 (Nat.lt_of_lt_of_le (by decide) hN) rfl rfl ?_
          refine j_iload_n C dX8_findFar_65 rfl rfl ?_
          refine j_iald C dX8_findFar_66 (Nat.lt_of_lt_of_le (by decide) hN) (fun _ => rfl) (by decide) (by omega) ?_
          refine j_top ((hf _ _ (by omega)).trans (hW.1 (l) (by omega))) ?_
          refine j_iadd C dX8_findFar_67 ?_
          refine j_top (nI_add _ _) ?_
          refine j_istore (L' := [some (.ref (gad g (84))), some (.int (nI (t))), some (.int (nI (r + 1))), some (.int (nI (l))), some (.int (nI ((v + w (l))))), none]) C dX8_findFar_68 (by decide) rfl ?_
          refine j_aload_n C dX8_findFar_70 rfl rfl ?_
          refine j_iload_n C dX8_findFar_71 rfl rfl ?_
          refine j_calli (As := [.int (nI (l))]) (rest := []) C (tX8_isUp hN (m := nM a) (u := u) (by omega) ((hf _ _ (by omega)).trans hW.2) (l := l) (by omega)) cdX8_isUp mlX8_124 dX8_findFar_72 (by decide) (by decide) (Nat.lt_of_lt_of_le (by decide) hN) rfl rfl rfl rfl rfl (Nat.le_of_ble_eq_true rfl) (fun rr_86 τ85 hp_87 => ?_)
          obtain ⟨hs, hr⟩ := hp_87
          replace hs := hs.symm
          subst hs
          rcases hul : u l with _ | _ <;> rw [hul] at hr <;> subst hr
          · refine j_ifn_eq (tgt := 97) C dX8_findFar_75 rfl (by omega) (fun _ => ?_) (fun h => absurd h (by decide))
            refine j_iconst (v := nI 0) C dX8_findFar_97 rfl ?_
            refine j_istore (L' := [some (.ref (gad g (84))), some (.int (nI (t))), some (.int (nI (r + 1))), some (.int (nI (l))), some (.int (nI ((v + w (l))))), some (.int (nI (0)))]) C dX8_findFar_98 (by decide) rfl ?_
            refine j_aload_n C dX8_findFar_100 rfl rfl ?_
            refine j_get C flX8_34 dX8_findFar_101 (Nat.lt_of_lt_of_le (by decide) hN) rfl rfl ?_
            refine j_aload_n C dX8_findFar_104 rfl rfl ?_
            refine j_iload_n C dX8_findFar_105 rfl rfl ?_
            refine j_calli (As := [.int (nI (l))]) (rest := [.ref (gad g (93))]) C (tX8_begin hN (hI.kept (fun j n h => hf j n (by omega))) hO (l := l) (by omega)) cdX8_begin mlX8_127 dX8_findFar_106 (by decide) (by decide) (Nat.lt_of_lt_of_le (by decide) hN) rfl rfl rfl rfl rfl (Nat.le_of_ble_eq_true rfl) (fun rr_89 τ88 hp_90 => ?_)
            obtain ⟨hs, hr⟩ := hp_90
            replace hs := hs.symm
            subst hs
            subst hr
            refine j_iload C dX8_findFar_109 rfl ?_
            refine j_ifn_eq (tgt := 149) C dX8_findFar_111 rfl (by omega) (fun _ => ?_) (fun h => absurd h (by decide))
            refine j_aload_n C dX8_findFar_149 rfl rfl ?_
            refine j_get C flX8_34 dX8_findFar_150 (Nat.lt_of_lt_of_le (by decide) hN) rfl rfl ?_
            refine j_aload_n C dX8_findFar_153 rfl rfl ?_
            refine j_iload_n C dX8_findFar_154 rfl rfl ?_
            refine j_calli (As := [.int (nI (l))]) (rest := [.ref (gad g (93)), .int (nI (nFr a (l))), .ref (gad g (93))]) C (tX8_begin hN (hI.kept (fun j n h => hf j n (by omega))) hO (l := l) (by omega)) cdX8_begin mlX8_127 dX8_findFar_155 (by decide) (by decide) (Nat.lt_of_lt_of_le (by decide) hN) rfl rfl rfl rfl rfl (Nat.le_of_ble_eq_true rfl) (fun rr_92 τ91 hp_93 => ?_)
            obtain ⟨hs, hr⟩ := hp_93
            replace hs := hs.symm
            subst hs
            subst hr
            refine j_iald C dX8_findFar_158 (Nat.lt_of_lt_of_le (by decide) hN) (fun _ => rfl) (by decide) (by omega) ?_
            refine j_top ((hrow (nFr a l) (by omega)).trans (congrArg c4 hfr)) ?_
            refine j_iast' C dX8_findFar_159 (Nat.lt_of_lt_of_le (by decide) hN) (fun _ => rfl) (by decide) (by omega) (fun τ94 hz_95 hw_96 => ?_)
            refine j_iinc (L' := [some (.ref (gad g (84))), some (.int (nI (t))), some (.int (nI (r + 1))), some (.int (nI (l + 1))), some (.int (nI ((v + w (l))))), some (.int (nI (0)))]) C dX8_findFar_160 rfl (nI_inc _) (by decide) rfl ?_
            refine j_goto (tgt := 43) C dX8_findFar_163 rfl ?_
            refine J_clr 4 (L' := [some (.ref (gad g (84))), some (.int (nI (t))), some (.int (nI (r + 1))), some (.int (nI (l + 1))), none, some (.int (nI (0)))]) rfl ?_
            refine J_clr 5 (L' := [some (.ref (gad g (84))), some (.int (nI (t))), some (.int (nI (r + 1))), some (.int (nI (l + 1))), none, none]) rfl ?_
            have hq : rlq a w u (rnd a w u (itr a w u (far0 t) r) l) l = none := by
              unfold rlq
              rw [hul]
              simp only [hto, hfr]
              first | rfl | (simp; done) | (rw [if_pos trivial, if_neg (by omega)]) | (rw [if_pos trivial, if_pos (by omega)])
            refine ih (nM a - (l + 1)) (by omega) (l + 1) τ94 rfl (by omega) (fun j n h => by rw [hz_95 _ _ (by omega)]; exact hf j n h) (fun x hx => ?_)
            · rw [rnd, rlx_none hq]
              by_cases e : x = nFr a l
              · subst e; rw [hfr]; assumption
              · rw [hz_95 _ _ (by omega)]; exact hrow x hx
          · refine j_ifn_eq (tgt := 97) C dX8_findFar_75 rfl (by omega) (fun h => absurd h (by decide)) (fun _ => ?_)
            refine j_aload_n C dX8_findFar_78 rfl rfl ?_
            refine j_get C flX8_34 dX8_findFar_79 (Nat.lt_of_lt_of_le (by decide) hN) rfl rfl ?_
            refine j_aload_n C dX8_findFar_82 rfl rfl ?_
            refine j_iload_n C dX8_findFar_83 rfl rfl ?_
            refine j_calli (As := [.int (nI (l))]) (rest := [.ref (gad g (93))]) C (tX8_end hN (hI.kept (fun j n h => hf j n (by omega))) hO (l := l) (by omega)) cdX8_end mlX8_120 dX8_findFar_84 (by decide) (by decide) (Nat.lt_of_lt_of_le (by decide) hN) rfl rfl rfl rfl rfl (Nat.le_of_ble_eq_true rfl) (fun rr_98 τ97 hp_99 => ?_)
            obtain ⟨hs, hr⟩ := hp_99
            replace hs := hs.symm
            subst hs
            subst hr
            refine j_iald C dX8_findFar_87 (Nat.lt_of_lt_of_le (by decide) hN) (fun _ => rfl) (by decide) (by omega) ?_
            refine j_top ((hrow (nTo a l) (by omega)).trans (congrArg c4 hto)) ?_
            refine j_bipush (v := -4) C dX8_findFar_88 rfl ?_
            refine j_icmp_eq (tgt := 97) C dX8_findFar_90 rfl (fun h => absurd h (nI_neg (by omega) (by decide))) (fun _ => ?_)
            refine j_iconst (v := nI 1) C dX8_findFar_93 rfl ?_
            refine j_goto (tgt := 98) C dX8_findFar_94 rfl ?_
            refine j_istore (L' := [some (.ref (gad g (84))), some (.int (nI (t))), some (.int (nI (r + 1))), some (.int (nI (l))), some (.int (nI ((v + w (l))))), some (.int (nI (1)))]) C dX8_findFar_98 (by decide) rfl ?_
            refine j_aload_n C dX8_findFar_100 rfl rfl ?_
            refine j_get C flX8_34 dX8_findFar_101 (Nat.lt_of_lt_of_le (by decide) hN) rfl rfl ?_
            refine j_aload_n C dX8_findFar_104 rfl rfl ?_
            refine j_iload_n C dX8_findFar_105 rfl rfl ?_
            refine j_calli (As := [.int (nI (l))]) (rest := [.ref (gad g (93))]) C (tX8_begin hN (hI.kept (fun j n h => hf j n (by omega))) hO (l := l) (by omega)) cdX8_begin mlX8_127 dX8_findFar_106 (by decide) (by decide) (Nat.lt_of_lt_of_le (by decide) hN) rfl rfl rfl rfl rfl (Nat.le_of_ble_eq_true rfl) (fun rr_101 τ100 hp_102 => ?_)
            obtain ⟨hs, hr⟩ := hp_102
            replace hs := hs.symm
            subst hs
            subst hr
            refine j_iload C dX8_findFar_109 rfl ?_
            refine j_ifn_eq (tgt := 149) C dX8_findFar_111 rfl (by omega) (fun h => absurd h (by decide)) (fun _ => ?_)
            refine j_aload_n C dX8_findFar_114 rfl rfl ?_
            refine j_get C flX8_34 dX8_findFar_115 (Nat.lt_of_lt_of_le (by decide) hN) rfl rfl ?_
            refine j_aload_n C dX8_findFar_118 rfl rfl ?_
            refine j_iload_n C dX8_findFar_119 rfl rfl ?_
            refine j_calli (As := [.int (nI (l))]) (rest := [.ref (gad g (93)), .int (nI (nFr a (l))), .ref (gad g (93))]) C (tX8_begin hN (hI.kept (fun j n h => hf j n (by omega))) hO (l := l) (by omega)) cdX8_begin mlX8_127 dX8_findFar_120 (by decide) (by decide) (Nat.lt_of_lt_of_le (by decide) hN) rfl rfl rfl rfl rfl (Nat.le_of_ble_eq_true rfl) (fun rr_104 τ103 hp_105 => ?_)
            obtain ⟨hs, hr⟩ := hp_105
            replace hs := hs.symm
            subst hs
            subst hr
            refine j_iald C dX8_findFar_123 (Nat.lt_of_lt_of_le (by decide) hN) (fun _ => rfl) (by decide) (by omega) ?_
            refine j_top ((hrow (nFr a l) (by omega)).trans (congrArg c4 hfr)) ?_
            refine j_bipush (v := -4) C dX8_findFar_124 rfl ?_
            refine j_icmp_eq (tgt := 144) C dX8_findFar_126 rfl (fun h => absurd h (nI_neg (by omega) (by decide))) (fun _ => ?_)
            refine j_iload C dX8_findFar_129 rfl ?_
            refine j_aload_n C dX8_findFar_131 rfl rfl ?_
            refine j_get C flX8_34 dX8_findFar_132 (Nat.lt_of_lt_of_le (by decide) hN) rfl rfl ?_
            refine j_aload_n C dX8_findFar_135 rfl rfl ?_
            refine j_iload_n C dX8_findFar_136 rfl rfl ?_
            refine j_calli (As := [.int (nI (l))]) (rest := [.ref (gad g (93)), .int (nI ((v + w (l)))), .int (nI (nFr a (l))), .ref (gad g (93))]) C (tX8_begin hN (hI.kept (fun j n h => hf j n (by omega))) hO (l := l) (by omega)) cdX8_begin mlX8_127 dX8_findFar_137 (by decide) (by decide) (Nat.lt_of_lt_of_le (by decide) hN) rfl rfl rfl rfl rfl (Nat.le_of_ble_eq_true rfl) (fun rr_107 τ106 hp_108 => ?_)
            obtain ⟨hs, hr⟩ := hp_108
            replace hs := hs.symm
            subst hs
            subst hr
            refine j_iald C dX8_findFar_140 (Nat.lt_of_lt_of_le (by decide) hN) (fun _ => rfl) (by decide) (by omega) ?_
            refine j_top ((hrow (nFr a l) (by omega)).trans (congrArg c4 hfr)) ?_
            refine j_icmpn_ge (tgt := 149) C dX8_findFar_141 rfl (by omega) (by omega) (fun h141 => ?_) (fun h141 => ?_)
            · refine j_aload_n C dX8_findFar_149 rfl rfl ?_
              refine j_get C flX8_34 dX8_findFar_150 (Nat.lt_of_lt_of_le (by decide) hN) rfl rfl ?_
              refine j_aload_n C dX8_findFar_153 rfl rfl ?_
              refine j_iload_n C dX8_findFar_154 rfl rfl ?_
              refine j_calli (As := [.int (nI (l))]) (rest := [.ref (gad g (93)), .int (nI (nFr a (l))), .ref (gad g (93))]) C (tX8_begin hN (hI.kept (fun j n h => hf j n (by omega))) hO (l := l) (by omega)) cdX8_begin mlX8_127 dX8_findFar_155 (by decide) (by decide) (Nat.lt_of_lt_of_le (by decide) hN) rfl rfl rfl rfl rfl (Nat.le_of_ble_eq_true rfl) (fun rr_110 τ109 hp_111 => ?_)
              obtain ⟨hs, hr⟩ := hp_111
              replace hs := hs.symm
              subst hs
              subst hr
              refine j_iald C dX8_findFar_158 (Nat.lt_of_lt_of_le (by decide) hN) (fun _ => rfl) (by decide) (by omega) ?_
              refine j_top ((hrow (nFr a l) (by omega)).trans (congrArg c4 hfr)) ?_
              refine j_iast' C dX8_findFar_159 (Nat.lt_of_lt_of_le (by decide) hN) (fun _ => rfl) (by decide) (by omega) (fun τ112 hz_113 hw_114 => ?_)
              refine j_iinc (L' := [some (.ref (gad g (84))), some (.int (nI (t))), some (.int (nI (r + 1))), some (.int (nI (l + 1))), some (.int (nI ((v + w (l))))), some (.int (nI (1)))]) C dX8_findFar_160 rfl (nI_inc _) (by decide) rfl ?_
              refine j_goto (tgt := 43) C dX8_findFar_163 rfl ?_
              refine J_clr 4 (L' := [some (.ref (gad g (84))), some (.int (nI (t))), some (.int (nI (r + 1))), some (.int (nI (l + 1))), none, some (.int (nI (1)))]) rfl ?_
              refine J_clr 5 (L' := [some (.ref (gad g (84))), some (.int (nI (t))), some (.int (nI (r + 1))), some (.int (nI (l + 1))), none, none]) rfl ?_
              have hq : rlq a w u (rnd a w u (itr a w u (far0 t) r) l) l = none := by
                unfold rlq
                rw [hul]
                simp only [hto, hfr]
                first | rfl | (simp; done) | (rw [if_pos trivial, if_neg (by omega)]) | (rw [if_pos trivial, if_pos (by omega)])
              refine ih (nM a - (l + 1)) (by omega) (l + 1) τ112 rfl (by omega) (fun j n h => by rw [hz_113 _ _ (by omega)]; exact hf j n h) (fun x hx => ?_)
              · rw [rnd, rlx_none hq]
                by_cases e : x = nFr a l
                · subst e; rw [hfr]; assumption
                · rw [hz_113 _ _ (by omega)]; exact hrow x hx
            · refine j_iload C dX8_findFar_144 rfl ?_
              refine j_goto (tgt := 159) C dX8_findFar_146 rfl ?_
              refine j_iast' C dX8_findFar_159 (Nat.lt_of_lt_of_le (by decide) hN) (fun _ => rfl) (by decide) (by omega) (fun τ115 hz_116 hw_117 => ?_)
              refine j_iinc (L' := [some (.ref (gad g (84))), some (.int (nI (t))), some (.int (nI (r + 1))), some (.int (nI (l + 1))), some (.int (nI ((v + w (l))))), some (.int (nI (1)))]) C dX8_findFar_160 rfl (nI_inc _) (by decide) rfl ?_
              refine j_goto (tgt := 43) C dX8_findFar_163 rfl ?_
              refine J_clr 4 (L' := [some (.ref (gad g (84))), some (.int (nI (t))), some (.int (nI (r + 1))), some (.int (nI (l + 1))), none, some (.int (nI (1)))]) rfl ?_
              refine J_clr 5 (L' := [some (.ref (gad g (84))), some (.int (nI (t))), some (.int (nI (r + 1))), some (.int (nI (l + 1))), none, none]) rfl ?_
              have hq : rlq a w u (rnd a w u (itr a w u (far0 t) r) l) l = some (w l + v) := by
                unfold rlq
                rw [hul]
                simp only [hto, hfr]
                first | rfl | (simp; done) | (rw [if_pos trivial, if_neg (by omega)]) | (rw [if_pos trivial, if_pos (by omega)])
              refine ih (nM a - (l + 1)) (by omega) (l + 1) τ115 rfl (by omega) (fun j n h => by rw [hz_116 _ _ (by omega)]; exact hf j n h) (fun x hx => ?_)
              · rw [rnd, rlx_some hq]
                by_cases e : x = nFr a l
                · subst e; rw [if_pos rfl]; refine Eq.trans (by assumption) ?_; show _ = nI (w l + v); rw [Nat.add_comm]
                · rw [if_neg e, hz_116 _ _ (by omega)]; exact hrow x hx
  have lpB : ∀ (k : Nat) (r : Nat) (σ1 : Sg), nN a - (r + 1) = k → r + 1 ≤ nN a → (∀ j n, ¬ (j = 93) → σ1 j n = σ j n) → (∀ x, x < 7 → σ1 93 x = c4 (itr a w u (far0 t) r x)) → J g κ 6 33 [some (.ref (gad g (84))), some (.int (nI (t))), some (.int (nI (r + 1))), none, none, none] [] σ1 := by
    intro k
    induction k using Nat.strongRecOn with
    | _ k ih =>
      intro r σ1 hk hr hf hrow
      refine j_iload_n C dX8_findFar_33 rfl rfl ?_
      refine j_aload_n C dX8_findFar_34 rfl rfl ?_
      refine j_get C flX8_74 dX8_findFar_35 (Nat.lt_of_lt_of_le (by decide) hN) rfl rfl ?_
      refine j_top ((hf _ _ (by omega)).trans (hI.1.1)) ?_
      refine j_icmpn_ge (tgt := 172) C dX8_findFar_38 rfl (by omega) (by omega) (fun h38 => ?_) (fun h38 => ?_)
      · refine j_retv M dX8_findFar_172 ?_
        refine ⟨hf, fun x hx => ?_⟩
        rw [hrow x hx, show r = nN a - 1 by omega]
        rfl
      · refine j_iconst (v := nI 0) C dX8_findFar_41 rfl ?_
        refine j_istore_n (L' := [some (.ref (gad g (84))), some (.int (nI (t))), some (.int (nI (r + 1))), some (.int (nI (0))), none, none]) C dX8_findFar_42 rfl (by decide) rfl ?_
        refine lpC r (by omega) ?_ (nM a - 0) 0 σ1 rfl (by omega) hf (fun x hx => hrow x hx)
        intro σ2 hf2 hrow2
        refine j_iinc (L' := [some (.ref (gad g (84))), some (.int (nI (t))), some (.int (nI (r + 2))), none, none, none]) C dX8_findFar_166 rfl (nI_inc _) (by decide) rfl ?_
        refine j_goto (tgt := 33) C dX8_findFar_169 rfl ?_
        exact ih (nN a - (r + 1 + 1)) (by omega) (r + 1) σ2 rfl (by omega) hf2 hrow2
  have lpA : ∀ (k : Nat) (x : Nat) (σ1 : Sg), 7 - x = k → x ≤ 7 → (∀ j n, ¬ (j = 93) → σ1 j n = σ j n) → (∀ y, y < x → σ1 93 y = c4 (far0 t y)) → J g κ 6 2 [some (.ref (gad g (84))), some (.int (nI (t))), some (.int (nI (x))), none, none, none] [] σ1 := by
    intro k
    induction k using Nat.strongRecOn with
    | _ k ih =>
      intro x σ1 hk hx hf hrow
      refine j_iload_n C dX8_findFar_2 rfl rfl ?_
      refine j_bipush (v := nI 7) C dX8_findFar_3 rfl ?_
      refine j_icmpn_ge (tgt := 31) C dX8_findFar_5 rfl (by omega) (by omega) (fun h5 => ?_) (fun h5 => ?_)
      · refine j_iconst (v := nI 1) C dX8_findFar_31 rfl ?_
        refine j_istore_n (L' := [some (.ref (gad g (84))), some (.int (nI (t))), some (.int (nI (1))), none, none, none]) C dX8_findFar_32 rfl (by decide) rfl ?_
        exact lpB (nN a - (0 + 1)) 0 σ1 rfl (by have := hO.1; omega) hf (fun y hy => hrow y (by omega))
      · refine j_aload_n C dX8_findFar_8 rfl rfl ?_
        refine j_get C flX8_34 dX8_findFar_9 (Nat.lt_of_lt_of_le (by decide) hN) rfl rfl ?_
        refine j_iload_n C dX8_findFar_12 rfl rfl ?_
        refine j_iload_n C dX8_findFar_13 rfl rfl ?_
        refine j_iload_n C dX8_findFar_14 rfl rfl ?_
        refine j_icmpn_ne (tgt := 22) C dX8_findFar_15 rfl (by omega) (by omega) (fun h15 => ?_) (fun h15 => ?_)
        · refine j_bipush (v := -4) C dX8_findFar_22 rfl ?_
          refine j_iast' C dX8_findFar_24 (Nat.lt_of_lt_of_le (by decide) hN) (fun _ => rfl) (by decide) (by omega) (fun τ1 hz_2 hw_3 => ?_)
          refine j_iinc (L' := [some (.ref (gad g (84))), some (.int (nI (t))), some (.int (nI (x + 1))), none, none, none]) C dX8_findFar_25 rfl (nI_inc _) (by decide) rfl ?_
          refine j_goto (tgt := 2) C dX8_findFar_28 rfl ?_
          refine ih (7 - (x + 1)) (by omega) (x + 1) τ1 rfl (by omega) (fun j n h => by rw [hz_2 _ _ (by omega)]; exact hf j n h) (fun y hy => ?_)
          by_cases e : y = x
          · subst e
            unfold far0
            first | (rw [if_pos (by omega)]; assumption) | (rw [if_neg (by omega)]; assumption)
          · rw [hz_2 _ _ (by omega)]; exact hrow y (by omega)
        · refine j_iconst (v := nI 0) C dX8_findFar_18 rfl ?_
          refine j_goto (tgt := 24) C dX8_findFar_19 rfl ?_
          refine j_iast' C dX8_findFar_24 (Nat.lt_of_lt_of_le (by decide) hN) (fun _ => rfl) (by decide) (by omega) (fun τ4 hz_5 hw_6 => ?_)
          refine j_iinc (L' := [some (.ref (gad g (84))), some (.int (nI (t))), some (.int (nI (x + 1))), none, none, none]) C dX8_findFar_25 rfl (nI_inc _) (by decide) rfl ?_
          refine j_goto (tgt := 2) C dX8_findFar_28 rfl ?_
          refine ih (7 - (x + 1)) (by omega) (x + 1) τ4 rfl (by omega) (fun j n h => by rw [hz_5 _ _ (by omega)]; exact hf j n h) (fun y hy => ?_)
          by_cases e : y = x
          · subst e
            unfold far0
            first | (rw [if_pos (by omega)]; assumption) | (rw [if_neg (by omega)]; assumption)
          · rw [hz_5 _ _ (by omega)]; exact hrow y (by omega)
  refine j_iconst (v := nI 0) C dX8_findFar_0 rfl ?_
  refine j_istore_n (L' := [some (.ref (gad g (84))), some (.int (nI (t))), some (.int (nI (0))), none, none, none]) C dX8_findFar_1 rfl (by decide) rfl ?_
  exact lpA (7 - 0) 0 σ rfl (by omega) (fun _ _ _ => rfl) (fun y hy => by omega)
set_option maxHeartbeats 4000000 in
set_option maxRecDepth 100000 in
theorem tX8_isShort {g : jG} (hN : 97 ≤ gN g) {σ : Sg} {a : ND} {w : Nat → Nat} {u : Nat → Bool} (hI : RNet σ a) (hO : NOk a) (hW : RW σ (nM a) w u) (hw : WOk (nM a) w) {l : Nat} {f : Nat → Option Nat} (hl : l < nM a) (hF : ∀ x, x < 7 → σ 93 x = c4 (f x)) (hB : fBd f 1680) : MS g yX8_isShort cX8_isShort 2 (some .boolean) rmX8_isShort [.ref (gad g (84)), .int (nI (l))] σ (fun r σ' => σ' = σ ∧ r = bI (shb a w u f l)) := by
  refine MJ_of (by decide) (Nat.le_of_ble_eq_true rfl) (List.forall_mem_cons.mpr ⟨rfl, List.forall_mem_cons.mpr ⟨rfl, fun _ h => absurd h List.not_mem_nil⟩⟩) ?_
  intro κ M
  have C := M.1
  show J g κ 2 0 [some (.ref (gad g (84))), some (.int (nI (l)))] [] σ
  have hn7 := hO.2.1
  have hm12 := hO.2.2.1
  have hd6 := hO.2.2.2.1
  obtain ⟨hb1, hb2, hb3, hb4⟩ := hO.2.2.2.2.1 l hl
  have hw1 := hw l hl
  rcases hto : f (nTo a l) with _ | v <;> rcases hfr : f (nFr a l) with _ | z
  · refine j_aload_n C dX8_isShort_0 rfl rfl ?_
    refine j_iload_n C dX8_isShort_1 rfl rfl ?_
    refine j_calli (As := [.int (nI (l))]) (rest := []) C (tX8_isUp hN (m := nM a) (u := u) (by omega) hW.2 (l := l) (by omega)) cdX8_isUp mlX8_124 dX8_isShort_2 (by decide) (by decide) (Nat.lt_of_lt_of_le (by decide) hN) rfl rfl rfl rfl rfl (Nat.le_of_ble_eq_true rfl) (fun rr_2 τ1 hp_3 => ?_)
    obtain ⟨hs, hr⟩ := hp_3
    replace hs := hs.symm
    subst hs
    rcases hul : u l with _ | _ <;> rw [hul] at hr <;> subst hr
    · refine j_ifn_eq (tgt := 57) C dX8_isShort_5 rfl (by omega) (fun _ => ?_) (fun h => absurd h (by decide))
      refine j_iconst (v := nI 0) C dX8_isShort_57 rfl ?_
      refine j_retz M dX8_isShort_58 rfl ?_
      refine ⟨rfl, ?_⟩
      unfold shb
      rw [hul, hto]
      try rw [hfr]
      first | rfl | (simp [bI]; done) | (simp [bI]; omega)
    · refine j_ifn_eq (tgt := 57) C dX8_isShort_5 rfl (by omega) (fun h => absurd h (by decide)) (fun _ => ?_)
      refine j_aload_n C dX8_isShort_8 rfl rfl ?_
      refine j_get C flX8_34 dX8_isShort_9 (Nat.lt_of_lt_of_le (by decide) hN) rfl rfl ?_
      refine j_aload_n C dX8_isShort_12 rfl rfl ?_
      refine j_iload_n C dX8_isShort_13 rfl rfl ?_
      refine j_calli (As := [.int (nI (l))]) (rest := [.ref (gad g (93))]) C (tX8_end hN hI hO (l := l) (by omega)) cdX8_end mlX8_120 dX8_isShort_14 (by decide) (by decide) (Nat.lt_of_lt_of_le (by decide) hN) rfl rfl rfl rfl rfl (Nat.le_of_ble_eq_true rfl) (fun rr_5 τ4 hp_6 => ?_)
      obtain ⟨hs, hr⟩ := hp_6
      replace hs := hs.symm
      subst hs
      subst hr
      refine j_iald C dX8_isShort_17 (Nat.lt_of_lt_of_le (by decide) hN) (fun _ => rfl) (by decide) (by omega) ?_
      refine j_top ((hF (nTo a l) (by omega)).trans (congrArg c4 hto)) ?_
      refine j_bipush (v := -4) C dX8_isShort_18 rfl ?_
      refine j_icmp_eq (tgt := 57) C dX8_isShort_20 rfl (fun _ => ?_) (fun h => absurd h (by decide))
      refine j_iconst (v := nI 0) C dX8_isShort_57 rfl ?_
      refine j_retz M dX8_isShort_58 rfl ?_
      refine ⟨rfl, ?_⟩
      unfold shb
      rw [hul, hto]
      try rw [hfr]
      first | rfl | (simp [bI]; done) | (simp [bI]; omega)
  · have hz := hB _ _ hfr
    refine j_aload_n C dX8_isShort_0 rfl rfl ?_
    refine j_iload_n C dX8_isShort_1 rfl rfl ?_
    refine j_calli (As := [.int (nI (l))]) (rest := []) C (tX8_isUp hN (m := nM a) (u := u) (by omega) hW.2 (l := l) (by omega)) cdX8_isUp mlX8_124 dX8_isShort_2 (by decide) (by decide) (Nat.lt_of_lt_of_le (by decide) hN) rfl rfl rfl rfl rfl (Nat.le_of_ble_eq_true rfl) (fun rr_8 τ7 hp_9 => ?_)
    obtain ⟨hs, hr⟩ := hp_9
    replace hs := hs.symm
    subst hs
    rcases hul : u l with _ | _ <;> rw [hul] at hr <;> subst hr
    · refine j_ifn_eq (tgt := 57) C dX8_isShort_5 rfl (by omega) (fun _ => ?_) (fun h => absurd h (by decide))
      refine j_iconst (v := nI 0) C dX8_isShort_57 rfl ?_
      refine j_retz M dX8_isShort_58 rfl ?_
      refine ⟨rfl, ?_⟩
      unfold shb
      rw [hul, hto]
      try rw [hfr]
      first | rfl | (simp [bI]; done) | (simp [bI]; omega)
    · refine j_ifn_eq (tgt := 57) C dX8_isShort_5 rfl (by omega) (fun h => absurd h (by decide)) (fun _ => ?_)
      refine j_aload_n C dX8_isShort_8 rfl rfl ?_
      refine j_get C flX8_34 dX8_isShort_9 (Nat.lt_of_lt_of_le (by decide) hN) rfl rfl ?_
      refine j_aload_n C dX8_isShort_12 rfl rfl ?_
      refine j_iload_n C dX8_isShort_13 rfl rfl ?_
      refine j_calli (As := [.int (nI (l))]) (rest := [.ref (gad g (93))]) C (tX8_end hN hI hO (l := l) (by omega)) cdX8_end mlX8_120 dX8_isShort_14 (by decide) (by decide) (Nat.lt_of_lt_of_le (by decide) hN) rfl rfl rfl rfl rfl (Nat.le_of_ble_eq_true rfl) (fun rr_11 τ10 hp_12 => ?_)
      obtain ⟨hs, hr⟩ := hp_12
      replace hs := hs.symm
      subst hs
      subst hr
      refine j_iald C dX8_isShort_17 (Nat.lt_of_lt_of_le (by decide) hN) (fun _ => rfl) (by decide) (by omega) ?_
      refine j_top ((hF (nTo a l) (by omega)).trans (congrArg c4 hto)) ?_
      refine j_bipush (v := -4) C dX8_isShort_18 rfl ?_
      refine j_icmp_eq (tgt := 57) C dX8_isShort_20 rfl (fun _ => ?_) (fun h => absurd h (by decide))
      refine j_iconst (v := nI 0) C dX8_isShort_57 rfl ?_
      refine j_retz M dX8_isShort_58 rfl ?_
      refine ⟨rfl, ?_⟩
      unfold shb
      rw [hul, hto]
      try rw [hfr]
      first | rfl | (simp [bI]; done) | (simp [bI]; omega)
  · have hv := hB _ _ hto
    refine j_aload_n C dX8_isShort_0 rfl rfl ?_
    refine j_iload_n C dX8_isShort_1 rfl rfl ?_
    refine j_calli (As := [.int (nI (l))]) (rest := []) C (tX8_isUp hN (m := nM a) (u := u) (by omega) hW.2 (l := l) (by omega)) cdX8_isUp mlX8_124 dX8_isShort_2 (by decide) (by decide) (Nat.lt_of_lt_of_le (by decide) hN) rfl rfl rfl rfl rfl (Nat.le_of_ble_eq_true rfl) (fun rr_14 τ13 hp_15 => ?_)
    obtain ⟨hs, hr⟩ := hp_15
    replace hs := hs.symm
    subst hs
    rcases hul : u l with _ | _ <;> rw [hul] at hr <;> subst hr
    · refine j_ifn_eq (tgt := 57) C dX8_isShort_5 rfl (by omega) (fun _ => ?_) (fun h => absurd h (by decide))
      refine j_iconst (v := nI 0) C dX8_isShort_57 rfl ?_
      refine j_retz M dX8_isShort_58 rfl ?_
      refine ⟨rfl, ?_⟩
      unfold shb
      rw [hul, hto]
      try rw [hfr]
      first | rfl | (simp [bI]; done) | (simp [bI]; omega)
    · refine j_ifn_eq (tgt := 57) C dX8_isShort_5 rfl (by omega) (fun h => absurd h (by decide)) (fun _ => ?_)
      refine j_aload_n C dX8_isShort_8 rfl rfl ?_
      refine j_get C flX8_34 dX8_isShort_9 (Nat.lt_of_lt_of_le (by decide) hN) rfl rfl ?_
      refine j_aload_n C dX8_isShort_12 rfl rfl ?_
      refine j_iload_n C dX8_isShort_13 rfl rfl ?_
      refine j_calli (As := [.int (nI (l))]) (rest := [.ref (gad g (93))]) C (tX8_end hN hI hO (l := l) (by omega)) cdX8_end mlX8_120 dX8_isShort_14 (by decide) (by decide) (Nat.lt_of_lt_of_le (by decide) hN) rfl rfl rfl rfl rfl (Nat.le_of_ble_eq_true rfl) (fun rr_17 τ16 hp_18 => ?_)
      obtain ⟨hs, hr⟩ := hp_18
      replace hs := hs.symm
      subst hs
      subst hr
      refine j_iald C dX8_isShort_17 (Nat.lt_of_lt_of_le (by decide) hN) (fun _ => rfl) (by decide) (by omega) ?_
      refine j_top ((hF (nTo a l) (by omega)).trans (congrArg c4 hto)) ?_
      refine j_bipush (v := -4) C dX8_isShort_18 rfl ?_
      refine j_icmp_eq (tgt := 57) C dX8_isShort_20 rfl (fun h => absurd h (nI_neg (by omega) (by decide))) (fun _ => ?_)
      refine j_aload_n C dX8_isShort_23 rfl rfl ?_
      refine j_get C flX8_34 dX8_isShort_24 (Nat.lt_of_lt_of_le (by decide) hN) rfl rfl ?_
      refine j_aload_n C dX8_isShort_27 rfl rfl ?_
      refine j_iload_n C dX8_isShort_28 rfl rfl ?_
      refine j_calli (As := [.int (nI (l))]) (rest := [.ref (gad g (93))]) C (tX8_begin hN hI hO (l := l) (by omega)) cdX8_begin mlX8_127 dX8_isShort_29 (by decide) (by decide) (Nat.lt_of_lt_of_le (by decide) hN) rfl rfl rfl rfl rfl (Nat.le_of_ble_eq_true rfl) (fun rr_20 τ19 hp_21 => ?_)
      obtain ⟨hs, hr⟩ := hp_21
      replace hs := hs.symm
      subst hs
      subst hr
      refine j_iald C dX8_isShort_32 (Nat.lt_of_lt_of_le (by decide) hN) (fun _ => rfl) (by decide) (by omega) ?_
      refine j_top ((hF (nFr a l) (by omega)).trans (congrArg c4 hfr)) ?_
      refine j_aload_n C dX8_isShort_33 rfl rfl ?_
      refine j_get C flX8_25 dX8_isShort_34 (Nat.lt_of_lt_of_le (by decide) hN) rfl rfl ?_
      refine j_iload_n C dX8_isShort_37 rfl rfl ?_
      refine j_iald C dX8_isShort_38 (Nat.lt_of_lt_of_le (by decide) hN) (fun _ => rfl) (by decide) (by omega) ?_
      refine j_top (hW.1 (l) (by omega)) ?_
      refine j_aload_n C dX8_isShort_39 rfl rfl ?_
      refine j_get C flX8_34 dX8_isShort_40 (Nat.lt_of_lt_of_le (by decide) hN) rfl rfl ?_
      refine j_aload_n C dX8_isShort_43 rfl rfl ?_
      refine j_iload_n C dX8_isShort_44 rfl rfl ?_
      refine j_calli (As := [.int (nI (l))]) (rest := [.ref (gad g (93)), .int (nI (w (l))), .int (-4)]) C (tX8_end hN hI hO (l := l) (by omega)) cdX8_end mlX8_120 dX8_isShort_45 (by decide) (by decide) (Nat.lt_of_lt_of_le (by decide) hN) rfl rfl rfl rfl rfl (Nat.le_of_ble_eq_true rfl) (fun rr_23 τ22 hp_24 => ?_)
      obtain ⟨hs, hr⟩ := hp_24
      replace hs := hs.symm
      subst hs
      subst hr
      refine j_iald C dX8_isShort_48 (Nat.lt_of_lt_of_le (by decide) hN) (fun _ => rfl) (by decide) (by omega) ?_
      refine j_top ((hF (nTo a l) (by omega)).trans (congrArg c4 hto)) ?_
      refine j_iadd C dX8_isShort_49 ?_
      refine j_top (nI_add _ _) ?_
      refine j_icmp_ne (tgt := 57) C dX8_isShort_50 rfl (fun _ => ?_) (fun h => absurd h (fun h => nI_neg (by omega) (by decide) h.symm))
      refine j_iconst (v := nI 0) C dX8_isShort_57 rfl ?_
      refine j_retz M dX8_isShort_58 rfl ?_
      refine ⟨rfl, ?_⟩
      unfold shb
      rw [hul, hto]
      try rw [hfr]
      first | rfl | (simp [bI]; done) | (simp [bI]; omega)
  · have hv := hB _ _ hto
    have hz := hB _ _ hfr
    refine j_aload_n C dX8_isShort_0 rfl rfl ?_
    refine j_iload_n C dX8_isShort_1 rfl rfl ?_
    refine j_calli (As := [.int (nI (l))]) (rest := []) C (tX8_isUp hN (m := nM a) (u := u) (by omega) hW.2 (l := l) (by omega)) cdX8_isUp mlX8_124 dX8_isShort_2 (by decide) (by decide) (Nat.lt_of_lt_of_le (by decide) hN) rfl rfl rfl rfl rfl (Nat.le_of_ble_eq_true rfl) (fun rr_26 τ25 hp_27 => ?_)
    obtain ⟨hs, hr⟩ := hp_27
    replace hs := hs.symm
    subst hs
    rcases hul : u l with _ | _ <;> rw [hul] at hr <;> subst hr
    · refine j_ifn_eq (tgt := 57) C dX8_isShort_5 rfl (by omega) (fun _ => ?_) (fun h => absurd h (by decide))
      refine j_iconst (v := nI 0) C dX8_isShort_57 rfl ?_
      refine j_retz M dX8_isShort_58 rfl ?_
      refine ⟨rfl, ?_⟩
      unfold shb
      rw [hul, hto]
      try rw [hfr]
      first | rfl | (simp [bI]; done) | (simp [bI]; omega)
    · refine j_ifn_eq (tgt := 57) C dX8_isShort_5 rfl (by omega) (fun h => absurd h (by decide)) (fun _ => ?_)
      refine j_aload_n C dX8_isShort_8 rfl rfl ?_
      refine j_get C flX8_34 dX8_isShort_9 (Nat.lt_of_lt_of_le (by decide) hN) rfl rfl ?_
      refine j_aload_n C dX8_isShort_12 rfl rfl ?_
      refine j_iload_n C dX8_isShort_13 rfl rfl ?_
      refine j_calli (As := [.int (nI (l))]) (rest := [.ref (gad g (93))]) C (tX8_end hN hI hO (l := l) (by omega)) cdX8_end mlX8_120 dX8_isShort_14 (by decide) (by decide) (Nat.lt_of_lt_of_le (by decide) hN) rfl rfl rfl rfl rfl (Nat.le_of_ble_eq_true rfl) (fun rr_29 τ28 hp_30 => ?_)
      obtain ⟨hs, hr⟩ := hp_30
      replace hs := hs.symm
      subst hs
      subst hr
      refine j_iald C dX8_isShort_17 (Nat.lt_of_lt_of_le (by decide) hN) (fun _ => rfl) (by decide) (by omega) ?_
      refine j_top ((hF (nTo a l) (by omega)).trans (congrArg c4 hto)) ?_
      refine j_bipush (v := -4) C dX8_isShort_18 rfl ?_
      refine j_icmp_eq (tgt := 57) C dX8_isShort_20 rfl (fun h => absurd h (nI_neg (by omega) (by decide))) (fun _ => ?_)
      refine j_aload_n C dX8_isShort_23 rfl rfl ?_
      refine j_get C flX8_34 dX8_isShort_24 (Nat.lt_of_lt_of_le (by decide) hN) rfl rfl ?_
      refine j_aload_n C dX8_isShort_27 rfl rfl ?_
      refine j_iload_n C dX8_isShort_28 rfl rfl ?_
      refine j_calli (As := [.int (nI (l))]) (rest := [.ref (gad g (93))]) C (tX8_begin hN hI hO (l := l) (by omega)) cdX8_begin mlX8_127 dX8_isShort_29 (by decide) (by decide) (Nat.lt_of_lt_of_le (by decide) hN) rfl rfl rfl rfl rfl (Nat.le_of_ble_eq_true rfl) (fun rr_32 τ31 hp_33 => ?_)
      obtain ⟨hs, hr⟩ := hp_33
      replace hs := hs.symm
      subst hs
      subst hr
      refine j_iald C dX8_isShort_32 (Nat.lt_of_lt_of_le (by decide) hN) (fun _ => rfl) (by decide) (by omega) ?_
      refine j_top ((hF (nFr a l) (by omega)).trans (congrArg c4 hfr)) ?_
      refine j_aload_n C dX8_isShort_33 rfl rfl ?_
      refine j_get C flX8_25 dX8_isShort_34 (Nat.lt_of_lt_of_le (by decide) hN) rfl rfl ?_
      refine j_iload_n C dX8_isShort_37 rfl rfl ?_
      refine j_iald C dX8_isShort_38 (Nat.lt_of_lt_of_le (by decide) hN) (fun _ => rfl) (by decide) (by omega) ?_
      refine j_top (hW.1 (l) (by omega)) ?_
      refine j_aload_n C dX8_isShort_39 rfl rfl ?_
      refine j_get C flX8_34 dX8_isShort_40 (Nat.lt_of_lt_of_le (by decide) hN) rfl rfl ?_
      refine j_aload_n C dX8_isShort_43 rfl rfl ?_
      refine j_iload_n C dX8_isShort_44 rfl rfl ?_
      refine j_calli (As := [.int (nI (l))]) (rest := [.ref (gad g (93)), .int (nI (w (l))), .int (nI (z))]) C (tX8_end hN hI hO (l := l) (by omega)) cdX8_end mlX8_120 dX8_isShort_45 (by decide) (by decide) (Nat.lt_of_lt_of_le (by decide) hN) rfl rfl rfl rfl rfl (Nat.le_of_ble_eq_true rfl) (fun rr_35 τ34 hp_36 => ?_)
      obtain ⟨hs, hr⟩ := hp_36
      replace hs := hs.symm
      subst hs
      subst hr
      refine j_iald C dX8_isShort_48 (Nat.lt_of_lt_of_le (by decide) hN) (fun _ => rfl) (by decide) (by omega) ?_
      refine j_top ((hF (nTo a l) (by omega)).trans (congrArg c4 hto)) ?_
      refine j_iadd C dX8_isShort_49 ?_
      refine j_top (nI_add _ _) ?_
      refine j_icmpn_ne (tgt := 57) C dX8_isShort_50 rfl (by omega) (by omega) (fun h50 => ?_) (fun h50 => ?_)
      · refine j_iconst (v := nI 0) C dX8_isShort_57 rfl ?_
        refine j_retz M dX8_isShort_58 rfl ?_
        refine ⟨rfl, ?_⟩
        unfold shb
        rw [hul, hto]
        try rw [hfr]
        first | rfl | (simp [bI]; done) | (simp [bI]; omega)
      · refine j_iconst (v := nI 1) C dX8_isShort_53 rfl ?_
        refine j_goto (tgt := 58) C dX8_isShort_54 rfl ?_
        refine j_retz M dX8_isShort_58 rfl ?_
        refine ⟨rfl, ?_⟩
        have e : z = w l + v := by omega
        subst e
        unfold shb
        rw [hul, hto, hfr]
        simp [bI]
