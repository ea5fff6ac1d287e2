set_option maxHeartbeats 8000000 in
set_option maxRecDepth 100000 in
theorem whole_start {p : Program} {e : Env} {s : State} {m : MethodId} {below : List Frame} {meth : Method} {c : Code} (l : Launch) (hflags : l.flags = flags0) {b L : Nat} {xs : Nat → Int32} (hL : L ≤ 1536) (C0 : lw_At p s m meth c b L xs) : W p l e room_1 s m #[Value.ref b] below meth c s.heap [] 0 0 (lw_Z below #[Value.ref b] s) (entryFrame m ([Value.ref b] : List Value).toArray 4) := by
  obtain ⟨hx, hcb, hret, hml, hown, hts, hX, hbl, hlk, hgv⟩ := C0
  have hs := flat_of_before _ hgv
  have htg : ∀ w ∈ lw_gd, w.before #[Value.ref b] s = true := fun w hw => hts w (List.mem_filter.mp hw).1
  have tw : ∀ (i : Nat) (w : Cond), tables_1[i]? = some w → w.before #[Value.ref b] s = true := fun i w h => hts w (List.mem_append_right _ (List.mem_of_getElem? h))
  obtain ⟨A, hAe⟩ : ∃ A : Nat → Prop, A = (fun q => s.heap.size ≤ q) := ⟨_, rfl⟩
  have hA : ∀ a : Nat, a < s.heap.size → ¬ A a := fun a h1 h2 => by rw [hAe] at h2; exact absurd h1 (Nat.not_lt.mpr h2)
  have hao : va_AO "LoadWeights$Standing" s := va_AO.of (tw 219 _ (by decide +kernel))
  have haa : va_AOA .int s := va_AOA.of (tw 117 _ (by decide +kernel))
  obtain ⟨D, cA, hK⟩ := st_K htg hao haa
  obtain ⟨t0, e0, T0⟩ := st_row (f := fx_rooms) (A := A) hA (hs _ (by decide +kernel)) (hs _ (by decide +kernel)) (st_rooms hs)
  obtain ⟨t1, e1, T1⟩ := st_row (f := fx_price) (A := A) hA (hs _ (by decide +kernel)) (hs _ (by decide +kernel)) (st_price hs)
  have i0 : ∀ i : Nat, i < 1 → i = 0 := fun i hi => by omega
  obtain ⟨adK, adV, hS1, hS2⟩ := vk_Sof (N := 1) (tm := fun _ => .string "LoadWeights" 72) (len := [84]) (byt := [byt0]) (A := A) (fun i hi => by rw [i0 i hi]; decide) (fun i hi => hs _ (by decide +kernel)) (fun i hi => hs _ (by decide +kernel)) (fun i hi => hs _ (by decide +kernel)) (fun i hi => by rw [i0 i hi]; exact hs _ (by decide +kernel)) (fun i hi j hj => by rw [i0 i hi] at hj ⊢; exact st_byt hs j hj) (fun i j hi hj h => absurd (by omega : i = j) h) hA
  obtain ⟨g, hg⟩ : ∃ g : jG, g = (l, D, cA, (fun _ => 0), 0, (fun k => match k with | 0 => t0 | 1 => t1 | 2 => adK 0 | _ => adV 0)) := ⟨_, rfl⟩
  have hE : jE g A s := by
    subst hg
    exact ⟨⟨va_Zof (tw 364 _ (by decide +kernel)) (tw 5 _ (by decide +kernel)) e0 hA, T0⟩, ⟨va_Zof (tw 369 _ (by decide +kernel)) (tw 5 _ (by decide +kernel)) e1 hA, T1⟩, va_Nw.of rfl (tw 324 _ (by decide +kernel))⟩
  have hXx : eX g A s := by
    subst hg
    exact ⟨⟨va_Zof (tw 242 _ (by decide +kernel)) (tw 9 _ (by decide +kernel)) (va_eqt (hs _ (by decide +kernel))) hA, va_Zqof (tw 258 _ (by decide +kernel)) (tw 11 _ (by decide +kernel)) (hs _ (by decide +kernel)) hA, ⟨fun i hi => by rw [i0 i hi]; exact hS1.1 0 (by decide), fun i j hi hj _ => by omega⟩, vk_R.of (tw 232 _ (by decide +kernel)) (hS2 0 (by decide))⟩, ⟨va_Nw.of rfl (tw 25 _ (by decide +kernel)), va_Nw.of rfl (tw 42 _ (by decide +kernel)), va_Nw.of rfl (tw 102 _ (by decide +kernel)), va_Nw.of rfl (tw 211 _ (by decide +kernel)), va_Nw.of rfl (tw 154 _ (by decide +kernel)), va_Nw.of rfl (tw 220 _ (by decide +kernel))⟩, hao, haa⟩
  obtain ⟨κ, hκ⟩ : ∃ κ : jC, κ = (p, e, room_1, s, m, #[Value.ref b], below, meth, c, A, lw_Z below #[Value.ref b] s) := ⟨_, rfl⟩
  have hC : Cx g κ cL_law 4 RL room_1 := by
    subst hκ
    refine ⟨hx, hcb, hml, hown, htg, ?_, fun q hq => by show A q; rw [hAe]; exact hq, hE, rfl⟩
    subst hg
    exact hK
  have hXk : eX g (kA κ) (kS κ) := by subst hκ; exact hXx
  have hXs : va_X b L xs (kS κ) (kS κ).heap := by subst hκ; exact hX
  have hbs : b < (kS κ).heap.size := by subst hκ; exact hbl
  have hbA : ¬ kA κ b := by subst hκ; exact hA b hbl
  have hok : AOk1 (tx0, 0, ndC, newS ndC, []) := ⟨⟨ndC_ok, newS_ok ndC_ok, Nat.zero_le _, Nat.zero_le _, fun s hs => absurd hs List.not_mem_nil⟩, by have := ndC_n.2.1; show 1 ≤ nM ndC; omega, by have := ndC_n.2.2; show 1 ≤ nD ndC; omega⟩
  have J0 : Jw g κ 4 0 [some (.ref b), none, none, none] [] ([] ++ []) 0 0 := by
    refine jx_new (ws := []) (T := []) (kc := 0) (ks := 0) hC nwL_7 dL_law_0 (by decide) (by decide) (fun q1 => ?_)
    refine j_dup hC dL_law_3 rfl ?_
    refine jx_init (eX_ok g) (kc := 1) (ks := 10) (n := 0) (As := []) (rest := [.ref q1]) hC hXk (tX7_init (g := g) (a := q1)) cdX7_init miL_9 rfl imX7_init iniX7 ⟨by decide +kernel, by decide +kernel, by decide +kernel⟩ dL_law_4 (by decide) (by decide) rfl rfl (Nat.le_of_ble_eq_true rfl) (fun w' hw' => ?_)
    obtain ⟨r, σ1, hr0, rfl, hC1⟩ := hw'
    refine j_astore_n (L' := [some (.ref b), some (.ref q1), none, none]) hC dL_law_7 rfl (by decide) rfl ?_
    refine jx_eq (ws' := Wd (g84 g r) σ1 ++ []) (List.append_nil _).symm ?_
    refine jx_new (ws := Wd (g84 g r) σ1) (T := []) (kc := 84) (ks := 931) hC nwL_10 dL_law_8 (by decide) (by decide) (fun q2 => ?_)
    refine j_dup hC dL_law_11 rfl ?_
    have hM8 : MX g (eX g) yX8_init cX8_init 1 none rmX8_init [.ref q2] (Wd (g84 g r) σ1 ++ ([] ++ [(q2, .inr (8, [.null, .int 0, .int 0, .null, .null, .int 0, .int 0, .int 0, .null, .null, .int 0, .int 0, .int 0, .null, .null, .int 0, .int 0, .null, .null, .null, .null, .null, .int 0, .int 0, .int 0, .int 0]))])) (fun _ w' => ∃ (r2 : Nat → Nat) (σ' : Sg), r2 0 = q2 ∧ w' = Wd (g97 (g84 g r) r2) σ' ∧ RI σ' (tx0, 0, ndC, newS ndC, []) ∧ ∀ j n, j < 84 → σ' j n = σ1 j n) := by
      intro sz
      exact tX8_init (g := g84 g r) (E := eX g) rfl (σ := σ1) (a := q2) tx0 sz
    refine jx_init (g := g) (eX_ok g) (kc := 85) (ks := 957) (n := 0) (As := []) (rest := [.ref q2]) hC hXk hM8 cdX8_init miL_12 rfl imX8_init iniX8 ⟨by decide +kernel, by decide +kernel, by decide +kernel⟩ dL_law_12 (by decide) (by decide) rfl rfl (Nat.le_of_ble_eq_true rfl) (fun w' hw' => ?_)
    obtain ⟨r2, σ2, hr2, rfl, hR2, hf2⟩ := hw'
    subst hr0
    subst hr2
    refine j_astore_n (L' := [some (.ref b), some (.ref (r 0)), some (.ref (r2 0)), none]) hC dL_law_15 rfl (by decide) rfl ?_
    refine j_iconst (v := nI 0) hC dL_law_16 rfl ?_
    refine j_istore_n (L' := [some (.ref b), some (.ref (r 0)), some (.ref (r2 0)), some (.int (nI 0))]) hC dL_law_17 rfl (by decide) rfl ?_
    refine law_loop (g := g97 (g84 g r) r2) rfl hC hXs hbs hbA hL (fun σ i => ?_) (L + 3 - 0) 0 σ2 (tx0, 0, ndC, newS ndC, []) rfl (by omega) (hC1.kept (fun j n h => hf2 j n (by omega))) hR2 hok
    refine j_iconst (v := nI 1) (g := g97 (g84 g r) r2) hC dL_law_570 rfl ?_
    intro ls H locs hjl hP hD hS
    subst hκ
    subst hg
    subst hAe
    refine va_forget (fun q hq => hS.2.2 q hq) ?_
    refine W.widen (k := 600000) (n := 7302250) (Nat.le_of_ble_eq_true rfl) (Nat.le_of_ble_eq_true rfl) ?_
    exact lw_ret hx hcb hret hlk dL_law_571
  rw [lg_entry_eq]
  have hl := lv_entry ([Value.ref b] : List Value) (n := 4) (Nat.le_of_ble_eq_true rfl)
  subst hκ
  subst hg
  refine J0 _ s.heap [] ⟨hl, fun j v hj => ?_⟩ (fun k q h => ?_) ⟨fun i j p q h => ?_, fun k q h => ?_⟩ va_S.rf
  · rcases j with _ | _ | _ | _ | j
    · cases hj
      rfl
    · cases hj
    · cases hj
    · cases hj
    · cases hj
  · cases h
  · cases h
  · cases h
