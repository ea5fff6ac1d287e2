theorem tX0_measureF {g : jG} (hN : 84 ≤ gN g) {σ : Sg} {i : Nat} {a : ND} {w : Nat → Nat} {u : Nat → Bool} (hi : i < 9) (hI : NetI σ 3 a) (hO : NOk a) (hW : StW σ i (nM a) w u) (hw : WOk (nM a) w) {t : Nat} (ht : t < nN a) : MS g yX0_measure cX0_measure 9 none rmX0_measure [.ref (gad g (23)), .ref (gad g (48 + 4 * i)), .int (nI (t))] σ (fun _ σ' => (∀ j n, ¬ (j = 25 + 1 * t) → σ' j n = σ j n) ∧ ∀ x, x < nN a → σ' (25 + 1 * t) x = c1 (FAR a w u t x)) :=
  MS_post (tX0_measure hN hi hI hO hW hw ht) (fun x σ' h => by
    obtain ⟨h1, R, h2, h3, h4⟩ := h
    refine ⟨h1, fun x hx => ?_⟩
    rw [h4 x hx, far_conv hO hw ht h2 h3])
theorem StW.kept {σ σ' : Sg} {i m : Nat} {w : Nat → Nat} {u : Nat → Bool} (h : StW σ i m w u) (hk : ∀ j n, 48 ≤ j → σ' j n = σ j n) : StW σ' i m w u := fun l hl => ⟨(hk _ _ (by omega)).trans (h l hl).1, (hk _ _ (by omega)).trans (h l hl).2⟩
/-- COST of a LINK of ROOM R by its LOAD -/
def lcN (R L : Nat) : Nat :=
  let p0 := min L (4 * R)
  let r1 := L - p0
  let p1 := min r1 (4 * R)
  let r2 := r1 - p1
  let p2 := min r2 (3 * R)
  let r3 := r2 - p2
  let p3 := min r3 (1 * R)
  let r4 := r3 - p3
  0 + 1 * p0 + 3 * p1 + 10 * p2 + 70 * p3 + 500 * r4
set_option maxHeartbeats 4000000 in
set_option maxRecDepth 100000 in
theorem tX0_linkCost {g : jG} (hN : 84 ≤ gN g) {σ : Sg} {a : ND} (hI : NetI σ 3 a) (hO : NOk a) {l L : Nat} (hl : l < nM a) (hL : σ 39 l = nI L) (hb : L < 2 ^ 28) : MS g yX0_linkCost cX0_linkCost 6 (some .int) rmX0_linkCost [.ref (gad g (23)), .int (nI (l))] σ (fun r σ' => σ' = σ ∧ r = nI (lcN (nRm a l) L)) := by
  refine MJ_of (by decide) (Nat.le_of_ble_eq_true rfl) (List.forall_mem_cons.mpr ⟨rfl, List.forall_mem_cons.mpr ⟨rfl, fun _ h => absurd h List.not_mem_nil⟩⟩) ?_
  intro κ M
  have C := M.1
  show J g κ 6 0 [some (.ref (gad g (23))), some (.int (nI (l))), none, none, none, none] [] σ
  have hn7 := hO.2.1
  have hm12 := hO.2.2.1
  have hd6 := hO.2.2.2.1
  obtain ⟨hb1, hb2, hb3, hb4⟩ := hO.2.2.2.2.1 l hl
  refine j_aload_n C dX0_linkCost_0 rfl rfl ?_
  refine j_get C flX0_19 dX0_linkCost_1 (Nat.lt_of_lt_of_le (by decide) hN) rfl rfl ?_
  refine j_iload_n C dX0_linkCost_4 rfl rfl ?_
  refine j_iald C dX0_linkCost_5 (Nat.lt_of_lt_of_le (by decide) hN) (fun _ => rfl) (by decide) (by omega) ?_
  refine j_top (hL) ?_
  refine j_istore_n (L' := [some (.ref (gad g (23))), some (.int (nI (l))), some (.int (nI (L))), none, none, none]) C dX0_linkCost_6 rfl (by decide) rfl ?_
  refine j_iconst (v := nI 0) C dX0_linkCost_7 rfl ?_
  refine j_istore_n (L' := [some (.ref (gad g (23))), some (.int (nI (l))), some (.int (nI (L))), some (.int (nI (0))), none, none]) C dX0_linkCost_8 rfl (by decide) rfl ?_
  refine j_iconst (v := nI 0) C dX0_linkCost_9 rfl ?_
  refine j_istore (L' := [some (.ref (gad g (23))), some (.int (nI (l))), some (.int (nI (L))), some (.int (nI (0))), some (.int (nI (0))), none]) C dX0_linkCost_10 (by decide) rfl ?_
  refine j_iload C dX0_linkCost_12 rfl ?_
  refine j_rooms C dX0_linkCost_14 ?_
  refine j_roomsL C dX0_linkCost_17 ?_
  refine j_icmpn_ge (tgt := 66) C dX0_linkCost_18 rfl (by omega) (by omega) (fun h => absurd h (by decide)) (fun _ => ?_)
  refine j_iload_n C dX0_linkCost_21 rfl rfl ?_
  refine j_rooms C dX0_linkCost_22 ?_
  refine j_iload C dX0_linkCost_25 rfl ?_
  refine j_roomsI C dX0_linkCost_27 (by omega) ?_
  refine j_top (y := nI 4) rfl ?_
  refine j_aload_n C dX0_linkCost_28 rfl rfl ?_
  refine j_get C flX0_36 dX0_linkCost_29 (Nat.lt_of_lt_of_le (by decide) hN) rfl rfl ?_
  refine j_get C flX0_90 dX0_linkCost_32 (Nat.lt_of_lt_of_le (by decide) hN) rfl rfl ?_
  refine j_iload_n C dX0_linkCost_35 rfl rfl ?_
  refine j_iald C dX0_linkCost_36 (Nat.lt_of_lt_of_le (by decide) hN) (fun _ => rfl) (by decide) (by omega) ?_
  refine j_top (hI.rm (l := l) (by omega)) ?_
  refine j_imul C dX0_linkCost_37 ?_
  refine j_top (pk_mul _ _) ?_
  refine j_min C mmX0_96 dX0_linkCost_38 (by decide) (Nat.le_of_ble_eq_true rfl) ?_
  refine j_top (nI_min (by omega) (by omega)) ?_
  refine j_istore (L' := [some (.ref (gad g (23))), some (.int (nI (l))), some (.int (nI (L))), some (.int (nI (0))), some (.int (nI (0))), some (.int (nI (min (L) ((4 * nRm a (l))))))]) C dX0_linkCost_41 (by decide) rfl ?_
  refine j_iload_n C dX0_linkCost_43 rfl rfl ?_
  refine j_price C dX0_linkCost_44 ?_
  refine j_iload C dX0_linkCost_47 rfl ?_
  refine j_priceI C dX0_linkCost_49 (by omega) ?_
  refine j_top (y := nI 1) rfl ?_
  refine j_iload C dX0_linkCost_50 rfl ?_
  refine j_imul C dX0_linkCost_52 ?_
  refine j_top (pk_mul _ _) ?_
  refine j_iadd C dX0_linkCost_53 ?_
  refine j_top (nI_add _ _) ?_
  refine j_istore_n (L' := [some (.ref (gad g (23))), some (.int (nI (l))), some (.int (nI (L))), some (.int (nI ((0 + (1 * min (L) ((4 * nRm a (l)))))))), some (.int (nI (0))), some (.int (nI (min (L) ((4 * nRm a (l))))))]) C dX0_linkCost_54 rfl (by decide) rfl ?_
  refine j_iload_n C dX0_linkCost_55 rfl rfl ?_
  refine j_iload C dX0_linkCost_56 rfl ?_
  refine j_isub C dX0_linkCost_58 ?_
  refine j_top (pk_sub (Nat.min_le_left _ _)) ?_
  refine j_istore_n (L' := [some (.ref (gad g (23))), some (.int (nI (l))), some (.int (nI ((L) - (min (L) ((4 * nRm a (l))))))), some (.int (nI ((0 + (1 * min (L) ((4 * nRm a (l)))))))), some (.int (nI (0))), some (.int (nI (min (L) ((4 * nRm a (l))))))]) C dX0_linkCost_59 rfl (by decide) rfl ?_
  refine j_iinc (L' := [some (.ref (gad g (23))), some (.int (nI (l))), some (.int (nI ((L) - (min (L) ((4 * nRm a (l))))))), some (.int (nI ((0 + (1 * min (L) ((4 * nRm a (l)))))))), some (.int (nI (1))), some (.int (nI (min (L) ((4 * nRm a (l))))))]) C dX0_linkCost_60 rfl (nI_inc _) (by decide) rfl ?_
  refine j_goto (tgt := 12) C dX0_linkCost_63 rfl ?_
  refine j_iload C dX0_linkCost_12 rfl ?_
  refine j_rooms C dX0_linkCost_14 ?_
  refine j_roomsL C dX0_linkCost_17 ?_
  refine j_icmpn_ge (tgt := 66) C dX0_linkCost_18 rfl (by omega) (by omega) (fun h => absurd h (by decide)) (fun _ => ?_)
  refine j_iload_n C dX0_linkCost_21 rfl rfl ?_
  refine j_rooms C dX0_linkCost_22 ?_
  refine j_iload C dX0_linkCost_25 rfl ?_
  refine j_roomsI C dX0_linkCost_27 (by omega) ?_
  refine j_top (y := nI 4) rfl ?_
  refine j_aload_n C dX0_linkCost_28 rfl rfl ?_
  refine j_get C flX0_36 dX0_linkCost_29 (Nat.lt_of_lt_of_le (by decide) hN) rfl rfl ?_
  refine j_get C flX0_90 dX0_linkCost_32 (Nat.lt_of_lt_of_le (by decide) hN) rfl rfl ?_
  refine j_iload_n C dX0_linkCost_35 rfl rfl ?_
  refine j_iald C dX0_linkCost_36 (Nat.lt_of_lt_of_le (by decide) hN) (fun _ => rfl) (by decide) (by omega) ?_
  refine j_top (hI.rm (l := l) (by omega)) ?_
  refine j_imul C dX0_linkCost_37 ?_
  refine j_top (pk_mul _ _) ?_
  refine j_min C mmX0_96 dX0_linkCost_38 (by decide) (Nat.le_of_ble_eq_true rfl) ?_
  refine j_top (nI_min (by omega) (by omega)) ?_
  refine j_istore (L' := [some (.ref (gad g (23))), some (.int (nI (l))), some (.int (nI ((L) - (min (L) ((4 * nRm a (l))))))), some (.int (nI ((0 + (1 * min (L) ((4 * nRm a (l)))))))), some (.int (nI (1))), some (.int (nI (min ((L) - (min (L) ((4 * nRm a (l))))) ((4 * nRm a (l))))))]) C dX0_linkCost_41 (by decide) rfl ?_
  refine j_iload_n C dX0_linkCost_43 rfl rfl ?_
  refine j_price C dX0_linkCost_44 ?_
  refine j_iload C dX0_linkCost_47 rfl ?_
  refine j_priceI C dX0_linkCost_49 (by omega) ?_
  refine j_top (y := nI 3) rfl ?_
  refine j_iload C dX0_linkCost_50 rfl ?_
  refine j_imul C dX0_linkCost_52 ?_
  refine j_top (pk_mul _ _) ?_
  refine j_iadd C dX0_linkCost_53 ?_
  refine j_top (nI_add _ _) ?_
  refine j_istore_n (L' := [some (.ref (gad g (23))), some (.int (nI (l))), some (.int (nI ((L) - (min (L) ((4 * nRm a (l))))))), some (.int (nI (((0 + (1 * min (L) ((4 * nRm a (l))))) + (3 * min ((L) - (min (L) ((4 * nRm a (l))))) ((4 * nRm a (l)))))))), some (.int (nI (1))), some (.int (nI (min ((L) - (min (L) ((4 * nRm a (l))))) ((4 * nRm a (l))))))]) C dX0_linkCost_54 rfl (by decide) rfl ?_
  refine j_iload_n C dX0_linkCost_55 rfl rfl ?_
  refine j_iload C dX0_linkCost_56 rfl ?_
  refine j_isub C dX0_linkCost_58 ?_
  refine j_top (pk_sub (Nat.min_le_left _ _)) ?_
  refine j_istore_n (L' := [some (.ref (gad g (23))), some (.int (nI (l))), some (.int (nI (((L) - (min (L) ((4 * nRm a (l))))) - (min ((L) - (min (L) ((4 * nRm a (l))))) ((4 * nRm a (l))))))), some (.int (nI (((0 + (1 * min (L) ((4 * nRm a (l))))) + (3 * min ((L) - (min (L) ((4 * nRm a (l))))) ((4 * nRm a (l)))))))), some (.int (nI (1))), some (.int (nI (min ((L) - (min (L) ((4 * nRm a (l))))) ((4 * nRm a (l))))))]) C dX0_linkCost_59 rfl (by decide) rfl ?_
  refine j_iinc (L' := [some (.ref (gad g (23))), some (.int (nI (l))), some (.int (nI (((L) - (min (L) ((4 * nRm a (l))))) - (min ((L) - (min (L) ((4 * nRm a (l))))) ((4 * nRm a (l))))))), some (.int (nI (((0 + (1 * min (L) ((4 * nRm a (l))))) + (3 * min ((L) - (min (L) ((4 * nRm a (l))))) ((4 * nRm a (l)))))))), some (.int (nI (2))), some (.int (nI (min ((L) - (min (L) ((4 * nRm a (l))))) ((4 * nRm a (l))))))]) C dX0_linkCost_60 rfl (nI_inc _) (by decide) rfl ?_
  refine j_goto (tgt := 12) C dX0_linkCost_63 rfl ?_
  refine j_iload C dX0_linkCost_12 rfl ?_
  refine j_rooms C dX0_linkCost_14 ?_
  refine j_roomsL C dX0_linkCost_17 ?_
  refine j_icmpn_ge (tgt := 66) C dX0_linkCost_18 rfl (by omega) (by omega) (fun h => absurd h (by decide)) (fun _ => ?_)
  refine j_iload_n C dX0_linkCost_21 rfl rfl ?_
  refine j_rooms C dX0_linkCost_22 ?_
  refine j_iload C dX0_linkCost_25 rfl ?_
  refine j_roomsI C dX0_linkCost_27 (by omega) ?_
  refine j_top (y := nI 3) rfl ?_
  refine j_aload_n C dX0_linkCost_28 rfl rfl ?_
  refine j_get C flX0_36 dX0_linkCost_29 (Nat.lt_of_lt_of_le (by decide) hN) rfl rfl ?_
  refine j_get C flX0_90 dX0_linkCost_32 (Nat.lt_of_lt_of_le (by decide) hN) rfl rfl ?_
  refine j_iload_n C dX0_linkCost_35 rfl rfl ?_
  refine j_iald C dX0_linkCost_36 (Nat.lt_of_lt_of_le (by decide) hN) (fun _ => rfl) (by decide) (by omega) ?_
  refine j_top (hI.rm (l := l) (by omega)) ?_
  refine j_imul C dX0_linkCost_37 ?_
  refine j_top (pk_mul _ _) ?_
  refine j_min C mmX0_96 dX0_linkCost_38 (by decide) (Nat.le_of_ble_eq_true rfl) ?_
  refine j_top (nI_min (by omega) (by omega)) ?_
  refine j_istore (L' := [some (.ref (gad g (23))), some (.int (nI (l))), some (.int (nI (((L) - (min (L) ((4 * nRm a (l))))) - (min ((L) - (min (L) ((4 * nRm a (l))))) ((4 * nRm a (l))))))), some (.int (nI (((0 + (1 * min (L) ((4 * nRm a (l))))) + (3 * min ((L) - (min (L) ((4 * nRm a (l))))) ((4 * nRm a (l)))))))), some (.int (nI (2))), some (.int (nI (min (((L) - (min (L) ((4 * nRm a (l))))) - (min ((L) - (min (L) ((4 * nRm a (l))))) ((4 * nRm a (l))))) ((3 * nRm a (l))))))]) C dX0_linkCost_41 (by decide) rfl ?_
  refine j_iload_n C dX0_linkCost_43 rfl rfl ?_
  refine j_price C dX0_linkCost_44 ?_
  refine j_iload C dX0_linkCost_47 rfl ?_
  refine j_priceI C dX0_linkCost_49 (by omega) ?_
  refine j_top (y := nI 10) rfl ?_
  refine j_iload C dX0_linkCost_50 rfl ?_
  refine j_imul C dX0_linkCost_52 ?_
  refine j_top (pk_mul _ _) ?_
  refine j_iadd C dX0_linkCost_53 ?_
  refine j_top (nI_add _ _) ?_
  refine j_istore_n (L' := [some (.ref (gad g (23))), some (.int (nI (l))), some (.int (nI (((L) - (min (L) ((4 * nRm a (l))))) - (min ((L) - (min (L) ((4 * nRm a (l))))) ((4 * nRm a (l))))))), some (.int (nI ((((0 + (1 * min (L) ((4 * nRm a (l))))) + (3 * min ((L) - (min (L) ((4 * nRm a (l))))) ((4 * nRm a (l))))) + (10 * min (((L) - (min (L) ((4 * nRm a (l))))) - (min ((L) - (min (L) ((4 * nRm a (l))))) ((4 * nRm a (l))))) ((3 * nRm a (l)))))))), some (.int (nI (2))), some (.int (nI (min (((L) - (min (L) ((4 * nRm a (l))))) - (min ((L) - (min (L) ((4 * nRm a (l))))) ((4 * nRm a (l))))) ((3 * nRm a (l))))))]) C dX0_linkCost_54 rfl (by decide) rfl ?_
  refine j_iload_n C dX0_linkCost_55 rfl rfl ?_
  refine j_iload C dX0_linkCost_56 rfl ?_
  refine j_isub C dX0_linkCost_58 ?_
  refine j_top (pk_sub (Nat.min_le_left _ _)) ?_
  refine j_istore_n (L' := [some (.ref (gad g (23))), some (.int (nI (l))), some (.int (nI ((((L) - (min (L) ((4 * nRm a (l))))) - (min ((L) - (min (L) ((4 * nRm a (l))))) ((4 * nRm a (l))))) - (min (((L) - (min (L) ((4 * nRm a (l))))) - (min ((L) - (min (L) ((4 * nRm a (l))))) ((4 * nRm a (l))))) ((3 * nRm a (l))))))), some (.int (nI ((((0 + (1 * min (L) ((4 * nRm a (l))))) + (3 * min ((L) - (min (L) ((4 * nRm a (l))))) ((4 * nRm a (l))))) + (10 * min (((L) - (min (L) ((4 * nRm a (l))))) - (min ((L) - (min (L) ((4 * nRm a (l))))) ((4 * nRm a (l))))) ((3 * nRm a (l)))))))), some (.int (nI (2))), some (.int (nI (min (((L) - (min (L) ((4 * nRm a (l))))) - (min ((L) - (min (L) ((4 * nRm a (l))))) ((4 * nRm a (l))))) ((3 * nRm a (l))))))]) C dX0_linkCost_59 rfl (by decide) rfl ?_
  refine j_iinc (L' := [some (.ref (gad g (23))), some (.int (nI (l))), some (.int (nI ((((L) - (min (L) ((4 * nRm a (l))))) - (min ((L) - (min (L) ((4 * nRm a (l))))) ((4 * nRm a (l))))) - (min (((L) - (min (L) ((4 * nRm a (l))))) - (min ((L) - (min (L) ((4 * nRm a (l))))) ((4 * nRm a (l))))) ((3 * nRm a (l))))))), some (.int (nI ((((0 + (1 * min (L) ((4 * nRm a (l))))) + (3 * min ((L) - (min (L) ((4 * nRm a (l))))) ((4 * nRm a (l))))) + (10 * min (((L) - (min (L) ((4 * nRm a (l))))) - (min ((L) - (min (L) ((4 * nRm a (l))))) ((4 * nRm a (l))))) ((3 * nRm a (l)))))))), some (.int (nI (3))), some (.int (nI (min (((L) - (min (L) ((4 * nRm a (l))))) - (min ((L) - (min (L) ((4 * nRm a (l))))) ((4 * nRm a (l))))) ((3 * nRm a (l))))))]) C dX0_linkCost_60 rfl (nI_inc _) (by decide) rfl ?_
  refine j_goto (tgt := 12) C dX0_linkCost_63 rfl ?_
  refine j_iload C dX0_linkCost_12 rfl ?_
  refine j_rooms C dX0_linkCost_14 ?_
  refine j_roomsL C dX0_linkCost_17 ?_
  refine j_icmpn_ge (tgt := 66) C dX0_linkCost_18 rfl (by omega) (by omega) (fun h => absurd h (by decide)) (fun _ => ?_)
  refine j_iload_n C dX0_linkCost_21 rfl rfl ?_
  refine j_rooms C dX0_linkCost_22 ?_
  refine j_iload C dX0_linkCost_25 rfl ?_
  refine j_roomsI C dX0_linkCost_27 (by omega) ?_
  refine j_top (y := nI 1) rfl ?_
  refine j_aload_n C dX0_linkCost_28 rfl rfl ?_
  refine j_get C flX0_36 dX0_linkCost_29 (Nat.lt_of_lt_of_le (by decide) hN) rfl rfl ?_
  refine j_get C flX0_90 dX0_linkCost_32 (Nat.lt_of_lt_of_le (by decide) hN) rfl rfl ?_
  refine j_iload_n C dX0_linkCost_35 rfl rfl ?_
  refine j_iald C dX0_linkCost_36 (Nat.lt_of_lt_of_le (by decide) hN) (fun _ => rfl) (by decide) (by omega) ?_
  refine j_top (hI.rm (l := l) (by omega)) ?_
  refine j_imul C dX0_linkCost_37 ?_
  refine j_top (pk_mul _ _) ?_
  refine j_min C mmX0_96 dX0_linkCost_38 (by decide) (Nat.le_of_ble_eq_true rfl) ?_
  refine j_top (nI_min (by omega) (by omega)) ?_
  refine j_istore (L' := [some (.ref (gad g (23))), some (.int (nI (l))), some (.int (nI ((((L) - (min (L) ((4 * nRm a (l))))) - (min ((L) - (min (L) ((4 * nRm a (l))))) ((4 * nRm a (l))))) - (min (((L) - (min (L) ((4 * nRm a (l))))) - (min ((L) - (min (L) ((4 * nRm a (l))))) ((4 * nRm a (l))))) ((3 * nRm a (l))))))), some (.int (nI ((((0 + (1 * min (L) ((4 * nRm a (l))))) + (3 * min ((L) - (min (L) ((4 * nRm a (l))))) ((4 * nRm a (l))))) + (10 * min (((L) - (min (L) ((4 * nRm a (l))))) - (min ((L) - (min (L) ((4 * nRm a (l))))) ((4 * nRm a (l))))) ((3 * nRm a (l)))))))), some (.int (nI (3))), some (.int (nI (min ((((L) - (min (L) ((4 * nRm a (l))))) - (min ((L) - (min (L) ((4 * nRm a (l))))) ((4 * nRm a (l))))) - (min (((L) - (min (L) ((4 * nRm a (l))))) - (min ((L) - (min (L) ((4 * nRm a (l))))) ((4 * nRm a (l))))) ((3 * nRm a (l))))) ((1 * nRm a (l))))))]) C dX0_linkCost_41 (by decide) rfl ?_
  refine j_iload_n C dX0_linkCost_43 rfl rfl ?_
  refine j_price C dX0_linkCost_44 ?_
  refine j_iload C dX0_linkCost_47 rfl ?_
  refine j_priceI C dX0_linkCost_49 (by omega) ?_
  refine j_top (y := nI 70) rfl ?_
  refine j_iload C dX0_linkCost_50 rfl ?_
  refine j_imul C dX0_linkCost_52 ?_
  refine j_top (pk_mul _ _) ?_
  refine j_iadd C dX0_linkCost_53 ?_
  refine j_top (nI_add _ _) ?_
  refine j_istore_n (L' := [some (.ref (gad g (23))), some (.int (nI (l))), some (.int (nI ((((L) - (min (L) ((4 * nRm a (l))))) - (min ((L) - (min (L) ((4 * nRm a (l))))) ((4 * nRm a (l))))) - (min (((L) - (min (L) ((4 * nRm a (l))))) - (min ((L) - (min (L) ((4 * nRm a (l))))) ((4 * nRm a (l))))) ((3 * nRm a (l))))))), some (.int (nI (((((0 + (1 * min (L) ((4 * nRm a (l))))) + (3 * min ((L) - (min (L) ((4 * nRm a (l))))) ((4 * nRm a (l))))) + (10 * min (((L) - (min (L) ((4 * nRm a (l))))) - (min ((L) - (min (L) ((4 * nRm a (l))))) ((4 * nRm a (l))))) ((3 * nRm a (l))))) + (70 * min ((((L) - (min (L) ((4 * nRm a (l))))) - (min ((L) - (min (L) ((4 * nRm a (l))))) ((4 * nRm a (l))))) - (min (((L) - (min (L) ((4 * nRm a (l))))) - (min ((L) - (min (L) ((4 * nRm a (l))))) ((4 * nRm a (l))))) ((3 * nRm a (l))))) ((1 * nRm a (l)))))))), some (.int (nI (3))), some (.int (nI (min ((((L) - (min (L) ((4 * nRm a (l))))) - (min ((L) - (min (L) ((4 * nRm a (l))))) ((4 * nRm a (l))))) - (min (((L) - (min (L) ((4 * nRm a (l))))) - (min ((L) - (min (L) ((4 * nRm a (l))))) ((4 * nRm a (l))))) ((3 * nRm a (l))))) ((1 * nRm a (l))))))]) C dX0_linkCost_54 rfl (by decide) rfl ?_
  refine j_iload_n C dX0_linkCost_55 rfl rfl ?_
  refine j_iload C dX0_linkCost_56 rfl ?_
  refine j_isub C dX0_linkCost_58 ?_
  refine j_top (pk_sub (Nat.min_le_left _ _)) ?_
  refine j_istore_n (L' := [some (.ref (gad g (23))), some (.int (nI (l))), some (.int (nI (((((L) - (min (L) ((4 * nRm a (l))))) - (min ((L) - (min (L) ((4 * nRm a (l))))) ((4 * nRm a (l))))) - (min (((L) - (min (L) ((4 * nRm a (l))))) - (min ((L) - (min (L) ((4 * nRm a (l))))) ((4 * nRm a (l))))) ((3 * nRm a (l))))) - (min ((((L) - (min (L) ((4 * nRm a (l))))) - (min ((L) - (min (L) ((4 * nRm a (l))))) ((4 * nRm a (l))))) - (min (((L) - (min (L) ((4 * nRm a (l))))) - (min ((L) - (min (L) ((4 * nRm a (l))))) ((4 * nRm a (l))))) ((3 * nRm a (l))))) ((1 * nRm a (l))))))), some (.int (nI (((((0 + (1 * min (L) ((4 * nRm a (l))))) + (3 * min ((L) - (min (L) ((4 * nRm a (l))))) ((4 * nRm a (l))))) + (10 * min (((L) - (min (L) ((4 * nRm a (l))))) - (min ((L) - (min (L) ((4 * nRm a (l))))) ((4 * nRm a (l))))) ((3 * nRm a (l))))) + (70 * min ((((L) - (min (L) ((4 * nRm a (l))))) - (min ((L) - (min (L) ((4 * nRm a (l))))) ((4 * nRm a (l))))) - (min (((L) - (min (L) ((4 * nRm a (l))))) - (min ((L) - (min (L) ((4 * nRm a (l))))) ((4 * nRm a (l))))) ((3 * nRm a (l))))) ((1 * nRm a (l)))))))), some (.int (nI (3))), some (.int (nI (min ((((L) - (min (L) ((4 * nRm a (l))))) - (min ((L) - (min (L) ((4 * nRm a (l))))) ((4 * nRm a (l))))) - (min (((L) - (min (L) ((4 * nRm a (l))))) - (min ((L) - (min (L) ((4 * nRm a (l))))) ((4 * nRm a (l))))) ((3 * nRm a (l))))) ((1 * nRm a (l))))))]) C dX0_linkCost_59 rfl (by decide) rfl ?_
  refine j_iinc (L' := [some (.ref (gad g (23))), some (.int (nI (l))), some (.int (nI (((((L) - (min (L) ((4 * nRm a (l))))) - (min ((L) - (min (L) ((4 * nRm a (l))))) ((4 * nRm a (l))))) - (min (((L) - (min (L) ((4 * nRm a (l))))) - (min ((L) - (min (L) ((4 * nRm a (l))))) ((4 * nRm a (l))))) ((3 * nRm a (l))))) - (min ((((L) - (min (L) ((4 * nRm a (l))))) - (min ((L) - (min (L) ((4 * nRm a (l))))) ((4 * nRm a (l))))) - (min (((L) - (min (L) ((4 * nRm a (l))))) - (min ((L) - (min (L) ((4 * nRm a (l))))) ((4 * nRm a (l))))) ((3 * nRm a (l))))) ((1 * nRm a (l))))))), some (.int (nI (((((0 + (1 * min (L) ((4 * nRm a (l))))) + (3 * min ((L) - (min (L) ((4 * nRm a (l))))) ((4 * nRm a (l))))) + (10 * min (((L) - (min (L) ((4 * nRm a (l))))) - (min ((L) - (min (L) ((4 * nRm a (l))))) ((4 * nRm a (l))))) ((3 * nRm a (l))))) + (70 * min ((((L) - (min (L) ((4 * nRm a (l))))) - (min ((L) - (min (L) ((4 * nRm a (l))))) ((4 * nRm a (l))))) - (min (((L) - (min (L) ((4 * nRm a (l))))) - (min ((L) - (min (L) ((4 * nRm a (l))))) ((4 * nRm a (l))))) ((3 * nRm a (l))))) ((1 * nRm a (l)))))))), some (.int (nI (4))), some (.int (nI (min ((((L) - (min (L) ((4 * nRm a (l))))) - (min ((L) - (min (L) ((4 * nRm a (l))))) ((4 * nRm a (l))))) - (min (((L) - (min (L) ((4 * nRm a (l))))) - (min ((L) - (min (L) ((4 * nRm a (l))))) ((4 * nRm a (l))))) ((3 * nRm a (l))))) ((1 * nRm a (l))))))]) C dX0_linkCost_60 rfl (nI_inc _) (by decide) rfl ?_
  refine j_goto (tgt := 12) C dX0_linkCost_63 rfl ?_
  refine j_iload C dX0_linkCost_12 rfl ?_
  refine j_rooms C dX0_linkCost_14 ?_
  refine j_roomsL C dX0_linkCost_17 ?_
  refine j_icmpn_ge (tgt := 66) C dX0_linkCost_18 rfl (by omega) (by omega) (fun _ => ?_) (fun h => absurd h (by decide))
  refine j_iload_n C dX0_linkCost_66 rfl rfl ?_
  refine j_sipush (v := nI 500) C dX0_linkCost_67 rfl ?_
  refine j_iload_n C dX0_linkCost_70 rfl rfl ?_
  refine j_imul C dX0_linkCost_71 ?_
  refine j_top (pk_mul _ _) ?_
  refine j_iadd C dX0_linkCost_72 ?_
  refine j_top (nI_add _ _) ?_
  refine j_ret M dX0_linkCost_73 ?_
  exact ⟨rfl, rfl⟩
set_option maxHeartbeats 4000000 in
set_option maxRecDepth 100000 in
theorem tX0_lostDemands {g : jG} (hN : 84 ≤ gN g) {σ : Sg} {a : ND} (hI : NetI σ 3 a) (hO : NOk a) {lo : Nat → Bool} (hlo : ∀ d, d < nD a → σ 40 d = bI (lo d)) : MS g yX0_lostDemands cX0_lostDemands 3 (some .int) rmX0_lostDemands [.ref (gad g (23))] σ (fun r σ' => σ' = σ ∧ r = nI (cnt lo (nD a))) := by
  refine MJ_of (by decide) (Nat.le_of_ble_eq_true rfl) (List.forall_mem_cons.mpr ⟨rfl, fun _ h => absurd h List.not_mem_nil⟩) ?_
  intro κ M
  have C := M.1
  show J g κ 3 0 [some (.ref (gad g (23))), none, none] [] σ
  have hn7 := hO.2.1
  have hm12 := hO.2.2.1
  have hd6 := hO.2.2.2.1
  have lp : ∀ (k : Nat) (d : Nat), nD a - d = k → d ≤ nD a → J g κ 3 4 [some (.ref (gad g (23))), some (.int (nI (cnt lo d))), some (.int (nI (d)))] [] σ := by
    intro k
    induction k using Nat.strongRecOn with
    | _ k ih =>
      intro d hk hl
      refine j_iload_n C dX0_lostDemands_4 rfl rfl ?_
      refine j_aload_n C dX0_lostDemands_5 rfl rfl ?_
      refine j_get C flX0_36 dX0_lostDemands_6 (Nat.lt_of_lt_of_le (by decide) hN) rfl rfl ?_
      refine j_get C flX0_56 dX0_lostDemands_9 (Nat.lt_of_lt_of_le (by decide) hN) rfl rfl ?_
      refine j_top (hI.d) ?_
      refine j_icmpn_ge (tgt := 33) C dX0_lostDemands_12 rfl (by omega) (by omega) (fun h12 => ?_) (fun h12 => ?_)
      · refine j_iload_n C dX0_lostDemands_33 rfl rfl ?_
        refine j_ret M dX0_lostDemands_34 ?_
        obtain rfl : d = nD a := by omega
        exact ⟨rfl, rfl⟩
      · have hc := cnt_le lo d
        rcases hld : lo d with _ | _
        · refine j_aload_n C dX0_lostDemands_15 rfl rfl ?_
          refine j_get C flX0_23 dX0_lostDemands_16 (Nat.lt_of_lt_of_le (by decide) hN) rfl rfl ?_
          refine j_iload_n C dX0_lostDemands_19 rfl rfl ?_
          refine j_zald C dX0_lostDemands_20 (Nat.lt_of_lt_of_le (by decide) hN) (fun _ => rfl) (by decide) (by omega) ?_
          refine j_top ((hlo d (by omega)).trans (by rw [hld])) ?_
          refine j_ifn_eq (tgt := 27) C dX0_lostDemands_21 rfl (by omega) (fun _ => ?_) (fun h => absurd h (by decide))
          refine j_iinc (L' := [some (.ref (gad g (23))), some (.int (nI (cnt lo d))), some (.int (nI (d + 1)))]) C dX0_lostDemands_27 rfl (nI_inc _) (by decide) rfl ?_
          refine j_goto (tgt := 4) C dX0_lostDemands_30 rfl ?_
          refine J_loc (L' := [some (.ref (gad g (23))), some (.int (nI (cnt lo (d + 1)))), some (.int (nI (d + 1)))]) (by simp only [cnt, hld]; rfl) (ih (nD a - (d + 1)) (by omega) (d + 1) rfl (by omega))
        · refine j_aload_n C dX0_lostDemands_15 rfl rfl ?_
          refine j_get C flX0_23 dX0_lostDemands_16 (Nat.lt_of_lt_of_le (by decide) hN) rfl rfl ?_
          refine j_iload_n C dX0_lostDemands_19 rfl rfl ?_
          refine j_zald C dX0_lostDemands_20 (Nat.lt_of_lt_of_le (by decide) hN) (fun _ => rfl) (by decide) (by omega) ?_
          refine j_top ((hlo d (by omega)).trans (by rw [hld])) ?_
          refine j_ifn_eq (tgt := 27) C dX0_lostDemands_21 rfl (by omega) (fun h => absurd h (by decide)) (fun _ => ?_)
          refine j_iinc (L' := [some (.ref (gad g (23))), some (.int (nI (cnt lo d + 1))), some (.int (nI (d)))]) C dX0_lostDemands_24 rfl (nI_inc _) (by decide) rfl ?_
          refine j_iinc (L' := [some (.ref (gad g (23))), some (.int (nI (cnt lo d + 1))), some (.int (nI (d + 1)))]) C dX0_lostDemands_27 rfl (nI_inc _) (by decide) rfl ?_
          refine j_goto (tgt := 4) C dX0_lostDemands_30 rfl ?_
          refine J_loc (L' := [some (.ref (gad g (23))), some (.int (nI (cnt lo (d + 1)))), some (.int (nI (d + 1)))]) (by simp only [cnt, hld]; rfl) (ih (nD a - (d + 1)) (by omega) (d + 1) rfl (by omega))
  refine j_iconst (v := nI 0) C dX0_lostDemands_0 rfl ?_
  refine j_istore_n (L' := [some (.ref (gad g (23))), some (.int (nI (0))), none]) C dX0_lostDemands_1 rfl (by decide) rfl ?_
  refine j_iconst (v := nI 0) C dX0_lostDemands_2 rfl ?_
  refine j_istore_n (L' := [some (.ref (gad g (23))), some (.int (nI (0))), some (.int (nI (0)))]) C dX0_lostDemands_3 rfl (by decide) rfl ?_
  exact lp (nD a - 0) 0 rfl (by omega)
set_option maxHeartbeats 4000000 in
set_option maxRecDepth 100000 in
theorem tX0_overfullLinks {g : jG} (hN : 84 ≤ gN g) {σ : Sg} {a : ND} (hI : NetI σ 3 a) (hO : NOk a) {ld : Nat → Nat} (hld : ∀ l, l < nM a → σ 39 l = nI (ld l) ∧ ld l < 2 ^ 28) : MS g yX0_overfullLinks cX0_overfullLinks 3 (some .int) rmX0_overfullLinks [.ref (gad g (23))] σ (fun r σ' => σ' = σ ∧ r = nI (cnt (fun l => decide (12 * nRm a l < ld l)) (nM a))) := by
  refine MJ_of (by decide) (Nat.le_of_ble_eq_true rfl) (List.forall_mem_cons.mpr ⟨rfl, fun _ h => absurd h List.not_mem_nil⟩) ?_
  intro κ M
  have C := M.1
  show J g κ 3 0 [some (.ref (gad g (23))), none, none] [] σ
  have hn7 := hO.2.1
  have hm12 := hO.2.2.1
  have hd6 := hO.2.2.2.1
  have lp : ∀ (k : Nat) (l : Nat), nM a - l = k → l ≤ nM a → J g κ 3 4 [some (.ref (gad g (23))), some (.int (nI (cnt (fun l => decide (12 * nRm a l < ld l)) l))), some (.int (nI (l)))] [] σ := by
    intro k
    induction k using Nat.strongRecOn with
    | _ k ih =>
      intro l hk hl
      refine j_iload_n C dX0_overfullLinks_4 rfl rfl ?_
      refine j_aload_n C dX0_overfullLinks_5 rfl rfl ?_
      refine j_get C flX0_36 dX0_overfullLinks_6 (Nat.lt_of_lt_of_le (by decide) hN) rfl rfl ?_
      refine j_get C flX0_53 dX0_overfullLinks_9 (Nat.lt_of_lt_of_le (by decide) hN) rfl rfl ?_
      refine j_top (hI.m) ?_
      refine j_icmpn_ge (tgt := 45) C dX0_overfullLinks_12 rfl (by omega) (by omega) (fun h12 => ?_) (fun h12 => ?_)
      · refine j_iload_n C dX0_overfullLinks_45 rfl rfl ?_
        refine j_ret M dX0_overfullLinks_46 ?_
        obtain rfl : l = nM a := by omega
        exact ⟨rfl, rfl⟩
      · have hc := cnt_le (fun l => decide (12 * nRm a l < ld l)) l
        have hb1 := (hld l h12).2
        obtain ⟨hb2, hb3, hb4, hb5, hb6⟩ := hO.2.2.2.2.1 l h12
        refine j_aload_n C dX0_overfullLinks_15 rfl rfl ?_
        refine j_get C flX0_19 dX0_overfullLinks_16 (Nat.lt_of_lt_of_le (by decide) hN) rfl rfl ?_
        refine j_iload_n C dX0_overfullLinks_19 rfl rfl ?_
        refine j_iald C dX0_overfullLinks_20 (Nat.lt_of_lt_of_le (by decide) hN) (fun _ => rfl) (by decide) (by omega) ?_
        refine j_top ((hld (l) (by omega)).1) ?_
        refine j_bipush (v := nI 12) C dX0_overfullLinks_21 rfl ?_
        refine j_aload_n C dX0_overfullLinks_23 rfl rfl ?_
        refine j_get C flX0_36 dX0_overfullLinks_24 (Nat.lt_of_lt_of_le (by decide) hN) rfl rfl ?_
        refine j_get C flX0_90 dX0_overfullLinks_27 (Nat.lt_of_lt_of_le (by decide) hN) rfl rfl ?_
        refine j_iload_n C dX0_overfullLinks_30 rfl rfl ?_
        refine j_iald C dX0_overfullLinks_31 (Nat.lt_of_lt_of_le (by decide) hN) (fun _ => rfl) (by decide) (by omega) ?_
        refine j_top (hI.rm (l := l) (by omega)) ?_
        refine j_imul C dX0_overfullLinks_32 ?_
        refine j_top (pk_mul _ _) ?_
        refine j_icmpn_le (tgt := 39) C dX0_overfullLinks_33 rfl (by omega) (by omega) (fun h33 => ?_) (fun h33 => ?_)
        · refine j_iinc (L' := [some (.ref (gad g (23))), some (.int (nI (cnt (fun l => decide (12 * nRm a l < ld l)) l))), some (.int (nI (l + 1)))]) C dX0_overfullLinks_39 rfl (nI_inc _) (by decide) rfl ?_
          refine j_goto (tgt := 4) C dX0_overfullLinks_42 rfl ?_
          refine J_loc (L' := [some (.ref (gad g (23))), some (.int (nI (cnt (fun l => decide (12 * nRm a l < ld l)) (l + 1)))), some (.int (nI (l + 1)))]) ?_ (ih (nM a - (l + 1)) (by omega) (l + 1) rfl (by omega))
          first | (rw [cnt_hit (by rw [decide_eq_true_iff]; omega)]) | (rw [cnt_miss (by rw [decide_eq_false_iff_not]; omega)])
        · refine j_iinc (L' := [some (.ref (gad g (23))), some (.int (nI (cnt (fun l => decide (12 * nRm a l < ld l)) l + 1))), some (.int (nI (l)))]) C dX0_overfullLinks_36 rfl (nI_inc _) (by decide) rfl ?_
          refine j_iinc (L' := [some (.ref (gad g (23))), some (.int (nI (cnt (fun l => decide (12 * nRm a l < ld l)) l + 1))), some (.int (nI (l + 1)))]) C dX0_overfullLinks_39 rfl (nI_inc _) (by decide) rfl ?_
          refine j_goto (tgt := 4) C dX0_overfullLinks_42 rfl ?_
          refine J_loc (L' := [some (.ref (gad g (23))), some (.int (nI (cnt (fun l => decide (12 * nRm a l < ld l)) (l + 1)))), some (.int (nI (l + 1)))]) ?_ (ih (nM a - (l + 1)) (by omega) (l + 1) rfl (by omega))
          first | (rw [cnt_hit (by rw [decide_eq_true_iff]; omega)]) | (rw [cnt_miss (by rw [decide_eq_false_iff_not]; omega)])
  refine j_iconst (v := nI 0) C dX0_overfullLinks_0 rfl ?_
  refine j_istore_n (L' := [some (.ref (gad g (23))), some (.int (nI (0))), none]) C dX0_overfullLinks_1 rfl (by decide) rfl ?_
  refine j_iconst (v := nI 0) C dX0_overfullLinks_2 rfl ?_
  refine j_istore_n (L' := [some (.ref (gad g (23))), some (.int (nI (0))), some (.int (nI (0)))]) C dX0_overfullLinks_3 rfl (by decide) rfl ?_
  exact lp (nM a - 0) 0 rfl (by omega)
set_option maxHeartbeats 4000000 in
set_option maxRecDepth 100000 in
theorem tX0_sendOn {g : jG} (hN : 84 ≤ gN g) {σ : Sg} {i : Nat} {a : ND} {w : Nat → Nat} {u : Nat → Bool} (hi : i < 9) (hI : NetI σ 3 a) (hO : NOk a) (hW : StW σ i (nM a) w u) (hw : WOk (nM a) w) {d x : Nat} {f : Nat → Option Nat} {cm sh ld : Nat → Nat} (hd : d < nD a) (hx : x < nN a) (hF : ∀ y, y < nN a → σ (25 + 1 * (nGo a d)) y = c1 (f y)) (hB : fBd f 1680) (hcm : ∀ y, y < nN a → σ 42 y = nI (cm y)) (hsh : ∀ l, l < nM a → σ (33 + 1 * d) l = nI (sh l)) (hld : ∀ l, l < nM a → σ 39 l = nI (ld l)) (hc : cm x < 2 ^ 31) : MS g yX0_sendOn cX0_sendOn 10 none rmX0_sendOn [.ref (gad g (23)), .ref (gad g (48 + 4 * i)), .int (nI (d)), .int (nI (x))] σ (fun r σ' => (∀ j n, ¬ (j = 39 ∨ j = 42 ∨ j = 43 ∨ j = 33 + 1 * d) → σ' j n = σ j n) ∧ (∀ y, y < nN a → σ' 42 y = nI (cmB a (prd a w u f x) (cm x) (cnt (prd a w u f x) (nM a)) cm (nM a) y)) ∧ (∀ l, l < nM a → σ' (33 + 1 * d) l = nI (shB (prd a w u f x) (cm x) (cnt (prd a w u f x) (nM a)) sh (nM a) l)) ∧ (∀ l, l < nM a → σ' 39 l = nI (ldB (prd a w u f x) (cm x) (cnt (prd a w u f x) (nM a)) ld (nM a) l))) := by
  refine MJ_of (by decide) (Nat.le_of_ble_eq_true rfl) (List.forall_mem_cons.mpr ⟨rfl, List.forall_mem_cons.mpr ⟨rfl, List.forall_mem_cons.mpr ⟨rfl, List.forall_mem_cons.mpr ⟨rfl, fun _ h => absurd h List.not_mem_nil⟩⟩⟩⟩) ?_
  intro κ M
  have C := M.1
  show J g κ 10 0 [some (.ref (gad g (23))), some (.ref (gad g (48 + 4 * i))), some (.int (nI (d))), some (.int (nI (x))), none, none, none, none, none, none] [] σ
  have hn7 := hO.2.1
  have hm12 := hO.2.2.1
  have hd6 := hO.2.2.2.1
  obtain ⟨hg1, hg2, hg3, hg4, hg5⟩ := hO.2.2.2.2.2 d hd
  have hK12 := cnt_le (prd a w u f x) (nM a)
  have hmod : (cm x) % (cnt (prd a w u f x) (nM a)) ≤ (cm x) := Nat.mod_le _ _
  have hdiv : (cm x) / (cnt (prd a w u f x) (nM a)) ≤ (cm x) := Nat.div_le_self _ _
  have lp2 : ∀ (k : Nat) (q b : Nat) (σ1 : Sg), (cnt (prd a w u f x) (nM a)) - q = k → q ≤ (cnt (prd a w u f x) (nM a)) → b ≤ nM a → cnt (prd a w u f x) b = q → (∀ j n, ¬ (j = 39 ∨ j = 42 ∨ j = 43 ∨ j = 33 + 1 * d) → σ1 j n = σ j n) → (∀ q, q < cnt (prd a w u f x) (nM a) → ∃ y, y < (nM a) ∧ (prd a w u f x) y = true ∧ cnt (prd a w u f x) y = q ∧ σ1 43 q = nI y) → (∀ y, y < nN a → σ1 42 y = nI (cmB a (prd a w u f x) (cm x) (cnt (prd a w u f x) (nM a)) cm b y)) → (∀ l, l < nM a → σ1 (33 + 1 * d) l = nI (shB (prd a w u f x) (cm x) (cnt (prd a w u f x) (nM a)) sh b l)) → (∀ l, l < nM a → σ1 39 l = nI (ldB (prd a w u f x) (cm x) (cnt (prd a w u f x) (nM a)) ld b l)) → J g κ 10 100 [some (.ref (gad g (23))), some (.ref (gad g (48 + 4 * i))), some (.int (nI (d))), some (.int (nI (x))), some (.int (nI (cnt (prd a w u f x) (nM a)))), some (.int (nI ((cm x) / (cnt (prd a w u f x) (nM a))))), some (.int (nI ((cm x) % (cnt (prd a w u f x) (nM a))))), some (.int (nI (q))), none, none] [] σ1 := by
    intro k
    induction k using Nat.strongRecOn with
    | _ k ih =>
      intro q b σ1 hk hq hbn hbq hf hsl hcm1 hsh1 hld1
      refine j_iload C dX0_sendOn_100 rfl ?_
      refine j_iload C dX0_sendOn_102 rfl ?_
      refine j_icmpn_ge (tgt := 183) C dX0_sendOn_104 rfl (by omega) (by omega) (fun h104 => ?_) (fun h104 => ?_)
      · refine j_retv M dX0_sendOn_183 ?_
        have hbm : cnt (prd a w u f x) b = cnt (prd a w u f x) (nM a) := by omega
        rw [← cmB_gap hbn hbm] at hcm1
        rw [← shB_gap hbn hbm] at hsh1
        rw [← ldB_gap hbn hbm] at hld1
        exact ⟨hf, hcm1, hsh1, hld1⟩
      · obtain ⟨y, hy1, hy2, hy3, hy4⟩ := hsl q (by omega)
        obtain ⟨hb1, hb2, hb3, hb4⟩ := hO.2.2.2.2.1 y hy1
        have hby : b ≤ y := by
          refine Nat.not_lt.mp (fun z => ?_)
          have e1 := cnt_mono (prd a w u f x) (show y + 1 ≤ b from z)
          have e2 := cnt_hit hy2
          omega
        rw [← cmB_gap hby (hbq.trans hy3.symm)] at hcm1
        rw [← shB_gap hby (hbq.trans hy3.symm)] at hsh1
        rw [← ldB_gap hby (hbq.trans hy3.symm)] at hld1
        refine j_aload_n C dX0_sendOn_107 rfl rfl ?_
        refine j_get C flX0_33 dX0_sendOn_108 (Nat.lt_of_lt_of_le (by decide) hN) rfl rfl ?_
        refine j_iload C dX0_sendOn_111 rfl ?_
        refine j_iald C dX0_sendOn_113 (Nat.lt_of_lt_of_le (by decide) hN) (fun _ => rfl) (by decide) (by omega) ?_
        refine j_top (hy4) ?_
        refine j_istore (L' := [some (.ref (gad g (23))), some (.ref (gad g (48 + 4 * i))), some (.int (nI (d))), some (.int (nI (x))), some (.int (nI (cnt (prd a w u f x) (nM a)))), some (.int (nI ((cm x) / (cnt (prd a w u f x) (nM a))))), some (.int (nI ((cm x) % (cnt (prd a w u f x) (nM a))))), some (.int (nI (q))), some (.int (nI (y))), none]) C dX0_sendOn_114 (by decide) rfl ?_
        refine j_iload C dX0_sendOn_116 rfl ?_
        refine j_iload C dX0_sendOn_118 rfl ?_
        refine j_icmpn_ge (tgt := 130) C dX0_sendOn_120 rfl (by omega) (by omega) (fun h120 => ?_) (fun h120 => ?_)
        · refine j_iload C dX0_sendOn_130 rfl ?_
          refine j_istore (L' := [some (.ref (gad g (23))), some (.ref (gad g (48 + 4 * i))), some (.int (nI (d))), some (.int (nI (x))), some (.int (nI (cnt (prd a w u f x) (nM a)))), some (.int (nI ((cm x) / (cnt (prd a w u f x) (nM a))))), some (.int (nI ((cm x) % (cnt (prd a w u f x) (nM a))))), some (.int (nI (q))), some (.int (nI (y))), some (.int (nI ((cm x) / (cnt (prd a w u f x) (nM a)))))]) C dX0_sendOn_132 (by decide) rfl ?_
          refine j_aload_n C dX0_sendOn_134 rfl rfl ?_
          refine j_get C flX0_16 dX0_sendOn_135 (Nat.lt_of_lt_of_le (by decide) hN) rfl rfl ?_
          refine j_iload_n C dX0_sendOn_138 rfl rfl ?_
          refine j_aald C dX0_sendOn_139 (Nat.lt_of_lt_of_le (by decide) hN) (fun _ => rfl) (by decide) (by omega) ?_
          refine j_iload C dX0_sendOn_140 rfl ?_
          refine j_iload C dX0_sendOn_142 rfl ?_
          refine j_iast' C dX0_sendOn_144 (by omega) (cf_share (by omega)) (by decide) (by omega) (fun τ1 hz_2 hw_3 => ?_)
          refine j_aload_n C dX0_sendOn_145 rfl rfl ?_
          refine j_get C flX0_19 dX0_sendOn_146 (Nat.lt_of_lt_of_le (by decide) hN) rfl rfl ?_
          refine j_iload C dX0_sendOn_149 rfl ?_
          refine j_dup2 C dX0_sendOn_151 rfl rfl ?_
          refine j_iald C dX0_sendOn_152 (Nat.lt_of_lt_of_le (by decide) hN) (fun _ => rfl) (by decide) (by omega) ?_
          refine j_top ((hz_2 _ _ (by omega)).trans (hld1 (y) (by omega))) ?_
          refine j_iload C dX0_sendOn_153 rfl ?_
          refine j_iadd C dX0_sendOn_155 ?_
          refine j_top (nI_add _ _) ?_
          refine j_iast' C dX0_sendOn_156 (Nat.lt_of_lt_of_le (by decide) hN) (fun _ => rfl) (by decide) (by omega) (fun τ4 hz_5 hw_6 => ?_)
          refine j_aload_n C dX0_sendOn_157 rfl rfl ?_
          refine j_get C flX0_30 dX0_sendOn_158 (Nat.lt_of_lt_of_le (by decide) hN) rfl rfl ?_
          refine j_aload_n C dX0_sendOn_161 rfl rfl ?_
          refine j_get C flX0_36 dX0_sendOn_162 (Nat.lt_of_lt_of_le (by decide) hN) rfl rfl ?_
          refine j_get C flX0_74 dX0_sendOn_165 (Nat.lt_of_lt_of_le (by decide) hN) rfl rfl ?_
          refine j_iload C dX0_sendOn_168 rfl ?_
          refine j_iald C dX0_sendOn_170 (Nat.lt_of_lt_of_le (by decide) hN) (fun _ => rfl) (by decide) (by omega) ?_
          refine j_top ((hz_5 _ _ (by omega)).trans ((hz_2 _ _ (by omega)).trans ((hf _ _ (by omega)).trans (hI.to (l := y) (by omega))))) ?_
          refine j_dup2 C dX0_sendOn_171 rfl rfl ?_
          refine j_iald C dX0_sendOn_172 (Nat.lt_of_lt_of_le (by decide) hN) (fun _ => rfl) (by decide) (by omega) ?_
          refine j_top ((hz_5 _ _ (by omega)).trans ((hz_2 _ _ (by omega)).trans (hcm1 (nTo a (y)) (by omega)))) ?_
          refine j_iload C dX0_sendOn_173 rfl ?_
          refine j_iadd C dX0_sendOn_175 ?_
          refine j_top (nI_add _ _) ?_
          refine j_iast' C dX0_sendOn_176 (Nat.lt_of_lt_of_le (by decide) hN) (fun _ => rfl) (by decide) (by omega) (fun τ7 hz_8 hw_9 => ?_)
          refine j_iinc (L' := [some (.ref (gad g (23))), some (.ref (gad g (48 + 4 * i))), some (.int (nI (d))), some (.int (nI (x))), some (.int (nI (cnt (prd a w u f x) (nM a)))), some (.int (nI ((cm x) / (cnt (prd a w u f x) (nM a))))), some (.int (nI ((cm x) % (cnt (prd a w u f x) (nM a))))), some (.int (nI (q + 1))), some (.int (nI (y))), some (.int (nI ((cm x) / (cnt (prd a w u f x) (nM a)))))]) C dX0_sendOn_177 rfl (nI_inc _) (by decide) rfl ?_
          refine j_goto (tgt := 100) C dX0_sendOn_180 rfl ?_
          refine J_clr 8 (L' := [some (.ref (gad g (23))), some (.ref (gad g (48 + 4 * i))), some (.int (nI (d))), some (.int (nI (x))), some (.int (nI (cnt (prd a w u f x) (nM a)))), some (.int (nI ((cm x) / (cnt (prd a w u f x) (nM a))))), some (.int (nI ((cm x) % (cnt (prd a w u f x) (nM a))))), some (.int (nI (q + 1))), none, some (.int (nI ((cm x) / (cnt (prd a w u f x) (nM a)))))]) rfl ?_
          refine J_clr 9 (L' := [some (.ref (gad g (23))), some (.ref (gad g (48 + 4 * i))), some (.int (nI (d))), some (.int (nI (x))), some (.int (nI (cnt (prd a w u f x) (nM a)))), some (.int (nI ((cm x) / (cnt (prd a w u f x) (nM a))))), some (.int (nI ((cm x) % (cnt (prd a w u f x) (nM a))))), some (.int (nI (q + 1))), none, none]) rfl ?_
          have hpt : ptN (prd a w u f x) (cm x) (cnt (prd a w u f x) (nM a)) y = (cm x) / (cnt (prd a w u f x) (nM a)) := by
            unfold ptN
            rw [hy3]
            first | rw [if_pos (by omega)] | (rw [if_neg (by omega)]; rfl)
          refine ih ((cnt (prd a w u f x) (nM a)) - (q + 1)) (by omega) (q + 1) (y + 1) τ7 rfl (by omega) (by omega) (by rw [cnt_hit hy2, hy3]) (fun j n h => by rw [hz_8 _ _ (by omega), hz_5 _ _ (by omega), hz_2 _ _ (by omega)]; exact hf j n h) (fun z hz => ?_) (fun z hz => ?_) (fun z hz => ?_) (fun z hz => ?_)
          · obtain ⟨z1, e1, e2, e3, e4⟩ := hsl z hz
            exact ⟨z1, e1, e2, e3, by rw [hz_8 _ _ (by omega), hz_5 _ _ (by omega), hz_2 _ _ (by omega)]; exact e4⟩
          · rw [cmB_hit hy2]
            by_cases e : z = nTo a y
            · subst e
              rw [if_pos rfl, hpt]; assumption
            · rw [if_neg e, hz_8 _ _ (by omega), hz_5 _ _ (by omega), hz_2 _ _ (by omega)]; exact hcm1 z hz
          · rw [shB_hit hy2]
            by_cases e : z = y
            · subst e
              rw [if_pos rfl, hpt, hz_8 _ _ (by omega), hz_5 _ _ (by omega)]; assumption
            · rw [if_neg e, hz_8 _ _ (by omega), hz_5 _ _ (by omega), hz_2 _ _ (by omega)]; exact hsh1 z hz
          · rw [ldB_hit hy2]
            by_cases e : z = y
            · subst e
              rw [if_pos rfl, hpt, hz_8 _ _ (by omega), ← ldB_self (p := (prd a w u f x)) (c := (cm x)) (k := (cnt (prd a w u f x) (nM a))) (sh := ld) (l := z)]; assumption
            · rw [if_neg e, hz_8 _ _ (by omega), hz_5 _ _ (by omega), hz_2 _ _ (by omega)]; exact hld1 z hz
        · refine j_iload C dX0_sendOn_123 rfl ?_
          refine j_iconst (v := nI 1) C dX0_sendOn_125 rfl ?_
          refine j_iadd C dX0_sendOn_126 ?_
          refine j_top (nI_add _ _) ?_
          refine j_goto (tgt := 132) C dX0_sendOn_127 rfl ?_
          refine j_istore (L' := [some (.ref (gad g (23))), some (.ref (gad g (48 + 4 * i))), some (.int (nI (d))), some (.int (nI (x))), some (.int (nI (cnt (prd a w u f x) (nM a)))), some (.int (nI ((cm x) / (cnt (prd a w u f x) (nM a))))), some (.int (nI ((cm x) % (cnt (prd a w u f x) (nM a))))), some (.int (nI (q))), some (.int (nI (y))), some (.int (nI (((cm x) / (cnt (prd a w u f x) (nM a)) + 1))))]) C dX0_sendOn_132 (by decide) rfl ?_
          refine j_aload_n C dX0_sendOn_134 rfl rfl ?_
          refine j_get C flX0_16 dX0_sendOn_135 (Nat.lt_of_lt_of_le (by decide) hN) rfl rfl ?_
          refine j_iload_n C dX0_sendOn_138 rfl rfl ?_
          refine j_aald C dX0_sendOn_139 (Nat.lt_of_lt_of_le (by decide) hN) (fun _ => rfl) (by decide) (by omega) ?_
          refine j_iload C dX0_sendOn_140 rfl ?_
          refine j_iload C dX0_sendOn_142 rfl ?_
          refine j_iast' C dX0_sendOn_144 (by omega) (cf_share (by omega)) (by decide) (by omega) (fun τ10 hz_11 hw_12 => ?_)
          refine j_aload_n C dX0_sendOn_145 rfl rfl ?_
          refine j_get C flX0_19 dX0_sendOn_146 (Nat.lt_of_lt_of_le (by decide) hN) rfl rfl ?_
          refine j_iload C dX0_sendOn_149 rfl ?_
          refine j_dup2 C dX0_sendOn_151 rfl rfl ?_
          refine j_iald C dX0_sendOn_152 (Nat.lt_of_lt_of_le (by decide) hN) (fun _ => rfl) (by decide) (by omega) ?_
          refine j_top ((hz_11 _ _ (by omega)).trans (hld1 (y) (by omega))) ?_
          refine j_iload C dX0_sendOn_153 rfl ?_
          refine j_iadd C dX0_sendOn_155 ?_
          refine j_top (nI_add _ _) ?_
          refine j_iast' C dX0_sendOn_156 (Nat.lt_of_lt_of_le (by decide) hN) (fun _ => rfl) (by decide) (by omega) (fun τ13 hz_14 hw_15 => ?_)
          refine j_aload_n C dX0_sendOn_157 rfl rfl ?_
          refine j_get C flX0_30 dX0_sendOn_158 (Nat.lt_of_lt_of_le (by decide) hN) rfl rfl ?_
          refine j_aload_n C dX0_sendOn_161 rfl rfl ?_
          refine j_get C flX0_36 dX0_sendOn_162 (Nat.lt_of_lt_of_le (by decide) hN) rfl rfl ?_
          refine j_get C flX0_74 dX0_sendOn_165 (Nat.lt_of_lt_of_le (by decide) hN) rfl rfl ?_
          refine j_iload C dX0_sendOn_168 rfl ?_
          refine j_iald C dX0_sendOn_170 (Nat.lt_of_lt_of_le (by decide) hN) (fun _ => rfl) (by decide) (by omega) ?_
          refine j_top ((hz_14 _ _ (by omega)).trans ((hz_11 _ _ (by omega)).trans ((hf _ _ (by omega)).trans (hI.to (l := y) (by omega))))) ?_
          refine j_dup2 C dX0_sendOn_171 rfl rfl ?_
          refine j_iald C dX0_sendOn_172 (Nat.lt_of_lt_of_le (by decide) hN) (fun _ => rfl) (by decide) (by omega) ?_
          refine j_top ((hz_14 _ _ (by omega)).trans ((hz_11 _ _ (by omega)).trans (hcm1 (nTo a (y)) (by omega)))) ?_
          refine j_iload C dX0_sendOn_173 rfl ?_
          refine j_iadd C dX0_sendOn_175 ?_
          refine j_top (nI_add _ _) ?_
          refine j_iast' C dX0_sendOn_176 (Nat.lt_of_lt_of_le (by decide) hN) (fun _ => rfl) (by decide) (by omega) (fun τ16 hz_17 hw_18 => ?_)
          refine j_iinc (L' := [some (.ref (gad g (23))), some (.ref (gad g (48 + 4 * i))), some (.int (nI (d))), some (.int (nI (x))), some (.int (nI (cnt (prd a w u f x) (nM a)))), some (.int (nI ((cm x) / (cnt (prd a w u f x) (nM a))))), some (.int (nI ((cm x) % (cnt (prd a w u f x) (nM a))))), some (.int (nI (q + 1))), some (.int (nI (y))), some (.int (nI (((cm x) / (cnt (prd a w u f x) (nM a)) + 1))))]) C dX0_sendOn_177 rfl (nI_inc _) (by decide) rfl ?_
          refine j_goto (tgt := 100) C dX0_sendOn_180 rfl ?_
          refine J_clr 8 (L' := [some (.ref (gad g (23))), some (.ref (gad g (48 + 4 * i))), some (.int (nI (d))), some (.int (nI (x))), some (.int (nI (cnt (prd a w u f x) (nM a)))), some (.int (nI ((cm x) / (cnt (prd a w u f x) (nM a))))), some (.int (nI ((cm x) % (cnt (prd a w u f x) (nM a))))), some (.int (nI (q + 1))), none, some (.int (nI (((cm x) / (cnt (prd a w u f x) (nM a)) + 1))))]) rfl ?_
          refine J_clr 9 (L' := [some (.ref (gad g (23))), some (.ref (gad g (48 + 4 * i))), some (.int (nI (d))), some (.int (nI (x))), some (.int (nI (cnt (prd a w u f x) (nM a)))), some (.int (nI ((cm x) / (cnt (prd a w u f x) (nM a))))), some (.int (nI ((cm x) % (cnt (prd a w u f x) (nM a))))), some (.int (nI (q + 1))), none, none]) rfl ?_
          have hpt : ptN (prd a w u f x) (cm x) (cnt (prd a w u f x) (nM a)) y = ((cm x) / (cnt (prd a w u f x) (nM a)) + 1) := by
            unfold ptN
            rw [hy3]
            first | rw [if_pos (by omega)] | (rw [if_neg (by omega)]; rfl)
          refine ih ((cnt (prd a w u f x) (nM a)) - (q + 1)) (by omega) (q + 1) (y + 1) τ16 rfl (by omega) (by omega) (by rw [cnt_hit hy2, hy3]) (fun j n h => by rw [hz_17 _ _ (by omega), hz_14 _ _ (by omega), hz_11 _ _ (by omega)]; exact hf j n h) (fun z hz => ?_) (fun z hz => ?_) (fun z hz => ?_) (fun z hz => ?_)
          · obtain ⟨z1, e1, e2, e3, e4⟩ := hsl z hz
            exact ⟨z1, e1, e2, e3, by rw [hz_17 _ _ (by omega), hz_14 _ _ (by omega), hz_11 _ _ (by omega)]; exact e4⟩
          · rw [cmB_hit hy2]
            by_cases e : z = nTo a y
            · subst e
              rw [if_pos rfl, hpt]; assumption
            · rw [if_neg e, hz_17 _ _ (by omega), hz_14 _ _ (by omega), hz_11 _ _ (by omega)]; exact hcm1 z hz
          · rw [shB_hit hy2]
            by_cases e : z = y
            · subst e
              rw [if_pos rfl, hpt, hz_17 _ _ (by omega), hz_14 _ _ (by omega)]; assumption
            · rw [if_neg e, hz_17 _ _ (by omega), hz_14 _ _ (by omega), hz_11 _ _ (by omega)]; exact hsh1 z hz
          · rw [ldB_hit hy2]
            by_cases e : z = y
            · subst e
              rw [if_pos rfl, hpt, hz_17 _ _ (by omega), ← ldB_self (p := (prd a w u f x)) (c := (cm x)) (k := (cnt (prd a w u f x) (nM a))) (sh := ld) (l := z)]; assumption
            · rw [if_neg e, hz_17 _ _ (by omega), hz_14 _ _ (by omega), hz_11 _ _ (by omega)]; exact hld1 z hz
  have lp1 : ∀ (k : Nat) (l : Nat) (σ1 : Sg), nM a - l = k → l ≤ nM a → (∀ j n, ¬ (j = 43) → σ1 j n = σ j n) → (∀ q, q < cnt (prd a w u f x) l → ∃ y, y < l ∧ (prd a w u f x) y = true ∧ cnt (prd a w u f x) y = q ∧ σ1 43 q = nI y) → J g κ 10 6 [some (.ref (gad g (23))), some (.ref (gad g (48 + 4 * i))), some (.int (nI (d))), some (.int (nI (x))), some (.int (nI (cnt (prd a w u f x) l))), some (.int (nI (l))), none, none, none, none] [] σ1 := by
    intro k
    induction k using Nat.strongRecOn with
    | _ k ih =>
      intro l σ1 hk hl hf hsl
      refine j_iload C dX0_sendOn_6 rfl ?_
      refine j_aload_n C dX0_sendOn_8 rfl rfl ?_
      refine j_get C flX0_36 dX0_sendOn_9 (Nat.lt_of_lt_of_le (by decide) hN) rfl rfl ?_
      refine j_get C flX0_53 dX0_sendOn_12 (Nat.lt_of_lt_of_le (by decide) hN) rfl rfl ?_
      refine j_top ((hf _ _ (by omega)).trans (hI.m)) ?_
      refine j_icmpn_ge (tgt := 69) C dX0_sendOn_15 rfl (by omega) (by omega) (fun h15 => ?_) (fun h15 => ?_)
      · have el : l = nM a := by omega
        subst el
        have hcl := cnt_le (prd a w u f x) (nM a)
        refine j_iload C dX0_sendOn_69 rfl ?_
        refine j_ifn_ne (tgt := 75) C dX0_sendOn_71 rfl (by omega) (fun h71 => ?_) (fun h71 => ?_)
        · refine j_aload_n C dX0_sendOn_75 rfl rfl ?_
          refine j_get C flX0_30 dX0_sendOn_76 (Nat.lt_of_lt_of_le (by decide) hN) rfl rfl ?_
          refine j_iload_n C dX0_sendOn_79 rfl rfl ?_
          refine j_iald C dX0_sendOn_80 (Nat.lt_of_lt_of_le (by decide) hN) (fun _ => rfl) (by decide) (by omega) ?_
          refine j_top ((hf _ _ (by omega)).trans (hcm (x) (by omega))) ?_
          refine j_iload C dX0_sendOn_81 rfl ?_
          refine j_idiv C dX0_sendOn_83 (nI_ne0 (by omega) (by omega)) ?_
          refine j_top (pk_div hc (by omega) (by omega)) ?_
          refine j_istore (L' := [some (.ref (gad g (23))), some (.ref (gad g (48 + 4 * i))), some (.int (nI (d))), some (.int (nI (x))), some (.int (nI (cnt (prd a w u f x) (nM a)))), some (.int (nI ((cm x) / (cnt (prd a w u f x) (nM a))))), none, none, none, none]) C dX0_sendOn_84 (by decide) rfl ?_
          refine j_aload_n C dX0_sendOn_86 rfl rfl ?_
          refine j_get C flX0_30 dX0_sendOn_87 (Nat.lt_of_lt_of_le (by decide) hN) rfl rfl ?_
          refine j_iload_n C dX0_sendOn_90 rfl rfl ?_
          refine j_iald C dX0_sendOn_91 (Nat.lt_of_lt_of_le (by decide) hN) (fun _ => rfl) (by decide) (by omega) ?_
          refine j_top ((hf _ _ (by omega)).trans (hcm (x) (by omega))) ?_
          refine j_iload C dX0_sendOn_92 rfl ?_
          refine j_irem C dX0_sendOn_94 (nI_ne0 (by omega) (by omega)) ?_
          refine j_top (pk_rem hc (by omega) (by omega)) ?_
          refine j_istore (L' := [some (.ref (gad g (23))), some (.ref (gad g (48 + 4 * i))), some (.int (nI (d))), some (.int (nI (x))), some (.int (nI (cnt (prd a w u f x) (nM a)))), some (.int (nI ((cm x) / (cnt (prd a w u f x) (nM a))))), some (.int (nI ((cm x) % (cnt (prd a w u f x) (nM a))))), none, none, none]) C dX0_sendOn_95 (by decide) rfl ?_
          refine j_iconst (v := nI 0) C dX0_sendOn_97 rfl ?_
          refine j_istore (L' := [some (.ref (gad g (23))), some (.ref (gad g (48 + 4 * i))), some (.int (nI (d))), some (.int (nI (x))), some (.int (nI (cnt (prd a w u f x) (nM a)))), some (.int (nI ((cm x) / (cnt (prd a w u f x) (nM a))))), some (.int (nI ((cm x) % (cnt (prd a w u f x) (nM a))))), some (.int (nI (0))), none, none]) C dX0_sendOn_98 (by decide) rfl ?_
          exact lp2 ((cnt (prd a w u f x) (nM a)) - 0) 0 0 σ1 rfl (by omega) (by omega) rfl (fun j n h => hf j n (by omega)) hsl (fun y hy => (hf _ _ (by omega)).trans (hcm y hy)) (fun l hl => ((hf _ _ (by omega)).trans (hsh l hl))) (fun l hl => ((hf _ _ (by omega)).trans (hld l hl)))
        · refine j_retv M dX0_sendOn_74 ?_
          have hbm : cnt (prd a w u f x) 0 = cnt (prd a w u f x) (nM a) := by rw [h71]; rfl
          refine ⟨fun j n h => hf j n (by omega), fun y hy => ?_, fun z hz => ?_, fun z hz => ?_⟩
          · rw [cmB_gap (Nat.zero_le _) hbm]; exact (hf _ _ (by omega)).trans (hcm y hy)
          · rw [shB_gap (Nat.zero_le _) hbm]; exact (hf _ _ (by omega)).trans (hsh z hz)
          · rw [ldB_gap (Nat.zero_le _) hbm]; exact (hf _ _ (by omega)).trans (hld z hz)
      · have hcl := cnt_le (prd a w u f x) l
        obtain ⟨hb1, hb2, hb3, hb4⟩ := hO.2.2.2.2.1 l h15
        refine j_aload_n C dX0_sendOn_18 rfl rfl ?_
        refine j_get C flX0_36 dX0_sendOn_19 (Nat.lt_of_lt_of_le (by decide) hN) rfl rfl ?_
        refine j_get C flX0_80 dX0_sendOn_22 (Nat.lt_of_lt_of_le (by decide) hN) rfl rfl ?_
        refine j_iload C dX0_sendOn_25 rfl ?_
        refine j_iald C dX0_sendOn_27 (Nat.lt_of_lt_of_le (by decide) hN) (fun _ => rfl) (by decide) (by omega) ?_
        refine j_top ((hf _ _ (by omega)).trans (hI.fr (l := l) (by omega))) ?_
        refine j_iload_n C dX0_sendOn_28 rfl rfl ?_
        refine j_icmpn_ne (tgt := 63) C dX0_sendOn_29 rfl (by omega) (by omega) (fun h29 => ?_) (fun h29 => ?_)
        · refine j_iinc (L' := [some (.ref (gad g (23))), some (.ref (gad g (48 + 4 * i))), some (.int (nI (d))), some (.int (nI (x))), some (.int (nI (cnt (prd a w u f x) l))), some (.int (nI (l + 1))), none, none, none, none]) C dX0_sendOn_63 rfl (nI_inc _) (by decide) rfl ?_
          refine j_goto (tgt := 6) C dX0_sendOn_66 rfl ?_
          have hp0 : (prd a w u f x) l = false := by
            unfold prd
            first | (rw [hsb, Bool.and_false]) | (rw [show (nFr a l == x) = false from beq_false_of_ne (by omega), Bool.false_and])
          refine J_loc (L' := [some (.ref (gad g (23))), some (.ref (gad g (48 + 4 * i))), some (.int (nI (d))), some (.int (nI (x))), some (.int (nI (cnt (prd a w u f x) (l + 1)))), some (.int (nI (l + 1))), none, none, none, none]) (by rw [cnt_miss hp0]) (ih (nM a - (l + 1)) (by omega) (l + 1) σ1 rfl (by omega) hf (fun q hq => ?_))
          rw [cnt_miss hp0] at hq
          obtain ⟨y, e1, e2, e3, e4⟩ := hsl q hq
          exact ⟨y, by omega, e2, e3, e4⟩
        · refine j_aload_n C dX0_sendOn_32 rfl rfl ?_
          refine j_aload_n C dX0_sendOn_33 rfl rfl ?_
          refine j_iload C dX0_sendOn_34 rfl ?_
          refine j_aload_n C dX0_sendOn_36 rfl rfl ?_
          refine j_get C flX0_36 dX0_sendOn_37 (Nat.lt_of_lt_of_le (by decide) hN) rfl rfl ?_
          refine j_get C flX0_87 dX0_sendOn_40 (Nat.lt_of_lt_of_le (by decide) hN) rfl rfl ?_
          refine j_iload_n C dX0_sendOn_43 rfl rfl ?_
          refine j_iald C dX0_sendOn_44 (Nat.lt_of_lt_of_le (by decide) hN) (fun _ => rfl) (by decide) (by omega) ?_
          refine j_top ((hf _ _ (by omega)).trans (hI.go (l := d) (by omega))) ?_
          refine j_calli (As := [.ref (gad g (48 + 4 * i)), .int (nI (l)), .int (nI (nGo a (d)))]) (rest := []) C (tX0_isShort hN hi (hI.kept (fun j n h1 h2 => hf j n (by omega))) hO (hW.kept (fun j n h1 => hf j n (by omega))) hw (l := l) (t := nGo a d) (f := f) (by omega) (by omega) (fun y hy => (hf _ _ (by omega)).trans (hF y hy)) hB) cdX0_isShort mlX0_83 dX0_sendOn_45 (by decide) (by decide) (Nat.lt_of_lt_of_le (by decide) hN) rfl rfl rfl rfl rfl (Nat.le_of_ble_eq_true rfl) (fun rr_2 τ1 hp_3 => ?_)
          obtain ⟨hs, hr⟩ := hp_3
          replace hs := hs.symm
          subst hs
          rcases hsb : shb a w u f l with _ | _ <;> rw [hsb] at hr <;> subst hr
          · refine j_ifn_eq (tgt := 63) C dX0_sendOn_48 rfl (by omega) (fun _ => ?_) (fun h => absurd h (by decide))
            refine j_iinc (L' := [some (.ref (gad g (23))), some (.ref (gad g (48 + 4 * i))), some (.int (nI (d))), some (.int (nI (x))), some (.int (nI (cnt (prd a w u f x) l))), some (.int (nI (l + 1))), none, none, none, none]) C dX0_sendOn_63 rfl (nI_inc _) (by decide) rfl ?_
            refine j_goto (tgt := 6) C dX0_sendOn_66 rfl ?_
            have hp0 : (prd a w u f x) l = false := by
              unfold prd
              first | (rw [hsb, Bool.and_false]) | (rw [show (nFr a l == x) = false from beq_false_of_ne (by omega), Bool.false_and])
            refine J_loc (L' := [some (.ref (gad g (23))), some (.ref (gad g (48 + 4 * i))), some (.int (nI (d))), some (.int (nI (x))), some (.int (nI (cnt (prd a w u f x) (l + 1)))), some (.int (nI (l + 1))), none, none, none, none]) (by rw [cnt_miss hp0]) (ih (nM a - (l + 1)) (by omega) (l + 1) σ1 rfl (by omega) hf (fun q hq => ?_))
            rw [cnt_miss hp0] at hq
            obtain ⟨y, e1, e2, e3, e4⟩ := hsl q hq
            exact ⟨y, by omega, e2, e3, e4⟩
          · refine j_ifn_eq (tgt := 63) C dX0_sendOn_48 rfl (by omega) (fun h => absurd h (by decide)) (fun _ => ?_)
            refine j_aload_n C dX0_sendOn_51 rfl rfl ?_
            refine j_get C flX0_33 dX0_sendOn_52 (Nat.lt_of_lt_of_le (by decide) hN) rfl rfl ?_
            refine j_iload C dX0_sendOn_55 rfl ?_
            refine j_iload C dX0_sendOn_57 rfl ?_
            refine j_iast' C dX0_sendOn_59 (Nat.lt_of_lt_of_le (by decide) hN) (fun _ => rfl) (by decide) (by omega) (fun τ4 hz_5 hw_6 => ?_)
            refine j_iinc (L' := [some (.ref (gad g (23))), some (.ref (gad g (48 + 4 * i))), some (.int (nI (d))), some (.int (nI (x))), some (.int (nI (cnt (prd a w u f x) l + 1))), some (.int (nI (l))), none, none, none, none]) C dX0_sendOn_60 rfl (nI_inc _) (by decide) rfl ?_
            refine j_iinc (L' := [some (.ref (gad g (23))), some (.ref (gad g (48 + 4 * i))), some (.int (nI (d))), some (.int (nI (x))), some (.int (nI (cnt (prd a w u f x) l + 1))), some (.int (nI (l + 1))), none, none, none, none]) C dX0_sendOn_63 rfl (nI_inc _) (by decide) rfl ?_
            refine j_goto (tgt := 6) C dX0_sendOn_66 rfl ?_
            have hp1 : (prd a w u f x) l = true := by
              unfold prd
              rw [hsb, show (nFr a l == x) = true from beq_iff_eq.mpr (by omega)]
              rfl
            refine J_loc (L' := [some (.ref (gad g (23))), some (.ref (gad g (48 + 4 * i))), some (.int (nI (d))), some (.int (nI (x))), some (.int (nI (cnt (prd a w u f x) (l + 1)))), some (.int (nI (l + 1))), none, none, none, none]) (by rw [cnt_hit hp1]) (ih (nM a - (l + 1)) (by omega) (l + 1) τ4 rfl (by omega) (fun j n h => by rw [hz_5 _ _ (by omega)]; exact hf j n h) (fun q hq => ?_))
            rw [cnt_hit hp1] at hq
            by_cases e : q = cnt (prd a w u f x) l
            · subst e
              exact ⟨l, by omega, hp1, rfl, by assumption⟩
            · obtain ⟨y, e1, e2, e3, e4⟩ := hsl q (by omega)
              exact ⟨y, by omega, e2, e3, by rw [hz_5 _ _ (by omega)]; exact e4⟩
  refine j_iconst (v := nI 0) C dX0_sendOn_0 rfl ?_
  refine j_istore (L' := [some (.ref (gad g (23))), some (.ref (gad g (48 + 4 * i))), some (.int (nI (d))), some (.int (nI (x))), some (.int (nI (0))), none, none, none, none, none]) C dX0_sendOn_1 (by decide) rfl ?_
  refine j_iconst (v := nI 0) C dX0_sendOn_3 rfl ?_
  refine j_istore (L' := [some (.ref (gad g (23))), some (.ref (gad g (48 + 4 * i))), some (.int (nI (d))), some (.int (nI (x))), some (.int (nI (0))), some (.int (nI (0))), none, none, none, none]) C dX0_sendOn_4 (by decide) rfl ?_
  exact lp1 (nM a - 0) 0 σ rfl (by omega) (fun _ _ _ => rfl) (fun q hq => absurd hq (Nat.not_lt_zero _))
