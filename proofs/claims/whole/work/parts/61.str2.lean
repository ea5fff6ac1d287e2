theorem ct1 {v : Value} (h : v.category = 1) : ∀ w ∈ [v], w.category = 1 := List.forall_mem_cons.mpr ⟨h, fun _ h => absurd h List.not_mem_nil⟩
theorem ct2 {v u : Value} (h : v.category = 1) (h2 : u.category = 1) : ∀ w ∈ [v, u], w.category = 1 := List.forall_mem_cons.mpr ⟨h, ct1 h2⟩
theorem ct3 {v u x : Value} (h : v.category = 1) (h2 : u.category = 1) (h3 : x.category = 1) : ∀ w ∈ [v, u, x], w.category = 1 := List.forall_mem_cons.mpr ⟨h, ct2 h2 h3⟩
section STRM
variable {g : jG} {ws : va_W}
theorem tJ0_coder : MX g (eX g) yJ0_coder_7d493 cJ0_coder_7d493 1 (some .byte) rmJ0_coder_7d493 [.ref (gsa g 2)] ws (fun r w' => w' = ws ∧ r = 0) := by
  refine MX_of (by decide) (Nat.le_of_ble_eq_true rfl) (ct1 rfl) ?_
  intro κ M X
  have C := M.1
  refine js_stat (ref := "") C X.1.1 js38 dJ0_coder_7d493_0 ?_
  refine j_if_eq (tgt := 13) C dJ0_coder_7d493_3 rfl (fun h => absurd h (by decide)) (fun _ => ?_)
  refine j_aload_n C dJ0_coder_7d493_6 rfl rfl ?_
  refine js_getf C (X.1.2.2.1.1 0 (by decide)).2.1 js15 dJ0_coder_7d493_7 ?_
  refine j_goto (tgt := 14) C dJ0_coder_7d493_10 rfl ?_
  exact js_nret M rfl dJ0_coder_7d493_14 (by decide) (by decide) ⟨rfl, rfl⟩
theorem tJ0_isLatin1 : MX g (eX g) yJ0_isLatin1_aae02 cJ0_isLatin1_aae02 1 (some .boolean) rmJ0_isLatin1_aae02 [.ref (gsa g 2)] ws (fun r w' => w' = ws ∧ r = nI 1) := by
  refine MX_of (by decide) (Nat.le_of_ble_eq_true rfl) (ct1 rfl) ?_
  intro κ M X
  have C := M.1
  refine js_stat (ref := "") C X.1.1 js38 dJ0_isLatin1_aae02_0 ?_
  refine j_if_eq (tgt := 17) C dJ0_isLatin1_aae02_3 rfl (fun h => absurd h (by decide)) (fun _ => ?_)
  refine j_aload_n C dJ0_isLatin1_aae02_6 rfl rfl ?_
  refine js_getf C (X.1.2.2.1.1 0 (by decide)).2.1 js15 dJ0_isLatin1_aae02_7 ?_
  refine j_if_ne (tgt := 17) C dJ0_isLatin1_aae02_10 rfl (fun h => absurd rfl h) (fun _ => ?_)
  refine j_iconst (v := nI 1) C dJ0_isLatin1_aae02_13 rfl ?_
  refine j_goto (tgt := 18) C dJ0_isLatin1_aae02_14 rfl ?_
  exact js_nret M rfl dJ0_isLatin1_aae02_18 (by decide) (by decide) ⟨rfl, rfl⟩
theorem str_rv {κ : jC} (X : eX g (kA κ) (kS κ)) : ∀ (H : Heap) (locs : List Loc), va_S (kA κ) (kS κ).heap H locs → ∃ cell : Cell, H[gsa g 2]? = some cell ∧ cell.vm.isStatics = false ∧ (kS κ).vm.findClass "java/lang/String" = some cell.cls := fun H locs hS => vk_recv (i := 0) X.1.2.2.1 (by decide) hS
theorem tJ0_length : MX g (eX g) yJ0_length_8abf5 cJ0_length_8abf5 1 (some .int) rmJ0_length_8abf5 [.ref (gsa g 2)] ws (fun r w' => w' = ws ∧ r = nI 84) := by
  refine MX_of (by decide) (Nat.le_of_ble_eq_true rfl) (ct1 rfl) ?_
  intro κ M X
  have C := M.1
  refine j_aload_n C dJ0_length_8abf5_0 rfl rfl ?_
  refine js_getf C (X.1.2.2.1.1 0 (by decide)).2.2.1 js9 dJ0_length_8abf5_1 ?_
  refine js_len C (X.1.2.2.1.1 0 (by decide)).2.2.2 dJ0_length_8abf5_4 ?_
  refine j_aload_n C dJ0_length_8abf5_5 rfl rfl ?_
  refine js_callV (eX_ok g) (As := []) (rest := [.int (nI 84)]) C X (str_rv X) tJ0_coder cdJ0_coder_7d493 mlJ0_335 dJ0_length_8abf5_6 (by decide) (by decide) rfl rfl (Nat.le_of_ble_eq_true rfl) (fun r w' hw => ?_)
  obtain ⟨rfl, rfl⟩ := hw
  refine j_ishr C dJ0_length_8abf5_9 ?_
  refine j_top (y := nI 84) (by decide) ?_
  exact j_ireturn M dJ0_length_8abf5_10 (by decide) (by decide) ⟨rfl, rfl⟩
theorem tJ3_checkIndex {k : Nat} {v : Value} (hk : k < 84) (hv : v.category = 1) : MX g (eX g) yJ3_checkIndex_8e157 cJ3_checkIndex_8e157 3 (some .int) rmJ3_checkIndex_8e157 [.int (nI k), .int (nI 84), v] ws (fun r w' => w' = ws ∧ r = nI k) := by
  refine MX_of (by decide) (by show (lg_sl [_, _, v]).length ≤ 3; simp [lg_sl, hv]; exact Nat.le_of_ble_eq_true rfl) (ct3 rfl rfl hv) ?_
  intro κ M X
  have C := M.1
  refine j_iload_n C dJ3_checkIndex_8e157_0 rfl rfl ?_
  refine j_if_lt (tgt := 9) C dJ3_checkIndex_8e157_1 rfl (fun h => absurd h (nI_pos (by omega))) (fun _ => ?_)
  refine j_iload_n C dJ3_checkIndex_8e157_4 rfl rfl ?_
  refine j_iload_n C dJ3_checkIndex_8e157_5 rfl rfl ?_
  refine j_icmpn_lt (tgt := 16) C dJ3_checkIndex_8e157_6 rfl (by omega) (by omega) (fun _ => ?_) (fun h => absurd hk (by omega))
  refine j_iload_n C dJ3_checkIndex_8e157_16 rfl rfl ?_
  exact j_ireturn M dJ3_checkIndex_8e157_17 (by decide) (by decide) ⟨rfl, rfl⟩
theorem tJ0_checkIndex {k : Nat} (hk : k < 84) : MX g (eX g) yJ0_checkIndex_df160 cJ0_checkIndex_df160 2 none rmJ0_checkIndex_df160 [.int (nI k), .int (nI 84)] ws (fun _ w' => w' = ws) := by
  refine MX_of (by decide) (Nat.le_of_ble_eq_true rfl) (ct2 rfl rfl) ?_
  intro κ M X
  have C := M.1
  refine j_iload_n C dJ0_checkIndex_df160_0 rfl rfl ?_
  refine j_iload_n C dJ0_checkIndex_df160_1 rfl rfl ?_
  obtain ⟨v, hv, hz⟩ : ∃ v : Value, v.category = 1 ∧ va_Z "jdk/internal/util/Preconditions" "SIOOBE_FORMATTER" "Ljava/util/function/BiFunction;" v (kA κ) (kS κ) (kS κ).heap := by
    rcases X.1.2.1 with h | ⟨t, h⟩
    · exact ⟨.null, rfl, h⟩
    · exact ⟨.ref t, rfl, h⟩
  refine js_stat (ref := "") C hz js1053 dJ0_checkIndex_df160_2 ?_
  refine js_callS (eX_ok g) (As := [.int (nI k), .int (nI 84), v]) (rest := []) C X (tJ3_checkIndex hk hv) cdJ3_checkIndex_8e157 msJ0_1059 dJ0_checkIndex_df160_5 (by decide) (by decide) rfl rfl (Nat.le_of_ble_eq_true rfl) (fun r w' hw => ?_)
  obtain ⟨rfl, rfl⟩ := hw
  refine j_pop C dJ0_checkIndex_df160_8 rfl ?_
  exact j_return M dJ0_checkIndex_df160_9 (by decide) (by decide) rfl
theorem byt0_c : ∀ k, k < 84 → ((byt0.getD k 0 &&& nI 255).toUInt32 % 65536).toInt32 = tx0 k ∧ narrow .char (.int (tx0 k)) = .int (tx0 k) := by decide +kernel
theorem tJ1_charAt {k : Nat} (hk : k < 84) : MX g (eX g) yJ1_charAt_3b067 cJ1_charAt_3b067 2 (some .char) rmJ1_charAt_3b067 [.ref (gsa g 3), .int (nI k)] ws (fun r w' => w' = ws ∧ r = tx0 k) := by
  refine MX_of (by decide) (Nat.le_of_ble_eq_true rfl) (ct2 rfl rfl) ?_
  intro κ M X
  have C := M.1
  have hT := (X.1.2.2.1.1 0 (by decide)).2.2.2
  refine j_iload_n C dJ1_charAt_3b067_0 rfl rfl ?_
  refine j_aload_n C dJ1_charAt_3b067_1 rfl rfl ?_
  refine js_len C hT dJ1_charAt_3b067_2 ?_
  refine js_callSv (eX_ok g) (As := [.int (nI k), .int (nI 84)]) (rest := []) C X (tJ0_checkIndex hk) cdJ0_checkIndex_df160 msJ1_9 dJ1_charAt_3b067_3 (by decide) (by decide) rfl rfl (Nat.le_of_ble_eq_true rfl) (fun w' hw => ?_)
  subst hw
  refine j_aload_n C dJ1_charAt_3b067_6 rfl rfl ?_
  refine j_iload_n C dJ1_charAt_3b067_7 rfl rfl ?_
  refine js_ld (v := .int (byt0.getD k 0)) C hT hk (by decide) rfl dJ1_charAt_3b067_8 ?_
  refine j_sipush (v := nI 255) C dJ1_charAt_3b067_9 rfl ?_
  refine j_iand C dJ1_charAt_3b067_12 ?_
  refine js_i2c C dJ1_charAt_3b067_13 (byt0_c k hk).1 ?_
  exact js_nret M (byt0_c k hk).2 dJ1_charAt_3b067_14 (by decide) (by decide) ⟨rfl, rfl⟩
theorem tJ0_charAt {k : Nat} (hk : k < 84) : MX g (eX g) yJ0_charAt_5068e cJ0_charAt_5068e 2 (some .char) rmJ0_charAt_5068e [.ref (gsa g 2), .int (nI k)] ws (fun r w' => w' = ws ∧ r = tx0 k) := by
  refine MX_of (by decide) (Nat.le_of_ble_eq_true rfl) (ct2 rfl rfl) ?_
  intro κ M X
  have C := M.1
  refine j_aload_n C dJ0_charAt_5068e_0 rfl rfl ?_
  refine js_callV (eX_ok g) (As := []) (rest := []) C X (str_rv X) tJ0_isLatin1 cdJ0_isLatin1_aae02 mlJ0_492 dJ0_charAt_5068e_1 (by decide) (by decide) rfl rfl (Nat.le_of_ble_eq_true rfl) (fun r w' hw => ?_)
  obtain ⟨rfl, rfl⟩ := hw
  refine j_if_eq (tgt := 16) C dJ0_charAt_5068e_4 rfl (fun h => absurd h (by decide)) (fun _ => ?_)
  refine j_aload_n C dJ0_charAt_5068e_7 rfl rfl ?_
  refine js_getf C (X.1.2.2.1.1 0 (by decide)).2.2.1 js9 dJ0_charAt_5068e_8 ?_
  refine j_iload_n C dJ0_charAt_5068e_11 rfl rfl ?_
  refine js_callS (eX_ok g) (As := [.ref (gsa g 3), .int (nI k)]) (rest := []) C X (tJ1_charAt hk) cdJ1_charAt_3b067 msJ0_495 dJ0_charAt_5068e_12 (by decide) (by decide) rfl rfl (Nat.le_of_ble_eq_true rfl) (fun r w' hw => ?_)
  obtain ⟨rfl, rfl⟩ := hw
  exact js_nret M (byt0_c k hk).2 dJ0_charAt_5068e_15 (by decide) (by decide) ⟨rfl, rfl⟩
end STRM
