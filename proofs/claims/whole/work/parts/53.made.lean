theorem va_AOA.moved {u U : State} (hvm : u.vm.Alike U.vm) (h : va_AOA .int u) : va_AOA .int U := by
  unfold va_AOA Cond.before Cond.holds at h ⊢
  simp only [Cond.value, beq_iff_eq, Option.bind_eq_some_iff, Option.map_eq_some_iff] at h ⊢
  obtain ⟨comp, h1, c, h2, k, h3, h4⟩ := h
  obtain ⟨k', hk', he⟩ := hvm.2.2 _ _ h3
  refine ⟨comp, by rw [hvm.findClass]; exact h1, c, ?_, k', hk', ?_⟩
  · have e1 := va_idx_bare U.vm comp
    have e2 := va_idx_bare u.vm comp
    rw [hvm.bare_eq] at e1
    exact (e1.symm.trans e2).trans h2
  · have hk : k'.kind = k.kind := by rw [he]
    rw [hk, hvm.findClass]
    exact h4
section JMK2
variable {g : jG} {κ : jC} {cc : ByteArray} {nL pc : Nat} {own : String} {rm : Room} {L : List (Option Value)} {S : List Value} {ws : va_W} {kc ks : Nat}
theorem ac_int : Cond.arrayClass .int ∈ lw_gd := gd_t 39 (by decide +kernel) (by decide +kernel)
theorem ac_bool : Cond.arrayClass .boolean ∈ lw_gd := gd_t 99 (by decide +kernel) (by decide +kernel)
theorem jw_newi (C : Cx g κ cc nL own rm) {n : Nat} (hd : decode cc pc = .ok (.newarray .int, 2)) (hn : n < 2 ^ 20) (hc : kc + 1 ≤ rm.cells) (hs : ks + n ≤ rm.slots)
    (k : ∀ q : Nat, Jw g κ nL (pc + 2) L (.ref q :: S) (ws ++ [(q, cI g n (fun _ => 0))]) (kc + 1) (ks + n)) : Jw g κ nL pc L (.int (nI n) :: S) ws kc ks := fun ls H locs hjl hP hD hS => by
  obtain ⟨c1, c2, c3, c4, c5, c6, c7, c8, c9⟩ := C
  refine va_newa (D := gD g) (atype := .int) (ty := .int) (a0 := (n, .inl (fun _ => 0))) c1 c2 (c5 _ ac_int) rfl c6 hP hD hS c7 (fun _ => rfl) (nI_pos (by omega)) (nI_clamp (by omega)) (by show n * 4 ≤ _; omega) (by rw [c9]; exact hc) (by rw [c9]; exact hs) hd (fun q cA H1 hK1 hP1 hD1 hS1 => ?_)
  have e1 : (kS κ).vm.findClass ("[" ++ FieldType.int.toString) = some cA := (hK1.2 4 (cA, .int) rfl).2
  have e2 : (kS κ).vm.findClass ("[" ++ FieldType.int.toString) = some (gA g 0) := (c6.2 0 (gA g 0, .int) rfl).2
  have e3 : cA = gA g 0 := Option.some.inj (e1.symm.trans e2)
  subst e3
  exact k q ls H1 locs hjl hP1 hD1 hS1
theorem jw_newz (C : Cx g κ cc nL own rm) {n : Nat} (hd : decode cc pc = .ok (.newarray .boolean, 2)) (hn : n < 2 ^ 20) (hc : kc + 1 ≤ rm.cells) (hs : ks + n ≤ rm.slots)
    (k : ∀ q : Nat, Jw g κ nL (pc + 2) L (.ref q :: S) (ws ++ [(q, cZ g n (fun _ => 0))]) (kc + 1) (ks + n)) : Jw g κ nL pc L (.int (nI n) :: S) ws kc ks := fun ls H locs hjl hP hD hS => by
  obtain ⟨c1, c2, c3, c4, c5, c6, c7, c8, c9⟩ := C
  refine va_newa (D := gD g) (atype := .boolean) (ty := .boolean) (a0 := (n, .inl (fun _ => 0))) c1 c2 (c5 _ ac_bool) rfl c6 hP hD hS c7 (fun _ => rfl) (nI_pos (by omega)) (nI_clamp (by omega)) (by show n * 1 ≤ _; omega) (by rw [c9]; exact hc) (by rw [c9]; exact hs) hd (fun q cA H1 hK1 hP1 hD1 hS1 => ?_)
  have e1 : (kS κ).vm.findClass ("[" ++ FieldType.boolean.toString) = some cA := (hK1.2 4 (cA, .boolean) rfl).2
  have e2 : (kS κ).vm.findClass ("[" ++ FieldType.boolean.toString) = some (gA g 1) := (c6.2 1 (gA g 1, .boolean) rfl).2
  have e3 : cA = gA g 1 := Option.some.inj (e1.symm.trans e2)
  subst e3
  exact k q ls H1 locs hjl hP1 hD1 hS1
theorem jw_newq (C : Cx g κ cc nL own rm) {idx n : Nat} (hlk : Cond.classLink own idx "LoadWeights$Standing" ∈ lw_gd) (hov : va_AO "LoadWeights$Standing" (kS κ)) (hd : decode cc pc = .ok (.anewarray idx, 3)) (hn : n < 2 ^ 20) (hc : kc + 1 ≤ rm.cells) (hs : ks + n ≤ rm.slots)
    (k : ∀ q : Nat, Jw g κ nL (pc + 3) L (.ref q :: S) (ws ++ [(q, .inl (gA g 3, n, .inr (.inr (.inr (.inr (fun _ => none))))))]) (kc + 1) (ks + n)) : Jw g κ nL pc L (.int (nI n) :: S) ws kc ks := fun ls H locs hjl hP hD hS => by
  obtain ⟨c1, c2, c3, c4, c5, c6, c7, c8, c9⟩ := C
  refine va_newq (D := gD g) c1 c2 c4 (c5 _ hlk) hov c6 hP hD hS c7 (nI_pos (by omega)) (nI_clamp (by omega)) (by omega) (by rw [c9]; exact hc) (by rw [c9]; exact hs) hd (fun q cA H1 hK1 hP1 hD1 hS1 => ?_)
  obtain ⟨_, _, -, -, -, e1⟩ := (hK1.2 4 (cA, .object "LoadWeights$Standing") rfl).2
  obtain ⟨_, _, -, -, -, e2⟩ := (c6.2 3 (gA g 3, .object "LoadWeights$Standing") rfl).2
  have e3 : cA = gA g 3 := Option.some.inj (e1.symm.trans e2)
  subst e3
  exact k q ls H1 locs hjl hP1 hD1 hS1
theorem jw_astq (C : Cx g κ cc nL own rm) {q0 qk a v n i : Nat} {f : Nat → Option Nat} {vs : List Value} (ha : ws[q0]? = some (a, .inl (gA g 3, n, .inr (.inr (.inr (.inr f)))))) (hv : ws[qk]? = some (v, .inr (6, vs))) (hn : n < 2 ^ 31) (hi : i < n) (hd : decode cc pc = .ok (.aastore, 1))
    (k : Jw g κ nL (pc + 1) L S (ws.set q0 (a, .inl (gA g 3, n, .inr (.inr (.inr (.inr (va_up f i (some v)))))))) kc ks) : Jw g κ nL pc L (.ref v :: .int (nI i) :: .ref a :: S) ws kc ks := fun ls H locs hjl hP hD hS => by
  obtain ⟨c1, c2, c3, c4, c5, c6, c7, c8, c9⟩ := C
  refine va_astq (D := gD g) (r := (RX6, TX6, 7)) c1 c2 c6 hP hD hS q0 3 qk 6 ha rfl hv rfl (vp_in_nI hi hn) hd (fun H1 locs1 hP1 hD1 hS1 => ?_)
  rw [nI_clamp (by omega)] at hP1 hD1
  exact k ls H1 locs1 hjl hP1 hD1 hS1
theorem jw_mna (C : Cx g κ cc nL RX0 rm) {n m : Nat} (hov : va_AOA .int (kS κ)) (hd : decode cc pc = .ok (.multianewarray 9 2, 4)) (hn : n < 2 ^ 20) (hm : m < 2 ^ 20) (hc : kc + (1 + n) ≤ rm.cells) (hs : ks + (n + n * m) ≤ rm.slots)
    (k : ∀ (q : Nat) (r : Nat → Nat), Jw g κ nL (pc + 4) L (.ref q :: S) (ws ++ [(q, .inl (gA g 2, n, .inr (.inr (.inr (.inr (fun i => if i < n then some (r i) else none))))))] ++ (List.range n).map (fun i => (r i, cI g m (fun _ => 0)))) (kc + 1 + n) (ks + n + n * m)) : Jw g κ nL pc L (.int (nI m) :: .int (nI n) :: S) ws kc ks := fun ls H locs hjl hP hD hS => by
  obtain ⟨c1, c2, c3, c4, c5, c6, c7, c8, c9⟩ := C
  have hcy : (kS κ).vm.findClass (FieldType.array .int).toString = some (gA g 0) := (c6.2 0 (gA g 0, .int) rfl).2
  have hlk : Cond.classLink RX0 9 ("[" ++ (FieldType.array .int).toString) ∈ lw_gd := gd_t 116 (by decide +kernel) (by decide +kernel)
  have hP0 : va_P (gD g) vwCl (ws ++ va_pl [] (fun _ => cI g 0 (fun _ => 0))) H := by
    have : ws ++ va_pl [] (fun _ => cI g 0 (fun _ => 0)) = ws := List.append_nil _
    rw [this]; exact hP
  have hD0 : va_D (kA κ) (ws ++ va_pl [] (fun _ => cI g 0 (fun _ => 0))) := by
    have : ws ++ va_pl [] (fun _ => cI g 0 (fun _ => 0)) = ws := List.append_nil _
    rw [this]; exact hD
  refine va_mna (D := gD g) (ty := .int) (cy := gA g 0) (z := (m, .inl (fun _ => 0))) c1 c2 c4 (c5 _ hlk) hov (c5 _ ac_int) hcy c6 hP0 hD0 hS c7 (nI_pos (by omega)) (nI_pos (by omega)) (nI_clamp (by omega)) (nI_clamp (by omega)) (by omega) (by show m * 4 ≤ _; omega) (by omega) rfl rfl (by rw [c9]; exact hc) (by rw [c9]; exact hs) (fun c => by show ({ cls := c, slots := Array.replicate m (defaultValue .int), vm := .none } : Cell) = _; rw [arrV_new]; rfl) hd (fun q r cA H1 hr1 hr2 hK1 hP1 hD1 hS1 => ?_)
  have e1 : (kS κ).vm.findClass ("[" ++ (FieldType.array .int).toString) = some cA := (hK1.2 4 (cA, .array .int) rfl).2
  have e2 : (kS κ).vm.findClass ("[" ++ (FieldType.array .int).toString) = some (gA g 2) := (c6.2 2 (gA g 2, .array .int) rfl).2
  have e3 : cA = gA g 2 := Option.some.inj (e1.symm.trans e2)
  subst e3
  have e4 : va_pl ([] ++ (List.range n).map r) (vr_up (fun _ => cI g 0 (fun _ => 0)) ((List.range n).map r) (.inl (gA g 0, m, .inl (fun _ => 0)))) = (List.range n).map (fun i => (r i, cI g m (fun _ => 0))) := by
    unfold va_pl
    rw [List.nil_append, List.map_map]
    apply List.map_congr_left
    intro i hi
    show (r i, vr_up _ _ _ (r i)) = _
    rw [vr_up_in (List.mem_map_of_mem hi)]
    rfl
  rw [e4] at hP1 hD1
  exact k q r ls H1 locs hjl hP1 hD1 hS1
end JMK2
