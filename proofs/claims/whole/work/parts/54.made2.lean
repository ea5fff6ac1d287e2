/-! rows over a world ws ++ T -/
theorem ap_get {α : Type} {ws T : List α} {i : Nat} : (ws ++ T)[ws.length + i]? = T[i]? := by
  rw [List.getElem?_append_right (by omega), Nat.add_sub_cancel_left]
theorem ap_set {α : Type} {ws T : List α} {i : Nat} {x : α} : (ws ++ T).set (ws.length + i) x = ws ++ T.set i x := by
  rw [List.set_append_right _ _ (by omega), Nat.add_sub_cancel_left]
/-- a field that a constructor sets: final or not -/
def jfF (own : String) (index ci k : Nat) (ty : FieldType) (fin : Bool) : Prop := ∃ (C : String) (T : u_T) (n : Nat) (t0 : Nat → FieldType), vwCl[ci]? = some (C, T, n) ∧ k < n ∧ (∀ w ∈ u_ws C T n, w ∈ lw_gd) ∧ Cond.fieldLink own index (T k).1 (T k).2.1 (T k).2.2.1 ∈ lw_gd ∧ (∀ k, k < n → parseFieldDescriptor (T k).2.2.1 = some (t0 k)) ∧ (∀ a, a < n → ∀ b, b < n → a ≠ b → (T a).2.1 ≠ (T b).2.1) ∧ (T k).2.2.2 = fin ∧ (T k).1 = own ∧ parseFieldDescriptor (T k).2.2.1 = some ty
/-- an object made: its fields' first values -/
def jnw (own : String) (idx ci n : Nat) (fs : List Value) : Prop := ∃ (C : String) (T : u_T) (t0 : Nat → FieldType), vwCl[ci]? = some (C, T, n) ∧ (∀ w ∈ u_ws C T n, w ∈ lw_gd) ∧ (∀ k, k < n → parseFieldDescriptor (T k).2.2.1 = some (t0 k)) ∧ Cond.classLink own idx C ∈ lw_gd ∧ Cond.instantiable C n ∈ lw_gd ∧ Cond.initialized C ∈ lw_gd ∧ ∀ j, j < n → defaultValue (t0 j) = vp_V fs j
section JX
variable {g : jG} {κ : jC} {cc : ByteArray} {nL pc : Nat} {own : String} {rm : Room} {L : List (Option Value)} {S : List Value} {ws T : va_W} {kc ks : Nat}
theorem jx_as {X : va_W} (k : Jw g κ nL pc L S ((ws ++ T) ++ X) kc ks) : Jw g κ nL pc L S (ws ++ (T ++ X)) kc ks := by rw [← List.append_assoc]; exact k
theorem jx_sa {X : va_W} (k : Jw g κ nL pc L S (ws ++ (T ++ X)) kc ks) : Jw g κ nL pc L S ((ws ++ T) ++ X) kc ks := by rw [List.append_assoc]; exact k
theorem jx_wid {kc' ks' : Nat} (h1 : kc ≤ kc') (h2 : ks ≤ ks') (k : Jw g κ nL pc L S ws kc' ks') : Jw g κ nL pc L S ws kc ks := fun ls H locs hjl hP hD hS => W.widen h1 h2 (k ls H locs hjl hP hD hS)
theorem jx_newi (C : Cx g κ cc nL own rm) {n : Nat} (hd : decode cc pc = .ok (.newarray .int, 2)) (hn : n < 2 ^ 20) (hc : kc + 1 ≤ rm.cells) (hs : ks + n ≤ rm.slots) (k : ∀ q : Nat, Jw g κ nL (pc + 2) L (.ref q :: S) (ws ++ (T ++ [(q, cI g n (fun _ => 0))])) (kc + 1) (ks + n)) : Jw g κ nL pc L (.int (nI n) :: S) (ws ++ T) kc ks :=
  jw_newi C hd hn hc hs (fun q => jx_sa (k q))
theorem jx_newz (C : Cx g κ cc nL own rm) {n : Nat} (hd : decode cc pc = .ok (.newarray .boolean, 2)) (hn : n < 2 ^ 20) (hc : kc + 1 ≤ rm.cells) (hs : ks + n ≤ rm.slots) (k : ∀ q : Nat, Jw g κ nL (pc + 2) L (.ref q :: S) (ws ++ (T ++ [(q, cZ g n (fun _ => 0))])) (kc + 1) (ks + n)) : Jw g κ nL pc L (.int (nI n) :: S) (ws ++ T) kc ks :=
  jw_newz C hd hn hc hs (fun q => jx_sa (k q))
theorem jx_newq (C : Cx g κ cc nL own rm) {idx n : Nat} (hlk : Cond.classLink own idx "LoadWeights$Standing" ∈ lw_gd) (hov : va_AO "LoadWeights$Standing" (kS κ)) (hd : decode cc pc = .ok (.anewarray idx, 3)) (hn : n < 2 ^ 20) (hc : kc + 1 ≤ rm.cells) (hs : ks + n ≤ rm.slots)
    (k : ∀ q : Nat, Jw g κ nL (pc + 3) L (.ref q :: S) (ws ++ (T ++ [(q, .inl (gA g 3, n, .inr (.inr (.inr (.inr (fun _ => none))))))])) (kc + 1) (ks + n)) : Jw g κ nL pc L (.int (nI n) :: S) (ws ++ T) kc ks :=
  jw_newq C hlk hov hd hn hc hs (fun q => jx_sa (k q))
theorem jx_mna (C : Cx g κ cc nL RX0 rm) {n m : Nat} (hov : va_AOA .int (kS κ)) (hd : decode cc pc = .ok (.multianewarray 9 2, 4)) (hn : n < 2 ^ 20) (hm : m < 2 ^ 20) (hc : kc + (1 + n) ≤ rm.cells) (hs : ks + (n + n * m) ≤ rm.slots)
    (k : ∀ (q : Nat) (r : Nat → Nat), Jw g κ nL (pc + 4) L (.ref q :: S) (ws ++ (T ++ ([(q, .inl (gA g 2, n, .inr (.inr (.inr (.inr (fun i => if i < n then some (r i) else none))))))] ++ (List.range n).map (fun i => (r i, cI g m (fun _ => 0)))))) (kc + 1 + n) (ks + n + n * m)) : Jw g κ nL pc L (.int (nI m) :: .int (nI n) :: S) (ws ++ T) kc ks :=
  jw_mna C hov hd hn hm hc hs (fun q r => by
    have := k q r
    rw [← List.append_assoc, ← List.append_assoc] at this
    exact this)
theorem jx_new (C : Cx g κ cc nL own rm) {idx ci n : Nat} {fs : List Value} (hw : jnw own idx ci n fs) (hd : decode cc pc = .ok (.new idx, 3)) (hc : kc + 1 ≤ rm.cells) (hs : ks + n ≤ rm.slots)
    (k : ∀ q : Nat, Jw g κ nL (pc + 3) L (.ref q :: S) (ws ++ (T ++ [(q, .inr (ci, fs))])) (kc + 1) (ks + n)) : Jw g κ nL pc L S (ws ++ T) kc ks := fun ls H locs hjl hP hD hS => by
  obtain ⟨Cn, T0, t0, w1, w2, w3, w4, w5, w6, w7⟩ := hw
  obtain ⟨c1, c2, c3, c4, c5, c6, c7, c8, c9⟩ := C
  exact va_new (D := gD g) c1 c2 c5 w2 t0 w3 c4 (c5 _ w4) (c5 _ w5) (c5 _ w6) c6 hP hD hS c7 w1 w7 (by rw [c9]; exact hc) (by rw [c9]; exact hs) hd (fun q H1 hP1 hD1 hS1 => jx_sa (k q) ls H1 locs hjl hP1 hD1 hS1)
theorem jx_putF (C : Cx g κ cc nL own rm) (hnm : (kMe κ).name = "<init>") {index ci k i a : Nat} {fs : List Value} {v : Value} {ty : FieldType} {fin : Bool} (hf : jfF own index ci k ty fin) (hd : decode cc pc = .ok (.putfield index, 3)) (he : T[i]? = some (a, .inr (ci, fs))) (hl : k < fs.length) (hn : narrow ty v = v) (hfit : fits ty v = true)
    (kk : Jw g κ nL (pc + 3) L S (ws ++ T.set i (a, .inr (ci, fs.set k v))) kc ks) : Jw g κ nL pc L (v :: .ref a :: S) (ws ++ T) kc ks := fun ls H locs hjl hP hD hS => by
  obtain ⟨Cn, T0, n, t0, f1, f2, f3, f4, f5, f6, f7, f8, f9⟩ := hf
  obtain ⟨c1, c2, c3, c4, c5, c6, c7, c8, c9⟩ := C
  cases fin with
  | true =>
    refine va_putF (D := gD g) (v := v) (ty := ty) c1 c2 c5 f3 t0 f5 f6 c4 c6 hP hD hS (ws.length + i) (by rw [ap_get]; exact he) f1 k f2 (c5 _ f4) (fun _ h9 => h9) f7 hnm f8 f9 hn hfit hl hd (fun H1 locs1 hP1 hD1 hS1 => ?_)
    rw [ap_set] at hP1 hD1
    exact kk ls H1 locs1 hjl hP1 hD1 hS1
  | false =>
    refine va_put (D := gD g) (v := v) (ty := ty) c1 c2 c5 f3 t0 f5 f6 c4 c6 hP hD hS (ws.length + i) (by rw [ap_get]; exact he) f1 k f2 (c5 _ f4) (fun _ h9 => h9) f7 f9 hn hfit hl hd (fun H1 locs1 hP1 hD1 hS1 => ?_)
    rw [ap_set] at hP1 hD1
    exact kk ls H1 locs1 hjl hP1 hD1 hS1
theorem jx_get (C : Cx g κ cc nL own rm) {index ci k i a : Nat} {fs : List Value} {v : Value} (hf : jfl own index ci k) (hd : decode cc pc = .ok (.getfield index, 3)) (he : T[i]? = some (a, .inr (ci, fs))) (hv : fs[k]? = some v) (kk : Jw g κ nL (pc + 3) L (v :: S) (ws ++ T) kc ks) : Jw g κ nL pc L (.ref a :: S) (ws ++ T) kc ks := fun ls H locs hjl hP hD hS => by
  obtain ⟨Cn, T0, n, f1, f2, f3, f4⟩ := hf
  obtain ⟨c1, c2, c3, c4, c5, c6, c7, c8, c9⟩ := C
  exact va_get (D := gD g) c1 c2 c5 f3 c4 c6 hP (ws.length + i) (by rw [ap_get]; exact he) f1 k f2 (c5 _ f4) (fun _ h9 => h9) hv hd (kk ls H locs hjl hP hD hS)
theorem jx_astq (C : Cx g κ cc nL own rm) {i j a v n e : Nat} {f : Nat → Option Nat} {vs : List Value} (ha : T[i]? = some (a, .inl (gA g 3, n, .inr (.inr (.inr (.inr f)))))) (hv : T[j]? = some (v, .inr (6, vs))) (hn : n < 2 ^ 31) (hi : e < n) (hd : decode cc pc = .ok (.aastore, 1))
    (k : Jw g κ nL (pc + 1) L S (ws ++ T.set i (a, .inl (gA g 3, n, .inr (.inr (.inr (.inr (va_up f e (some v)))))))) kc ks) : Jw g κ nL pc L (.ref v :: .int (nI e) :: .ref a :: S) (ws ++ T) kc ks := by
  refine jw_astq (q0 := ws.length + i) (qk := ws.length + j) C (by rw [ap_get]; exact ha) (by rw [ap_get]; exact hv) hn hi hd ?_
  rw [ap_set]
  exact k
end JX
/-! calls with cells made before -/
section JK
variable {g : jG} {κ : jC} {cc : ByteArray} {nL pc : Nat} {own : String} {rm : Room} {L : List (Option Value)} {S : List Value} {σ : Sg} {kc ks : Nat}
abbrev JJ (g : jG) (κ : jC) (nL pc : Nat) (L : List (Option Value)) (S : List Value) (σ : Sg) (kc ks : Nat) : Prop := Jw g κ nL pc L S (Wd g σ) kc ks
theorem jk_calli {y : MethodName} {c' : ByteArray} {n' idx n : Nat} {t0 : FieldType} {r' : Room} {q : Nat} {As rest : List Value} {Q : Int32 → Sg → Prop} {ci : Nat} {r : vw_C} {fs : List Value} (C : Cx g κ cc nL own rm) (hM : MS g y c' n' (some t0) r' (.ref (gad g q) :: As) σ Q) (hcd : Cond.code y c' n' (some t0) ∈ lw_gd) (hl : jml own idx y n) (hd : decode cc pc = .ok (.invokevirtual idx, 3)) (hR : r'.frames + 1 ≤ rm.frames ∧ 8 + (n' + 11) + r'.locals ≤ rm.locals) (hz : r'.cells = 0 ∧ r'.slots = 0) (hkc : kc ≤ rm.cells ∧ ks ≤ rm.slots)
    (hq : q < gN g) (he : cf g q (σ q) = .inr (ci, fs)) (hci : vwCl[ci]? = some r) (hr : r.1 = y.cls) (hn : As.length = n) (hst : S = As.reverse ++ .ref (gad g q) :: rest) (hW : (rest.map fun v => v.category).sum ≤ 8)
    (kk : ∀ (x : Int32) (σ' : Sg), Q x σ' → JJ g κ nL (pc + 3) L (.int x :: rest) σ' kc ks) : JJ g κ nL pc L S σ kc ks := by
  refine j_backi (rest := rest) (t0 := t0) (Q := jS g Q) (mc := 0) (ms := 0) (a := (Value.ref (gad g q) :: As).toArray) C (fun ls H locs hjl hP hD hS => ?_) (fun x ws' h => ?_)
  · have := j_run (q0 := q) (kc := kc) (ks := ks) C hM hcd hl hR (by rw [hz.1, hz.2]; exact hkc) (by rw [wd_get hq, he]) hci hr hn hst hW hd hjl hP hD hS
    rw [hz.1, hz.2] at this
    exact this
  · obtain ⟨σ', rfl, h⟩ := h
    exact kk x σ' h
theorem jk_callv {y : MethodName} {c' : ByteArray} {n' idx n : Nat} {r' : Room} {q : Nat} {As rest : List Value} {Q : Int32 → Sg → Prop} {ci : Nat} {r : vw_C} {fs : List Value} (C : Cx g κ cc nL own rm) (hM : MS g y c' n' none r' (.ref (gad g q) :: As) σ Q) (hcd : Cond.code y c' n' none ∈ lw_gd) (hl : jml own idx y n) (hd : decode cc pc = .ok (.invokevirtual idx, 3)) (hR : r'.frames + 1 ≤ rm.frames ∧ 8 + (n' + 11) + r'.locals ≤ rm.locals) (hz : r'.cells = 0 ∧ r'.slots = 0) (hkc : kc ≤ rm.cells ∧ ks ≤ rm.slots)
    (hq : q < gN g) (he : cf g q (σ q) = .inr (ci, fs)) (hci : vwCl[ci]? = some r) (hr : r.1 = y.cls) (hn : As.length = n) (hst : S = As.reverse ++ .ref (gad g q) :: rest) (hW : (rest.map fun v => v.category).sum ≤ 8)
    (kk : ∀ σ' : Sg, Q 0 σ' → JJ g κ nL (pc + 3) L rest σ' kc ks) : JJ g κ nL pc L S σ kc ks := by
  refine j_backv (rest := rest) (Q := jS g Q) (mc := 0) (ms := 0) (a := (Value.ref (gad g q) :: As).toArray) C (fun ls H locs hjl hP hD hS => ?_) (fun ws' h => ?_)
  · have := j_run (q0 := q) (kc := kc) (ks := ks) C hM hcd hl hR (by rw [hz.1, hz.2]; exact hkc) (by rw [wd_get hq, he]) hci hr hn hst hW hd hjl hP hD hS
    rw [hz.1, hz.2] at this
    exact this
  · obtain ⟨σ', rfl, h⟩ := h
    exact kk σ' h
/-- another order of the cells -/
theorem jx_perm {ws ws' : va_W} {f : Nat → Nat} (hf : ∀ (k : Nat) (q : Nat × va_E), ws'[k]? = some q → ws[f k]? = some q) (hi : ∀ i j, i < ws'.length → j < ws'.length → f i = f j → i = j) (k : Jw g κ nL pc L S ws' kc ks) : Jw g κ nL pc L S ws kc ks := fun ls H locs hjl hP hD hS => by
  refine k ls H locs hjl (fun j q hq => hP (f j) q (hf j q hq)) ⟨fun i j p q h1 h2 e => ?_, fun j q hq => hD.2 (f j) q (hf j q hq)⟩ hS
  have l1 := (List.getElem?_eq_some_iff.mp h1).1
  have l2 := (List.getElem?_eq_some_iff.mp h2).1
  exact hi i j l1 l2 (hD.1 (f i) (f j) p q (hf i p h1) (hf j q h2) e)
end JK
