/-! making: contracts with more than jE given; rows over a bare world -/
abbrev jX : Type := (Nat → Prop) → State → Prop
def XOk (E : jX) : Prop := (∀ (A B : Nat → Prop) (s U : State) (H : Heap) (locs : List Loc), E A s → va_S A s.heap H locs → U.heap = H → s.WarmedH U.vm → (∀ q, B q → A q) → E B U) ∧ ∀ (A : Nat → Prop) (U : State) (gf : JFrame) (mk : MethodId) (a : Array Value), E A U → E A (U.calling gf mk a)
def jPX (g : jG) (E : jX) (args : List Value) (ws : va_W) (sz : Nat) : Array Value → State → Prop := va_Pc args (fun U => U.heap.size = sz ∧ va_P (gD g) vwCl ws U.heap ∧ va_K (gD g) vwCl (jT g) U ∧ va_D (fun _ => True) ws ∧ jE g (va_A ws sz) U ∧ E (va_A ws sz) U)
def MX (g : jG) (E : jX) (y : MethodName) (cc : ByteArray) (nL : Nat) (ret : Option FieldType) (rm : Room) (args : List Value) (ws : va_W) (Q : Int32 → va_W → Prop) : Prop :=
  ∀ sz : Nat, Met (gL g) y (Cond.code y cc nL ret :: lw_gd) rm (jPX g E args ws sz) (jQ g (va_A ws sz) ret Q) rm.cells rm.slots (va_A ws sz)
theorem MX_of {g : jG} {E : jX} {y : MethodName} {cc : ByteArray} {nL : Nat} {ret : Option FieldType} {rm : Room} {args : List Value} {ws : va_W} {Q : Int32 → va_W → Prop} (hy : plainName y.cls = true) (hn : (lg_sl args).length ≤ nL) (hcat : ∀ v ∈ args, v.category = 1)
    (h : ∀ κ : jC, Mx g κ cc nL y.cls rm ret y.name Q → E (kA κ) (kS κ) → Jw g κ nL 0 (args.map some ++ List.replicate (nL - args.length) none) [] ws 0 0) : MX g E y cc nL ret rm args ws Q := by
  intro sz
  refine Met.ofW (cc := cc) (maxL := nL) (ret := ret) hy rfl ?_
  intro p e s m args0 below meth c s₁ B hml hv
  obtain ⟨rfl, hsz, hP, hK, hD0, hE, hX⟩ := hv
  subst hsz
  have hts := atoms_spec (ws := Cond.code y cc nL ret :: lw_gd) B.pre
  have hC : Cx g (p, e, rm, s, m, args.toArray, below, meth, c, va_A ws s.heap.size, MQ below (jQ g (va_A ws s.heap.size) ret Q) args.toArray s rm.cells rm.slots (va_A ws s.heap.size)) cc nL y.cls rm :=
    ⟨B.exec, B.bytes, hml, findClass_of_methodNamed B.named, fun w hw => hts w (List.mem_cons_of_mem _ hw), hK, fun q hq => Or.inr hq, hE, rfl⟩
  have hJ := h _ ⟨hC, B.returns, B.notSynchronized, rfl, (name_of_methodNamed B.named B.method).1⟩ hX
  have hl := lv_entry args (n := nL) hn
  rw [lg_entry_eq]
  refine hJ _ s.heap [] ⟨?_, ?_⟩ hP hD0.self va_S.rf
  · rw [lv_args_jlv args 0 _ hcat]
    exact hl
  · intro j v hj
    by_cases hjl : j < (args.map some).length
    · rw [List.getElem?_append_left hjl, List.getElem?_map] at hj
      cases hx : args[j]? with
      | none => rw [hx] at hj; cases hj
      | some w =>
        rw [hx] at hj
        cases hj
        exact hcat v (List.mem_of_getElem? hx)
    · rw [List.getElem?_append_right (by omega)] at hj
      have := List.mem_of_getElem? hj
      rw [List.mem_replicate] at this
      cases this.2
section JMK
variable {g : jG} {κ : jC} {cc : ByteArray} {nL pc : Nat} {own : String} {rm : Room} {L : List (Option Value)} {S : List Value} {ws : va_W} {kc ks : Nat} {E : jX}
theorem jPX_blind (hE : XOk E) {args : List Value} {sz : Nat} : FrameBlind (jPX g E args ws sz) := fun a U gf mk q => by
  obtain ⟨q0, q1, qP, qK, qD, qE, qX⟩ := q
  exact ⟨q0, q1, qP, va_K.moved (u := U) (U := U.calling gf mk a) (Vm.Alike.refl U.vm) qK, qD, jE_call qE, hE.2 _ _ _ _ _ qX⟩
theorem jPX_now (hE : XOk E) {H : Heap} {locs : List Loc} {args : List Value} (C : Cx g κ cc nL own rm) (X : E (kA κ) (kS κ)) (hP : va_P (gD g) vwCl ws H) (hD : va_D (kA κ) ws) (hS : va_S (kA κ) (kS κ).heap H locs) : ∀ U : State, U.heap = H → (kS κ).WarmedH U.vm → jPX g E args ws H.size args.toArray U := fun U hU hW =>
  ⟨rfl, by rw [hU], by rw [hU]; exact hP, va_K.moved hW.alike C.2.2.2.2.2.1, hD.weaken (fun _ _ _ _ => trivial), jE_to C.2.2.2.2.2.2.2.1 hS hU hW (j_sub C hD hS), hE.1 _ _ _ _ _ _ X hS hU hW (j_sub C hD hS)⟩
/-- a constructor of a nest mate -/
theorem jx_initN (hE : XOk E) {y : MethodName} {c' : ByteArray} {n' idx n : Nat} {r' : Room} {host : String} {a : Nat} {As rest : List Value} {Q : Int32 → va_W → Prop} (C : Cx g κ cc nL own rm) (X : E (kA κ) (kS κ)) (hM : MX g E y c' n' none r' (.ref a :: As) ws Q) (hcd : Cond.code y c' n' none ∈ lw_gd) (hl : va_Nw (.methodLinkNest own idx y host) (kS κ)) (hni : y.name = "<init>") (hst0 : Cond.instanceMethod y ∈ lw_gd) (hini : Cond.initialized y.cls ∈ lw_gd) (hdy : y.cls ≠ "java/lang/invoke/MethodHandle" ∧ y.cls ≠ "java/lang/invoke/VarHandle" ∧ (parseMethodDescriptor y.desc).map (fun d => d.parameters.length) = some n) (hd : decode cc pc = .ok (.invokespecial idx, 3)) (hR : r'.frames + 1 ≤ rm.frames ∧ 8 + (n' + 11) + r'.locals ≤ rm.locals) (hf : kc + r'.cells ≤ rm.cells ∧ ks + r'.slots ≤ rm.slots)
    (hn : As.length = n) (hst : S = As.reverse ++ .ref a :: rest) (hW : (rest.map fun v => v.category).sum ≤ 8)
    (kk : ∀ ws' : va_W, Q 0 ws' → Jw g κ nL (pc + 3) L rest ws' (kc + r'.cells) (ks + r'.slots)) : Jw g κ nL pc L S ws kc ks := by
  refine j_backv (rest := rest) (Q := Q) (mc := r'.cells) (ms := r'.slots) (a := (Value.ref a :: As).toArray) C (fun ls H locs hjl hP hD hS => ?_) kk
  obtain ⟨c1, c2, c3, c4, c5, c6, c7, c8, c9⟩ := C
  exact va_runIN (Ts := lw_gd) (own := own) (n := n) (As := As) (rest := rest) ⟨c1, c2, c3, c4, c5⟩ (hM H.size) ⟨va_cnB n c5 (gd_in hcd) rfl rfl rfl hl (c5 _ hini) hdy (by rw [c9]; exact hR), hni, c5 _ hst0⟩ ⟨jPX_blind hE, jPX_now hE ⟨c1, c2, c3, c4, c5, c6, c7, c8, c9⟩ X hP hD hS⟩ rfl hn hjl.1.1 hst (lv_room hW) hd (by rw [c9]; exact hf)
/-- a constructor -/
theorem jx_init (hE : XOk E) {y : MethodName} {c' : ByteArray} {n' idx n : Nat} {r' : Room} {a : Nat} {As rest : List Value} {Q : Int32 → va_W → Prop} (C : Cx g κ cc nL own rm) (X : E (kA κ) (kS κ)) (hM : MX g E y c' n' none r' (.ref a :: As) ws Q) (hcd : Cond.code y c' n' none ∈ lw_gd) (hl : Cond.methodLink own idx y ∈ lw_gd) (hni : y.name = "<init>") (hst0 : Cond.instanceMethod y ∈ lw_gd) (hini : Cond.initialized y.cls ∈ lw_gd) (hdy : y.cls ≠ "java/lang/invoke/MethodHandle" ∧ y.cls ≠ "java/lang/invoke/VarHandle" ∧ (parseMethodDescriptor y.desc).map (fun d => d.parameters.length) = some n) (hd : decode cc pc = .ok (.invokespecial idx, 3)) (hR : r'.frames + 1 ≤ rm.frames ∧ 8 + (n' + 11) + r'.locals ≤ rm.locals) (hf : kc + r'.cells ≤ rm.cells ∧ ks + r'.slots ≤ rm.slots)
    (hn : As.length = n) (hst : S = As.reverse ++ .ref a :: rest) (hW : (rest.map fun v => v.category).sum ≤ 8)
    (kk : ∀ ws' : va_W, Q 0 ws' → Jw g κ nL (pc + 3) L rest ws' (kc + r'.cells) (ks + r'.slots)) : Jw g κ nL pc L S ws kc ks := by
  refine j_backv (rest := rest) (Q := Q) (mc := r'.cells) (ms := r'.slots) (a := (Value.ref a :: As).toArray) C (fun ls H locs hjl hP hD hS => ?_) kk
  obtain ⟨c1, c2, c3, c4, c5, c6, c7, c8, c9⟩ := C
  exact va_runI (Ts := lw_gd) (own := own) (n := n) (As := As) (rest := rest) ⟨c1, c2, c3, c4, c5⟩ (hM H.size) ⟨callB_of n c5 (gd_in hcd) rfl rfl rfl (c5 _ hini) (c5 _ hl) hdy (by rw [c9]; exact hR), hni, c5 _ hst0⟩ ⟨jPX_blind hE, jPX_now hE ⟨c1, c2, c3, c4, c5, c6, c7, c8, c9⟩ X hP hD hS⟩ rfl hn hjl.1.1 hst (lv_room hW) hd (by rw [c9]; exact hf)
/-- a virtual call of a method of which more is asked than jE (no cells made) -/
theorem oi_m : Cond.instanceMethod objectInit ∈ lw_gd := gd_t 21 (by decide +kernel) (by decide +kernel)
theorem oi_c : Cond.code objectInit object_method_1_code 1 none ∈ lw_gd := gd_t 22 (by decide +kernel) (by decide +kernel)
theorem jw_oi (C : Cx g κ cc nL own rm) {idx a : Nat} (hl : Cond.methodLink own idx objectInit ∈ lw_gd) (hd : decode cc pc = .ok (.invokespecial idx, 3)) (hR : 1 ≤ rm.frames ∧ 20 ≤ rm.locals) (hW : (S.map fun v => v.category).sum ≤ 8) (k : Jw g κ nL (pc + 3) L S ws kc ks) : Jw g κ nL pc L (.ref a :: S) ws kc ks := fun ls H locs hjl hP hD hS => by
  obtain ⟨c1, c2, c3, c4, c5, c6, c7, c8, c9⟩ := C
  refine W.objInit c1 c2 c4 (c5 _ hl) (c5 _ oi_m) (c5 _ oi_c) rfl (by rw [c3]; exact hjl.1.1) rfl hd (by rw [c9]; exact hR.1) (by rw [c9]; have := hR.2; show 2 * 0 + _ + _ ≤ _; omega) ?_
  exact W.eq (g2 := F0 (kM κ) (pc + 3) ls S) rfl (k ls H locs hjl hP hD hS)
end JMK
