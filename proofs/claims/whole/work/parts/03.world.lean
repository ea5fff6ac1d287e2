/-! contracts over the judgement -/
def jB (g : jG) (A : Nat → Prop) (ws : va_W) (t : State) : Prop := va_P (gD g) vwCl ws t.heap ∧ va_K (gD g) vwCl (jT g) t ∧ va_D A ws
def jQ (g : jG) (A : Nat → Prop) (ret : Option FieldType) (Q : Int32 → va_W → Prop) : Array Value → State → Outcome → State → Prop := match ret with
  | none => va_Qv (S := va_W) (fun u => Q 0 u) (jB g A) A
  | some _ => va_Qi (S := va_W) Q (jB g A) A
def jP (g : jG) (args : List Value) (ws : va_W) (sz : Nat) : Array Value → State → Prop := va_Pc args (fun U => U.heap.size = sz ∧ va_P (gD g) vwCl ws U.heap ∧ va_K (gD g) vwCl (jT g) U ∧ va_D (fun _ => True) ws ∧ jE g (va_A ws sz) U)
def MJ (g : jG) (y : MethodName) (cc : ByteArray) (nL : Nat) (ret : Option FieldType) (rm : Room) (args : List Value) (ws : va_W) (Q : Int32 → va_W → Prop) : Prop :=
  ∀ sz : Nat, Met (gL g) y (Cond.code y cc nL ret :: lw_gd) rm (jP g args ws sz) (jQ g (va_A ws sz) ret Q) rm.cells rm.slots (va_A ws sz)
def Mx (g : jG) (κ : jC) (cc : ByteArray) (nL : Nat) (own : String) (rm : Room) (ret : Option FieldType) (nm : String) (Q : Int32 → va_W → Prop) : Prop :=
  Cx g κ cc nL own rm ∧ (kMe κ).sig.returnType = ret ∧ (kMe κ).locks = false ∧ kQ κ = MQ (kBl κ) (jQ g (kA κ) ret Q) (kAr κ) (kS κ) rm.cells rm.slots (kA κ) ∧ (kMe κ).name = nm
theorem lv_args_jlv : ∀ (vs : List Value) (k n : Nat), (∀ v ∈ vs, v.category = 1) → jlv k (vs.map some ++ List.replicate n none) = lv_args k vs
  | [], k, n, _ => by
    rw [List.map_nil, List.nil_append]
    induction n generalizing k with
    | zero => rfl
    | succ n ih => rw [List.replicate_succ]; exact ih (k + 1)
  | v :: vs, k, n, h => by
    show (k, v) :: jlv (k + 1) (vs.map some ++ List.replicate n none) = (k, v) :: lv_args (if v.category = 2 then k + 2 else k + 1) vs
    have hv := h v List.mem_cons_self
    rw [if_neg (by omega), lv_args_jlv vs (k + 1) n (fun w hw => h w (List.mem_cons_of_mem _ hw))]
theorem MJ_of {g : jG} {y : MethodName} {cc : ByteArray} {nL : Nat} {ret : Option FieldType} {rm : Room} {args : List Value} {ws : va_W} {Q : Int32 → va_W → Prop} (hy : plainName y.cls = true) (hn : (lg_sl args).length ≤ nL) (hcat : ∀ v ∈ args, v.category = 1)
    (h : ∀ κ : jC, Mx g κ cc nL y.cls rm ret y.name Q → Jw g κ nL 0 (args.map some ++ List.replicate (nL - args.length) none) [] ws 0 0) : MJ g y cc nL ret rm args ws Q := by
  intro sz
  refine Met.ofW (cc := cc) (maxL := nL) (ret := ret) hy rfl ?_
  intro p e s m args0 below meth c s₁ B hml hv
  obtain ⟨rfl, hsz, hP, hK, hD0, hE⟩ := hv
  subst hsz
  have hts := atoms_spec (ws := Cond.code y cc nL ret :: lw_gd) B.pre
  have hC : Cx g (p, e, rm, s, m, args.toArray, below, meth, c, va_A ws s.heap.size, MQ below (jQ g (va_A ws s.heap.size) ret Q) args.toArray s rm.cells rm.slots (va_A ws s.heap.size)) cc nL y.cls rm :=
    ⟨B.exec, B.bytes, hml, findClass_of_methodNamed B.named, fun w hw => hts w (List.mem_cons_of_mem _ hw), hK, fun q hq => Or.inr hq, hE, rfl⟩
  have hJ := h _ ⟨hC, B.returns, B.notSynchronized, rfl, (name_of_methodNamed B.named B.method).1⟩
  have hl := lv_entry args (n := nL) hn
  rw [lg_entry_eq]
  refine hJ _ s.heap [] ⟨?_, ?_⟩ hP hD0.self va_S.rf
  · rw [lv_args_jlv args 0 _ hcat]
    exact hl
  · intro j v hj
    by_cases hjl : j < (args.map some).length
    · rw [List.getElem?_append_left hjl, List.getElem?_map] at hj
      cases hx : args[j]? with
      | none => rw [hx] at hj; cases hj
      | some w =>
        rw [hx] at hj
        cases hj
        exact hcat v (List.mem_of_getElem? hx)
    · rw [List.getElem?_append_right (by omega)] at hj
      have := List.mem_of_getElem? hj
      rw [List.mem_replicate] at this
      cases this.2
/-- a call's words: of an instance method, by its class -/
def jml (own : String) (idx : Nat) (y : MethodName) (n : Nat) : Prop := Cond.methodLink own idx y ∈ lw_gd ∧ Cond.instanceMethod y ∈ lw_gd ∧ Cond.selects y.cls y y ∈ lw_gd ∧ Cond.initialized y.cls ∈ lw_gd ∧ y.cls ≠ "java/lang/invoke/MethodHandle" ∧ y.cls ≠ "java/lang/invoke/VarHandle" ∧ (parseMethodDescriptor y.desc).map (fun d => d.parameters.length) = some n
def jms (own : String) (idx : Nat) (y : MethodName) (n : Nat) : Prop := Cond.methodLink own idx y ∈ lw_gd ∧ Cond.static y ∈ lw_gd ∧ Cond.initialized y.cls ∈ lw_gd ∧ y.cls ≠ "java/lang/invoke/MethodHandle" ∧ y.cls ≠ "java/lang/invoke/VarHandle" ∧ (parseMethodDescriptor y.desc).map (fun d => d.parameters.length) = some n
section JCALL
variable {g : jG} {κ : jC} {cc : ByteArray} {nL pc : Nat} {own : String} {rm : Room} {L : List (Option Value)} {S : List Value} {ws : va_W} {kc ks : Nat}
theorem jP_blind {args : List Value} {sz : Nat} : FrameBlind (jP g args ws sz) := fun a U gf mk q => by
  obtain ⟨q0, q1, qP, qK, qD, qE⟩ := q
  exact ⟨q0, q1, qP, va_K.moved (u := U) (U := U.calling gf mk a) (Vm.Alike.refl U.vm) qK, qD, jE_call qE⟩
theorem j_sub {H : Heap} {locs : List Loc} (C : Cx g κ cc nL own rm) (hD : va_D (kA κ) ws) (hS : va_S (kA κ) (kS κ).heap H locs) : ∀ q, va_A ws H.size q → kA κ q := fun q h => by
  rcases h with ⟨k, e, h⟩ | h
  · exact hD.2 k (q, e) h
  · exact C.2.2.2.2.2.2.1 q (Nat.le_trans hS.1 h)
theorem jP_now {H : Heap} {locs : List Loc} {args : List Value} (C : Cx g κ cc nL own rm) (hP : va_P (gD g) vwCl ws H) (hD : va_D (kA κ) ws) (hS : va_S (kA κ) (kS κ).heap H locs) : ∀ U : State, U.heap = H → (kS κ).WarmedH U.vm → jP g args ws H.size args.toArray U := fun U hU hW =>
  ⟨rfl, by rw [hU], by rw [hU]; exact hP, va_K.moved hW.alike C.2.2.2.2.2.1, hD.weaken (fun _ _ _ _ => trivial), jE_to C.2.2.2.2.2.2.2.1 hS hU hW (j_sub C hD hS)⟩
theorem j_run {y : MethodName} {c' : ByteArray} {n' idx n : Nat} {ret : Option FieldType} {r' : Room} {a : Nat} {As rest : List Value} {Q : Int32 → va_W → Prop} {ci q0 : Nat} {r : vw_C} {fs : List Value} (C : Cx g κ cc nL own rm) (hM : MJ g y c' n' ret r' (.ref a :: As) ws Q) (hcd : Cond.code y c' n' ret ∈ lw_gd) (hl : jml own idx y n) (hR : r'.frames + 1 ≤ rm.frames ∧ 8 + (n' + 11) + r'.locals ≤ rm.locals) (hf : kc + r'.cells ≤ rm.cells ∧ ks + r'.slots ≤ rm.slots)
    (hq0 : ws[q0]? = some (a, .inr (ci, fs))) (hci : vwCl[ci]? = some r) (hr : r.1 = y.cls) (hn : As.length = n) (hst : S = As.reverse ++ .ref a :: rest) (hW : (rest.map fun v => v.category).sum ≤ 8) (hd : decode cc pc = .ok (.invokevirtual idx, 3)) {ls : Array Slot} {H : Heap} {locs : List Loc} (hjl : jl ls nL L) (hP : va_P (gD g) vwCl ws H) (hD : va_D (kA κ) ws) (hS : va_S (kA κ) (kS κ).heap H locs) :
    va_Run (kP κ) (gL g) (kE κ) (kR κ) (kS κ) (kM κ) (kAr κ) (kBl κ) (kMe κ) (kC κ) H locs kc ks r'.cells r'.slots (F0 (kM κ) pc ls S) rest (jQ g (va_A ws H.size) ret Q (Value.ref a :: As).toArray) (va_A ws H.size) := by
  obtain ⟨c1, c2, c3, c4, c5, c6, c7, c8, c9⟩ := C
  obtain ⟨m1, m2, m3, m4, m5, m6, m7⟩ := hl
  have hrc := va_recv c6 hP hci hq0
  rw [hr] at hrc
  refine va_runV (Ts := lw_gd) (own := own) (C := y.cls) (n := n) (As := As) (rest := rest) ⟨c1, c2, c3, c4, c5⟩ (hM H.size) ⟨callB_of n c5 (gd_in hcd) rfl rfl rfl (c5 _ m4) (c5 _ m1) ⟨m5, m6, m7⟩ (by rw [c9]; exact hR), c5 _ m2, c5 _ m3⟩ ⟨jP_blind, hrc, jP_now ⟨c1, c2, c3, c4, c5, c6, c7, c8, c9⟩ hP hD hS⟩ rfl hn hjl.1.1 hst (lv_room hW) hd (by rw [c9]; exact hf)
end JCALL
section JCALL2
variable {g : jG} {κ : jC} {cc : ByteArray} {nL pc : Nat} {own : String} {rm : Room} {L : List (Option Value)} {S : List Value} {ws : va_W} {kc ks : Nat}
theorem j_runS {y : MethodName} {c' : ByteArray} {n' idx n : Nat} {ret : Option FieldType} {r' : Room} {As rest : List Value} {Q : Int32 → va_W → Prop} (C : Cx g κ cc nL own rm) (hM : MJ g y c' n' ret r' As ws Q) (hcd : Cond.code y c' n' ret ∈ lw_gd) (hl : jms own idx y n) (hR : r'.frames + 1 ≤ rm.frames ∧ 8 + (n' + 11) + r'.locals ≤ rm.locals) (hf : kc + r'.cells ≤ rm.cells ∧ ks + r'.slots ≤ rm.slots)
    (hn : As.length = n) (hst : S = As.reverse ++ rest) (hW : (rest.map fun v => v.category).sum ≤ 8) (hd : decode cc pc = .ok (.invokestatic idx, 3)) {ls : Array Slot} {H : Heap} {locs : List Loc} (hjl : jl ls nL L) (hP : va_P (gD g) vwCl ws H) (hD : va_D (kA κ) ws) (hS : va_S (kA κ) (kS κ).heap H locs) :
    va_Run (kP κ) (gL g) (kE κ) (kR κ) (kS κ) (kM κ) (kAr κ) (kBl κ) (kMe κ) (kC κ) H locs kc ks r'.cells r'.slots (F0 (kM κ) pc ls S) rest (jQ g (va_A ws H.size) ret Q As.toArray) (va_A ws H.size) := by
  obtain ⟨c1, c2, c3, c4, c5, c6, c7, c8, c9⟩ := C
  obtain ⟨m1, m2, m4, m5, m6, m7⟩ := hl
  refine va_runS (Ts := lw_gd) (own := own) (n := n) (As := As) (rest := rest) ⟨c1, c2, c3, c4, c5⟩ (hM H.size) ⟨callB_of n c5 (gd_in hcd) rfl rfl rfl (c5 _ m4) (c5 _ m1) ⟨m5, m6, m7⟩ (by rw [c9]; exact hR), c5 _ m2⟩ ⟨jP_blind, jP_now ⟨c1, c2, c3, c4, c5, c6, c7, c8, c9⟩ hP hD hS⟩ rfl hn hjl.1.1 hst (lv_room hW) hd (by rw [c9]; exact hf)
theorem j_runSN {y : MethodName} {c' : ByteArray} {n' idx n : Nat} {ret : Option FieldType} {r' : Room} {host : String} {As rest : List Value} {Q : Int32 → va_W → Prop} (C : Cx g κ cc nL own rm) (hM : MJ g y c' n' ret r' As ws Q) (hcd : Cond.code y c' n' ret ∈ lw_gd) (hl : va_Nw (.methodLinkNest own idx y host) (kS κ)) (hst0 : Cond.static y ∈ lw_gd) (hini : Cond.initialized y.cls ∈ lw_gd) (hdy : y.cls ≠ "java/lang/invoke/MethodHandle" ∧ y.cls ≠ "java/lang/invoke/VarHandle" ∧ (parseMethodDescriptor y.desc).map (fun d => d.parameters.length) = some n) (hR : r'.frames + 1 ≤ rm.frames ∧ 8 + (n' + 11) + r'.locals ≤ rm.locals) (hf : kc + r'.cells ≤ rm.cells ∧ ks + r'.slots ≤ rm.slots)
    (hn : As.length = n) (hst : S = As.reverse ++ rest) (hW : (rest.map fun v => v.category).sum ≤ 8) (hd : decode cc pc = .ok (.invokestatic idx, 3)) {ls : Array Slot} {H : Heap} {locs : List Loc} (hjl : jl ls nL L) (hP : va_P (gD g) vwCl ws H) (hD : va_D (kA κ) ws) (hS : va_S (kA κ) (kS κ).heap H locs) :
    va_Run (kP κ) (gL g) (kE κ) (kR κ) (kS κ) (kM κ) (kAr κ) (kBl κ) (kMe κ) (kC κ) H locs kc ks r'.cells r'.slots (F0 (kM κ) pc ls S) rest (jQ g (va_A ws H.size) ret Q As.toArray) (va_A ws H.size) := by
  obtain ⟨c1, c2, c3, c4, c5, c6, c7, c8, c9⟩ := C
  refine va_runSN (Ts := lw_gd) (own := own) (n := n) (As := As) (rest := rest) ⟨c1, c2, c3, c4, c5⟩ (hM H.size) ⟨va_cnB n c5 (gd_in hcd) rfl rfl rfl hl (c5 _ hini) hdy (by rw [c9]; exact hR), c5 _ hst0, trivial⟩ ⟨jP_blind, jP_now ⟨c1, c2, c3, c4, c5, c6, c7, c8, c9⟩ hP hD hS⟩ rfl hn hjl.1.1 hst (lv_room hW) hd (by rw [c9]; exact hf)
/-- behind a call -/
theorem j_backi {mc ms : Nat} {rest : List Value} {Q : Int32 → va_W → Prop} {t0 : FieldType} {a : Array Value} (C : Cx g κ cc nL own rm)
    (hr : ∀ (ls : Array Slot) (H : Heap) (locs : List Loc), jl ls nL L → va_P (gD g) vwCl ws H → va_D (kA κ) ws → va_S (kA κ) (kS κ).heap H locs → va_Run (kP κ) (gL g) (kE κ) (kR κ) (kS κ) (kM κ) (kAr κ) (kBl κ) (kMe κ) (kC κ) H locs kc ks mc ms (F0 (kM κ) pc ls S) rest (jQ g (va_A ws H.size) (some t0) Q a) (va_A ws H.size))
    (kk : ∀ (r : Int32) (ws' : va_W), Q r ws' → Jw g κ nL (pc + 3) L (.int r :: rest) ws' (kc + mc) (ks + ms)) : Jw g κ nL pc L S ws kc ks := fun ls H locs hl hP hD hS => by
  have hsub := j_sub C hD hS
  refine va_calli (a := a) (post := Q) (B := jB g (va_A ws H.size)) (A1 := va_A ws H.size) (hr ls H locs hl hP hD hS) hS (fun q _ h => hsub q h) hsub (fun r u t H1 locs1 ht hvm hw hB hz1 hk1 hS1 => ?_)
  obtain ⟨hP1, hK1, hD1⟩ := hB
  rw [ht] at hP1
  exact kk r u hw ls H1 locs1 hl hP1 (hD1.weaken (fun k q _ h => hsub q.1 h)) hS1
theorem j_backv {mc ms : Nat} {rest : List Value} {Q : Int32 → va_W → Prop} {a : Array Value} (C : Cx g κ cc nL own rm)
    (hr : ∀ (ls : Array Slot) (H : Heap) (locs : List Loc), jl ls nL L → va_P (gD g) vwCl ws H → va_D (kA κ) ws → va_S (kA κ) (kS κ).heap H locs → va_Run (kP κ) (gL g) (kE κ) (kR κ) (kS κ) (kM κ) (kAr κ) (kBl κ) (kMe κ) (kC κ) H locs kc ks mc ms (F0 (kM κ) pc ls S) rest (jQ g (va_A ws H.size) none Q a) (va_A ws H.size))
    (kk : ∀ ws' : va_W, Q 0 ws' → Jw g κ nL (pc + 3) L rest ws' (kc + mc) (ks + ms)) : Jw g κ nL pc L S ws kc ks := fun ls H locs hl hP hD hS => by
  have hsub := j_sub C hD hS
  refine va_callv (a := a) (post := fun u => Q 0 u) (B := jB g (va_A ws H.size)) (A1 := va_A ws H.size) (hr ls H locs hl hP hD hS) hS (fun q _ h => hsub q h) hsub (fun u t H1 locs1 ht hvm hw hB hz1 hk1 hS1 => ?_)
  obtain ⟨hP1, hK1, hD1⟩ := hB
  rw [ht] at hP1
  exact kk u hw ls H1 locs1 hl hP1 (hD1.weaken (fun k q _ h => hsub q.1 h)) hS1
/-- a method's end -/
theorem j_ireturn {Q : Int32 → va_W → Prop} {nm : String} {x : Int32} (M : Mx g κ cc nL own rm (some .int) nm Q) (hd : decode cc pc = .ok (.ireturn, 1)) (hc : kc ≤ rm.cells) (hs : ks ≤ rm.slots) (hq : Q x ws) : Jw g κ nL pc L [.int x] ws kc ks := fun ls H locs hl hP hD hS => by
  obtain ⟨C, m1, m2, m3, m4⟩ := M
  obtain ⟨c1, c2, c3, c4, c5, c6, c7, c8, c9⟩ := C
  rw [m3]
  refine W.widen (k := rm.cells) (n := rm.slots) hc hs ?_
  exact W.iret (v := x) c1 c2 m1 (fun t ht hW => ⟨⟨x, ws, rfl, hq, by rw [ht]; exact hP, va_K.moved hW.alike c6, hD⟩, hS.F ht⟩) hS.2.2 hd m2
theorem j_zreturn {Q : Int32 → va_W → Prop} {nm : String} {x : Int32} (M : Mx g κ cc nL own rm (some .boolean) nm Q) (hx : narrow .boolean (.int x) = .int x) (hd : decode cc pc = .ok (.ireturn, 1)) (hc : kc ≤ rm.cells) (hs : ks ≤ rm.slots) (hq : Q x ws) : Jw g κ nL pc L [.int x] ws kc ks := fun ls H locs hl hP hD hS => by
  obtain ⟨C, m1, m2, m3, m4⟩ := M
  obtain ⟨c1, c2, c3, c4, c5, c6, c7, c8, c9⟩ := C
  rw [m3]
  refine W.widen (k := rm.cells) (n := rm.slots) hc hs ?_
  exact W.zret (v := x) c1 c2 m1 hx (fun t ht hW => ⟨⟨x, ws, rfl, hq, by rw [ht]; exact hP, va_K.moved hW.alike c6, hD⟩, hS.F ht⟩) hS.2.2 hd m2
theorem j_return {Q : Int32 → va_W → Prop} {nm : String} (M : Mx g κ cc nL own rm none nm Q) (hd : decode cc pc = .ok (.return_, 1)) (hc : kc ≤ rm.cells) (hs : ks ≤ rm.slots) (hq : Q 0 ws) : Jw g κ nL pc L [] ws kc ks := fun ls H locs hl hP hD hS => by
  obtain ⟨C, m1, m2, m3, m4⟩ := M
  obtain ⟨c1, c2, c3, c4, c5, c6, c7, c8, c9⟩ := C
  rw [m3]
  refine W.widen (k := rm.cells) (n := rm.slots) hc hs ?_
  exact W.vret c1 c2 m1 (fun t ht hW => ⟨⟨ws, rfl, hq, by rw [ht]; exact hP, va_K.moved hW.alike c6, hD⟩, hS.F ht⟩) hS.2.2 hd m2
end JCALL2
/-! the cells: by their places -/
def cI (g : jG) (n : Nat) (f : Nat → Int32) : va_E := .inl (gA g 0, n, .inl f)
def cZ (g : jG) (n : Nat) (f : Nat → Int32) : va_E := .inl (gA g 1, n, .inl f)
/-- a row of references: to the cells at b, b + w, b + 2 w .. -/
def cR (g : jG) (ty b w n : Nat) (_ : Nat → Int32) : va_E := .inl (gA g ty, n, .inr (.inr (.inr (.inr (fun i => if i < n then some (gad g (b + w * i)) else none)))))
def cNet (g : jG) (b : Nat) (f : Nat → Int32) : va_E := .inr (3, [.int (f 0), .int (f 1), .int (f 2), .ref (gad g (b + 1)), .ref (gad g (b + 2)), .ref (gad g (b + 3)), .ref (gad g (b + 4)), .ref (gad g (b + 5)), .ref (gad g (b + 6)), .ref (gad g (b + 7)), .ref (gad g (b + 8))])
def cSt (g : jG) (b : Nat) (f : Nat → Int32) : va_E := .inr (6, [.int (f 0), .ref (gad g (b + 1)), .ref (gad g (b + 2)), .ref (gad g (b + 3)), .int (f 4), .int (f 5), .int (f 6)])
def cf (g : jG) (k : Nat) : (Nat → Int32) → va_E := (cond (Nat.blt k 48) (cond (Nat.blt k 24) (cond (Nat.blt k 12) (cond (Nat.blt k 6) (cond (Nat.blt k 3) (cond (Nat.blt k 1) (fun _ => .inr (7, [.ref (gad g 1), .ref (gad g 3), .ref (gad g 12), .ref (gad g 21), .ref (gad g 23), .ref (gad g 44), .ref (gad g 48), .ref (gad g 52), .ref (gad g 45), .ref (gad g 47)])) (cond (Nat.blt k 2) (fun f => .inr (1, [.ref (gad g 2), .int (f 1)])) (cI g 200))) (cond (Nat.blt k 4) (cNet g 3) (cond (Nat.blt k 5) (cI g 12) (cI g 12)))) (cond (Nat.blt k 9) (cond (Nat.blt k 7) (cI g 12) (cond (Nat.blt k 8) (cI g 12) (cI g 6))) (cond (Nat.blt k 10) (cI g 6) (cond (Nat.blt k 11) (cI g 6) (cZ g 7))))) (cond (Nat.blt k 18) (cond (Nat.blt k 15) (cond (Nat.blt k 13) (cNet g 12) (cond (Nat.blt k 14) (cI g 12) (cI g 12))) (cond (Nat.blt k 16) (cI g 12) (cond (Nat.blt k 17) (cI g 12) (cI g 6)))) (cond (Nat.blt k 21) (cond (Nat.blt k 19) (cI g 6) (cond (Nat.blt k 20) (cI g 6) (cZ g 7))) (cond (Nat.blt k 22) (fun _ => .inr (5, [.ref (gad g 22)])) (cond (Nat.blt k 23) (cI g 4) (fun _ => .inr (0, [.ref (gad g 3), .ref (gad g 24), .ref (gad g 32), .ref (gad g 39), .ref (gad g 40), .ref (gad g 41), .ref (gad g 42), .ref (gad g 43)]))))))) (cond (Nat.blt k 36) (cond (Nat.blt k 30) (cond (Nat.blt k 27) (cond (Nat.blt k 25) (cR g 2 25 1 7) (cond (Nat.blt k 26) (cI g 7) (cI g 7))) (cond (Nat.blt k 28) (cI g 7) (cond (Nat.blt k 29) (cI g 7) (cI g 7)))) (cond (Nat.blt k 33) (cond (Nat.blt k 31) (cI g 7) (cond (Nat.blt k 32) (cI g 7) (cR g 2 33 1 6))) (cond (Nat.blt k 34) (cI g 12) (cond (Nat.blt k 35) (cI g 12) (cI g 12))))) (cond (Nat.blt k 42) (cond (Nat.blt k 39) (cond (Nat.blt k 37) (cI g 12) (cond (Nat.blt k 38) (cI g 12) (cI g 12))) (cond (Nat.blt k 40) (cI g 12) (cond (Nat.blt k 41) (cZ g 6) (cI g 7)))) (cond (Nat.blt k 45) (cond (Nat.blt k 43) (cI g 7) (cond (Nat.blt k 44) (cI g 12) (fun f => .inr (2, [.ref (gad g 3), .ref (gad g 23), .ref (gad g 56), .int (f 3), .int (f 4), .int (f 5)])))) (cond (Nat.blt k 46) (fun f => .inr (4, [.ref (gad g 46), .int (f 1), .int (f 2)])) (cond (Nat.blt k 47) (cR g 3 60 4 6) (cI g 12))))))) (cond (Nat.blt k 72) (cond (Nat.blt k 60) (cond (Nat.blt k 54) (cond (Nat.blt k 51) (cond (Nat.blt k 49) (cSt g 48) (cond (Nat.blt k 50) (cI g 12) (cZ g 12))) (cond (Nat.blt k 52) (cI g 6) (cond (Nat.blt k 53) (cSt g 52) (cI g 12)))) (cond (Nat.blt k 57) (cond (Nat.blt k 55) (cZ g 12) (cond (Nat.blt k 56) (cI g 6) (cSt g 56))) (cond (Nat.blt k 58) (cI g 12) (cond (Nat.blt k 59) (cZ g 12) (cI g 6))))) (cond (Nat.blt k 66) (cond (Nat.blt k 63) (cond (Nat.blt k 61) (cSt g 60) (cond (Nat.blt k 62) (cI g 12) (cZ g 12))) (cond (Nat.blt k 64) (cI g 6) (cond (Nat.blt k 65) (cSt g 64) (cI g 12)))) (cond (Nat.blt k 69) (cond (Nat.blt k 67) (cZ g 12) (cond (Nat.blt k 68) (cI g 6) (cSt g 68))) (cond (Nat.blt k 70) (cI g 12) (cond (Nat.blt k 71) (cZ g 12) (cI g 6)))))) (cond (Nat.blt k 84) (cond (Nat.blt k 78) (cond (Nat.blt k 75) (cond (Nat.blt k 73) (cSt g 72) (cond (Nat.blt k 74) (cI g 12) (cZ g 12))) (cond (Nat.blt k 76) (cI g 6) (cond (Nat.blt k 77) (cSt g 76) (cI g 12)))) (cond (Nat.blt k 81) (cond (Nat.blt k 79) (cZ g 12) (cond (Nat.blt k 80) (cI g 6) (cSt g 80))) (cond (Nat.blt k 82) (cI g 12) (cond (Nat.blt k 83) (cZ g 12) (cI g 6))))) (cond (Nat.blt k 90) (cond (Nat.blt k 87) (cond (Nat.blt k 85) (fun f => .inr (8, [.ref (gad g 85), .int (f 1), .int (f 2), .ref (gad g 86), .ref (gad g 87), .int (f 5), .int (f 6), .int (f 7), .ref (gad g 88), .ref (gad g 89), .int (f 10), .int (f 11), .int (f 12), .ref (gad g 90), .ref (gad g 91), .int (f 15), .int (f 16), .ref (gad g 92), .ref (gad g 93), .ref (gad g 94), .ref (gad g 95), .ref (gad g 96), .int (f 22), .int (f 23), .int (f 24), .int (f 25)])) (cond (Nat.blt k 86) (cI g 200) (cI g 48))) (cond (Nat.blt k 88) (cI g 18) (cond (Nat.blt k 89) (cI g 48) (cI g 18)))) (cond (Nat.blt k 93) (cond (Nat.blt k 91) (cI g 21) (cond (Nat.blt k 92) (cI g 126) (cI g 4))) (cond (Nat.blt k 95) (cond (Nat.blt k 94) (cI g 7) (cI g 12)) (cond (Nat.blt k 96) (cI g 7) (cI g 12))))))))
def Wd (g : jG) (σ : Sg) : va_W := (List.range (gN g)).map (fun k => (gad g k, cf g k (σ k)))
def up2 (σ : Sg) (k i : Nat) (v : Int32) : Sg := fun j => if j = k then upd (σ k) i v else σ j
theorem up2_at (σ : Sg) (k i : Nat) (v : Int32) : up2 σ k i v k = upd (σ k) i v := if_pos rfl
theorem up2_ne {σ : Sg} {k i j : Nat} {v : Int32} (h : j ≠ k) : up2 σ k i v j = σ j := if_neg h
theorem up2_v {σ : Sg} {k i : Nat} {v : Int32} : up2 σ k i v k i = v := by rw [up2_at]; exact pk_us
theorem up2_n {σ : Sg} {k i j n : Nat} {v : Int32} (h : ¬ (j = k ∧ n = i)) : up2 σ k i v j n = σ j n := by
  by_cases hj : j = k
  · subst hj
    rw [up2_at]
    exact pk_un (fun e => h ⟨rfl, e⟩)
  · rw [up2_ne hj]
theorem up2_all (σ : Sg) (k i : Nat) (v : Int32) (j n : Nat) : up2 σ k i v j n = if j = k ∧ n = i then v else σ j n := by
  split
  · next h =>
    obtain ⟨rfl, rfl⟩ := h
    exact up2_v
  · next h => exact up2_n h
theorem wd_get {g : jG} {σ : Sg} {k : Nat} (hk : k < gN g) : (Wd g σ)[k]? = some (gad g k, cf g k (σ k)) := by
  unfold Wd
  rw [List.getElem?_map, List.getElem?_range hk]
  rfl
theorem wd_set {g : jG} {σ : Sg} {k i : Nat} {v : Int32} {e : va_E} (he : cf g k (upd (σ k) i v) = e) : (Wd g σ).set k (gad g k, e) = Wd g (up2 σ k i v) := by
  apply List.ext_getElem?
  intro j
  unfold Wd
  by_cases hj : j < gN g
  · by_cases hjk : k = j
    · subst hjk
      rw [List.getElem?_set_self (by simpa using hj), List.getElem?_map, List.getElem?_range hj]
      show some _ = some (gad g k, cf g k (up2 σ k i v k))
      rw [up2_at, he]
    · rw [List.getElem?_set_ne hjk, List.getElem?_map, List.getElem?_map, List.getElem?_range hj]
      show some (gad g j, cf g j (σ j)) = some (gad g j, cf g j (up2 σ k i v j))
      rw [up2_ne (fun q => hjk q.symm)]
  · rw [List.getElem?_eq_none (by simp; omega), List.getElem?_eq_none (by simp; omega)]
abbrev J (g : jG) (κ : jC) (nL pc : Nat) (L : List (Option Value)) (S : List Value) (σ : Sg) : Prop := Jw g κ nL pc L S (Wd g σ) 0 0
def jS (g : jG) (Q : Int32 → Sg → Prop) : Int32 → va_W → Prop := fun r ws => ∃ σ : Sg, ws = Wd g σ ∧ Q r σ
abbrev MS (g : jG) (y : MethodName) (cc : ByteArray) (nL : Nat) (ret : Option FieldType) (rm : Room) (args : List Value) (σ : Sg) (Q : Int32 → Sg → Prop) : Prop := MJ g y cc nL ret rm args (Wd g σ) (jS g Q)
/-- links of fields -/
def jfl (own : String) (index ci k : Nat) : Prop := ∃ (C : String) (T : u_T) (n : Nat), vwCl[ci]? = some (C, T, n) ∧ k < n ∧ (∀ w ∈ u_ws C T n, w ∈ lw_gd) ∧ Cond.fieldLink own index (T k).1 (T k).2.1 (T k).2.2.1 ∈ lw_gd
def jfp (own : String) (index ci k : Nat) (ty : FieldType) : Prop := ∃ (C : String) (T : u_T) (n : Nat) (t0 : Nat → FieldType), vwCl[ci]? = some (C, T, n) ∧ k < n ∧ (∀ w ∈ u_ws C T n, w ∈ lw_gd) ∧ Cond.fieldLink own index (T k).1 (T k).2.1 (T k).2.2.1 ∈ lw_gd ∧ (∀ k, k < n → parseFieldDescriptor (T k).2.2.1 = some (t0 k)) ∧ (∀ a, a < n → ∀ b, b < n → a ≠ b → (T a).2.1 ≠ (T b).2.1) ∧ (T k).2.2.2 = false ∧ parseFieldDescriptor (T k).2.2.1 = some ty
section JH
variable {g : jG} {κ : jC} {cc : ByteArray} {nL pc : Nat} {own : String} {rm : Room} {L : List (Option Value)} {S : List Value} {σ : Sg}
theorem j_get (C : Cx g κ cc nL own rm) {index ci k q : Nat} {fs : List Value} {v : Value} (hf : jfl own index ci k) (hd : decode cc pc = .ok (.getfield index, 3)) (hq : q < gN g) (he : cf g q (σ q) = .inr (ci, fs)) (hv : fs[k]? = some v) (kk : J g κ nL (pc + 3) L (v :: S) σ) : J g κ nL pc L (.ref (gad g q) :: S) σ := fun ls H locs hl hP hD hS => by
  obtain ⟨Cn, T, n, f1, f2, f3, f4⟩ := hf
  obtain ⟨c1, c2, c3, c4, c5, c6, c7, c8, c9⟩ := C
  exact va_get (D := gD g) c1 c2 c5 f3 c4 c6 hP q (by rw [wd_get hq, he]) f1 k f2 (c5 _ f4) (fun _ h9 => h9) hv hd (kk ls H locs hl hP hD hS)
theorem j_put (C : Cx g κ cc nL own rm) {index ci k q : Nat} {ty : FieldType} {fs : (Nat → Int32) → List Value} {x : Int32} (hf : jfp own index ci k ty) (hd : decode cc pc = .ok (.putfield index, 3)) (hq : q < gN g) (he : ∀ f, cf g q f = .inr (ci, fs f)) (hset : (fs (σ q)).set k (.int x) = fs (upd (σ q) k x)) (hl0 : k < (fs (σ q)).length) (hn : narrow ty (.int x) = .int x) (hfit : fits ty (.int x) = true) (kk : J g κ nL (pc + 3) L S (up2 σ q k x)) : J g κ nL pc L (.int x :: .ref (gad g q) :: S) σ := fun ls H locs hl hP hD hS => by
  obtain ⟨Cn, T, n, t0, f1, f2, f3, f4, f5, f6, f7, f8⟩ := hf
  obtain ⟨c1, c2, c3, c4, c5, c6, c7, c8, c9⟩ := C
  refine va_put (D := gD g) (v := .int x) (ty := ty) c1 c2 c5 f3 t0 f5 f6 c4 c6 hP hD hS q (by rw [wd_get hq, he]) f1 k f2 (c5 _ f4) (fun _ h9 => h9) f7 f8 hn hfit hl0 hd (fun H1 locs1 hP1 hD1 hS1 => ?_)
  rw [hset, wd_set (he _)] at hP1 hD1
  exact kk ls H1 locs1 hl hP1 hD1 hS1
theorem j_iald (C : Cx g κ cc nL own rm) {q n e : Nat} (hd : decode cc pc = .ok (.iaload, 1)) (hq : q < gN g) (he : ∀ f, cf g q f = cI g n f) (hn : n < 2 ^ 31) (hi : e < n) (kk : J g κ nL (pc + 1) L (.int (σ q e) :: S) σ) : J g κ nL pc L (.int (nI e) :: .ref (gad g q) :: S) σ := fun ls H locs hl hP hD hS => by
  refine va_iald (D := gD g) C.1 C.2.1 C.2.2.2.2.2.1 hP q 0 (by rw [wd_get hq, he]; rfl) rfl (vp_in_nI hi hn) hd ?_
  rw [nI_clamp (by omega)]
  exact kk ls H locs hl hP hD hS
theorem j_zald (C : Cx g κ cc nL own rm) {q n e : Nat} (hd : decode cc pc = .ok (.baload, 1)) (hq : q < gN g) (he : ∀ f, cf g q f = cZ g n f) (hn : n < 2 ^ 31) (hi : e < n) (kk : J g κ nL (pc + 1) L (.int (σ q e) :: S) σ) : J g κ nL pc L (.int (nI e) :: .ref (gad g q) :: S) σ := fun ls H locs hl hP hD hS => by
  refine va_zald (D := gD g) C.1 C.2.1 C.2.2.2.2.2.1 hP q 1 (by rw [wd_get hq, he]; rfl) rfl (vp_in_nI hi hn) hd ?_
  rw [nI_clamp (by omega)]
  exact kk ls H locs hl hP hD hS
theorem j_iast (C : Cx g κ cc nL own rm) {q n e : Nat} {x : Int32} (hd : decode cc pc = .ok (.iastore, 1)) (hq : q < gN g) (he : ∀ f, cf g q f = cI g n f) (hn : n < 2 ^ 31) (hi : e < n) (kk : J g κ nL (pc + 1) L S (up2 σ q e x)) : J g κ nL pc L (.int x :: .int (nI e) :: .ref (gad g q) :: S) σ := fun ls H locs hl hP hD hS => by
  refine va_iast (D := gD g) C.1 C.2.1 C.2.2.2.2.2.1 hP hD hS q 0 (by rw [wd_get hq, he]; rfl) rfl (vp_in_nI hi hn) hd (fun H1 locs1 hP1 hD1 hS1 => ?_)
  rw [nI_clamp (by omega)] at hP1 hD1
  rw [wd_set (i := e) (v := x) (by rw [he]; rfl)] at hP1 hD1
  exact kk ls H1 locs1 hl hP1 hD1 hS1
theorem j_zast (C : Cx g κ cc nL own rm) {q n e : Nat} {x : Int32} (hd : decode cc pc = .ok (.bastore, 1)) (hq : q < gN g) (he : ∀ f, cf g q f = cZ g n f) (hn : n < 2 ^ 31) (hi : e < n) (hx : vp_nar .boolean x = x) (kk : J g κ nL (pc + 1) L S (up2 σ q e x)) : J g κ nL pc L (.int x :: .int (nI e) :: .ref (gad g q) :: S) σ := fun ls H locs hl hP hD hS => by
  refine va_zast (D := gD g) C.1 C.2.1 C.2.2.2.2.2.1 hP hD hS q 1 (by rw [wd_get hq, he]; rfl) rfl (vp_in_nI hi hn) hd (fun H1 locs1 hP1 hD1 hS1 => ?_)
  rw [nI_clamp (by omega), hx] at hP1 hD1
  rw [wd_set (i := e) (v := x) (by rw [he]; rfl)] at hP1 hD1
  exact kk ls H1 locs1 hl hP1 hD1 hS1
theorem j_aald (C : Cx g κ cc nL own rm) {q n e b w : Nat} (hd : decode cc pc = .ok (.aaload, 1)) (hq : q < gN g) (he : ∀ f, cf g q f = cR g 2 b w n f) (hn : n < 2 ^ 31) (hi : e < n) (kk : J g κ nL (pc + 1) L (.ref (gad g (b + w * e)) :: S) σ) : J g κ nL pc L (.int (nI e) :: .ref (gad g q) :: S) σ := fun ls H locs hl hP hD hS => by
  have hK := C.2.2.2.2.2.1
  have hin : vp_in (nI e) n := vp_in_nI hi hn
  have hlt : (nI e).toNatClampNeg < n := by rw [nI_clamp (by omega)]; exact hi
  have hc : H[gad g q]? = some (vp_cell (gA g 2) (n, .inr (.inr (.inr (.inr (fun i => if i < n then some (gad g (b + w * i)) else none)))))) := by
    have h0 : (Wd g σ)[q]? = some (gad g q, cR g 2 b w n (σ q)) := by rw [wd_get hq, he]
    exact hP q _ h0
  exact W.aald (v := .ref (gad g (b + w * e))) (ty := .array .int) C.1 C.2.1 hc ((hK.2 2 (gA g 2, .array .int) rfl).1 n (fun j => va_rf (if j < n then some (gad g (b + w * j)) else none))) rfl (fun q => by cases q) (by show ¬ (_ < 0 ∨ (arrV _ _ _).slots.size ≤ _); rw [arrV_size]; exact hin) (by show (arrV _ _ _).slots[_]? = _; rw [arrV_read _ _ hlt, nI_clamp (by omega)]; show some (va_rf (if e < n then _ else _)) = _; rw [if_pos hi]; rfl) rfl rfl hd (kk ls H locs hl hP hD hS)
theorem j_qald (C : Cx g κ cc nL own rm) {q n e b w p : Nat} (hp : b + w * e = p) (hd : decode cc pc = .ok (.aaload, 1)) (hq : q < gN g) (he : ∀ f, cf g q f = cR g 3 b w n f) (hn : n < 2 ^ 31) (hi : e < n) (kk : J g κ nL (pc + 1) L (.ref (gad g p) :: S) σ) : J g κ nL pc L (.int (nI e) :: .ref (gad g q) :: S) σ := fun ls H locs hl hP hD hS => by
  refine va_aldq (D := gD g) C.1 C.2.1 C.2.2.2.2.2.1 hP q 3 (by rw [wd_get hq, he]; rfl) rfl (vp_in_nI hi hn) hd ?_
  rw [nI_clamp (by omega), if_pos hi, hp]
  exact kk ls H locs hl hP hD hS
end JH
