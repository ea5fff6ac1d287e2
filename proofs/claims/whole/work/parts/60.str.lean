/-! the text constant, and java.lang.String's two methods on it -/
def txS : String := "n5;l0,1,10,2;l1,4,8,2;l0,2,9,1;l2,4,6,3;l0,3,20,4;l3,4,20,4;l2,1,5,1;d0,4,12;d2,4,5;"
def byt0 : List Int32 := [110, 53, 59, 108, 48, 44, 49, 44, 49, 48, 44, 50, 59, 108, 49, 44, 52, 44, 56, 44, 50, 59, 108, 48, 44, 50, 44, 57, 44, 49, 59, 108, 50, 44, 52, 44, 54, 44, 51, 59, 108, 48, 44, 51, 44, 50, 48, 44, 52, 59, 108, 51, 44, 52, 44, 50, 48, 44, 52, 59, 108, 50, 44, 49, 44, 53, 44, 49, 59, 100, 48, 44, 52, 44, 49, 50, 59, 100, 50, 44, 52, 44, 53, 59]
theorem byt0_is : ∀ k, k < 84 → (byt0.getD k 0 = tx0 k ∧ nI 32 ≤ tx0 k ∧ tx0 k ≤ nI 126) := by decide +kernel
/-- what the constructors need beside jE -/
def eX (g : jG) : jX := fun A U =>
  (va_Z "java/lang/String" "COMPACT_STRINGS" "Z" (.int 1) A U U.heap ∧ va_Zq "jdk/internal/util/Preconditions" "SIOOBE_FORMATTER" "Ljava/util/function/BiFunction;" A U U.heap ∧ vk_S 1 [84] [byt0] (fun _ => gsa g 2) (fun _ => gsa g 3) A U U.heap ∧ vk_R RX7 72 txS (gsa g 2) U) ∧
  (va_Nw (.methodLinkNest RX7 9 yX1_init "LoadWeights") U ∧ va_Nw (.methodLinkNest RX7 18 yX3_init "LoadWeights") U ∧ va_Nw (.methodLinkNest RX7 28 yX5_init "LoadWeights") U ∧ va_Nw (.methodLinkNest RX7 53 yX6_init "LoadWeights") U ∧ va_Nw (.methodLinkNest RX2 11 yX6_init "LoadWeights") U ∧ va_Nw (.methodLinkNest RX4 17 yX6_init "LoadWeights") U) ∧ va_AO "LoadWeights$Standing" U ∧ va_AOA .int U
theorem eX_ok (g : jG) : XOk (eX g) := by
  refine ⟨fun A B s U H locs h hS hU hW hAB => ?_, fun A U gf mk a h => ?_⟩
  · obtain ⟨⟨a1, a2, a3, a4⟩, ⟨n1, n2, n3, n4, n5, n6⟩, b1, b2⟩ := h
    subst hU
    exact ⟨⟨((a1.moved hW.alike).kept hS.2.1).narrow hAB, ((a2.moved hW.alike).kept hS.2.1).narrow hAB, ((a3.moved hW.alike).kept hS.2.1).narrow hAB, a4.warm hW⟩, ⟨va_Nw.warmM hW n1, va_Nw.warmM hW n2, va_Nw.warmM hW n3, va_Nw.warmM hW n4, va_Nw.warmM hW n5, va_Nw.warmM hW n6⟩, b1.moved hW.alike, b2.moved hW.alike⟩
  · obtain ⟨⟨a1, a2, a3, a4⟩, ⟨n1, n2, n3, n4, n5, n6⟩, b1, b2⟩ := h
    have al := Vm.Alike.refl U.vm
    exact ⟨⟨va_Z.moved (u := U) (U := U.calling gf mk a) al a1, va_Zq.moved (u := U) (U := U.calling gf mk a) al a2, vk_S.moved (u := U) (U := U.calling gf mk a) al a3, vk_R.same (u := U) (U := U.calling gf mk a) rfl a4⟩, ⟨va_Nw.same (u := U) (U := U.calling gf mk a) rfl rfl n1, va_Nw.same (u := U) (U := U.calling gf mk a) rfl rfl n2, va_Nw.same (u := U) (U := U.calling gf mk a) rfl rfl n3, va_Nw.same (u := U) (U := U.calling gf mk a) rfl rfl n4, va_Nw.same (u := U) (U := U.calling gf mk a) rfl rfl n5, va_Nw.same (u := U) (U := U.calling gf mk a) rfl rfl n6⟩, va_AO.moved (u := U) (U := U.calling gf mk a) al b1, va_AOA.moved (u := U) (U := U.calling gf mk a) al b2⟩
section JS
variable {g : jG} {κ : jC} {cc : ByteArray} {nL pc : Nat} {own : String} {rm : Room} {L : List (Option Value)} {S : List Value} {ws : va_W} {kc ks : Nat} {E : jX}
theorem js_callV (hE : XOk E) {y : MethodName} {c' : ByteArray} {n' idx n : Nat} {t0 : FieldType} {r' : Room} {a : Nat} {As rest : List Value} {Q : Int32 → va_W → Prop} (C : Cx g κ cc nL own rm) (X : E (kA κ) (kS κ)) (hrv : ∀ (H : Heap) (locs : List Loc), va_S (kA κ) (kS κ).heap H locs → ∃ cell : Cell, H[a]? = some cell ∧ cell.vm.isStatics = false ∧ (kS κ).vm.findClass y.cls = some cell.cls) (hM : MX g E y c' n' (some t0) r' (.ref a :: As) ws Q) (hcd : Cond.code y c' n' (some t0) ∈ lw_gd) (hl : jml own idx y n) (hd : decode cc pc = .ok (.invokevirtual idx, 3)) (hR : r'.frames + 1 ≤ rm.frames ∧ 8 + (n' + 11) + r'.locals ≤ rm.locals) (hf : kc + r'.cells ≤ rm.cells ∧ ks + r'.slots ≤ rm.slots)
    (hn : As.length = n) (hst : S = As.reverse ++ .ref a :: rest) (hW : (rest.map fun v => v.category).sum ≤ 8)
    (kk : ∀ (r : Int32) (ws' : va_W), Q r ws' → Jw g κ nL (pc + 3) L (.int r :: rest) ws' (kc + r'.cells) (ks + r'.slots)) : Jw g κ nL pc L S ws kc ks := by
  refine j_backi (rest := rest) (t0 := t0) (Q := Q) (mc := r'.cells) (ms := r'.slots) (a := (Value.ref a :: As).toArray) C (fun ls H locs hjl hP hD hS => ?_) kk
  obtain ⟨c1, c2, c3, c4, c5, c6, c7, c8, c9⟩ := C
  obtain ⟨m1, m2, m3, m4, m5, m6, m7⟩ := hl
  exact va_runV (Ts := lw_gd) (own := own) (C := y.cls) (n := n) (As := As) (rest := rest) ⟨c1, c2, c3, c4, c5⟩ (hM H.size) ⟨callB_of n c5 (gd_in hcd) rfl rfl rfl (c5 _ m4) (c5 _ m1) ⟨m5, m6, m7⟩ (by rw [c9]; exact hR), c5 _ m2, c5 _ m3⟩ ⟨jPX_blind hE, hrv H locs hS, jPX_now hE ⟨c1, c2, c3, c4, c5, c6, c7, c8, c9⟩ X hP hD hS⟩ rfl hn hjl.1.1 hst (lv_room hW) hd (by rw [c9]; exact hf)
theorem js_callS (hE : XOk E) {y : MethodName} {c' : ByteArray} {n' idx n : Nat} {t0 : FieldType} {r' : Room} {As rest : List Value} {Q : Int32 → va_W → Prop} (C : Cx g κ cc nL own rm) (X : E (kA κ) (kS κ)) (hM : MX g E y c' n' (some t0) r' As ws Q) (hcd : Cond.code y c' n' (some t0) ∈ lw_gd) (hl : jms own idx y n) (hd : decode cc pc = .ok (.invokestatic idx, 3)) (hR : r'.frames + 1 ≤ rm.frames ∧ 8 + (n' + 11) + r'.locals ≤ rm.locals) (hf : kc + r'.cells ≤ rm.cells ∧ ks + r'.slots ≤ rm.slots)
    (hn : As.length = n) (hst : S = As.reverse ++ rest) (hW : (rest.map fun v => v.category).sum ≤ 8)
    (kk : ∀ (r : Int32) (ws' : va_W), Q r ws' → Jw g κ nL (pc + 3) L (.int r :: rest) ws' (kc + r'.cells) (ks + r'.slots)) : Jw g κ nL pc L S ws kc ks := by
  refine j_backi (rest := rest) (t0 := t0) (Q := Q) (mc := r'.cells) (ms := r'.slots) (a := As.toArray) C (fun ls H locs hjl hP hD hS => ?_) kk
  obtain ⟨c1, c2, c3, c4, c5, c6, c7, c8, c9⟩ := C
  obtain ⟨m1, m2, m4, m5, m6, m7⟩ := hl
  exact va_runS (Ts := lw_gd) (own := own) (n := n) (As := As) (rest := rest) ⟨c1, c2, c3, c4, c5⟩ (hM H.size) ⟨callB_of n c5 (gd_in hcd) rfl rfl rfl (c5 _ m4) (c5 _ m1) ⟨m5, m6, m7⟩ (by rw [c9]; exact hR), c5 _ m2⟩ ⟨jPX_blind hE, jPX_now hE ⟨c1, c2, c3, c4, c5, c6, c7, c8, c9⟩ X hP hD hS⟩ rfl hn hjl.1.1 hst (lv_room hW) hd (by rw [c9]; exact hf)
theorem js_callSv (hE : XOk E) {y : MethodName} {c' : ByteArray} {n' idx n : Nat} {r' : Room} {As rest : List Value} {Q : Int32 → va_W → Prop} (C : Cx g κ cc nL own rm) (X : E (kA κ) (kS κ)) (hM : MX g E y c' n' none r' As ws Q) (hcd : Cond.code y c' n' none ∈ lw_gd) (hl : jms own idx y n) (hd : decode cc pc = .ok (.invokestatic idx, 3)) (hR : r'.frames + 1 ≤ rm.frames ∧ 8 + (n' + 11) + r'.locals ≤ rm.locals) (hf : kc + r'.cells ≤ rm.cells ∧ ks + r'.slots ≤ rm.slots)
    (hn : As.length = n) (hst : S = As.reverse ++ rest) (hW : (rest.map fun v => v.category).sum ≤ 8)
    (kk : ∀ ws' : va_W, Q 0 ws' → Jw g κ nL (pc + 3) L rest ws' (kc + r'.cells) (ks + r'.slots)) : Jw g κ nL pc L S ws kc ks := by
  refine j_backv (rest := rest) (Q := Q) (mc := r'.cells) (ms := r'.slots) (a := As.toArray) C (fun ls H locs hjl hP hD hS => ?_) kk
  obtain ⟨c1, c2, c3, c4, c5, c6, c7, c8, c9⟩ := C
  obtain ⟨m1, m2, m4, m5, m6, m7⟩ := hl
  exact va_runS (Ts := lw_gd) (own := own) (n := n) (As := As) (rest := rest) ⟨c1, c2, c3, c4, c5⟩ (hM H.size) ⟨callB_of n c5 (gd_in hcd) rfl rfl rfl (c5 _ m4) (c5 _ m1) ⟨m5, m6, m7⟩ (by rw [c9]; exact hR), c5 _ m2⟩ ⟨jPX_blind hE, jPX_now hE ⟨c1, c2, c3, c4, c5, c6, c7, c8, c9⟩ X hP hD hS⟩ rfl hn hjl.1.1 hst (lv_room hW) hd (by rw [c9]; exact hf)
theorem js_nret {Q : Int32 → va_W → Prop} {nm : String} {x : Int32} {ty : FieldType} (M : Mx g κ cc nL own rm (some ty) nm Q) (hx : narrow ty (.int x) = .int x) (hd : decode cc pc = .ok (.ireturn, 1)) (hc : kc ≤ rm.cells) (hs : ks ≤ rm.slots) (hq : Q x ws) : Jw g κ nL pc L [.int x] ws kc ks := fun ls H locs hl hP hD hS => by
  obtain ⟨C, m1, m2, m3, m4⟩ := M
  obtain ⟨c1, c2, c3, c4, c5, c6, c7, c8, c9⟩ := C
  rw [m3]
  refine W.widen (k := rm.cells) (n := rm.slots) hc hs ?_
  exact W.zret (v := x) c1 c2 m1 hx (fun t ht hW => ⟨⟨x, ws, rfl, hq, by rw [ht]; exact hP, va_K.moved hW.alike c6, hD⟩, hS.F ht⟩) hS.2.2 hd m2
theorem js_stat (C : Cx g κ cc nL own rm) {Cn n d ref : String} {v : Value} {idx : Nat} (hZ : va_Z Cn n d v (kA κ) (kS κ) (kS κ).heap) (hlk : Cond.fieldLink own idx Cn n d ∈ lw_gd) (hd : decode cc pc = .ok (.getstatic idx, 3)) (k : Jw g κ nL (pc + 3) L (v :: S) ws kc ks) : Jw g κ nL pc L S ws kc ks := fun ls H locs hjl hP hD hS => by
  obtain ⟨c1, c2, c3, c4, c5, c6, c7, c8, c9⟩ := C
  exact va_gets c1 c2 hZ hS c4 (c5 _ hlk) (fun _ h => h) hd (k ls H locs hjl hP hD hS)
theorem js_getf (C : Cx g κ cc nL own rm) {n d : String} {v : Value} {idx q : Nat} (hZ : va_OF "java/lang/String" n d v q (kA κ) (kS κ) (kS κ).heap) (hlk : Cond.fieldLink own idx "java/lang/String" n d ∈ lw_gd) (hd : decode cc pc = .ok (.getfield idx, 3)) (k : Jw g κ nL (pc + 3) L (v :: S) ws kc ks) : Jw g κ nL pc L (.ref q :: S) ws kc ks := fun ls H locs hjl hP hD hS => by
  obtain ⟨c1, c2, c3, c4, c5, c6, c7, c8, c9⟩ := C
  exact vk_getf c1 c2 hZ hS c4 (c5 _ hlk) (fun _ h => h) hd (k ls H locs hjl hP hD hS)
theorem js_len (C : Cx g κ cc nL own rm) {q N : Nat} {f : Nat → Value} (hT : va_T .byte q N f (kA κ) (kS κ) (kS κ).heap) (hd : decode cc pc = .ok (.arraylength, 1)) (k : Jw g κ nL (pc + 1) L (.int (nI N) :: S) ws kc ks) : Jw g κ nL pc L (.ref q :: S) ws kc ks := fun ls H locs hjl hP hD hS => va_tlen C.1 C.2.1 hT hS rfl hd (k ls H locs hjl hP hD hS)
theorem js_ld (C : Cx g κ cc nL own rm) {q N e : Nat} {f : Nat → Value} {v : Value} (hT : va_T .byte q N f (kA κ) (kS κ) (kS κ).heap) (he : e < N) (hN : N < 2 ^ 31) (hv : f e = v) (hd : decode cc pc = .ok (.baload, 1)) (k : Jw g κ nL (pc + 1) L (v :: S) ws kc ks) : Jw g κ nL pc L (.int (nI e) :: .ref q :: S) ws kc ks := fun ls H locs hjl hP hD hS => va_tb C.1 C.2.1 hT hS (vp_in_nI he hN) (by rw [nI_clamp (by omega)]; exact hv) hd (k ls H locs hjl hP hD hS)
theorem js_i2c (C : Cx g κ cc nL own rm) {x v : Int32} (hd : decode cc pc = .ok (.i2c, 1)) (hv : (x.toUInt32 % 65536).toInt32 = v) (k : Jw g κ nL (pc + 1) L (.int v :: S) ws kc ks) : Jw g κ nL pc L (.int x :: S) ws kc ks := fun ls H locs hjl hP hD hS => lv_i2c C.1 C.2.1 hd hv (k ls H locs hjl hP hD hS)
theorem js_ldc (C : Cx g κ cc nL own rm) {tx : String} {idx q : Nat} (hZ : vk_R own idx tx q (kS κ)) (hd : decode cc pc = .ok (.ldc idx, 2)) (k : Jw g κ nL (pc + 2) L (.ref q :: S) ws kc ks) : Jw g κ nL pc L S ws kc ks := fun ls H locs hjl hP hD hS => va_ldcS C.1 C.2.1 C.2.2.2.1 hZ hd (k ls H locs hjl hP hD hS)
end JS
theorem cdJ0_coder_7d493 : Cond.code yJ0_coder_7d493 cJ0_coder_7d493 1 (some .byte) ∈ lw_gd := gd_t 240 (by decide +kernel) (by decide +kernel)
def rmJ0_coder_7d493 : Room := { frames := 0, cells := 0, slots := 0, locals := 0 }
theorem cdJ0_length_8abf5 : Cond.code yJ0_length_8abf5 cJ0_length_8abf5 1 (some .int) ∈ lw_gd := gd_t 236 (by decide +kernel) (by decide +kernel)
def rmJ0_length_8abf5 : Room := { frames := 1, cells := 0, slots := 0, locals := 20 }
theorem cdJ0_isLatin1_aae02 : Cond.code yJ0_isLatin1_aae02 cJ0_isLatin1_aae02 1 (some .boolean) ∈ lw_gd := gd_t 250 (by decide +kernel) (by decide +kernel)
def rmJ0_isLatin1_aae02 : Room := { frames := 0, cells := 0, slots := 0, locals := 0 }
theorem cdJ3_checkIndex_8e157 : Cond.code yJ3_checkIndex_8e157 cJ3_checkIndex_8e157 3 (some .int) ∈ lw_gd := gd_t 261 (by decide +kernel) (by decide +kernel)
def rmJ3_checkIndex_8e157 : Room := { frames := 0, cells := 0, slots := 0, locals := 0 }
theorem cdJ0_checkIndex_df160 : Cond.code yJ0_checkIndex_df160 cJ0_checkIndex_df160 2 none ∈ lw_gd := gd_t 256 (by decide +kernel) (by decide +kernel)
def rmJ0_checkIndex_df160 : Room := { frames := 1, cells := 0, slots := 0, locals := 22 }
theorem cdJ1_charAt_3b067 : Cond.code yJ1_charAt_3b067 cJ1_charAt_3b067 2 (some .char) ∈ lw_gd := gd_t 253 (by decide +kernel) (by decide +kernel)
def rmJ1_charAt_3b067 : Room := { frames := 2, cells := 0, slots := 0, locals := 43 }
theorem cdJ0_charAt_5068e : Cond.code yJ0_charAt_5068e cJ0_charAt_5068e 2 (some .char) ∈ lw_gd := gd_t 246 (by decide +kernel) (by decide +kernel)
def rmJ0_charAt_5068e : Room := { frames := 4, cells := 0, slots := 0, locals := 85 }
theorem mlX7_74 : jml RX7 74 yJ0_length_8abf5 0 := ⟨gd_t 233 (by decide +kernel) (by decide +kernel), gd_t 234 (by decide +kernel) (by decide +kernel), gd_t 235 (by decide +kernel) (by decide +kernel), gd_t 9 (by decide +kernel) (by decide +kernel), (by decide +kernel), (by decide +kernel), (by decide +kernel)⟩
theorem mlX7_80 : jml RX7 80 yJ0_charAt_5068e 1 := ⟨gd_t 243 (by decide +kernel) (by decide +kernel), gd_t 244 (by decide +kernel) (by decide +kernel), gd_t 245 (by decide +kernel) (by decide +kernel), gd_t 9 (by decide +kernel) (by decide +kernel), (by decide +kernel), (by decide +kernel), (by decide +kernel)⟩
theorem mlJ0_335 : jml RJ0 335 yJ0_coder_7d493 0 := ⟨gd_t 237 (by decide +kernel) (by decide +kernel), gd_t 238 (by decide +kernel) (by decide +kernel), gd_t 239 (by decide +kernel) (by decide +kernel), gd_t 9 (by decide +kernel) (by decide +kernel), (by decide +kernel), (by decide +kernel), (by decide +kernel)⟩
theorem mlJ0_492 : jml RJ0 492 yJ0_isLatin1_aae02 0 := ⟨gd_t 247 (by decide +kernel) (by decide +kernel), gd_t 248 (by decide +kernel) (by decide +kernel), gd_t 249 (by decide +kernel) (by decide +kernel), gd_t 9 (by decide +kernel) (by decide +kernel), (by decide +kernel), (by decide +kernel), (by decide +kernel)⟩
theorem msJ0_495 : jms RJ0 495 yJ1_charAt_3b067 2 := ⟨gd_t 251 (by decide +kernel) (by decide +kernel), gd_t 252 (by decide +kernel) (by decide +kernel), gd_t 10 (by decide +kernel) (by decide +kernel), (by decide +kernel), (by decide +kernel), (by decide +kernel)⟩
theorem msJ1_9 : jms RJ1 9 yJ0_checkIndex_df160 2 := ⟨gd_t 254 (by decide +kernel) (by decide +kernel), gd_t 255 (by decide +kernel) (by decide +kernel), gd_t 9 (by decide +kernel) (by decide +kernel), (by decide +kernel), (by decide +kernel), (by decide +kernel)⟩
theorem msJ0_1059 : jms RJ0 1059 yJ3_checkIndex_8e157 3 := ⟨gd_t 259 (by decide +kernel) (by decide +kernel), gd_t 260 (by decide +kernel) (by decide +kernel), gd_t 11 (by decide +kernel) (by decide +kernel), (by decide +kernel), (by decide +kernel), (by decide +kernel)⟩
theorem js38 : Cond.fieldLink RJ0 38 "java/lang/String" "COMPACT_STRINGS" "Z" ∈ lw_gd := gd_t 241 (by decide +kernel) (by decide +kernel)
theorem js15 : Cond.fieldLink RJ0 15 "java/lang/String" "coder" "B" ∈ lw_gd := gd_t 888 (by decide +kernel) (by decide +kernel)
theorem js9 : Cond.fieldLink RJ0 9 "java/lang/String" "value" "[B" ∈ lw_gd := gd_t 887 (by decide +kernel) (by decide +kernel)
theorem js1053 : Cond.fieldLink RJ0 1053 "jdk/internal/util/Preconditions" "SIOOBE_FORMATTER" "Ljava/util/function/BiFunction;" ∈ lw_gd := gd_t 257 (by decide +kernel) (by decide +kernel)
