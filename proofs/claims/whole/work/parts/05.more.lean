/-! rows of the second kind: writes give a fresh state; calls by contract; what is read only -/
theorem mn_l (own : String) (idx i : Nat) (h : tables_1[i]? = some (Cond.methodLink own idx Lib.Math.min.name)) : Cond.methodLink own idx Lib.Math.min.name ∈ lw_gd := gd_t i h rfl
theorem mmX0_96 : Cond.methodLink RX0 96 Lib.Math.min.name ∈ lw_gd := gd_t 365 (by decide +kernel) (by decide +kernel)
theorem mmX4_29 : Cond.methodLink RX4 29 Lib.Math.min.name ∈ lw_gd := gd_t 435 (by decide +kernel) (by decide +kernel)
theorem mmX6_41 : Cond.methodLink RX6 41 Lib.Math.min.name ∈ lw_gd := gd_t 440 (by decide +kernel) (by decide +kernel)
theorem mmX7_233 : Cond.methodLink RX7 233 Lib.Math.max.name ∈ lw_gd := gd_t 455 (by decide +kernel) (by decide +kernel)
theorem mm_min_s : Cond.static Lib.Math.min.name ∈ lw_gd := gd_t 366 (by decide +kernel) (by decide +kernel)
theorem mm_max_s : Cond.static Lib.Math.max.name ∈ lw_gd := gd_t 456 (by decide +kernel) (by decide +kernel)
theorem mm_ini : Cond.initialized "java/lang/Math" ∈ lw_gd := gd_t 13 (by decide +kernel) (by decide +kernel)
theorem mm_min_c : Cond.code Lib.Math.min.name Lib.Math.min.code 2 (some .int) ∈ lw_gd := gd_t 367 (by decide +kernel) (by decide +kernel)
theorem mm_max_c : Cond.code Lib.Math.max.name Lib.Math.max.code 2 (some .int) ∈ lw_gd := gd_t 457 (by decide +kernel) (by decide +kernel)
theorem kX8_150 : Cond.constant RX8 150 2000000000 ∈ lw_gd := gd_t 641 (by decide +kernel) (by decide +kernel)
theorem fsX0_93 : Cond.fieldLink RX0 93 "LoadWeights$Flow" "PIECE_ROOMS" "[I" ∈ lw_gd := gd_t 363 (by decide +kernel) (by decide +kernel)
theorem fsX0_102 : Cond.fieldLink RX0 102 "LoadWeights$Flow" "PIECE_PRICE" "[I" ∈ lw_gd := gd_t 368 (by decide +kernel) (by decide +kernel)
theorem nI_inc (a : Nat) : nI a + Int32.ofInt 1 = nI (a + 1) := nI_1 a
section JM
variable {g : jG} {κ : jC} {cc : ByteArray} {nL pc : Nat} {own : String} {rm : Room} {L : List (Option Value)} {S : List Value} {σ : Sg}
theorem j_put' (C : Cx g κ cc nL own rm) {index ci k q : Nat} {ty : FieldType} {fs : (Nat → Int32) → List Value} {x : Int32} (hf : jfp own index ci k ty) (hd : decode cc pc = .ok (.putfield index, 3)) (hq : q < gN g) (he : ∀ f, cf g q f = .inr (ci, fs f)) (hset : (fs (σ q)).set k (.int x) = fs (upd (σ q) k x)) (hl0 : k < (fs (σ q)).length) (hn : narrow ty (.int x) = .int x) (hfit : fits ty (.int x) = true)
    (kk : ∀ σ' : Sg, (∀ j n, ¬ (j = q ∧ n = k) → σ' j n = σ j n) → σ' q k = x → J g κ nL (pc + 3) L S σ') : J g κ nL pc L (.int x :: .ref (gad g q) :: S) σ :=
  j_put C hf hd hq he hset hl0 hn hfit (kk _ (fun _ _ h => up2_n h) up2_v)
theorem j_iast' (C : Cx g κ cc nL own rm) {q n e : Nat} {x : Int32} (hd : decode cc pc = .ok (.iastore, 1)) (hq : q < gN g) (he : ∀ f, cf g q f = cI g n f) (hn : n < 2 ^ 31) (hi : e < n)
    (kk : ∀ σ' : Sg, (∀ j n, ¬ (j = q ∧ n = e) → σ' j n = σ j n) → σ' q e = x → J g κ nL (pc + 1) L S σ') : J g κ nL pc L (.int x :: .int (nI e) :: .ref (gad g q) :: S) σ :=
  j_iast C hd hq he hn hi (kk _ (fun _ _ h => up2_n h) up2_v)
theorem j_zast' (C : Cx g κ cc nL own rm) {q n e : Nat} {x : Int32} (hd : decode cc pc = .ok (.bastore, 1)) (hq : q < gN g) (he : ∀ f, cf g q f = cZ g n f) (hn : n < 2 ^ 31) (hi : e < n) (hx : vp_nar .boolean x = x)
    (kk : ∀ σ' : Sg, (∀ j n, ¬ (j = q ∧ n = e) → σ' j n = σ j n) → σ' q e = x → J g κ nL (pc + 1) L S σ') : J g κ nL pc L (.int x :: .int (nI e) :: .ref (gad g q) :: S) σ :=
  j_zast C hd hq he hn hi hx (kk _ (fun _ _ h => up2_n h) up2_v)
theorem j_calli {y : MethodName} {c' : ByteArray} {n' idx n : Nat} {t0 : FieldType} {r' : Room} {q : Nat} {As rest : List Value} {Q : Int32 → Sg → Prop} {ci : Nat} {r : vw_C} {fs : List Value} (C : Cx g κ cc nL own rm) (hM : MS g y c' n' (some t0) r' (.ref (gad g q) :: As) σ Q) (hcd : Cond.code y c' n' (some t0) ∈ lw_gd) (hl : jml own idx y n) (hd : decode cc pc = .ok (.invokevirtual idx, 3)) (hR : r'.frames + 1 ≤ rm.frames ∧ 8 + (n' + 11) + r'.locals ≤ rm.locals) (hz : r'.cells = 0 ∧ r'.slots = 0)
    (hq : q < gN g) (he : cf g q (σ q) = .inr (ci, fs)) (hci : vwCl[ci]? = some r) (hr : r.1 = y.cls) (hn : As.length = n) (hst : S = As.reverse ++ .ref (gad g q) :: rest) (hW : (rest.map fun v => v.category).sum ≤ 8)
    (kk : ∀ (x : Int32) (σ' : Sg), Q x σ' → J g κ nL (pc + 3) L (.int x :: rest) σ') : J g κ nL pc L S σ := by
  refine j_backi (rest := rest) (t0 := t0) (Q := jS g Q) (mc := 0) (ms := 0) (a := (Value.ref (gad g q) :: As).toArray) C (fun ls H locs hjl hP hD hS => ?_) (fun x ws' h => ?_)
  · have := j_run (q0 := q) C hM hcd hl hR (by rw [hz.1, hz.2]; exact ⟨Nat.zero_le _, Nat.zero_le _⟩) (by rw [wd_get hq, he]) hci hr hn hst hW hd hjl hP hD hS
    rw [hz.1, hz.2] at this
    exact this
  · obtain ⟨σ', rfl, h⟩ := h
    exact kk x σ' h
theorem j_callv {y : MethodName} {c' : ByteArray} {n' idx n : Nat} {r' : Room} {q : Nat} {As rest : List Value} {Q : Int32 → Sg → Prop} {ci : Nat} {r : vw_C} {fs : List Value} (C : Cx g κ cc nL own rm) (hM : MS g y c' n' none r' (.ref (gad g q) :: As) σ Q) (hcd : Cond.code y c' n' none ∈ lw_gd) (hl : jml own idx y n) (hd : decode cc pc = .ok (.invokevirtual idx, 3)) (hR : r'.frames + 1 ≤ rm.frames ∧ 8 + (n' + 11) + r'.locals ≤ rm.locals) (hz : r'.cells = 0 ∧ r'.slots = 0)
    (hq : q < gN g) (he : cf g q (σ q) = .inr (ci, fs)) (hci : vwCl[ci]? = some r) (hr : r.1 = y.cls) (hn : As.length = n) (hst : S = As.reverse ++ .ref (gad g q) :: rest) (hW : (rest.map fun v => v.category).sum ≤ 8)
    (kk : ∀ σ' : Sg, Q 0 σ' → J g κ nL (pc + 3) L rest σ') : J g κ nL pc L S σ := by
  refine j_backv (rest := rest) (Q := jS g Q) (mc := 0) (ms := 0) (a := (Value.ref (gad g q) :: As).toArray) C (fun ls H locs hjl hP hD hS => ?_) (fun ws' h => ?_)
  · have := j_run (q0 := q) C hM hcd hl hR (by rw [hz.1, hz.2]; exact ⟨Nat.zero_le _, Nat.zero_le _⟩) (by rw [wd_get hq, he]) hci hr hn hst hW hd hjl hP hD hS
    rw [hz.1, hz.2] at this
    exact this
  · obtain ⟨σ', rfl, h⟩ := h
    exact kk σ' h
theorem j_calls {y : MethodName} {c' : ByteArray} {n' idx n : Nat} {t0 : FieldType} {r' : Room} {As rest : List Value} {Q : Int32 → Sg → Prop} (C : Cx g κ cc nL own rm) (hM : MS g y c' n' (some t0) r' As σ Q) (hcd : Cond.code y c' n' (some t0) ∈ lw_gd) (hl : jms own idx y n) (hd : decode cc pc = .ok (.invokestatic idx, 3)) (hR : r'.frames + 1 ≤ rm.frames ∧ 8 + (n' + 11) + r'.locals ≤ rm.locals) (hz : r'.cells = 0 ∧ r'.slots = 0)
    (hn : As.length = n) (hst : S = As.reverse ++ rest) (hW : (rest.map fun v => v.category).sum ≤ 8)
    (kk : ∀ (x : Int32) (σ' : Sg), Q x σ' → J g κ nL (pc + 3) L (.int x :: rest) σ') : J g κ nL pc L S σ := by
  refine j_backi (rest := rest) (t0 := t0) (Q := jS g Q) (mc := 0) (ms := 0) (a := As.toArray) C (fun ls H locs hjl hP hD hS => ?_) (fun x ws' h => ?_)
  · have := j_runS C hM hcd hl hR (kc := 0) (ks := 0) (by rw [hz.1, hz.2]; exact ⟨Nat.zero_le _, Nat.zero_le _⟩) hn hst hW hd hjl hP hD hS
    rw [hz.1, hz.2] at this
    exact this
  · obtain ⟨σ', rfl, h⟩ := h
    exact kk x σ' h
/-- the one call of a nest mate's private static -/
theorem j_callw {c' : ByteArray} {n' : Nat} {r' : Room} {v : Int32} {rest : List Value} {Q : Int32 → Sg → Prop} (C : Cx g κ cc nL RX3 rm) (hM : MS g yX7_isWeight c' n' (some .boolean) r' [.int v] σ Q) (hcd : Cond.code yX7_isWeight c' n' (some .boolean) ∈ lw_gd) (hd : decode cc pc = .ok (.invokestatic 55, 3)) (hR : r'.frames + 1 ≤ rm.frames ∧ 8 + (n' + 11) + r'.locals ≤ rm.locals) (hz : r'.cells = 0 ∧ r'.slots = 0) (hW : (rest.map fun v => v.category).sum ≤ 8)
    (kk : ∀ (x : Int32) (σ' : Sg), Q x σ' → J g κ nL (pc + 3) L (.int x :: rest) σ') : J g κ nL pc L (.int v :: rest) σ := by
  refine j_backi (rest := rest) (t0 := .boolean) (Q := jS g Q) (mc := 0) (ms := 0) (a := #[.int v]) C (fun ls H locs hjl hP hD hS => ?_) (fun x ws' h => ?_)
  · have := j_runSN (n := 1) (As := [.int v]) (rest := rest) (kc := 0) (ks := 0) C hM hcd C.2.2.2.2.2.2.2.1.2.2 st_isWeight iniX7 ⟨by decide +kernel, by decide +kernel, by decide +kernel⟩ hR (by rw [hz.1, hz.2]; exact ⟨Nat.zero_le _, Nat.zero_le _⟩) rfl rfl hW hd hjl hP hD hS
    rw [hz.1, hz.2] at this
    exact this
  · obtain ⟨σ', rfl, h⟩ := h
    exact kk x σ' h
theorem j_min (C : Cx g κ cc nL own rm) {idx : Nat} {x y : Int32} (hl : Cond.methodLink own idx Lib.Math.min.name ∈ lw_gd) (hd : decode cc pc = .ok (.invokestatic idx, 3)) (hR : 1 ≤ rm.frames ∧ 21 ≤ rm.locals) (hW : (S.map fun v => v.category).sum ≤ 8) (k : J g κ nL (pc + 3) L (.int (if y < x then y else x) :: S) σ) : J g κ nL pc L (.int y :: .int x :: S) σ := fun ls H locs hjl hP hD hS => by
  obtain ⟨c1, c2, c3, c4, c5, c6, c7, c8, c9⟩ := C
  exact va_mmin c1 c2 (by rw [c3]; exact hjl.1.1.symm) c4 (c5 _ hl) (c5 _ mm_min_s) (c5 _ mm_ini) (c5 _ mm_min_c) (by rw [c9]; exact hR.1) (by rw [c9]; have := hR.2; omega) (Nat.zero_le _) (Nat.zero_le _) hd (k ls H locs hjl hP hD hS)
theorem j_max (C : Cx g κ cc nL own rm) {idx : Nat} {x y : Int32} (hl : Cond.methodLink own idx Lib.Math.max.name ∈ lw_gd) (hd : decode cc pc = .ok (.invokestatic idx, 3)) (hR : 1 ≤ rm.frames ∧ 21 ≤ rm.locals) (hW : (S.map fun v => v.category).sum ≤ 8) (k : J g κ nL (pc + 3) L (.int (if x < y then y else x) :: S) σ) : J g κ nL pc L (.int y :: .int x :: S) σ := fun ls H locs hjl hP hD hS => by
  obtain ⟨c1, c2, c3, c4, c5, c6, c7, c8, c9⟩ := C
  exact va_mmax c1 c2 (by rw [c3]; exact hjl.1.1.symm) c4 (c5 _ hl) (c5 _ mm_max_s) (c5 _ mm_ini) (c5 _ mm_max_c) (by rw [c9]; exact hR.1) (by rw [c9]; have := hR.2; omega) (Nat.zero_le _) (Nat.zero_le _) hd (k ls H locs hjl hP hD hS)
/-- the static rows -/
theorem j_rooms (C : Cx g κ cc nL RX0 rm) (hd : decode cc pc = .ok (.getstatic 93, 3)) (k : J g κ nL (pc + 3) L (.ref (gsa g 0) :: S) σ) : J g κ nL pc L S σ := fun ls H locs hjl hP hD hS => by
  obtain ⟨c1, c2, c3, c4, c5, c6, c7, c8, c9⟩ := C
  exact va_gets c1 c2 c8.1.1 hS c4 (c5 _ fsX0_93) (fun _ h => h) hd (k ls H locs hjl hP hD hS)
theorem j_price (C : Cx g κ cc nL RX0 rm) (hd : decode cc pc = .ok (.getstatic 102, 3)) (k : J g κ nL (pc + 3) L (.ref (gsa g 1) :: S) σ) : J g κ nL pc L S σ := fun ls H locs hjl hP hD hS => by
  obtain ⟨c1, c2, c3, c4, c5, c6, c7, c8, c9⟩ := C
  exact va_gets c1 c2 c8.2.1.1 hS c4 (c5 _ fsX0_102) (fun _ h => h) hd (k ls H locs hjl hP hD hS)
theorem j_roomsL (C : Cx g κ cc nL RX0 rm) (hd : decode cc pc = .ok (.arraylength, 1)) (k : J g κ nL (pc + 1) L (.int (nI 4) :: S) σ) : J g κ nL pc L (.ref (gsa g 0) :: S) σ := fun ls H locs hjl hP hD hS => by
  obtain ⟨c1, c2, c3, c4, c5, c6, c7, c8, c9⟩ := C
  exact va_tlen c1 c2 c8.1.2 hS rfl hd (k ls H locs hjl hP hD hS)
theorem j_roomsI (C : Cx g κ cc nL RX0 rm) {e : Nat} (hd : decode cc pc = .ok (.iaload, 1)) (he : e < 4) (k : J g κ nL (pc + 1) L (.int (fx_rooms e) :: S) σ) : J g κ nL pc L (.int (nI e) :: .ref (gsa g 0) :: S) σ := fun ls H locs hjl hP hD hS => by
  obtain ⟨c1, c2, c3, c4, c5, c6, c7, c8, c9⟩ := C
  exact va_ti (v := .int (fx_rooms e)) c1 c2 c8.1.2 hS (vp_in_nI he (by decide)) (by rw [nI_clamp (by omega)]) hd (k ls H locs hjl hP hD hS)
theorem j_priceI (C : Cx g κ cc nL RX0 rm) {e : Nat} (hd : decode cc pc = .ok (.iaload, 1)) (he : e < 4) (k : J g κ nL (pc + 1) L (.int (fx_price e) :: S) σ) : J g κ nL pc L (.int (nI e) :: .ref (gsa g 1) :: S) σ := fun ls H locs hjl hP hD hS => by
  obtain ⟨c1, c2, c3, c4, c5, c6, c7, c8, c9⟩ := C
  exact va_ti (v := .int (fx_price e)) c1 c2 c8.2.1.2 hS (vp_in_nI he (by decide)) (by rw [nI_clamp (by omega)]) hd (k ls H locs hjl hP hD hS)
/-- ends -/
theorem j_ret {Q : Int32 → Sg → Prop} {nm : String} {x : Int32} (M : Mx g κ cc nL own rm (some .int) nm (jS g Q)) (hd : decode cc pc = .ok (.ireturn, 1)) (hq : Q x σ) : J g κ nL pc L [.int x] σ := j_ireturn M hd (Nat.zero_le _) (Nat.zero_le _) ⟨σ, rfl, hq⟩
theorem j_retz {Q : Int32 → Sg → Prop} {nm : String} {x : Int32} (M : Mx g κ cc nL own rm (some .boolean) nm (jS g Q)) (hd : decode cc pc = .ok (.ireturn, 1)) (hx : narrow .boolean (.int x) = .int x) (hq : Q x σ) : J g κ nL pc L [.int x] σ := j_zreturn M hx hd (Nat.zero_le _) (Nat.zero_le _) ⟨σ, rfl, hq⟩
theorem j_retv {Q : Int32 → Sg → Prop} {nm : String} (M : Mx g κ cc nL own rm none nm (jS g Q)) (hd : decode cc pc = .ok (.return_, 1)) (hq : Q 0 σ) : J g κ nL pc L [] σ := j_return M hd (Nat.zero_le _) (Nat.zero_le _) ⟨σ, rfl, hq⟩
theorem MS_post {y : MethodName} {c' : ByteArray} {n' : Nat} {ret : Option FieldType} {r' : Room} {As : List Value} {Q Q' : Int32 → Sg → Prop} (h : MS g y c' n' ret r' As σ Q) (hQ : ∀ x σ', Q x σ' → Q' x σ') : MS g y c' n' ret r' As σ Q' := by
  intro sz
  have h0 := h sz
  intro p e a1 a2 a3 s m args below a4 a5 a6 a7
  obtain ⟨t, o, b1, b2, b3, b4, b5⟩ := h0 p e a1 a2 a3 s m args below a4 a5 a6 a7
  refine ⟨t, o, b1, b2, b3, ?_, b5⟩
  cases ret with
  | none =>
    obtain ⟨⟨u, u1, ⟨σ', u2, u3⟩, u4⟩, u5⟩ := b4
    exact ⟨⟨u, u1, ⟨σ', u2, hQ _ _ u3⟩, u4⟩, u5⟩
  | some t1 =>
    obtain ⟨⟨x, u, u1, ⟨σ', u2, u3⟩, u4⟩, u5⟩ := b4
    exact ⟨⟨x, u, u1, ⟨σ', u2, hQ _ _ u3⟩, u4⟩, u5⟩
end JM
/-! symbolic places: rows of far and share, standings, nets -/
theorem cf_far {g : jG} {t : Nat} (h : t < 7) (f : Nat → Int32) : cf g (25 + 1 * t) f = cI g 7 f := by
  rcases (by omega : t = 0 ∨ t = 1 ∨ t = 2 ∨ t = 3 ∨ t = 4 ∨ t = 5 ∨ t = 6) with rfl | rfl | rfl | rfl | rfl | rfl | rfl <;> rfl
theorem cf_share {g : jG} {t : Nat} (h : t < 6) (f : Nat → Int32) : cf g (33 + 1 * t) f = cI g 12 f := by
  rcases (by omega : t = 0 ∨ t = 1 ∨ t = 2 ∨ t = 3 ∨ t = 4 ∨ t = 5) with rfl | rfl | rfl | rfl | rfl | rfl <;> rfl
theorem cf_st {g : jG} {i : Nat} (h : i < 9) (f : Nat → Int32) : cf g (48 + 4 * i) f = cSt g (48 + 4 * i) f := by
  rcases (by omega : i = 0 ∨ i = 1 ∨ i = 2 ∨ i = 3 ∨ i = 4 ∨ i = 5 ∨ i = 6 ∨ i = 7 ∨ i = 8) with rfl | rfl | rfl | rfl | rfl | rfl | rfl | rfl | rfl <;> rfl
theorem cf_st1 {g : jG} {i : Nat} (h : i < 9) (f : Nat → Int32) : cf g (48 + 4 * i + 1) f = cI g 12 f := by
  rcases (by omega : i = 0 ∨ i = 1 ∨ i = 2 ∨ i = 3 ∨ i = 4 ∨ i = 5 ∨ i = 6 ∨ i = 7 ∨ i = 8) with rfl | rfl | rfl | rfl | rfl | rfl | rfl | rfl | rfl <;> rfl
theorem cf_st2 {g : jG} {i : Nat} (h : i < 9) (f : Nat → Int32) : cf g (48 + 4 * i + 2) f = cZ g 12 f := by
  rcases (by omega : i = 0 ∨ i = 1 ∨ i = 2 ∨ i = 3 ∨ i = 4 ∨ i = 5 ∨ i = 6 ∨ i = 7 ∨ i = 8) with rfl | rfl | rfl | rfl | rfl | rfl | rfl | rfl | rfl <;> rfl
theorem cf_st3 {g : jG} {i : Nat} (h : i < 9) (f : Nat → Int32) : cf g (48 + 4 * i + 3) f = cI g 6 f := by
  rcases (by omega : i = 0 ∨ i = 1 ∨ i = 2 ∨ i = 3 ∨ i = 4 ∨ i = 5 ∨ i = 6 ∨ i = 7 ∨ i = 8) with rfl | rfl | rfl | rfl | rfl | rfl | rfl | rfl | rfl <;> rfl
theorem cf_net {g : jG} {i : Nat} (h : i < 2) (f : Nat → Int32) : cf g (3 + 9 * i) f = cNet g (3 + 9 * i) f := by
  rcases (by omega : i = 0 ∨ i = 1) with rfl | rfl <;> rfl
theorem cf_netI {g : jG} {i k : Nat} (h : i < 2) (h1 : 1 ≤ k) (h2 : k ≤ 4) (f : Nat → Int32) : cf g (3 + 9 * i + k) f = cI g 12 f := by
  rcases (by omega : i = 0 ∨ i = 1) with rfl | rfl <;> rcases (by omega : k = 1 ∨ k = 2 ∨ k = 3 ∨ k = 4) with rfl | rfl | rfl | rfl <;> rfl
theorem cf_netD {g : jG} {i k : Nat} (h : i < 2) (h1 : 5 ≤ k) (h2 : k ≤ 7) (f : Nat → Int32) : cf g (3 + 9 * i + k) f = cI g 6 f := by
  rcases (by omega : i = 0 ∨ i = 1) with rfl | rfl <;> rcases (by omega : k = 5 ∨ k = 6 ∨ k = 7) with rfl | rfl | rfl <;> rfl
theorem cf_netZ {g : jG} {i : Nat} (h : i < 2) (f : Nat → Int32) : cf g (3 + 9 * i + 8) f = cZ g 7 f := by
  rcases (by omega : i = 0 ∨ i = 1) with rfl | rfl <;> rfl
theorem j_zastG {g : jG} {κ : jC} {cc : ByteArray} {nL pc : Nat} {own : String} {rm : Room} {L : List (Option Value)} {S : List Value} {σ : Sg} (C : Cx g κ cc nL own rm) {q n e : Nat} {x : Int32} (hd : decode cc pc = .ok (.bastore, 1)) (hq : q < gN g) (he : ∀ f, cf g q f = cZ g n f) (hn : n < 2 ^ 31) (hi : e < n)
    (kk : ∀ σ' : Sg, (∀ j n, ¬ (j = q ∧ n = e) → σ' j n = σ j n) → σ' q e = vp_nar .boolean x → J g κ nL (pc + 1) L S σ') : J g κ nL pc L (.int x :: .int (nI e) :: .ref (gad g q) :: S) σ := fun ls H locs hl hP hD hS => by
  refine va_zast (D := gD g) C.1 C.2.1 C.2.2.2.2.2.1 hP hD hS q 1 (by rw [wd_get hq, he]; rfl) rfl (vp_in_nI hi hn) hd (fun H1 locs1 hP1 hD1 hS1 => ?_)
  rw [nI_clamp (by omega)] at hP1 hD1
  rw [wd_set (i := e) (v := vp_nar .boolean x) (by rw [he]; rfl)] at hP1 hD1
  exact kk _ (fun _ _ h => up2_n h) up2_v ls H1 locs1 hl hP1 hD1 hS1
