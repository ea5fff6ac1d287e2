/-! what the Statement gives at the start -/
theorem st_row {args : Array Value} {s : State} {tm : Term} {f : Nat → Int32} {A : Nat → Prop} (hA : ∀ a : Nat, a < s.heap.size → ¬ A a) (h1 : (Cond.arrayOf tm .int).before args s = true) (h2 : (Cond.eq (.length tm) (.int 4)).before args s = true) (h3 : ∀ j, j < 4 → (Cond.eq (.elem tm (.int (Int32.ofNat j))) (.int (f j))).before args s = true) : ∃ t : Nat, tm.eval args s none [] s = some (.ref t) ∧ va_T .int t 4 (fun j => .int (f j)) A s s.heap :=
  va_Tof (N := 4) (f := fun j => .int (f j)) (A := A) (by decide) h1 (va_eqt h2) (fun j hj => va_eqt (h3 j hj)) hA
theorem st_rooms {args : Array Value} {s : State} (hs : ∀ w ∈ flatC (Jvm.Cond.and given_1 narrow_1), w.before args s = true) : ∀ j, j < 4 → (Cond.eq (.elem (.static "LoadWeights$Flow" "PIECE_ROOMS" "[I") (.int (Int32.ofNat j))) (.int (fx_rooms j))).before args s = true := by
  have h : ∀ j, j < 4 → (Cond.eq (.elem (.static "LoadWeights$Flow" "PIECE_ROOMS" "[I") (.int (Int32.ofNat j))) (.int (fx_rooms j))) ∈ flatC (Jvm.Cond.and given_1 narrow_1) := by decide +kernel
  exact fun j hj => hs _ (h j hj)
theorem st_price {args : Array Value} {s : State} (hs : ∀ w ∈ flatC (Jvm.Cond.and given_1 narrow_1), w.before args s = true) : ∀ j, j < 4 → (Cond.eq (.elem (.static "LoadWeights$Flow" "PIECE_PRICE" "[I") (.int (Int32.ofNat j))) (.int (fx_price j))).before args s = true := by
  have h : ∀ j, j < 4 → (Cond.eq (.elem (.static "LoadWeights$Flow" "PIECE_PRICE" "[I") (.int (Int32.ofNat j))) (.int (fx_price j))) ∈ flatC (Jvm.Cond.and given_1 narrow_1) := by decide +kernel
  exact fun j hj => hs _ (h j hj)
theorem st_byt {args : Array Value} {s : State} (hs : ∀ w ∈ flatC (Jvm.Cond.and given_1 narrow_1), w.before args s = true) : ∀ j, j < 84 → (Cond.eq (.elem (.field (.string "LoadWeights" 72) "java/lang/String" "value" "[B") (.int (Int32.ofNat j))) (.int (byt0.getD j 0))).before args s = true := by
  have h : ∀ j, j < 84 → (Cond.eq (.elem (.field (.string "LoadWeights" 72) "java/lang/String" "value" "[B") (.int (Int32.ofNat j))) (.int (byt0.getD j 0))) ∈ flatC (Jvm.Cond.and given_1 narrow_1) := by decide +kernel
  exact fun j hj => hs _ (h j hj)
