/-! rows behind the making: as J's, with cells made -/
section JK2
variable {g : jG} {κ : jC} {cc : ByteArray} {nL pc : Nat} {own : String} {rm : Room} {L : List (Option Value)} {S : List Value} {σ : Sg} {kc ks : Nat}
theorem jk_get (C : Cx g κ cc nL own rm) {index ci k q : Nat} {fs : List Value} {v : Value} (hf : jfl own index ci k) (hd : decode cc pc = .ok (.getfield index, 3)) (hq : q < gN g) (he : cf g q (σ q) = .inr (ci, fs)) (hv : fs[k]? = some v) (kk : JJ g κ nL (pc + 3) L (v :: S) σ kc ks) : JJ g κ nL pc L (.ref (gad g q) :: S) σ kc ks := fun ls H locs hl hP hD hS => by
  obtain ⟨Cn, T, n, f1, f2, f3, f4⟩ := hf
  obtain ⟨c1, c2, c3, c4, c5, c6, c7, c8, c9⟩ := C
  exact va_get (D := gD g) c1 c2 c5 f3 c4 c6 hP q (by rw [wd_get hq, he]) f1 k f2 (c5 _ f4) (fun _ h9 => h9) hv hd (kk ls H locs hl hP hD hS)
theorem jk_put' (C : Cx g κ cc nL own rm) {index ci k q : Nat} {ty : FieldType} {fs : (Nat → Int32) → List Value} {x : Int32} (hf : jfp own index ci k ty) (hd : decode cc pc = .ok (.putfield index, 3)) (hq : q < gN g) (he : ∀ f, cf g q f = .inr (ci, fs f)) (hset : (fs (σ q)).set k (.int x) = fs (upd (σ q) k x)) (hl0 : k < (fs (σ q)).length) (hn : narrow ty (.int x) = .int x) (hfit : fits ty (.int x) = true)
    (kk : ∀ σ' : Sg, (∀ j n, ¬ (j = q ∧ n = k) → σ' j n = σ j n) → σ' q k = x → JJ g κ nL (pc + 3) L S σ' kc ks) : JJ g κ nL pc L (.int x :: .ref (gad g q) :: S) σ kc ks := fun ls H locs hl hP hD hS => by
  obtain ⟨Cn, T, n, t0, f1, f2, f3, f4, f5, f6, f7, f8⟩ := hf
  obtain ⟨c1, c2, c3, c4, c5, c6, c7, c8, c9⟩ := C
  refine va_put (D := gD g) (v := .int x) (ty := ty) c1 c2 c5 f3 t0 f5 f6 c4 c6 hP hD hS q (by rw [wd_get hq, he]) f1 k f2 (c5 _ f4) (fun _ h9 => h9) f7 f8 hn hfit hl0 hd (fun H1 locs1 hP1 hD1 hS1 => ?_)
  rw [hset, wd_set (he _)] at hP1 hD1
  exact kk _ (fun _ _ h => up2_n h) up2_v ls H1 locs1 hl hP1 hD1 hS1
end JK2
/-! the world grown by the reference's 13 cells -/
def g97 (g : jG) (r : Nat → Nat) : jG := (g.1, g.2.1, g.2.2.1, (fun k => cond (Nat.blt k 84) (gad g k) (r (k - 84))), 97, g.2.2.2.2.2)
theorem g97_lo {g : jG} {r : Nat → Nat} {k : Nat} (h : k < 84) : gad (g97 g r) k = gad g k := by
  show cond (Nat.blt k 84) (gad g k) (r (k - 84)) = gad g k
  rw [show Nat.blt k 84 = true from Nat.ble_eq_true_of_le h]
  rfl
theorem cR97 {g : jG} {r : Nat → Nat} {ty b w n : Nat} {f : Nat → Int32} (h : ∀ i, i < n → b + w * i < 84) : cR (g97 g r) ty b w n f = cR g ty b w n f := by
  unfold cR
  have : (fun i => if i < n then some (gad (g97 g r) (b + w * i)) else none) = (fun i => if i < n then some (gad g (b + w * i)) else none) := by
    funext i
    by_cases hi : i < n
    · rw [if_pos hi, if_pos hi, g97_lo (h i hi)]
    · rw [if_neg hi, if_neg hi]
  rw [this]
  rfl
theorem cf97 {g : jG} {r : Nat → Nat} (f : Nat → Int32) : ∀ k, k < 84 → cf (g97 g r) k f = cf g k f
  | 0, _ => rfl
  | 1, _ => rfl
  | 2, _ => rfl
  | 3, _ => rfl
  | 4, _ => rfl
  | 5, _ => rfl
  | 6, _ => rfl
  | 7, _ => rfl
  | 8, _ => rfl
  | 9, _ => rfl
  | 10, _ => rfl
  | 11, _ => rfl
  | 12, _ => rfl
  | 13, _ => rfl
  | 14, _ => rfl
  | 15, _ => rfl
  | 16, _ => rfl
  | 17, _ => rfl
  | 18, _ => rfl
  | 19, _ => rfl
  | 20, _ => rfl
  | 21, _ => rfl
  | 22, _ => rfl
  | 23, _ => rfl
  | 24, _ => cR97 (ty := 2) (b := 25) (w := 1) (n := 7) (f := f) (fun i hi => by omega)
  | 25, _ => rfl
  | 26, _ => rfl
  | 27, _ => rfl
  | 28, _ => rfl
  | 29, _ => rfl
  | 30, _ => rfl
  | 31, _ => rfl
  | 32, _ => cR97 (ty := 2) (b := 33) (w := 1) (n := 6) (f := f) (fun i hi => by omega)
  | 33, _ => rfl
  | 34, _ => rfl
  | 35, _ => rfl
  | 36, _ => rfl
  | 37, _ => rfl
  | 38, _ => rfl
  | 39, _ => rfl
  | 40, _ => rfl
  | 41, _ => rfl
  | 42, _ => rfl
  | 43, _ => rfl
  | 44, _ => rfl
  | 45, _ => rfl
  | 46, _ => cR97 (ty := 3) (b := 60) (w := 4) (n := 6) (f := f) (fun i hi => by omega)
  | 47, _ => rfl
  | 48, _ => rfl
  | 49, _ => rfl
  | 50, _ => rfl
  | 51, _ => rfl
  | 52, _ => rfl
  | 53, _ => rfl
  | 54, _ => rfl
  | 55, _ => rfl
  | 56, _ => rfl
  | 57, _ => rfl
  | 58, _ => rfl
  | 59, _ => rfl
  | 60, _ => rfl
  | 61, _ => rfl
  | 62, _ => rfl
  | 63, _ => rfl
  | 64, _ => rfl
  | 65, _ => rfl
  | 66, _ => rfl
  | 67, _ => rfl
  | 68, _ => rfl
  | 69, _ => rfl
  | 70, _ => rfl
  | 71, _ => rfl
  | 72, _ => rfl
  | 73, _ => rfl
  | 74, _ => rfl
  | 75, _ => rfl
  | 76, _ => rfl
  | 77, _ => rfl
  | 78, _ => rfl
  | 79, _ => rfl
  | 80, _ => rfl
  | 81, _ => rfl
  | 82, _ => rfl
  | 83, _ => rfl
  | k + 84, h => by omega
theorem wd97 {g : jG} {r : Nat → Nat} {σ σ' : Sg} (hN : gN g = 84) (hs : ∀ j, j < 84 → σ' j = σ j) : Wd (g97 g r) σ' = Wd g σ ++ [(r 0, cf (g97 g r) 84 (σ' 84)), (r 1, cf (g97 g r) 85 (σ' 85)), (r 2, cf (g97 g r) 86 (σ' 86)), (r 3, cf (g97 g r) 87 (σ' 87)), (r 4, cf (g97 g r) 88 (σ' 88)), (r 5, cf (g97 g r) 89 (σ' 89)), (r 6, cf (g97 g r) 90 (σ' 90)), (r 7, cf (g97 g r) 91 (σ' 91)), (r 8, cf (g97 g r) 92 (σ' 92)), (r 9, cf (g97 g r) 93 (σ' 93)), (r 10, cf (g97 g r) 94 (σ' 94)), (r 11, cf (g97 g r) 95 (σ' 95)), (r 12, cf (g97 g r) 96 (σ' 96))] := by
  have e : List.range 97 = List.range 84 ++ [84, 85, 86, 87, 88, 89, 90, 91, 92, 93, 94, 95, 96] := by decide +kernel
  unfold Wd
  rw [hN]
  show (List.range 97).map _ = _
  rw [e, List.map_append]
  congr 1
  apply List.map_congr_left
  intro k hk
  have hk := List.mem_range.mp hk
  rw [g97_lo hk, hs k hk, cf97 _ k hk]
