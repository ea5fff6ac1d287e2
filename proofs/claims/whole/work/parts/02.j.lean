/-! the judgement: bundles of what stands still (jG the run, jC the frame), and the rows over them -/
abbrev Sg : Type := Nat → Nat → Int32
/-- launch, class numbers and slots, array classes (0 int[], 1 boolean[], 2 int[][], 3 Standing[]), addresses of the cells, how many cells, addresses of what is read only (0, 1 the static rows; 2 the text, 3 its letters) -/
abbrev jG : Type := Launch × va_G × (Nat → ClassId) × (Nat → Nat) × Nat × (Nat → Nat)
abbrev jC : Type := Program × Env × Room × State × MethodId × Array Value × List Frame × Method × Code × (Nat → Prop) × (State → Prop)
abbrev gL (g : jG) : Launch := g.1
abbrev gD (g : jG) : va_G := g.2.1
abbrev gA (g : jG) : Nat → ClassId := g.2.2.1
abbrev gad (g : jG) : Nat → Nat := g.2.2.2.1
abbrev gN (g : jG) : Nat := g.2.2.2.2.1
abbrev gsa (g : jG) : Nat → Nat := g.2.2.2.2.2
abbrev kP (κ : jC) : Program := κ.1
abbrev kE (κ : jC) : Env := κ.2.1
abbrev kR (κ : jC) : Room := κ.2.2.1
abbrev kS (κ : jC) : State := κ.2.2.2.1
abbrev kM (κ : jC) : MethodId := κ.2.2.2.2.1
abbrev kAr (κ : jC) : Array Value := κ.2.2.2.2.2.1
abbrev kBl (κ : jC) : List Frame := κ.2.2.2.2.2.2.1
abbrev kMe (κ : jC) : Method := κ.2.2.2.2.2.2.2.1
abbrev kC (κ : jC) : Code := κ.2.2.2.2.2.2.2.2.1
abbrev kA (κ : jC) : Nat → Prop := κ.2.2.2.2.2.2.2.2.2.1
abbrev kQ (κ : jC) : State → Prop := κ.2.2.2.2.2.2.2.2.2.2
def lw_gd : List Cond := lw_tbl.filter goodWord
theorem gd_of {w : Cond} (h : w ∈ lw_tbl) (hg : goodWord w = true) : w ∈ lw_gd := List.mem_filter.mpr ⟨h, hg⟩
theorem gd_t {w : Cond} (i : Nat) (h : tables_1[i]? = some w) (hg : goodWord w = true) : w ∈ lw_gd := gd_of (List.mem_append_right _ (List.mem_of_getElem? h)) hg
theorem gd_s {w : Cond} (i : Nat) (h : (k2_sels lw_privs)[i]? = some w) (hg : goodWord w = true) : w ∈ lw_gd := gd_of (List.mem_append_left _ (List.mem_of_getElem? h)) hg
theorem gd_good {w : Cond} (h : w ∈ lw_gd) : (w.onTables && w.keeps) = true ∨ ∃ ty, w = .arrayClass ty := good_of_word (List.mem_filter.mp h).2
theorem gd_in {z : Cond} (h : z ∈ lw_gd) : GoodIn lw_gd (z :: lw_gd) := fun w hw => by
  rcases List.mem_cons.mp hw with rfl | h1
  · exact ⟨h, gd_good h⟩
  · exact ⟨h1, gd_good h1⟩
/-- locals: which values stand where -/
def jlv : Nat → List (Option Value) → List (Nat × Value)
  | _, [] => []
  | k, none :: t => jlv (k + 1) t
  | k, some v :: t => (k, v) :: jlv (k + 1) t
theorem jlv_mem : ∀ (L : List (Option Value)) (k i : Nat) (v : Value), (i, v) ∈ jlv k L ↔ ∃ j : Nat, i = k + j ∧ L[j]? = some (some v)
  | [], k, i, v => by simp [jlv]
  | none :: t, k, i, v => by
    rw [show jlv k (none :: t) = jlv (k + 1) t from rfl, jlv_mem t (k + 1) i v]
    constructor
    · rintro ⟨j, h1, h2⟩
      exact ⟨j + 1, by omega, by simpa using h2⟩
    · rintro ⟨j, h1, h2⟩
      cases j with
      | zero => simp at h2
      | succ j => exact ⟨j, by omega, by simpa using h2⟩
  | some w :: t, k, i, v => by
    rw [show jlv k (some w :: t) = (k, w) :: jlv (k + 1) t from rfl, List.mem_cons, jlv_mem t (k + 1) i v]
    constructor
    · rintro (h | ⟨j, h1, h2⟩)
      · cases h
        exact ⟨0, rfl, by simp⟩
      · exact ⟨j + 1, by omega, by simpa using h2⟩
    · rintro ⟨j, h1, h2⟩
      cases j with
      | zero =>
        simp at h2
        subst h2
        subst h1
        exact Or.inl rfl
      | succ j => exact Or.inr ⟨j, by omega, by simpa using h2⟩
def jl (ls : Array Slot) (nL : Nat) (L : List (Option Value)) : Prop := lv_has ls nL (jlv 0 L) ∧ ∀ (j : Nat) (v : Value), L[j]? = some (some v) → v.category = 1
theorem jl_at {ls : Array Slot} {nL : Nat} {L : List (Option Value)} (h : jl ls nL L) {i : Nat} {v : Value} (hi : L[i]? = some (some v)) : ls[i]? = some (.val v) := h.1.2.2 (i, v) ((jlv_mem L 0 i v).mpr ⟨i, by omega, hi⟩)
theorem jl_set {ls ls' : Array Slot} {nL : Nat} {L L' : List (Option Value)} (h : jl ls nL L) {i : Nat} {v : Value} (hc : v.category = 1) (h' : lv_has ls' nL ((i, v) :: (jlv 0 L).filter (fun q => !(q.1 == i) && !(q.1 + 1 == i && q.2.category == 2)))) (hL : L.set i (some v) = L') : jl ls' nL L' := by
  subst hL
  refine ⟨⟨h'.1, h'.2.1, ?_⟩, ?_⟩
  · rintro ⟨j, w⟩ hq
    obtain ⟨j', e1, e2⟩ := (jlv_mem _ 0 j w).mp hq
    have e3 : j' = j := by omega
    subst e3
    by_cases hji : j' = i
    · subst hji
      by_cases hlt : j' < L.length
      · rw [List.getElem?_set_self hlt] at e2
        cases e2
        exact h'.2.2 (j', v) List.mem_cons_self
      · rw [List.getElem?_eq_none (by simp; omega)] at e2
        cases e2
    · rw [List.getElem?_set_ne (fun q => hji q.symm)] at e2
      refine h'.2.2 (j', w) (List.mem_cons_of_mem _ (List.mem_filter.mpr ⟨(jlv_mem L 0 j' w).mpr ⟨j', by omega, e2⟩, ?_⟩))
      have hw := h.2 j' w e2
      simp [hji, hw]
  · intro j w hj
    by_cases hji : j = i
    · subst hji
      by_cases hlt : j < L.length
      · rw [List.getElem?_set_self hlt] at hj
        cases hj
        exact hc
      · rw [List.getElem?_eq_none (by simp; omega)] at hj
        cases hj
    · rw [List.getElem?_set_ne (fun q => hji q.symm)] at hj
      exact h.2 j w hj
/-- what the tables say of the array classes -/
def jT (g : jG) : List (ClassId × FieldType) := [(gA g 0, .int), (gA g 1, .boolean), (gA g 2, .array .int), (gA g 3, .object "LoadWeights$Standing")]
def fx_rooms (k : Nat) : Int32 := match k with | 0 => 4 | 1 => 4 | 2 => 3 | _ => 1
def fx_price (k : Nat) : Int32 := match k with | 0 => 1 | 1 => 3 | 2 => 10 | _ => 70
/-- what is read only: the static rows; links to nest mates; the text -/
def jE (g : jG) (A : Nat → Prop) (U : State) : Prop :=
  (va_Z "LoadWeights$Flow" "PIECE_ROOMS" "[I" (.ref (gsa g 0)) A U U.heap ∧ va_T .int (gsa g 0) 4 (fun j => .int (fx_rooms j)) A U U.heap) ∧
  (va_Z "LoadWeights$Flow" "PIECE_PRICE" "[I" (.ref (gsa g 1)) A U U.heap ∧ va_T .int (gsa g 1) 4 (fun j => .int (fx_price j)) A U U.heap) ∧
  va_Nw (.methodLinkNest RX3 55 yX7_isWeight "LoadWeights") U
theorem jE_to {g : jG} {A B : Nat → Prop} {s U : State} {H : Heap} {locs : List Loc} (h : jE g A s) (hS : va_S A s.heap H locs) (hU : U.heap = H) (hW : s.WarmedH U.vm) (hAB : ∀ q, B q → A q) : jE g B U := by
  obtain ⟨⟨a1, a2⟩, ⟨b1, b2⟩, c1⟩ := h
  subst hU
  exact ⟨⟨((a1.moved hW.alike).kept hS.2.1).narrow hAB, ((a2.moved hW.alike).kept hS.2.1).narrow hAB⟩, ⟨((b1.moved hW.alike).kept hS.2.1).narrow hAB, ((b2.moved hW.alike).kept hS.2.1).narrow hAB⟩, va_Nw.warmM hW c1⟩
theorem jE_call {g : jG} {A : Nat → Prop} {U : State} {gf : JFrame} {mk : MethodId} {a : Array Value} (h : jE g A U) : jE g A (U.calling gf mk a) := by
  obtain ⟨⟨a1, a2⟩, ⟨b1, b2⟩, c1⟩ := h
  exact ⟨⟨va_Z.moved (u := U) (U := U.calling gf mk a) (Vm.Alike.refl U.vm) a1, va_T.moved (u := U) (U := U.calling gf mk a) (Vm.Alike.refl U.vm) a2⟩, ⟨va_Z.moved (u := U) (U := U.calling gf mk a) (Vm.Alike.refl U.vm) b1, va_T.moved (u := U) (U := U.calling gf mk a) (Vm.Alike.refl U.vm) b2⟩, va_Nw.same (u := U) (U := U.calling gf mk a) rfl rfl c1⟩
/-- a frame's standing facts -/
def Cx (g : jG) (κ : jC) (cc : ByteArray) (nL : Nat) (own : String) (rm : Room) : Prop :=
  (kP κ).tables.exec = Jvm.exec ∧ (kC κ).code = cc ∧ (kC κ).maxLocals = nL ∧ (kS κ).vm.findClass own = some (kM κ).cls ∧ (∀ w ∈ lw_gd, w.before (kAr κ) (kS κ) = true) ∧ va_K (gD g) vwCl (jT g) (kS κ) ∧ (∀ q, (kS κ).heap.size ≤ q → kA κ q) ∧ jE g (kA κ) (kS κ) ∧ kR κ = rm
def Jw (g : jG) (κ : jC) (nL pc : Nat) (L : List (Option Value)) (S : List Value) (ws : va_W) (kc ks : Nat) : Prop :=
  ∀ (ls : Array Slot) (H : Heap) (locs : List Loc), jl ls nL L → va_P (gD g) vwCl ws H → va_D (kA κ) ws → va_S (kA κ) (kS κ).heap H locs → W (kP κ) (gL g) (kE κ) (kR κ) (kS κ) (kM κ) (kAr κ) (kBl κ) (kMe κ) (kC κ) H locs kc ks (kQ κ) (F0 (kM κ) pc ls S)
section JR
variable {g : jG} {κ : jC} {cc : ByteArray} {nL pc : Nat} {own : String} {rm : Room} {L : List (Option Value)} {S : List Value} {ws : va_W} {kc ks : Nat}
theorem j_iconst (C : Cx g κ cc nL own rm) {n : Int} {v : Int32} (hd : decode cc pc = .ok (.iconst n, 1)) (hv : Int32.ofInt n = v) (k : Jw g κ nL (pc + 1) L (.int v :: S) ws kc ks) : Jw g κ nL pc L S ws kc ks :=
  fun ls H locs hl hP hD hS => lv_iconst C.1 C.2.1 hd hv (k ls H locs hl hP hD hS)
theorem j_bipush (C : Cx g κ cc nL own rm) {n : Int} {v : Int32} (hd : decode cc pc = .ok (.bipush n, 2)) (hv : (Int8.ofInt n).toInt32 = v) (k : Jw g κ nL (pc + 2) L (.int v :: S) ws kc ks) : Jw g κ nL pc L S ws kc ks :=
  fun ls H locs hl hP hD hS => lv_bipush C.1 C.2.1 hd hv (k ls H locs hl hP hD hS)
theorem j_sipush (C : Cx g κ cc nL own rm) {n : Int} {v : Int32} (hd : decode cc pc = .ok (.sipush n, 3)) (hv : (Int16.ofInt n).toInt32 = v) (k : Jw g κ nL (pc + 3) L (.int v :: S) ws kc ks) : Jw g κ nL pc L S ws kc ks :=
  fun ls H locs hl hP hD hS => lv_sipush C.1 C.2.1 hd hv (k ls H locs hl hP hD hS)
theorem j_iload_n (C : Cx g κ cc nL own rm) {k : Fin 4} {i : Nat} {x : Int32} (hd : decode cc pc = .ok (.iload_n k, 1)) (hi : (k : Nat) = i) (h : L[i]? = some (some (.int x))) (kk : Jw g κ nL (pc + 1) L (.int x :: S) ws kc ks) : Jw g κ nL pc L S ws kc ks :=
  fun ls H locs hl hP hD hS => lv_iload_n C.1 C.2.1 hd hi (jl_at hl h) (kk ls H locs hl hP hD hS)
theorem j_iload (C : Cx g κ cc nL own rm) {i : Nat} {x : Int32} (hd : decode cc pc = .ok (.iload i, 2)) (h : L[i]? = some (some (.int x))) (kk : Jw g κ nL (pc + 2) L (.int x :: S) ws kc ks) : Jw g κ nL pc L S ws kc ks :=
  fun ls H locs hl hP hD hS => lv_iload C.1 C.2.1 hd (jl_at hl h) (kk ls H locs hl hP hD hS)
theorem j_aload_n (C : Cx g κ cc nL own rm) {k : Fin 4} {i x : Nat} (hd : decode cc pc = .ok (.aload_n k, 1)) (hi : (k : Nat) = i) (h : L[i]? = some (some (.ref x))) (kk : Jw g κ nL (pc + 1) L (.ref x :: S) ws kc ks) : Jw g κ nL pc L S ws kc ks :=
  fun ls H locs hl hP hD hS => lv_aload_n C.1 C.2.1 hd hi (jl_at hl h) (kk ls H locs hl hP hD hS)
theorem j_aload (C : Cx g κ cc nL own rm) {i x : Nat} (hd : decode cc pc = .ok (.aload i, 2)) (h : L[i]? = some (some (.ref x))) (kk : Jw g κ nL (pc + 2) L (.ref x :: S) ws kc ks) : Jw g κ nL pc L S ws kc ks :=
  fun ls H locs hl hP hD hS => lv_aload C.1 C.2.1 hd (jl_at hl h) (kk ls H locs hl hP hD hS)
theorem j_istore_n (C : Cx g κ cc nL own rm) {k : Fin 4} {i : Nat} {x : Int32} {L' : List (Option Value)} (hd : decode cc pc = .ok (.istore_n k, 1)) (hi : (k : Nat) = i) (hn : i < nL) (hL : L.set i (some (.int x)) = L') (kk : Jw g κ nL (pc + 1) L' S ws kc ks) : Jw g κ nL pc L (.int x :: S) ws kc ks :=
  fun ls H locs hl hP hD hS => lv_istore_n C.1 C.2.1 hd hi hl.1 hn rfl (fun ls' h' => kk ls' H locs (jl_set hl rfl h' hL) hP hD hS)
theorem j_istore (C : Cx g κ cc nL own rm) {i : Nat} {x : Int32} {L' : List (Option Value)} (hd : decode cc pc = .ok (.istore i, 2)) (hn : i < nL) (hL : L.set i (some (.int x)) = L') (kk : Jw g κ nL (pc + 2) L' S ws kc ks) : Jw g κ nL pc L (.int x :: S) ws kc ks :=
  fun ls H locs hl hP hD hS => lv_istore C.1 C.2.1 hd hl.1 hn rfl (fun ls' h' => kk ls' H locs (jl_set hl rfl h' hL) hP hD hS)
theorem j_astore_n (C : Cx g κ cc nL own rm) {k : Fin 4} {i x : Nat} {L' : List (Option Value)} (hd : decode cc pc = .ok (.astore_n k, 1)) (hi : (k : Nat) = i) (hn : i < nL) (hL : L.set i (some (.ref x)) = L') (kk : Jw g κ nL (pc + 1) L' S ws kc ks) : Jw g κ nL pc L (.ref x :: S) ws kc ks :=
  fun ls H locs hl hP hD hS => lv_astore_n C.1 C.2.1 hd hi hl.1 hn rfl (fun ls' h' => kk ls' H locs (jl_set hl rfl h' hL) hP hD hS)
theorem j_astore (C : Cx g κ cc nL own rm) {i x : Nat} {L' : List (Option Value)} (hd : decode cc pc = .ok (.astore i, 2)) (hn : i < nL) (hL : L.set i (some (.ref x)) = L') (kk : Jw g κ nL (pc + 2) L' S ws kc ks) : Jw g κ nL pc L (.ref x :: S) ws kc ks :=
  fun ls H locs hl hP hD hS => lv_astore C.1 C.2.1 hd hl.1 hn rfl (fun ls' h' => kk ls' H locs (jl_set hl rfl h' hL) hP hD hS)
theorem j_iinc (C : Cx g κ cc nL own rm) {i : Nat} {n : Int} {x v : Int32} {L' : List (Option Value)} (hd : decode cc pc = .ok (.iinc i n, 3)) (h : L[i]? = some (some (.int x))) (hv : x + Int32.ofInt n = v) (hn : i < nL) (hL : L.set i (some (.int v)) = L') (kk : Jw g κ nL (pc + 3) L' S ws kc ks) : Jw g κ nL pc L S ws kc ks :=
  fun ls H locs hl hP hD hS => by
    obtain ⟨k, hk⟩ := List.getElem?_of_mem ((jlv_mem L 0 i (.int x)).mpr ⟨i, by omega, h⟩)
    exact lv_iinc C.1 C.2.1 hd hl.1 hk hv hn rfl (fun ls' h' => kk ls' H locs (jl_set hl rfl h' hL) hP hD hS)
theorem j_iadd (C : Cx g κ cc nL own rm) {x y : Int32} (hd : decode cc pc = .ok (.iadd, 1)) (k : Jw g κ nL (pc + 1) L (.int (x + y) :: S) ws kc ks) : Jw g κ nL pc L (.int y :: .int x :: S) ws kc ks :=
  fun ls H locs hl hP hD hS => lv_iadd C.1 C.2.1 hd (k ls H locs hl hP hD hS)
theorem j_isub (C : Cx g κ cc nL own rm) {x y : Int32} (hd : decode cc pc = .ok (.isub, 1)) (k : Jw g κ nL (pc + 1) L (.int (x - y) :: S) ws kc ks) : Jw g κ nL pc L (.int y :: .int x :: S) ws kc ks :=
  fun ls H locs hl hP hD hS => lv_isub C.1 C.2.1 hd (k ls H locs hl hP hD hS)
theorem j_imul (C : Cx g κ cc nL own rm) {x y : Int32} (hd : decode cc pc = .ok (.imul, 1)) (k : Jw g κ nL (pc + 1) L (.int (x * y) :: S) ws kc ks) : Jw g κ nL pc L (.int y :: .int x :: S) ws kc ks :=
  fun ls H locs hl hP hD hS => lv_imul C.1 C.2.1 hd (k ls H locs hl hP hD hS)
theorem j_iand (C : Cx g κ cc nL own rm) {x y : Int32} (hd : decode cc pc = .ok (.iand, 1)) (k : Jw g κ nL (pc + 1) L (.int (x &&& y) :: S) ws kc ks) : Jw g κ nL pc L (.int y :: .int x :: S) ws kc ks :=
  fun ls H locs hl hP hD hS => lv_iand C.1 C.2.1 hd (k ls H locs hl hP hD hS)
theorem j_ior (C : Cx g κ cc nL own rm) {x y : Int32} (hd : decode cc pc = .ok (.ior, 1)) (k : Jw g κ nL (pc + 1) L (.int (x ||| y) :: S) ws kc ks) : Jw g κ nL pc L (.int y :: .int x :: S) ws kc ks :=
  fun ls H locs hl hP hD hS => lv_ior C.1 C.2.1 hd (k ls H locs hl hP hD hS)
theorem j_ixor (C : Cx g κ cc nL own rm) {x y : Int32} (hd : decode cc pc = .ok (.ixor, 1)) (k : Jw g κ nL (pc + 1) L (.int (x ^^^ y) :: S) ws kc ks) : Jw g κ nL pc L (.int y :: .int x :: S) ws kc ks :=
  fun ls H locs hl hP hD hS => lv_ixor C.1 C.2.1 hd (k ls H locs hl hP hD hS)
theorem j_idiv (C : Cx g κ cc nL own rm) {x y : Int32} (hd : decode cc pc = .ok (.idiv, 1)) (hne : ¬ y = 0) (k : Jw g κ nL (pc + 1) L (.int (x / y) :: S) ws kc ks) : Jw g κ nL pc L (.int y :: .int x :: S) ws kc ks :=
  fun ls H locs hl hP hD hS => lv_idiv C.1 C.2.1 hd hne (k ls H locs hl hP hD hS)
theorem j_irem (C : Cx g κ cc nL own rm) {x y : Int32} (hd : decode cc pc = .ok (.irem, 1)) (hne : ¬ y = 0) (k : Jw g κ nL (pc + 1) L (.int (x - x / y * y) :: S) ws kc ks) : Jw g κ nL pc L (.int y :: .int x :: S) ws kc ks :=
  fun ls H locs hl hP hD hS => lv_irem C.1 C.2.1 hd hne (k ls H locs hl hP hD hS)
theorem j_dup (C : Cx g κ cc nL own rm) {v : Value} (hd : decode cc pc = .ok (.dup, 1)) (hv : v.category = 1) (k : Jw g κ nL (pc + 1) L (v :: v :: S) ws kc ks) : Jw g κ nL pc L (v :: S) ws kc ks :=
  fun ls H locs hl hP hD hS => lv_dup C.1 C.2.1 hd hv (k ls H locs hl hP hD hS)
theorem j_pop (C : Cx g κ cc nL own rm) {v : Value} (hd : decode cc pc = .ok (.pop, 1)) (hv : v.category = 1) (k : Jw g κ nL (pc + 1) L S ws kc ks) : Jw g κ nL pc L (v :: S) ws kc ks :=
  fun ls H locs hl hP hD hS => lv_pop C.1 C.2.1 hd hv (k ls H locs hl hP hD hS)
theorem j_goto (C : Cx g κ cc nL own rm) {off : Int} {tgt : Nat} (hd : decode cc pc = .ok (.goto off, 3)) (ht : (pc : Int) + off = (tgt : Int)) (k : Jw g κ nL tgt L S ws kc ks) : Jw g κ nL pc L S ws kc ks :=
  fun ls H locs hl hP hD hS => lv_goto C.1 C.2.1 hd ht (k ls H locs hl hP hD hS)
end JR
section JR2
variable {g : jG} {κ : jC} {cc : ByteArray} {nL pc : Nat} {own : String} {rm : Room} {L : List (Option Value)} {S : List Value} {ws : va_W} {kc ks : Nat}
theorem j_top {x y : Int32} (h : x = y) (k : Jw g κ nL pc L (.int y :: S) ws kc ks) : Jw g κ nL pc L (.int x :: S) ws kc ks := h ▸ k
theorem j_ishl (C : Cx g κ cc nL own rm) {x y : Int32} (hd : decode cc pc = .ok (.ishl, 1)) (k : Jw g κ nL (pc + 1) L (.int (x <<< (y &&& 31)) :: S) ws kc ks) : Jw g κ nL pc L (.int y :: .int x :: S) ws kc ks :=
  fun ls H locs hl hP hD hS => lv_ishl C.1 C.2.1 hd (k ls H locs hl hP hD hS)
theorem j_ishr (C : Cx g κ cc nL own rm) {x y : Int32} (hd : decode cc pc = .ok (.ishr, 1)) (k : Jw g κ nL (pc + 1) L (.int (x >>> (y &&& 31)) :: S) ws kc ks) : Jw g κ nL pc L (.int y :: .int x :: S) ws kc ks :=
  fun ls H locs hl hP hD hS => lv_ishr C.1 C.2.1 hd (k ls H locs hl hP hD hS)
theorem j_dup2 (C : Cx g κ cc nL own rm) {v w : Value} (hd : decode cc pc = .ok (.dup2, 1)) (hv : v.category = 1) (hw : w.category = 1) (k : Jw g κ nL (pc + 1) L (v :: w :: v :: w :: S) ws kc ks) : Jw g κ nL pc L (v :: w :: S) ws kc ks :=
  fun ls H locs hl hP hD hS => lv_dup2_11 C.1 C.2.1 hd hv hw (k ls H locs hl hP hD hS)
theorem j_ldc (C : Cx g κ cc nL own rm) {index : Nat} {v : Int32} (hc : Cond.constant own index v ∈ lw_gd) (hd : decode cc pc = .ok (.ldc index, 2)) (k : Jw g κ nL (pc + 2) L (.int v :: S) ws kc ks) : Jw g κ nL pc L S ws kc ks :=
  fun ls H locs hl hP hD hS => lv_ldc C.1 C.2.1 C.2.2.2.1 (C.2.2.2.2.1 _ hc) hd (k ls H locs hl hP hD hS)
theorem j_if_eq (C : Cx g κ cc nL own rm) {x : Int32} {off : Int} {tgt : Nat} (hd : decode cc pc = .ok (.ifCond .eq off, 3)) (ht : (pc : Int) + off = (tgt : Int)) (kt : x = 0 → Jw g κ nL tgt L S ws kc ks) (kf : ¬ x = 0 → Jw g κ nL (pc + 3) L S ws kc ks) : Jw g κ nL pc L (.int x :: S) ws kc ks :=
  fun ls H locs hl hP hD hS => lv_if_eq C.1 C.2.1 hd ht (fun h => kt h ls H locs hl hP hD hS) (fun h => kf h ls H locs hl hP hD hS)
theorem j_icmp_eq (C : Cx g κ cc nL own rm) {x y : Int32} {off : Int} {tgt : Nat} (hd : decode cc pc = .ok (.if_icmp .eq off, 3)) (ht : (pc : Int) + off = (tgt : Int)) (kt : x = y → Jw g κ nL tgt L S ws kc ks) (kf : ¬ x = y → Jw g κ nL (pc + 3) L S ws kc ks) : Jw g κ nL pc L (.int y :: .int x :: S) ws kc ks :=
  fun ls H locs hl hP hD hS => lv_icmp_eq C.1 C.2.1 hd ht (fun h => kt h ls H locs hl hP hD hS) (fun h => kf h ls H locs hl hP hD hS)
theorem j_if_ne (C : Cx g κ cc nL own rm) {x : Int32} {off : Int} {tgt : Nat} (hd : decode cc pc = .ok (.ifCond .ne off, 3)) (ht : (pc : Int) + off = (tgt : Int)) (kt : ¬ x = 0 → Jw g κ nL tgt L S ws kc ks) (kf : x = 0 → Jw g κ nL (pc + 3) L S ws kc ks) : Jw g κ nL pc L (.int x :: S) ws kc ks :=
  fun ls H locs hl hP hD hS => lv_if_ne C.1 C.2.1 hd ht (fun h => kt h ls H locs hl hP hD hS) (fun h => kf h ls H locs hl hP hD hS)
theorem j_icmp_ne (C : Cx g κ cc nL own rm) {x y : Int32} {off : Int} {tgt : Nat} (hd : decode cc pc = .ok (.if_icmp .ne off, 3)) (ht : (pc : Int) + off = (tgt : Int)) (kt : ¬ x = y → Jw g κ nL tgt L S ws kc ks) (kf : x = y → Jw g κ nL (pc + 3) L S ws kc ks) : Jw g κ nL pc L (.int y :: .int x :: S) ws kc ks :=
  fun ls H locs hl hP hD hS => lv_icmp_ne C.1 C.2.1 hd ht (fun h => kt h ls H locs hl hP hD hS) (fun h => kf h ls H locs hl hP hD hS)
theorem j_if_lt (C : Cx g κ cc nL own rm) {x : Int32} {off : Int} {tgt : Nat} (hd : decode cc pc = .ok (.ifCond .lt off, 3)) (ht : (pc : Int) + off = (tgt : Int)) (kt : x < 0 → Jw g κ nL tgt L S ws kc ks) (kf : ¬ x < 0 → Jw g κ nL (pc + 3) L S ws kc ks) : Jw g κ nL pc L (.int x :: S) ws kc ks :=
  fun ls H locs hl hP hD hS => lv_if_lt C.1 C.2.1 hd ht (fun h => kt h ls H locs hl hP hD hS) (fun h => kf h ls H locs hl hP hD hS)
theorem j_icmp_lt (C : Cx g κ cc nL own rm) {x y : Int32} {off : Int} {tgt : Nat} (hd : decode cc pc = .ok (.if_icmp .lt off, 3)) (ht : (pc : Int) + off = (tgt : Int)) (kt : x < y → Jw g κ nL tgt L S ws kc ks) (kf : ¬ x < y → Jw g κ nL (pc + 3) L S ws kc ks) : Jw g κ nL pc L (.int y :: .int x :: S) ws kc ks :=
  fun ls H locs hl hP hD hS => lv_icmp_lt C.1 C.2.1 hd ht (fun h => kt h ls H locs hl hP hD hS) (fun h => kf h ls H locs hl hP hD hS)
theorem j_if_ge (C : Cx g κ cc nL own rm) {x : Int32} {off : Int} {tgt : Nat} (hd : decode cc pc = .ok (.ifCond .ge off, 3)) (ht : (pc : Int) + off = (tgt : Int)) (kt : 0 ≤ x → Jw g κ nL tgt L S ws kc ks) (kf : ¬ 0 ≤ x → Jw g κ nL (pc + 3) L S ws kc ks) : Jw g κ nL pc L (.int x :: S) ws kc ks :=
  fun ls H locs hl hP hD hS => lv_if_ge C.1 C.2.1 hd ht (fun h => kt h ls H locs hl hP hD hS) (fun h => kf h ls H locs hl hP hD hS)
theorem j_icmp_ge (C : Cx g κ cc nL own rm) {x y : Int32} {off : Int} {tgt : Nat} (hd : decode cc pc = .ok (.if_icmp .ge off, 3)) (ht : (pc : Int) + off = (tgt : Int)) (kt : y ≤ x → Jw g κ nL tgt L S ws kc ks) (kf : ¬ y ≤ x → Jw g κ nL (pc + 3) L S ws kc ks) : Jw g κ nL pc L (.int y :: .int x :: S) ws kc ks :=
  fun ls H locs hl hP hD hS => lv_icmp_ge C.1 C.2.1 hd ht (fun h => kt h ls H locs hl hP hD hS) (fun h => kf h ls H locs hl hP hD hS)
theorem j_if_gt (C : Cx g κ cc nL own rm) {x : Int32} {off : Int} {tgt : Nat} (hd : decode cc pc = .ok (.ifCond .gt off, 3)) (ht : (pc : Int) + off = (tgt : Int)) (kt : 0 < x → Jw g κ nL tgt L S ws kc ks) (kf : ¬ 0 < x → Jw g κ nL (pc + 3) L S ws kc ks) : Jw g κ nL pc L (.int x :: S) ws kc ks :=
  fun ls H locs hl hP hD hS => lv_if_gt C.1 C.2.1 hd ht (fun h => kt h ls H locs hl hP hD hS) (fun h => kf h ls H locs hl hP hD hS)
theorem j_icmp_gt (C : Cx g κ cc nL own rm) {x y : Int32} {off : Int} {tgt : Nat} (hd : decode cc pc = .ok (.if_icmp .gt off, 3)) (ht : (pc : Int) + off = (tgt : Int)) (kt : y < x → Jw g κ nL tgt L S ws kc ks) (kf : ¬ y < x → Jw g κ nL (pc + 3) L S ws kc ks) : Jw g κ nL pc L (.int y :: .int x :: S) ws kc ks :=
  fun ls H locs hl hP hD hS => lv_icmp_gt C.1 C.2.1 hd ht (fun h => kt h ls H locs hl hP hD hS) (fun h => kf h ls H locs hl hP hD hS)
theorem j_if_le (C : Cx g κ cc nL own rm) {x : Int32} {off : Int} {tgt : Nat} (hd : decode cc pc = .ok (.ifCond .le off, 3)) (ht : (pc : Int) + off = (tgt : Int)) (kt : x ≤ 0 → Jw g κ nL tgt L S ws kc ks) (kf : ¬ x ≤ 0 → Jw g κ nL (pc + 3) L S ws kc ks) : Jw g κ nL pc L (.int x :: S) ws kc ks :=
  fun ls H locs hl hP hD hS => lv_if_le C.1 C.2.1 hd ht (fun h => kt h ls H locs hl hP hD hS) (fun h => kf h ls H locs hl hP hD hS)
theorem j_icmp_le (C : Cx g κ cc nL own rm) {x y : Int32} {off : Int} {tgt : Nat} (hd : decode cc pc = .ok (.if_icmp .le off, 3)) (ht : (pc : Int) + off = (tgt : Int)) (kt : x ≤ y → Jw g κ nL tgt L S ws kc ks) (kf : ¬ x ≤ y → Jw g κ nL (pc + 3) L S ws kc ks) : Jw g κ nL pc L (.int y :: .int x :: S) ws kc ks :=
  fun ls H locs hl hP hD hS => lv_icmp_le C.1 C.2.1 hd ht (fun h => kt h ls H locs hl hP hD hS) (fun h => kf h ls H locs hl hP hD hS)
theorem j_icmpn_eq (C : Cx g κ cc nL own rm) {a b : Nat} {off : Int} {tgt : Nat} (hd : decode cc pc = .ok (.if_icmp .eq off, 3)) (ht : (pc : Int) + off = (tgt : Int)) (ha : a < 2 ^ 31) (hb : b < 2 ^ 31) (kt : a = b → Jw g κ nL tgt L S ws kc ks) (kf : ¬ a = b → Jw g κ nL (pc + 3) L S ws kc ks) : Jw g κ nL pc L (.int (nI b) :: .int (nI a) :: S) ws kc ks :=
  j_icmp_eq C hd ht (fun h => kt ((nI_eq ha hb).mp h)) (fun h => kf (fun q => h ((nI_eq ha hb).mpr q)))
theorem j_ifn_eq (C : Cx g κ cc nL own rm) {a : Nat} {off : Int} {tgt : Nat} (hd : decode cc pc = .ok (.ifCond .eq off, 3)) (ht : (pc : Int) + off = (tgt : Int)) (ha : a < 2 ^ 31) (kt : a = 0 → Jw g κ nL tgt L S ws kc ks) (kf : ¬ a = 0 → Jw g κ nL (pc + 3) L S ws kc ks) : Jw g κ nL pc L (.int (nI a) :: S) ws kc ks :=
  j_if_eq C hd ht (fun h => kt ((nI_eq ha (b := 0) (by decide)).mp h)) (fun h => kf (fun q => h ((nI_eq ha (b := 0) (by decide)).mpr q)))
theorem j_icmpn_ne (C : Cx g κ cc nL own rm) {a b : Nat} {off : Int} {tgt : Nat} (hd : decode cc pc = .ok (.if_icmp .ne off, 3)) (ht : (pc : Int) + off = (tgt : Int)) (ha : a < 2 ^ 31) (hb : b < 2 ^ 31) (kt : ¬ a = b → Jw g κ nL tgt L S ws kc ks) (kf : a = b → Jw g κ nL (pc + 3) L S ws kc ks) : Jw g κ nL pc L (.int (nI b) :: .int (nI a) :: S) ws kc ks :=
  j_icmp_ne C hd ht (fun h => kt (fun q => h ((nI_eq ha hb).mpr q))) (fun h => kf ((nI_eq ha hb).mp h))
theorem j_ifn_ne (C : Cx g κ cc nL own rm) {a : Nat} {off : Int} {tgt : Nat} (hd : decode cc pc = .ok (.ifCond .ne off, 3)) (ht : (pc : Int) + off = (tgt : Int)) (ha : a < 2 ^ 31) (kt : ¬ a = 0 → Jw g κ nL tgt L S ws kc ks) (kf : a = 0 → Jw g κ nL (pc + 3) L S ws kc ks) : Jw g κ nL pc L (.int (nI a) :: S) ws kc ks :=
  j_if_ne C hd ht (fun h => kt (fun q => h ((nI_eq ha (b := 0) (by decide)).mpr q))) (fun h => kf ((nI_eq ha (b := 0) (by decide)).mp h))
theorem j_icmpn_lt (C : Cx g κ cc nL own rm) {a b : Nat} {off : Int} {tgt : Nat} (hd : decode cc pc = .ok (.if_icmp .lt off, 3)) (ht : (pc : Int) + off = (tgt : Int)) (ha : a < 2 ^ 31) (hb : b < 2 ^ 31) (kt : a < b → Jw g κ nL tgt L S ws kc ks) (kf : b ≤ a → Jw g κ nL (pc + 3) L S ws kc ks) : Jw g κ nL pc L (.int (nI b) :: .int (nI a) :: S) ws kc ks :=
  j_icmp_lt C hd ht (fun h => kt ((nI_ltI ha hb).mp h)) (fun h => kf (Nat.not_lt.mp fun q => h ((nI_ltI ha hb).mpr q)))
theorem j_icmpn_ge (C : Cx g κ cc nL own rm) {a b : Nat} {off : Int} {tgt : Nat} (hd : decode cc pc = .ok (.if_icmp .ge off, 3)) (ht : (pc : Int) + off = (tgt : Int)) (ha : a < 2 ^ 31) (hb : b < 2 ^ 31) (kt : b ≤ a → Jw g κ nL tgt L S ws kc ks) (kf : a < b → Jw g κ nL (pc + 3) L S ws kc ks) : Jw g κ nL pc L (.int (nI b) :: .int (nI a) :: S) ws kc ks :=
  j_icmp_ge C hd ht (fun h => kt ((nI_leI hb ha).mp h)) (fun h => kf (Nat.not_le.mp fun q => h ((nI_leI hb ha).mpr q)))
theorem j_icmpn_gt (C : Cx g κ cc nL own rm) {a b : Nat} {off : Int} {tgt : Nat} (hd : decode cc pc = .ok (.if_icmp .gt off, 3)) (ht : (pc : Int) + off = (tgt : Int)) (ha : a < 2 ^ 31) (hb : b < 2 ^ 31) (kt : b < a → Jw g κ nL tgt L S ws kc ks) (kf : a ≤ b → Jw g κ nL (pc + 3) L S ws kc ks) : Jw g κ nL pc L (.int (nI b) :: .int (nI a) :: S) ws kc ks :=
  j_icmp_gt C hd ht (fun h => kt ((nI_ltI hb ha).mp h)) (fun h => kf (Nat.not_lt.mp fun q => h ((nI_ltI hb ha).mpr q)))
theorem j_ifn_gt (C : Cx g κ cc nL own rm) {a : Nat} {off : Int} {tgt : Nat} (hd : decode cc pc = .ok (.ifCond .gt off, 3)) (ht : (pc : Int) + off = (tgt : Int)) (ha : a < 2 ^ 31) (kt : 0 < a → Jw g κ nL tgt L S ws kc ks) (kf : a = 0 → Jw g κ nL (pc + 3) L S ws kc ks) : Jw g κ nL pc L (.int (nI a) :: S) ws kc ks :=
  j_if_gt C hd ht (fun h => kt ((nI_ltI (a := 0) (by decide) ha).mp h)) (fun h => kf (Nat.le_zero.mp (Nat.not_lt.mp fun q => h ((nI_ltI (a := 0) (by decide) ha).mpr q))))
theorem j_icmpn_le (C : Cx g κ cc nL own rm) {a b : Nat} {off : Int} {tgt : Nat} (hd : decode cc pc = .ok (.if_icmp .le off, 3)) (ht : (pc : Int) + off = (tgt : Int)) (ha : a < 2 ^ 31) (hb : b < 2 ^ 31) (kt : a ≤ b → Jw g κ nL tgt L S ws kc ks) (kf : b < a → Jw g κ nL (pc + 3) L S ws kc ks) : Jw g κ nL pc L (.int (nI b) :: .int (nI a) :: S) ws kc ks :=
  j_icmp_le C hd ht (fun h => kt ((nI_leI ha hb).mp h)) (fun h => kf (Nat.not_le.mp fun q => h ((nI_leI ha hb).mpr q)))
theorem j_ifn_le (C : Cx g κ cc nL own rm) {a : Nat} {off : Int} {tgt : Nat} (hd : decode cc pc = .ok (.ifCond .le off, 3)) (ht : (pc : Int) + off = (tgt : Int)) (ha : a < 2 ^ 31) (kt : a = 0 → Jw g κ nL tgt L S ws kc ks) (kf : 0 < a → Jw g κ nL (pc + 3) L S ws kc ks) : Jw g κ nL pc L (.int (nI a) :: S) ws kc ks :=
  j_if_le C hd ht (fun h => kt (Nat.le_zero.mp ((nI_leI ha (b := 0) (by decide)).mp h))) (fun h => kf (Nat.pos_of_ne_zero fun q => h ((nI_leI ha (b := 0) (by decide)).mpr (Nat.le_zero.mpr q))))
theorem j_lookup (C : Cx g κ cc nL own rm) {dflt : Int} {ps : Array (Int × Int)} {len : Nat} {x : Int32} {off : Int} {tgt : Nat} (hd : decode cc pc = .ok (.lookupswitch dflt ps, len)) (hp : (ps.toList.zip (ps.toList.drop 1)).all (fun (a, next) => a.1 < next.1) = true) (ho : Op.lookupswitch.offset ps.toList dflt x.toInt = off) (ht : (pc : Int) + off = (tgt : Int)) (k : Jw g κ nL tgt L S ws kc ks) : Jw g κ nL pc L (.int x :: S) ws kc ks :=
  fun ls H locs hl hP hD hS => lv_lookup C.1 C.2.1 hd hp ho ht (k ls H locs hl hP hD hS)
theorem j_tableOut (C : Cx g κ cc nL own rm) {dflt lo hi : Int} {offs : Array Int} {len : Nat} {x : Int32} {tgt : Nat} (hd : decode cc pc = .ok (.tableswitch dflt lo hi offs, len)) (h : x.toInt < lo ∨ hi < x.toInt) (ht : (pc : Int) + dflt = (tgt : Int)) (k : Jw g κ nL tgt L S ws kc ks) : Jw g κ nL pc L (.int x :: S) ws kc ks :=
  fun ls H locs hl hP hD hS => lv_tableOut C.1 C.2.1 hd h ht (k ls H locs hl hP hD hS)
theorem j_tableIn (C : Cx g κ cc nL own rm) {dflt lo hi : Int} {offs : Array Int} {len : Nat} {x : Int32} {off : Int} {tgt : Nat} (hd : decode cc pc = .ok (.tableswitch dflt lo hi offs, len)) (h1 : ¬ x.toInt < lo) (h2 : ¬ hi < x.toInt) (ho : offs[(x.toInt - lo).toNat]? = some off) (ht : (pc : Int) + off = (tgt : Int)) (k : Jw g κ nL tgt L S ws kc ks) : Jw g κ nL pc L (.int x :: S) ws kc ks :=
  fun ls H locs hl hP hD hS => lv_tableIn C.1 C.2.1 hd h1 h2 ho ht (k ls H locs hl hP hD hS)
end JR2
