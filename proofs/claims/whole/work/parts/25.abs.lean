/-! what a state IS: text, net, standing, past; and what each call does to it -/
/-- weights, which are up, marks that are tabu (the eldest first), the least cost -/
abbrev SD : Type := (Nat → Nat) × (Nat → Bool) × List Int32 × Nat
/-- letters, how many; the net; the standing; those that can be had again (the eldest first) -/
abbrev AB : Type := (Nat → Int32) × Nat × ND × SD × List SD
def ndZ : ND := (0, 0, 0, fun _ => 0, fun _ => 0, fun _ => 0, fun _ => 0, fun _ => 0, fun _ => 0, fun _ => 0)
def idx (x : Int32) : Nat := x.toNatClampNeg
theorem idx_nI {k : Nat} (h : k < 2 ^ 31) : idx (nI k) = k := nI_clamp h
def inB (x : Int32) (n : Nat) : Prop := ∃ k : Nat, k < n ∧ x = nI k
def inR (x : Int32) (lo hi : Nat) : Prop := ∃ k : Nat, lo ≤ k ∧ k ≤ hi ∧ x = nI k
noncomputable def pIf {α : Type} (p : Prop) (x y : α) : α := @ite α p (Classical.propDecidable p) x y
theorem pIf_t {α : Type} {p : Prop} (h : p) (x y : α) : pIf p x y = x := @if_pos p (Classical.propDecidable p) h α x y
theorem pIf_f {α : Type} {p : Prop} (h : ¬ p) (x y : α) : pIf p x y = y := @if_neg p (Classical.propDecidable p) h α x y
def push6 {α : Type} (p : List α) (s : α) : List α := (if p.length = 6 then p.tail else p) ++ [s]
noncomputable def costS (a : ND) (s : SD) : Nat := costN a s.1 s.2.1
def SOk (m : Nat) (s : SD) : Prop := WOk m s.1 ∧ s.2.2.1.length ≤ 6 ∧ s.2.2.2 < 2 ^ 31
/-- the standing at 48 + 4 i -/
def StI (σ : Sg) (i m : Nat) (s : SD) : Prop := σ (48 + 4 * i) 0 = nI m ∧ StW σ i m s.1 s.2.1 ∧ (∃ nt : Nat, nt < 6 ∧ (s.2.2.1.length < 6 → nt = s.2.2.1.length) ∧ σ (48 + 4 * i) 4 = nI s.2.2.1.length ∧ σ (48 + 4 * i) 5 = nI nt ∧ ∀ k, k < s.2.2.1.length → σ (48 + 4 * i + 3) ((nt + 6 - s.2.2.1.length + k) % 6) = s.2.2.1.getD k 0) ∧ σ (48 + 4 * i) 6 = nI s.2.2.2
theorem StI.kept {σ σ' : Sg} {i m : Nat} {s : SD} (h : StI σ i m s) (hk : ∀ j n, 48 + 4 * i ≤ j → j ≤ 48 + 4 * i + 3 → σ' j n = σ j n) : StI σ' i m s := by
  obtain ⟨h1, h2, ⟨nt, h3, h4, h5, h6, h7⟩, h8⟩ := h
  exact ⟨(hk _ _ (by omega) (by omega)).trans h1, fun l hl => ⟨(hk _ _ (by omega) (by omega)).trans (h2 l hl).1, (hk _ _ (by omega) (by omega)).trans (h2 l hl).2⟩, ⟨nt, h3, h4, (hk _ _ (by omega) (by omega)).trans h5, (hk _ _ (by omega) (by omega)).trans h6, fun k hk' => (hk _ _ (by omega) (by omega)).trans (h7 k hk')⟩, (hk _ _ (by omega) (by omega)).trans h8⟩
/-- a copy of a standing -/
theorem StI.copy {σ σ' : Sg} {i c m : Nat} {s : SD} (h : StI σ c m s) (hm : m ≤ 12) (hl6 : s.2.2.1.length ≤ 6) (c0 : σ' (48 + 4 * i) 0 = σ (48 + 4 * c) 0) (c4 : σ' (48 + 4 * i) 4 = σ (48 + 4 * c) 4) (c5 : σ' (48 + 4 * i) 5 = σ (48 + 4 * c) 5) (c6 : σ' (48 + 4 * i) 6 = σ (48 + 4 * c) 6) (cw : ∀ l, l < 12 → σ' (48 + 4 * i + 1) l = σ (48 + 4 * c + 1) l ∧ σ' (48 + 4 * i + 2) l = vp_nar .boolean (σ (48 + 4 * c + 2) l)) (ct : ∀ l, l < 6 → σ' (48 + 4 * i + 3) l = σ (48 + 4 * c + 3) l) : StI σ' i m s := by
  obtain ⟨h1, h2, ⟨nt, h3, h4, h5, h6, h7⟩, h8⟩ := h
  refine ⟨c0.trans h1, fun l hl => ⟨(cw l (by omega)).1.trans (h2 l hl).1, (cw l (by omega)).2.trans ?_⟩, ⟨nt, h3, h4, c4.trans h5, c5.trans h6, fun k hk' => (ct _ (by omega)).trans (h7 k hk')⟩, c6.trans h8⟩
  rw [(h2 l hl).2]
  exact bI_nar _
/-- which marks stand in the row -/
theorem StI.mem {σ : Sg} {i m : Nat} {s : SD} (h : StI σ i m s) (hl6 : s.2.2.1.length ≤ 6) (z : Int32) : (∃ k, k < s.2.2.1.length ∧ σ (48 + 4 * i + 3) k = z) ↔ z ∈ s.2.2.1 := by
  obtain ⟨-, -, ⟨nt, h3, h4, -, -, h7⟩, -⟩ := h
  have get : ∀ k, k < s.2.2.1.length → s.2.2.1.getD k 0 ∈ s.2.2.1 := fun k hk => by
    rw [List.getD_eq_getElem?_getD, List.getElem?_eq_getElem hk]
    exact List.getElem_mem hk
  by_cases hc : s.2.2.1.length < 6
  · have hn := h4 hc
    have e : ∀ k, k < s.2.2.1.length → σ (48 + 4 * i + 3) k = s.2.2.1.getD k 0 := fun k hk => by
      have := h7 k hk
      rwa [show (nt + 6 - s.2.2.1.length + k) % 6 = k by omega] at this
    constructor
    · rintro ⟨k, k1, rfl⟩
      rw [e k k1]
      exact get k k1
    · intro hz
      obtain ⟨k, k1⟩ := List.getElem?_of_mem hz
      have k2 := (List.getElem?_eq_some_iff.mp k1).1
      exact ⟨k, k2, by rw [e k k2, List.getD_eq_getElem?_getD, k1]; rfl⟩
  · have hl : s.2.2.1.length = 6 := by omega
    rw [hl] at h7 get ⊢
    constructor
    · rintro ⟨k, k1, rfl⟩
      have := h7 ((k + 6 - nt) % 6) (by omega)
      rw [show (nt + 6 - 6 + (k + 6 - nt) % 6) % 6 = k by omega] at this
      rw [this]
      exact get _ (by omega)
    · intro hz
      obtain ⟨k, k1⟩ := List.getElem?_of_mem hz
      have k2 := (List.getElem?_eq_some_iff.mp k1).1
      refine ⟨(nt + k) % 6, by omega, ?_⟩
      have := h7 k (by omega)
      rw [show (nt + 6 - 6 + k) % 6 = (nt + k) % 6 by omega] at this
      rw [this, List.getD_eq_getElem?_getD, k1]
      rfl
theorem push6_len {α : Type} {p : List α} {s : α} (h : p.length ≤ 6) : (push6 p s).length = min (p.length + 1) 6 := by
  unfold push6
  split
  · next e => rw [List.length_append, List.length_tail, e]; rfl
  · rw [List.length_append]; show p.length + 1 = _; omega
theorem push6_getD {α : Type} {p : List α} {s d : α} (h : p.length ≤ 6) {k : Nat} (hk : k < min (p.length + 1) 6) : (push6 p s).getD k d = if p.length = 6 then (if k < 5 then p.getD (k + 1) d else s) else (if k < p.length then p.getD k d else s) := by
  unfold push6
  split
  · next e =>
    split
    · rw [List.getD_eq_getElem?_getD, List.getElem?_append_left (by rw [List.length_tail]; omega), List.getElem?_tail, List.getD_eq_getElem?_getD]
    · rw [List.getD_eq_getElem?_getD, List.getElem?_append_right (by rw [List.length_tail]; omega), List.length_tail, show k - (p.length - 1) = 0 by omega]
      rfl
  · next e =>
    split
    · rw [List.getD_eq_getElem?_getD, List.getElem?_append_left (by omega), List.getD_eq_getElem?_getD]
    · rw [List.getD_eq_getElem?_getD, List.getElem?_append_right (by omega), show k - p.length = 0 by omega]
      rfl
theorem push6_mem {α : Type} {p : List α} {s x : α} (h : x ∈ push6 p s) : x ∈ p ∨ x = s := by
  unfold push6 at h
  rcases List.mem_append.mp h with h | h
  · split at h
    · exact Or.inl (List.mem_of_mem_tail h)
    · exact Or.inl h
  · exact Or.inr (List.mem_singleton.mp h)
/-- those kept: the standings 3 .. 8 as a ring -/
def PastI (σ : Sg) (m : Nat) (p : List SD) : Prop := ∃ nx : Nat, nx < 6 ∧ p.length ≤ 6 ∧ σ 45 1 = nI nx ∧ σ 45 2 = nI p.length ∧ ∀ k s, p[k]? = some s → StI σ (3 + (nx + 6 - p.length + k) % 6) m s
theorem PastI.kept {σ σ' : Sg} {m : Nat} {p : List SD} (h : PastI σ m p) (hk : ∀ j n, (j = 45 ∨ 60 ≤ j ∧ j ≤ 83) → σ' j n = σ j n) : PastI σ' m p := by
  obtain ⟨nx, h1, h2, h3, h4, h5⟩ := h
  refine ⟨nx, h1, h2, (hk _ _ (by omega)).trans h3, (hk _ _ (by omega)).trans h4, fun k s hs => (h5 k s hs).kept (fun j n q1 q2 => hk j n ?_)⟩
  have := (List.getElem?_eq_some_iff.mp hs).1
  omega
/-- the class's cells hold the state -/
def CI (σ : Sg) (A : AB) : Prop := (σ 1 1 = nI A.2.1 ∧ A.2.1 ≤ 200 ∧ ∀ k, k < A.2.1 → σ 2 k = A.1 k) ∧ NetI σ 3 A.2.2.1 ∧ StI σ 0 (nM A.2.2.1) A.2.2.2.1 ∧ PastI σ (nM A.2.2.1) A.2.2.2.2
/-- it is a state -/
def AOk (A : AB) : Prop := NOk A.2.2.1 ∧ SOk (nM A.2.2.1) A.2.2.2.1 ∧ A.2.1 ≤ 200 ∧ A.2.2.2.2.length ≤ 6 ∧ ∀ s ∈ A.2.2.2.2, SOk (nM A.2.2.1) s
theorem CI.kept {σ σ' : Sg} {A : AB} (h : CI σ A) (hk : ∀ j n, (j = 1 ∨ j = 2 ∨ 3 ≤ j ∧ j ≤ 11 ∨ j = 45 ∨ 48 ≤ j ∧ j ≤ 51 ∨ 60 ≤ j ∧ j ≤ 83) → σ' j n = σ j n) : CI σ' A := by
  obtain ⟨⟨h1, h2, h3⟩, h4, h5, h6⟩ := h
  exact ⟨⟨(hk _ _ (by omega)).trans h1, h2, fun k q => (hk _ _ (by omega)).trans (h3 k q)⟩, h4.kept (fun j n q1 q2 => hk j n (by omega)), h5.kept (fun j n q1 q2 => hk j n (by omega)), h6.kept (fun j n q => hk j n (by omega))⟩
/-! the calls -/
noncomputable def abWrite (x : Int32) (A : AB) : Int32 × AB := pIf (inR x 32 126) (if A.2.1 < 200 then (nI (A.2.1 + 1), (upd A.1 A.2.1 x, A.2.1 + 1, A.2.2)) else (-3, A)) (-1, A)
def abWipe (A : AB) : Int32 × AB := (nI A.2.1, (A.1, 0, A.2.2))
def abRead (A : AB) : Int32 × ND := rdT A.1 A.2.1 A.2.1 0 0 (nd0 ndZ)
def abFault (A : AB) : Int32 × AB := ((abRead A).1, A)
noncomputable def newS (a : ND) : SD := (nTw a, (fun _ => true), [], costN a (nTw a) (fun _ => true))
noncomputable def abLay (A : AB) : Int32 × AB := if (abRead A).1 = -4 ∧ nM (abRead A).2 ≠ 0 ∧ nD (abRead A).2 ≠ 0 then (nI (nM (abRead A).2), (A.1, A.2.1, (abRead A).2, newS (abRead A).2, [])) else (-2, A)
/-- a change: the standing before it is kept -/
def chg (A : AB) (s : SD) : AB := (A.1, A.2.1, A.2.2.1, s, push6 A.2.2.2.2 A.2.2.2.1)
noncomputable def wtS (a : ND) (s : SD) (w : Nat → Nat) : SD := (w, s.2.1, s.2.2.1, min s.2.2.2 (costN a w s.2.1))
noncomputable def abMove (l x : Int32) (A : AB) : Int32 × AB := pIf (inB l (nM A.2.2.1) ∧ inR x 1 20) (if A.2.2.2.1.1 (idx l) = idx x then (-2, A) else (nI (A.2.2.2.1.1 (idx l)), chg A (wtS A.2.2.1 A.2.2.2.1 (updN A.2.2.2.1.1 (idx l) (idx x))))) (-1, A)
noncomputable def abTurn (l x : Int32) (A : AB) : Int32 × AB := pIf (inB l (nM A.2.2.1) ∧ inR x 0 1) (if A.2.2.2.1.2.1 (idx l) = decide (idx x = 1) then (-2, A) else (nI (costN A.2.2.1 A.2.2.2.1.1 (fun k => if k = idx l then decide (idx x = 1) else A.2.2.2.1.2.1 k)), chg A (A.2.2.2.1.1, (fun k => if k = idx l then decide (idx x = 1) else A.2.2.2.1.2.1 k), A.2.2.2.1.2.2))) (-1, A)
noncomputable def abUndo (A : AB) : Int32 × AB := match A.2.2.2.2.getLast? with
  | none => (-2, A)
  | some s => (nI (A.2.2.2.2.length - 1), (A.1, A.2.1, A.2.2.1, s, A.2.2.2.2.dropLast))
noncomputable def abCost (A : AB) : Int32 × AB := (nI (costS A.2.2.1 A.2.2.2.1), A)
noncomputable def abFar (x t : Int32) (A : AB) : Int32 × AB := pIf (inB x (nN A.2.2.1) ∧ inB t (nN A.2.2.1)) (c4 (FAR A.2.2.1 A.2.2.2.1.1 A.2.2.2.1.2.1 (idx t) (idx x)), A) (-1, A)
noncomputable def abShare (d l : Int32) (A : AB) : Int32 × AB := pIf (inB d (nD A.2.2.1) ∧ inB l (nM A.2.2.1)) (nI (SHR A.2.2.1 A.2.2.2.1.1 A.2.2.2.1.2.1 (idx d) (idx l)), A) (-1, A)
noncomputable def abTabu (l x : Int32) (A : AB) : Int32 × AB := pIf (inB l (nM A.2.2.1) ∧ inR x 1 20) (bI (decide (mkW (updN A.2.2.2.1.1 (idx l) (idx x)) (nM A.2.2.1) ∈ A.2.2.2.1.2.2.1)), A) (-1, A)
noncomputable def fnd (a : ND) (s : SD) (hd : Bool) (ps : Int32) : BS := fndF a s.1 s.2.1 hd s.2.2.2 s.2.2.1 ps (nM a)
def bsGet (b : Nat × Nat × Nat) (q : Nat) : Nat := if q = 0 then b.1 else if q = 1 then b.2.1 else b.2.2
noncomputable def abBest (x : Int32) (A : AB) : Int32 × AB := pIf (inR x 0 2) ((match fnd A.2.2.1 A.2.2.2.1 false (-1) with | none => -4 | some b => nI (bsGet b (idx x))), A) (-1, A)
/-- a LINK down -/
def dnU (u : Nat → Bool) (l : Nat) : Nat → Bool := fun k => if k = l then false else u k
def wLs (b : Option (Nat × Nat)) (c : Nat) : Bool := match b with
  | none => true
  | some z => decide (z.2 < c)
noncomputable def wrst (a : ND) (w : Nat → Nat) (u : Nat → Bool) : Nat → Option (Nat × Nat)
  | 0 => none
  | l + 1 => if u l = true ∧ wLs (wrst a w u l) (costN a w (dnU u l)) = true then some (l, costN a w (dnU u l)) else wrst a w u l
noncomputable def abWorst (x : Int32) (A : AB) : Int32 × AB := pIf (inR x 0 1) ((match wrst A.2.2.1 A.2.2.2.1.1 A.2.2.2.1.2.1 (nM A.2.2.1) with | none => -4 | some z => nI (if idx x = 0 then z.1 else z.2)), A) (-1, A)
noncomputable def abRescue (l x : Int32) (A : AB) : Int32 × AB := pIf (inB l (nM A.2.2.1) ∧ inR x 0 2) (if A.2.2.2.1.2.1 (idx l) = false then (-2, A) else ((match fnd A.2.2.1 (A.2.2.2.1.1, dnU A.2.2.2.1.2.1 (idx l), A.2.2.2.1.2.2) false l with | none => -4 | some b => if b.2.2 < costN A.2.2.1 A.2.2.2.1.1 (dnU A.2.2.2.1.2.1 (idx l)) then nI (bsGet b (idx x)) else -4), A)) (-1, A)
noncomputable def abLink (l x : Int32) (A : AB) : Int32 × AB := pIf (inB l (nM A.2.2.1) ∧ inR x 0 7) ((match idx x with
  | 0 => nI (nFr A.2.2.1 (idx l))
  | 1 => nI (nTo A.2.2.1 (idx l))
  | 2 => nI (nRm A.2.2.1 (idx l))
  | 3 => nI (A.2.2.2.1.1 (idx l))
  | 4 => bI (A.2.2.2.1.2.1 (idx l))
  | 5 => nI (LDD A.2.2.1 A.2.2.2.1.1 A.2.2.2.1.2.1 (nD A.2.2.1) (idx l))
  | 6 => nI (lcN (nRm A.2.2.1 (idx l)) (LDD A.2.2.1 A.2.2.2.1.1 A.2.2.2.1.2.1 (nD A.2.2.1) (idx l)))
  | _ => nI (cnt (fun d => !lostB A.2.2.1 A.2.2.2.1.1 A.2.2.2.1.2.1 d && shb A.2.2.1 A.2.2.2.1.1 A.2.2.2.1.2.1 (FAR A.2.2.1 A.2.2.2.1.1 A.2.2.2.1.2.1 (nGo A.2.2.1 d)) (idx l)) (nD A.2.2.1))), A) (-1, A)
noncomputable def abCount (x : Int32) (A : AB) : Int32 × AB := pIf (inR x 0 10) ((match idx x with
  | 0 => nI (nN A.2.2.1)
  | 1 => nI (nM A.2.2.1)
  | 2 => nI (nD A.2.2.1)
  | 3 => nI (cnt (fun l => !A.2.2.2.1.2.1 l) (nM A.2.2.1))
  | 4 => nI (cnt (lostB A.2.2.1 A.2.2.2.1.1 A.2.2.2.1.2.1) (nD A.2.2.1))
  | 5 => nI (cnt (fun l => decide (12 * nRm A.2.2.1 l < LDD A.2.2.1 A.2.2.2.1.1 A.2.2.2.1.2.1 (nD A.2.2.1) l)) (nM A.2.2.1))
  | 6 => nI A.2.2.2.1.2.2.2
  | 7 => mkW A.2.2.2.1.1 (nM A.2.2.1)
  | 8 => nI A.2.2.2.1.2.2.1.length
  | 9 => nI A.2.2.2.2.length
  | _ => nI A.2.1), A) (-1, A)
/-- one STEP -/
noncomputable def stp1 (a : ND) (s : SD) : Option (SD × Nat) := match fnd a s true (-1) with
  | none => none
  | some b => some ((updN s.1 b.1 b.2.1, s.2.1, push6 s.2.2.1 (mkW s.1 (nM a)), min s.2.2.2 b.2.2), b.2.2)
/-- so many STEPS more, with the COST so far -/
noncomputable def stpN (a : ND) : Nat → SD × Nat → SD × Nat
  | 0, z => z
  | k + 1, z => match stp1 a z.1 with
    | none => z
    | some y => stpN a k y
noncomputable def abStep (x : Int32) (A : AB) : Int32 × AB := pIf (inR x 1 3) (match stp1 A.2.2.1 A.2.2.2.1 with
  | none => (-2, A)
  | some y => (nI (stpN A.2.2.1 (idx x - 1) y).2, chg A (stpN A.2.2.1 (idx x - 1) y).1)) (-1, A)
/-- EVEN: which LINKS lead on; the greatest FAR; the WEIGHTS -/
def ldOn (a : ND) (u : Nat → Bool) (f : Nat → Option Nat) (x l : Nat) : Bool := nFr a l == x && (u l && (f (nTo a l)).isSome)
def gMx (a : ND) (u : Nat → Bool) (f : Nat → Option Nat) (x : Nat) : Nat → Nat
  | 0 => 0
  | l + 1 => if ldOn a u f x l = true then max (gMx a u f x l) ((f (nTo a l)).getD 0) else gMx a u f x l
def evW (a : ND) (w : Nat → Nat) (u : Nat → Bool) (f : Nat → Option Nat) (x l : Nat) : Nat := if ldOn a u f x l = true then gMx a u f x (nM a) + 1 - (f (nTo a l)).getD 0 else w l
noncomputable def abEven (x t : Int32) (A : AB) : Int32 × AB := pIf (inB x (nN A.2.2.1) ∧ inB t (nN A.2.2.1)) (pIf (idx x ≠ idx t ∧ 2 ≤ cnt (ldOn A.2.2.1 A.2.2.2.1.2.1 (FAR A.2.2.1 A.2.2.2.1.1 A.2.2.2.1.2.1 (idx t)) (idx x)) (nM A.2.2.1) ∧ (∀ l, l < nM A.2.2.1 → evW A.2.2.1 A.2.2.2.1.1 A.2.2.2.1.2.1 (FAR A.2.2.1 A.2.2.2.1.1 A.2.2.2.1.2.1 (idx t)) (idx x) l ≤ 20) ∧ 0 < cnt (fun l => decide (evW A.2.2.1 A.2.2.2.1.1 A.2.2.2.1.2.1 (FAR A.2.2.1 A.2.2.2.1.1 A.2.2.2.1.2.1 (idx t)) (idx x) l ≠ A.2.2.2.1.1 l)) (nM A.2.2.1))
    (nI (cnt (fun l => decide (evW A.2.2.1 A.2.2.2.1.1 A.2.2.2.1.2.1 (FAR A.2.2.1 A.2.2.2.1.1 A.2.2.2.1.2.1 (idx t)) (idx x) l ≠ A.2.2.2.1.1 l)) (nM A.2.2.1)), chg A (wtS A.2.2.1 A.2.2.2.1 (evW A.2.2.1 A.2.2.2.1.1 A.2.2.2.1.2.1 (FAR A.2.2.1 A.2.2.2.1.1 A.2.2.2.1.2.1 (idx t)) (idx x)))) (-2, A)) (-1, A)
