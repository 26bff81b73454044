/-! THE SMALL MACHINE: values, locals, a typed heap of numbered objects, and what one instruction asks (z_stp). Proved against the machine in the parts behind. -/
/-- the words that stay: a method hands them on to its callees -/
def z_tbl : List Cond := lw_tbl.filter goodWord
def z_has (w : Cond) : Bool := goodWord w && decide (w ∈ lw_tbl)
theorem z_has_mem {w : Cond} (h : z_has w = true) : w ∈ z_tbl := by
  simp only [z_has, Bool.and_eq_true, decide_eq_true_eq] at h
  exact List.mem_filter.mpr ⟨h.2, h.1⟩
/-- a value: an int, a long, or a reference (kind, number) -/
abbrev z_V : Type := Int32 ⊕ (Int64 ⊕ Option (Nat × Nat))
abbrev z_i (x : Int32) : z_V := Sum.inl x
abbrev z_l (x : Int64) : z_V := Sum.inr (Sum.inl x)
abbrev z_q (r : Option (Nat × Nat)) : z_V := Sum.inr (Sum.inr r)
abbrev z_r (K i : Nat) : z_V := Sum.inr (Sum.inr (some (K, i)))
abbrev z_n : z_V := Sum.inr (Sum.inr none)
abbrev z_L : Type := List (Nat × z_V)
abbrev z_S : Type := List z_V
def z_cat : z_V → Nat
  | .inr (.inl _) => 2
  | _ => 1
def z_val (ad : Nat → Nat → Nat) : z_V → Value
  | .inl x => .int x
  | .inr (.inl x) => .long x
  | .inr (.inr none) => .null
  | .inr (.inr (some q)) => .ref (ad q.1 q.2)
theorem z_val_cat (ad : Nat → Nat → Nat) (v : z_V) : (z_val ad v).category = z_cat v := by
  rcases v with x | x | _ | q <;> rfl
def z_get : z_L → Nat → Option z_V
  | [], _ => none
  | q :: r, k => if q.1 = k then some q.2 else z_get r k
def z_rem : z_L → Nat → Nat → z_L
  | [], _, _ => []
  | q :: r, i, c => if q.1 = i ∨ (c = 2 ∧ q.1 = i + 1) ∨ (q.1 + 1 = i ∧ z_cat q.2 = 2) then z_rem r i c else q :: z_rem r i c
def z_put : z_L → Nat → z_V → z_L
  | [], i, v => [(i, v)]
  | q :: r, i, v => if q.1 = i then (i, v) :: z_rem r i (z_cat v) else if (z_cat v = 2 ∧ q.1 = i + 1) ∨ (q.1 + 1 = i ∧ z_cat q.2 = 2) then z_put r i v else q :: z_put r i v
theorem z_get_mem {ls : z_L} {k : Nat} {v : z_V} (h : z_get ls k = some v) : (k, v) ∈ ls := by
  induction ls with
  | nil => cases h
  | cons q r ih =>
    unfold z_get at h
    split at h
    · rename_i hk
      cases h
      subst hk
      exact List.mem_cons_self
    · exact List.mem_cons_of_mem _ (ih h)
theorem z_rem_mem {ls : z_L} {i c : Nat} {x : Nat × z_V} (h : x ∈ z_rem ls i c) : x ∈ ls ∧ ¬ (x.1 = i ∨ (c = 2 ∧ x.1 = i + 1) ∨ (x.1 + 1 = i ∧ z_cat x.2 = 2)) := by
  induction ls with
  | nil => cases h
  | cons q r ih =>
    unfold z_rem at h
    split at h
    · exact ⟨List.mem_cons_of_mem _ (ih h).1, (ih h).2⟩
    · rename_i hk
      rcases List.mem_cons.mp h with rfl | h
      · exact ⟨List.mem_cons_self, hk⟩
      · exact ⟨List.mem_cons_of_mem _ (ih h).1, (ih h).2⟩
theorem z_put_mem {ls : z_L} {i : Nat} {v : z_V} {x : Nat × z_V} (h : x ∈ z_put ls i v) : x = (i, v) ∨ (x ∈ ls ∧ ¬ (x.1 = i ∨ (z_cat v = 2 ∧ x.1 = i + 1) ∨ (x.1 + 1 = i ∧ z_cat x.2 = 2))) := by
  induction ls with
  | nil =>
    unfold z_put at h
    exact Or.inl (List.mem_singleton.mp h)
  | cons q r ih =>
    unfold z_put at h
    split at h
    · rcases List.mem_cons.mp h with rfl | h
      · exact Or.inl rfl
      · exact Or.inr ⟨List.mem_cons_of_mem _ (z_rem_mem h).1, (z_rem_mem h).2⟩
    · rename_i h1
      split at h
      · rcases ih h with h | h
        · exact Or.inl h
        · exact Or.inr ⟨List.mem_cons_of_mem _ h.1, h.2⟩
      · rename_i h2
        rcases List.mem_cons.mp h with rfl | h
        · exact Or.inr ⟨List.mem_cons_self, fun z => z.elim h1 h2⟩
        · rcases ih h with h | h
          · exact Or.inl h
          · exact Or.inr ⟨List.mem_cons_of_mem _ h.1, h.2⟩
/-! the heap: how many of each kind; ints, longs, references by (kind, number, place); sizes of lists -/
abbrev z_H : Type := (Nat → Nat) × (Nat → Nat → Nat → Int32) × (Nat → Nat → Nat → Int64) × (Nat → Nat → Nat → Option (Nat × Nat)) × (Nat → Nat → Nat)
def hN (h : z_H) : Nat → Nat := h.1
def hI (h : z_H) : Nat → Nat → Nat → Int32 := h.2.1
def hL (h : z_H) : Nat → Nat → Nat → Int64 := h.2.2.1
def hR (h : z_H) : Nat → Nat → Nat → Option (Nat × Nat) := h.2.2.2.1
def hZ (h : z_H) : Nat → Nat → Nat := h.2.2.2.2
def z_u1 {α : Type} (f : Nat → α) (K : Nat) (v : α) : Nat → α := fun K' => if K' = K then v else f K'
def z_u2 {α : Type} (f : Nat → Nat → α) (K i : Nat) (v : α) : Nat → Nat → α := fun K' i' => if K' = K ∧ i' = i then v else f K' i'
def z_u3 {α : Type} (f : Nat → Nat → Nat → α) (K i k : Nat) (v : α) : Nat → Nat → Nat → α := fun K' i' k' => if K' = K ∧ i' = i ∧ k' = k then v else f K' i' k'
def sI (h : z_H) (K i k : Nat) (v : Int32) : z_H := (h.1, z_u3 h.2.1 K i k v, h.2.2)
def sL (h : z_H) (K i k : Nat) (v : Int64) : z_H := (h.1, h.2.1, z_u3 h.2.2.1 K i k v, h.2.2.2)
def sR (h : z_H) (K i k : Nat) (v : Option (Nat × Nat)) : z_H := (h.1, h.2.1, h.2.2.1, z_u3 h.2.2.2.1 K i k v, h.2.2.2.2)
def sZ (h : z_H) (K i : Nat) (v : Nat) : z_H := (h.1, h.2.1, h.2.2.1, h.2.2.2.1, z_u2 h.2.2.2.2 K i v)
def sN (h : z_H) (K : Nat) (v : Nat) : z_H := (z_u1 h.1 K v, h.2)
/-- a new cell of kind K, all nought -/
def z_nw (h : z_H) (K : Nat) : z_H := (z_u1 h.1 K (h.1 K + 1), fun K' i' k' => if K' = K ∧ i' = h.1 K then 0 else h.2.1 K' i' k', fun K' i' k' => if K' = K ∧ i' = h.1 K then 0 else h.2.2.1 K' i' k', fun K' i' k' => if K' = K ∧ i' = h.1 K then none else h.2.2.2.1 K' i' k', z_u2 h.2.2.2.2 K (h.1 K) 0)
/-! the kinds: 2 .. 14 the classes of vwCl; arrays; lists -/
def kR (K : Nat) : String := match K with | 2 => RX0 | 3 => RX1 | 4 => RX2 | 5 => RX3 | 6 => RX4 | 7 => RX5 | 8 => RX6 | 9 => RX7 | 10 => RX8 | 11 => RX9 | 12 => RX10 | 13 => RX11 | 14 => RX12 | _ => ""
def kT (K : Nat) : u_T := match K with | 2 => TX0 | 3 => TX1 | 4 => TX2 | 5 => TX3 | 6 => TX4 | 7 => TX5 | 8 => TX6 | 9 => TX7 | 10 => TX8 | 11 => TX9 | 12 => TX10 | 13 => TX11 | _ => TX12
def kF (K : Nat) : Nat := match K with | 2 => 7 | 3 => 5 | 4 => 6 | 5 => 5 | 6 => 6 | 7 => 2 | 8 => 12 | 9 => 7 | 10 => 4 | 11 => 8 | 12 => 4 | 13 => 13 | 14 => 67 | _ => 0
def kY (K : Nat) : Nat → FieldType := match K with | 2 => tyX0 | 3 => tyX1 | 4 => tyX2 | 5 => tyX3 | 6 => tyX4 | 7 => tyX5 | 8 => tyX6 | 9 => tyX7 | 10 => tyX8 | 11 => tyX9 | 12 => tyX10 | 13 => tyX11 | _ => tyX12
/-- 0 int, 1 long, 2 reference, 3 boolean -/
def z_fc (t : FieldType) : Nat := match t with | .int => 0 | .long => 1 | .boolean => 3 | .object _ => 2 | .array _ => 2 | _ => 4
def z_fv (h : z_H) (K i k : Nat) : z_V := match z_fc (kY K k) with | 1 => z_l (hL h K i k) | 2 => z_q (hR h K i k) | _ => z_i (hI h K i k)
def z_obj (K : Nat) : Bool := decide (2 ≤ K) && decide (K ≤ 14)
/-- arrays: their length (0: no array kind), and 0 int, 1 long, 2 boolean -/
def aLen (K : Nat) : Nat := match K with
  | 100 => 60 | 101 => 600 | 102 => 600 | 103 => 32
  | 301 => 4 | 302 => 4 | 303 => 240 | 304 => 60 | 322 => 6 | 323 => 6 | 324 => 6 | 325 => 6 | 326 => 6 | 327 => 24 | 328 => 24 | 329 => 24
  | 330 => 200 | 331 => 200 | 332 => 200 | 333 => 200 | 334 => 200 | 335 => 200 | 336 => 200
  | 337 => 300 | 338 => 300 | 339 => 300 | 340 => 300 | 341 => 300 | 342 => 300 | 343 => 300 | 344 => 300 | 345 => 300 | 346 => 300 | 347 => 300 | 348 => 300
  | 349 => 2000 | 350 => 2000 | 351 => 2000 | 352 => 2000 | 353 => 2000 | 354 => 2000 | 355 => 2000 | 356 => 2000
  | 357 => 20 | 358 => 640 | 359 => 20 | 360 => 2000 | 361 => 2000
  | _ => 0
def aCod (K : Nat) : Nat := match K with | 100 => 1 | 303 => 1 | 304 => 1 | 325 => 1 | 326 => 1 | 327 => 1 | 335 => 1 | 336 => 1 | 347 => 1 | 354 => 1 | 359 => 1 | 348 => 2 | _ => 0
def aTy (c : Nat) : FieldType := match c with | 0 => .int | 1 => .long | _ => .boolean
def aVal (h : z_H) (K i j : Nat) : Value := if aCod K = 1 then .long (hL h K i j) else .int (hI h K i j)
/-- lists: 200 .. 206 of objects (of the kind lT), 207 of ints -/
def z_lst (K : Nat) : Bool := decide (200 ≤ K) && decide (K ≤ 207)
def lT (K : Nat) : Nat := match K with | 200 => 4 | 201 => 2 | 202 => 9 | 203 => 8 | 204 => 7 | 205 => 10 | _ => 6
def z_cap : Nat → Nat
  | 0 => 0
  | n + 1 => if z_cap n = n then (if n = 0 then 10 else n + n / 2) else z_cap n
/-- what a further element costs: cells, slots -/
def z_gc (n : Nat) : Nat := if z_cap n = n then 1 else 0
def z_gs (n : Nat) : Nat := if z_cap n = n then z_cap (n + 1) else 0
/-! eliminators -/
def eI (o : Option z_V) (f : Int32 → Prop) : Prop := match o with | some (.inl x) => f x | _ => False
def eL (o : Option z_V) (f : Int64 → Prop) : Prop := match o with | some (.inr (.inl x)) => f x | _ => False
def eR (o : Option z_V) (f : Option (Nat × Nat) → Prop) : Prop := match o with | some (.inr (.inr x)) => f x | _ => False
def pI (st : z_S) (f : Int32 → z_S → Prop) : Prop := match st with | .inl x :: r => f x r | _ => False
def pL (st : z_S) (f : Int64 → z_S → Prop) : Prop := match st with | .inr (.inl x) :: r => f x r | _ => False
def pR (st : z_S) (f : Option (Nat × Nat) → z_S → Prop) : Prop := match st with | .inr (.inr x) :: r => f x r | _ => False
def pO (st : z_S) (f : Nat → Nat → z_S → Prop) : Prop := match st with | .inr (.inr (some q)) :: r => f q.1 q.2 r | _ => False
def pV (st : z_S) (f : z_V → z_S → Prop) : Prop := match st with | v :: r => f v r | _ => False
def pA : Nat → z_S → List z_V → (List z_V → z_S → Prop) → Prop
  | 0, st, acc, f => f acc st
  | n + 1, v :: r, acc, f => pA n r (v :: acc) f
  | _ + 1, [], _, _ => False
def z_w : z_S → Nat
  | [] => 0
  | v :: r => z_cat v + z_w r
def z_cP (c : ClassFile.Cond) (x y : Int32) : Prop := match c with | .eq => x = y | .ne => ¬ x = y | .lt => x < y | .ge => y ≤ x | .gt => y < x | .le => x ≤ y
def z_sw (pc : Nat) (dflt lo hi : Int) (offs : List Int) (x : Int) : Nat := if x < lo ∨ hi < x then ((pc : Int) + dflt).toNat else ((pc : Int) + offs.getD (x - lo).toNat 0).toNat
def z_lk (pc : Nat) (dflt : Int) (ps : List (Int × Int)) (x : Int) : Nat := ((pc : Int) + Op.lookupswitch.offset ps dflt x).toNat
/-! ghosts: where the world begins; class numbers, slots; array classes; the empty list's array; the cached Integers; the script -/
abbrev z_G : Type := Nat × (Nat → ClassId) × (Nat → Nat → Nat) × (Nat → ClassId) × Nat × (Nat → Nat) × Nat × Nat × (Nat → Int32)
def gB (G : z_G) : Nat := G.1
def gC (G : z_G) : Nat → ClassId := G.2.1
def gI (G : z_G) : Nat → Nat → Nat := G.2.2.1
def gA (G : z_G) : Nat → ClassId := G.2.2.2.1
def gE (G : z_G) : Nat := G.2.2.2.2.1
def gX (G : z_G) : Nat → Nat := G.2.2.2.2.2.1
def gS (G : z_G) : Nat := G.2.2.2.2.2.2.1
def gL (G : z_G) : Nat := G.2.2.2.2.2.2.2.1
def gV (G : z_G) : Nat → Int32 := G.2.2.2.2.2.2.2.2
