/-! the small machine against the machine: pure instructions -/
section ZS
variable {p : Program} {l : Launch} {e : Env} {R : Room} {s : State} {m : MethodId} {args : Array Value} {below : List Frame} {meth : Method} {c : Code} {G : z_G} {ad0 : Nat → Nat → Nat} {h0 : z_H} {nL : Nat} {Qs : State → Prop} {y : MethodName} {cc : ByteArray} {d MC MS : Nat}
/-- THE JUDGEMENT AT A PC: every heap that is this world's, every frame that holds these locals and this stack, comes to Qs -/
def z_At (p : Program) (l : Launch) (e : Env) (R : Room) (s : State) (m : MethodId) (args : Array Value) (below : List Frame) (meth : Method) (c : Code) (G : z_G) (ad0 : Nat → Nat → Nat) (h0 : z_H) (nL : Nat) (Qs : State → Prop) (pc : Nat) : z_K := fun ls st h ce sl =>
  ∀ (ad : Nat → Nat → Nat) (H : Heap) (locs : List Loc) (la : Array Slot), z_HR G ad h s H → z_EX h0 ad0 h ad → z_OK h ls st → (∀ x ∈ locs, gB G ≤ x.base) → lv_has la nL (z_lm ad ls) → W p l e R s m args below meth c H locs ce sl Qs (F0 m pc la (st.map (z_val ad)))
/-- what holds all through a method -/
def z_Cx (p : Program) (R : Room) (s : State) (m : MethodId) (args : Array Value) (meth : Method) (c : Code) (G : z_G) (y : MethodName) (cc : ByteArray) (nL d MC MS : Nat) : Prop :=
  p.tables.exec = Jvm.exec ∧ c.code = cc ∧ c.maxLocals = nL ∧ s.vm.findClass y.cls = some m.cls ∧ meth.name = y.name ∧ (∀ w ∈ z_tbl, w.before args s = true) ∧ z_KN G s ∧ R.frames = d ∧ 40 * d ≤ R.locals ∧ R.cells = MC ∧ R.slots = MS
variable {pc : Nat} {ls : z_L} {st : z_S} {h : z_H} {ce sl : Nat}
theorem pI_e {st : z_S} {f : Int32 → z_S → Prop} (h : pI st f) : ∃ x r, st = z_i x :: r ∧ f x r := by
  rcases st with _ | ⟨v, r⟩
  · exact h.elim
  · rcases v with x | x | x
    · exact ⟨x, r, rfl, h⟩
    · exact h.elim
    · exact h.elim
theorem pL_e {st : z_S} {f : Int64 → z_S → Prop} (h : pL st f) : ∃ x r, st = z_l x :: r ∧ f x r := by
  rcases st with _ | ⟨v, r⟩
  · exact h.elim
  · rcases v with x | x | x
    · exact h.elim
    · exact ⟨x, r, rfl, h⟩
    · exact h.elim
theorem pR_e {st : z_S} {f : Option (Nat × Nat) → z_S → Prop} (h : pR st f) : ∃ x r, st = z_q x :: r ∧ f x r := by
  rcases st with _ | ⟨v, r⟩
  · exact h.elim
  · rcases v with x | x | x
    · exact h.elim
    · exact h.elim
    · exact ⟨x, r, rfl, h⟩
theorem pO_e {st : z_S} {f : Nat → Nat → z_S → Prop} (h : pO st f) : ∃ K i r, st = z_r K i :: r ∧ f K i r := by
  rcases st with _ | ⟨v, r⟩
  · exact h.elim
  · rcases v with x | x | _ | q
    · exact h.elim
    · exact h.elim
    · exact h.elim
    · exact ⟨q.1, q.2, r, rfl, h⟩
theorem pV_e {st : z_S} {f : z_V → z_S → Prop} (h : pV st f) : ∃ x r, st = x :: r ∧ f x r := by
  rcases st with _ | ⟨v, r⟩
  · exact h.elim
  · exact ⟨v, r, rfl, h⟩
theorem eI_e {o : Option z_V} {f : Int32 → Prop} (h : eI o f) : ∃ x, o = some (z_i x) ∧ f x := by
  rcases o with _ | v
  · exact h.elim
  · rcases v with x | x | x
    · exact ⟨x, rfl, h⟩
    · exact h.elim
    · exact h.elim
theorem eL_e {o : Option z_V} {f : Int64 → Prop} (h : eL o f) : ∃ x, o = some (z_l x) ∧ f x := by
  rcases o with _ | v
  · exact h.elim
  · rcases v with x | x | x
    · exact h.elim
    · exact ⟨x, rfl, h⟩
    · exact h.elim
theorem eR_e {o : Option z_V} {f : Option (Nat × Nat) → Prop} (h : eR o f) : ∃ x, o = some (z_q x) ∧ f x := by
  rcases o with _ | v
  · exact h.elim
  · rcases v with x | x | x
    · exact h.elim
    · exact h.elim
    · exact ⟨x, rfl, h⟩
theorem z_put1 {ad : Nat → Nat → Nat} {la : Array Slot} {nL : Nat} {ls : z_L} {i : Nat} {v : z_V} (hv : z_cat v = 1) (h : lv_has la nL ((i, z_val ad v) :: (z_lm ad ls).filter (fun q => !(q.1 == i) && !(q.1 + 1 == i && q.2.category == 2)))) : lv_has la nL (z_lm ad (z_put ls i v)) := by
  refine z_lm_sub h (fun q hq => ?_)
  rcases z_put_mem hq with rfl | ⟨hq, hne⟩
  · exact List.mem_cons_self
  · refine List.mem_cons_of_mem _ (List.mem_filter.mpr ⟨List.mem_map.mpr ⟨q, hq, rfl⟩, ?_⟩)
    simp only [Bool.and_eq_true, Bool.not_eq_true', beq_eq_false_iff_ne, ne_eq, Bool.and_eq_false_iff]
    refine ⟨fun z => hne (Or.inl z), ?_⟩
    by_cases z : q.1 + 1 = i
    · refine Or.inr (fun z2 => hne (Or.inr (Or.inr ⟨z, ?_⟩)))
      rw [z_val_cat] at z2
      exact z2
    · exact Or.inl z
theorem z_put2 {ad : Nat → Nat → Nat} {la : Array Slot} {nL : Nat} {ls : z_L} {i : Nat} {v : z_V} (hv : z_cat v = 2) (h : lv_has la nL ((i, z_val ad v) :: (z_lm ad ls).filter (fun q => !(q.1 == i) && (!(q.1 == i + 1) && !(q.1 + 1 == i && q.2.category == 2))))) : lv_has la nL (z_lm ad (z_put ls i v)) := by
  refine z_lm_sub h (fun q hq => ?_)
  rcases z_put_mem hq with rfl | ⟨hq, hne⟩
  · exact List.mem_cons_self
  · refine List.mem_cons_of_mem _ (List.mem_filter.mpr ⟨List.mem_map.mpr ⟨q, hq, rfl⟩, ?_⟩)
    simp only [Bool.and_eq_true, Bool.not_eq_true', beq_eq_false_iff_ne, ne_eq, Bool.and_eq_false_iff]
    refine ⟨fun z => hne (Or.inl z), fun z => hne (Or.inr (Or.inl ⟨hv, z⟩)), ?_⟩
    by_cases z : q.1 + 1 = i
    · refine Or.inr (fun z2 => hne (Or.inr (Or.inr ⟨z, ?_⟩)))
      rw [z_val_cat] at z2
      exact z2
    · exact Or.inl z
theorem zs_aconst_null (C : z_Cx p R s m args meth c G y cc nL d MC MS) (hd : decode cc pc = .ok (.aconst_null, 1)) (k : z_At p l e R s m args below meth c G ad0 h0 nL Qs (pc + 1) ls (z_n :: st) h ce sl) : z_At p l e R s m args below meth c G ad0 h0 nL Qs pc ls st h ce sl := by
  intro ad H locs la hH hE hO hl0 hl
  exact lv_null C.1 C.2.1 hd (k ad H locs la hH hE (hO.push trivial) hl0 hl)
theorem zs_iconst (C : z_Cx p R s m args meth c G y cc nL d MC MS) {n : Int} (hd : decode cc pc = .ok (.iconst n, 1)) (k : z_At p l e R s m args below meth c G ad0 h0 nL Qs (pc + 1) ls (z_i (Int32.ofInt n) :: st) h ce sl) : z_At p l e R s m args below meth c G ad0 h0 nL Qs pc ls st h ce sl := by
  intro ad H locs la hH hE hO hl0 hl
  exact lv_iconst C.1 C.2.1 hd rfl (k ad H locs la hH hE (hO.push trivial) hl0 hl)
theorem zs_bipush (C : z_Cx p R s m args meth c G y cc nL d MC MS) {n : Int} (hd : decode cc pc = .ok (.bipush n, 2)) (k : z_At p l e R s m args below meth c G ad0 h0 nL Qs (pc + 2) ls (z_i (Int8.ofInt n).toInt32 :: st) h ce sl) : z_At p l e R s m args below meth c G ad0 h0 nL Qs pc ls st h ce sl := by
  intro ad H locs la hH hE hO hl0 hl
  exact lv_bipush C.1 C.2.1 hd rfl (k ad H locs la hH hE (hO.push trivial) hl0 hl)
theorem zs_sipush (C : z_Cx p R s m args meth c G y cc nL d MC MS) {n : Int} (hd : decode cc pc = .ok (.sipush n, 3)) (k : z_At p l e R s m args below meth c G ad0 h0 nL Qs (pc + 3) ls (z_i (Int16.ofInt n).toInt32 :: st) h ce sl) : z_At p l e R s m args below meth c G ad0 h0 nL Qs pc ls st h ce sl := by
  intro ad H locs la hH hE hO hl0 hl
  exact lv_sipush C.1 C.2.1 hd rfl (k ad H locs la hH hE (hO.push trivial) hl0 hl)
theorem zs_lconst (C : z_Cx p R s m args meth c G y cc nL d MC MS) {n : Fin 2} (hd : decode cc pc = .ok (.lconst n, 1)) (k : z_At p l e R s m args below meth c G ad0 h0 nL Qs (pc + 1) ls (z_l (Int64.ofNat n) :: st) h ce sl) : z_At p l e R s m args below meth c G ad0 h0 nL Qs pc ls st h ce sl := by
  intro ad H locs la hH hE hO hl0 hl
  exact lv_lconst C.1 C.2.1 hd rfl (k ad H locs la hH hE (hO.push trivial) hl0 hl)
theorem zs_ldc (C : z_Cx p R s m args meth c G y cc nL d MC MS) {idx : Nat} {z : Int} (hd : decode cc pc = .ok (.ldc idx, 2)) (hc : Cond.constant y.cls idx (Int32.ofInt z) ∈ z_tbl) (k : z_At p l e R s m args below meth c G ad0 h0 nL Qs (pc + 2) ls (z_i (Int32.ofInt z) :: st) h ce sl) : z_At p l e R s m args below meth c G ad0 h0 nL Qs pc ls st h ce sl := by
  intro ad H locs la hH hE hO hl0 hl
  exact lv_ldc C.1 C.2.1 C.2.2.2.1 (C.2.2.2.2.2.1 _ hc) hd (k ad H locs la hH hE (hO.push trivial) hl0 hl)
theorem zs_ldc2_w (C : z_Cx p R s m args meth c G y cc nL d MC MS) {idx : Nat} {z : Int} (hd : decode cc pc = .ok (.ldc2_w idx, 3)) (hc : Cond.constantLong y.cls idx (Int64.ofInt z) ∈ z_tbl) (k : z_At p l e R s m args below meth c G ad0 h0 nL Qs (pc + 3) ls (z_l (Int64.ofInt z) :: st) h ce sl) : z_At p l e R s m args below meth c G ad0 h0 nL Qs pc ls st h ce sl := by
  intro ad H locs la hH hE hO hl0 hl
  exact lv_ldc2 C.1 C.2.1 C.2.2.2.1 (C.2.2.2.2.2.1 _ hc) hd (k ad H locs la hH hE (hO.push trivial) hl0 hl)
theorem zs_iload (C : z_Cx p R s m args meth c G y cc nL d MC MS) {i : Nat} {x : Int32} (hd : decode cc pc = .ok (.iload i, 2)) (hg : z_get ls i = some (z_i x)) (k : z_At p l e R s m args below meth c G ad0 h0 nL Qs (pc + 2) ls (z_i x :: st) h ce sl) : z_At p l e R s m args below meth c G ad0 h0 nL Qs pc ls st h ce sl := by
  intro ad H locs la hH hE hO hl0 hl
  exact lv_iload C.1 C.2.1 hd (z_lm_at hl hg) (k ad H locs la hH hE (hO.push trivial) hl0 hl)
theorem zs_iload_n (C : z_Cx p R s m args meth c G y cc nL d MC MS) {i : Fin 4} {x : Int32} (hd : decode cc pc = .ok (.iload_n i, 1)) (hg : z_get ls i = some (z_i x)) (k : z_At p l e R s m args below meth c G ad0 h0 nL Qs (pc + 1) ls (z_i x :: st) h ce sl) : z_At p l e R s m args below meth c G ad0 h0 nL Qs pc ls st h ce sl := by
  intro ad H locs la hH hE hO hl0 hl
  exact lv_iload_n C.1 C.2.1 hd rfl (z_lm_at hl hg) (k ad H locs la hH hE (hO.push trivial) hl0 hl)
theorem zs_lload (C : z_Cx p R s m args meth c G y cc nL d MC MS) {i : Nat} {x : Int64} (hd : decode cc pc = .ok (.lload i, 2)) (hg : z_get ls i = some (z_l x)) (k : z_At p l e R s m args below meth c G ad0 h0 nL Qs (pc + 2) ls (z_l x :: st) h ce sl) : z_At p l e R s m args below meth c G ad0 h0 nL Qs pc ls st h ce sl := by
  intro ad H locs la hH hE hO hl0 hl
  exact lv_lload C.1 C.2.1 hd (z_lm_at hl hg) (k ad H locs la hH hE (hO.push trivial) hl0 hl)
theorem zs_lload_n (C : z_Cx p R s m args meth c G y cc nL d MC MS) {i : Fin 4} {x : Int64} (hd : decode cc pc = .ok (.lload_n i, 1)) (hg : z_get ls i = some (z_l x)) (k : z_At p l e R s m args below meth c G ad0 h0 nL Qs (pc + 1) ls (z_l x :: st) h ce sl) : z_At p l e R s m args below meth c G ad0 h0 nL Qs pc ls st h ce sl := by
  intro ad H locs la hH hE hO hl0 hl
  exact lv_lload_n C.1 C.2.1 hd rfl (z_lm_at hl hg) (k ad H locs la hH hE (hO.push trivial) hl0 hl)
theorem zs_aload (C : z_Cx p R s m args meth c G y cc nL d MC MS) {i : Nat} {x : Option (Nat × Nat)} (hd : decode cc pc = .ok (.aload i, 2)) (hg : z_get ls i = some (z_q x)) (k : z_At p l e R s m args below meth c G ad0 h0 nL Qs (pc + 2) ls (z_q x :: st) h ce sl) : z_At p l e R s m args below meth c G ad0 h0 nL Qs pc ls st h ce sl := by
  intro ad H locs la hH hE hO hl0 hl
  have hk := k ad H locs la hH hE (hO.push (hO.get hg)) hl0 hl
  have ha := z_lm_at hl hg
  cases x with
  | none => exact lv_aloadN C.1 C.2.1 hd ha hk
  | some q => exact lv_aload C.1 C.2.1 hd ha hk
theorem zs_aload_n (C : z_Cx p R s m args meth c G y cc nL d MC MS) {i : Fin 4} {x : Option (Nat × Nat)} (hd : decode cc pc = .ok (.aload_n i, 1)) (hg : z_get ls i = some (z_q x)) (k : z_At p l e R s m args below meth c G ad0 h0 nL Qs (pc + 1) ls (z_q x :: st) h ce sl) : z_At p l e R s m args below meth c G ad0 h0 nL Qs pc ls st h ce sl := by
  intro ad H locs la hH hE hO hl0 hl
  have hk := k ad H locs la hH hE (hO.push (hO.get hg)) hl0 hl
  have ha := z_lm_at hl hg
  cases x with
  | none => exact lv_aload_nN C.1 C.2.1 hd rfl ha hk
  | some q => exact lv_aload_n C.1 C.2.1 hd rfl ha hk
theorem zs_istore (C : z_Cx p R s m args meth c G y cc nL d MC MS) {i : Nat} {x : Int32} (hd : decode cc pc = .ok (.istore i, 2)) (hi : i < nL) (k : z_At p l e R s m args below meth c G ad0 h0 nL Qs (pc + 2) (z_put ls i (z_i x)) st h ce sl) : z_At p l e R s m args below meth c G ad0 h0 nL Qs pc ls (z_i x :: st) h ce sl := by
  intro ad H locs la hH hE hO hl0 hl
  exact lv_istore C.1 C.2.1 hd hl hi rfl (fun la hl => k ad H locs la hH hE (hO.pop.put i trivial) hl0 (z_put1 rfl hl))
theorem zs_istore_n (C : z_Cx p R s m args meth c G y cc nL d MC MS) {i : Fin 4} {x : Int32} (hd : decode cc pc = .ok (.istore_n i, 1)) (hi : (i : Nat) < nL) (k : z_At p l e R s m args below meth c G ad0 h0 nL Qs (pc + 1) (z_put ls i (z_i x)) st h ce sl) : z_At p l e R s m args below meth c G ad0 h0 nL Qs pc ls (z_i x :: st) h ce sl := by
  intro ad H locs la hH hE hO hl0 hl
  exact lv_istore_n C.1 C.2.1 hd rfl hl hi rfl (fun la hl => k ad H locs la hH hE (hO.pop.put i trivial) hl0 (z_put1 rfl hl))
theorem zs_lstore (C : z_Cx p R s m args meth c G y cc nL d MC MS) {i : Nat} {x : Int64} (hd : decode cc pc = .ok (.lstore i, 2)) (hi : i + 1 < nL) (k : z_At p l e R s m args below meth c G ad0 h0 nL Qs (pc + 2) (z_put ls i (z_l x)) st h ce sl) : z_At p l e R s m args below meth c G ad0 h0 nL Qs pc ls (z_l x :: st) h ce sl := by
  intro ad H locs la hH hE hO hl0 hl
  exact lv_lstore C.1 C.2.1 hd hl hi rfl (fun la hl => k ad H locs la hH hE (hO.pop.put i trivial) hl0 (z_put2 rfl hl))
theorem zs_lstore_n (C : z_Cx p R s m args meth c G y cc nL d MC MS) {i : Fin 4} {x : Int64} (hd : decode cc pc = .ok (.lstore_n i, 1)) (hi : (i : Nat) + 1 < nL) (k : z_At p l e R s m args below meth c G ad0 h0 nL Qs (pc + 1) (z_put ls i (z_l x)) st h ce sl) : z_At p l e R s m args below meth c G ad0 h0 nL Qs pc ls (z_l x :: st) h ce sl := by
  intro ad H locs la hH hE hO hl0 hl
  exact lv_lstore_n C.1 C.2.1 hd rfl hl hi rfl (fun la hl => k ad H locs la hH hE (hO.pop.put i trivial) hl0 (z_put2 rfl hl))
theorem zs_astore (C : z_Cx p R s m args meth c G y cc nL d MC MS) {i : Nat} {x : Option (Nat × Nat)} (hd : decode cc pc = .ok (.astore i, 2)) (hi : i < nL) (k : z_At p l e R s m args below meth c G ad0 h0 nL Qs (pc + 2) (z_put ls i (z_q x)) st h ce sl) : z_At p l e R s m args below meth c G ad0 h0 nL Qs pc ls (z_q x :: st) h ce sl := by
  intro ad H locs la hH hE hO hl0 hl
  cases x with
  | none => exact lv_astoreN C.1 C.2.1 hd hl hi rfl (fun la hl => k ad H locs la hH hE (hO.pop.put i hO.top) hl0 (z_put1 rfl hl))
  | some q => exact lv_astore C.1 C.2.1 hd hl hi rfl (fun la hl => k ad H locs la hH hE (hO.pop.put i hO.top) hl0 (z_put1 rfl hl))
theorem zs_astore_n (C : z_Cx p R s m args meth c G y cc nL d MC MS) {i : Fin 4} {x : Option (Nat × Nat)} (hd : decode cc pc = .ok (.astore_n i, 1)) (hi : (i : Nat) < nL) (k : z_At p l e R s m args below meth c G ad0 h0 nL Qs (pc + 1) (z_put ls i (z_q x)) st h ce sl) : z_At p l e R s m args below meth c G ad0 h0 nL Qs pc ls (z_q x :: st) h ce sl := by
  intro ad H locs la hH hE hO hl0 hl
  cases x with
  | none => exact lv_astore_nN C.1 C.2.1 hd rfl hl hi rfl (fun la hl => k ad H locs la hH hE (hO.pop.put i hO.top) hl0 (z_put1 rfl hl))
  | some q => exact lv_astore_n C.1 C.2.1 hd rfl hl hi rfl (fun la hl => k ad H locs la hH hE (hO.pop.put i hO.top) hl0 (z_put1 rfl hl))
theorem zs_iinc (C : z_Cx p R s m args meth c G y cc nL d MC MS) {i : Nat} {n : Int} {x : Int32} (hd : decode cc pc = .ok (.iinc i n, 3)) (hi : i < nL) (hg : z_get ls i = some (z_i x)) (k : z_At p l e R s m args below meth c G ad0 h0 nL Qs (pc + 3) (z_put ls i (z_i (x + Int32.ofInt n))) st h ce sl) : z_At p l e R s m args below meth c G ad0 h0 nL Qs pc ls st h ce sl := by
  intro ad H locs la hH hE hO hl0 hl
  obtain ⟨j, hj⟩ := List.getElem?_of_mem (show (i, Value.int x) ∈ z_lm ad ls from List.mem_map.mpr ⟨(i, z_i x), z_get_mem hg, rfl⟩)
  exact lv_iinc C.1 C.2.1 hd hl hj rfl hi rfl (fun la hl => k ad H locs la hH hE (hO.put i trivial) hl0 (z_put1 rfl hl))
theorem zs_dup (C : z_Cx p R s m args meth c G y cc nL d MC MS) {v : z_V} (hd : decode cc pc = .ok (.dup, 1)) (hv : z_cat v = 1) (k : z_At p l e R s m args below meth c G ad0 h0 nL Qs (pc + 1) ls (v :: v :: st) h ce sl) : z_At p l e R s m args below meth c G ad0 h0 nL Qs pc ls (v :: st) h ce sl := by
  intro ad H locs la hH hE hO hl0 hl
  exact lv_dup C.1 C.2.1 hd ((z_val_cat ad v).trans hv) (k ad H locs la hH hE (hO.push hO.top) hl0 hl)
theorem zs_pop (C : z_Cx p R s m args meth c G y cc nL d MC MS) {v : z_V} (hd : decode cc pc = .ok (.pop, 1)) (hv : z_cat v = 1) (k : z_At p l e R s m args below meth c G ad0 h0 nL Qs (pc + 1) ls st h ce sl) : z_At p l e R s m args below meth c G ad0 h0 nL Qs pc ls (v :: st) h ce sl := by
  intro ad H locs la hH hE hO hl0 hl
  exact lv_pop C.1 C.2.1 hd ((z_val_cat ad v).trans hv) (k ad H locs la hH hE hO.pop hl0 hl)
theorem zs_dup2 (C : z_Cx p R s m args meth c G y cc nL d MC MS) {v w : z_V} (hd : decode cc pc = .ok (.dup2, 1)) (hv : z_cat v = 1) (hw : z_cat w = 1) (k : z_At p l e R s m args below meth c G ad0 h0 nL Qs (pc + 1) ls (v :: w :: v :: w :: st) h ce sl) : z_At p l e R s m args below meth c G ad0 h0 nL Qs pc ls (v :: w :: st) h ce sl := by
  intro ad H locs la hH hE hO hl0 hl
  exact lv_dup2_11 C.1 C.2.1 hd ((z_val_cat ad v).trans hv) ((z_val_cat ad w).trans hw) (k ad H locs la hH hE ((hO.push hO.pop.top).push hO.top) hl0 hl)
theorem zs_iadd (C : z_Cx p R s m args meth c G y cc nL d MC MS) {x : Int32} {v : Int32} (hd : decode cc pc = .ok (.iadd, 1)) (k : z_At p l e R s m args below meth c G ad0 h0 nL Qs (pc + 1) ls (z_i (x + v) :: st) h ce sl) : z_At p l e R s m args below meth c G ad0 h0 nL Qs pc ls (z_i v :: z_i x :: st) h ce sl := by
  intro ad H locs la hH hE hO hl0 hl
  exact lv_iadd C.1 C.2.1 hd (k ad H locs la hH hE (hO.pop.pop.push trivial) hl0 hl)
theorem zs_isub (C : z_Cx p R s m args meth c G y cc nL d MC MS) {x : Int32} {v : Int32} (hd : decode cc pc = .ok (.isub, 1)) (k : z_At p l e R s m args below meth c G ad0 h0 nL Qs (pc + 1) ls (z_i (x - v) :: st) h ce sl) : z_At p l e R s m args below meth c G ad0 h0 nL Qs pc ls (z_i v :: z_i x :: st) h ce sl := by
  intro ad H locs la hH hE hO hl0 hl
  exact lv_isub C.1 C.2.1 hd (k ad H locs la hH hE (hO.pop.pop.push trivial) hl0 hl)
theorem zs_imul (C : z_Cx p R s m args meth c G y cc nL d MC MS) {x : Int32} {v : Int32} (hd : decode cc pc = .ok (.imul, 1)) (k : z_At p l e R s m args below meth c G ad0 h0 nL Qs (pc + 1) ls (z_i (x * v) :: st) h ce sl) : z_At p l e R s m args below meth c G ad0 h0 nL Qs pc ls (z_i v :: z_i x :: st) h ce sl := by
  intro ad H locs la hH hE hO hl0 hl
  exact lv_imul C.1 C.2.1 hd (k ad H locs la hH hE (hO.pop.pop.push trivial) hl0 hl)
theorem zs_iand (C : z_Cx p R s m args meth c G y cc nL d MC MS) {x : Int32} {v : Int32} (hd : decode cc pc = .ok (.iand, 1)) (k : z_At p l e R s m args below meth c G ad0 h0 nL Qs (pc + 1) ls (z_i (x &&& v) :: st) h ce sl) : z_At p l e R s m args below meth c G ad0 h0 nL Qs pc ls (z_i v :: z_i x :: st) h ce sl := by
  intro ad H locs la hH hE hO hl0 hl
  exact lv_iand C.1 C.2.1 hd (k ad H locs la hH hE (hO.pop.pop.push trivial) hl0 hl)
theorem zs_iushr (C : z_Cx p R s m args meth c G y cc nL d MC MS) {x : Int32} {v : Int32} (hd : decode cc pc = .ok (.iushr, 1)) (k : z_At p l e R s m args below meth c G ad0 h0 nL Qs (pc + 1) ls (z_i ((x.toUInt32 >>> (v.toUInt32 &&& Int32.toUInt32 31)).toInt32) :: st) h ce sl) : z_At p l e R s m args below meth c G ad0 h0 nL Qs pc ls (z_i v :: z_i x :: st) h ce sl := by
  intro ad H locs la hH hE hO hl0 hl
  exact lv_iushr C.1 C.2.1 hd rfl (k ad H locs la hH hE (hO.pop.pop.push trivial) hl0 hl)
theorem zs_ladd (C : z_Cx p R s m args meth c G y cc nL d MC MS) {x : Int64} {v : Int64} (hd : decode cc pc = .ok (.ladd, 1)) (k : z_At p l e R s m args below meth c G ad0 h0 nL Qs (pc + 1) ls (z_l (x + v) :: st) h ce sl) : z_At p l e R s m args below meth c G ad0 h0 nL Qs pc ls (z_l v :: z_l x :: st) h ce sl := by
  intro ad H locs la hH hE hO hl0 hl
  exact lv_ladd C.1 C.2.1 hd (k ad H locs la hH hE (hO.pop.pop.push trivial) hl0 hl)
theorem zs_lsub (C : z_Cx p R s m args meth c G y cc nL d MC MS) {x : Int64} {v : Int64} (hd : decode cc pc = .ok (.lsub, 1)) (k : z_At p l e R s m args below meth c G ad0 h0 nL Qs (pc + 1) ls (z_l (x - v) :: st) h ce sl) : z_At p l e R s m args below meth c G ad0 h0 nL Qs pc ls (z_l v :: z_l x :: st) h ce sl := by
  intro ad H locs la hH hE hO hl0 hl
  exact lv_lsub C.1 C.2.1 hd (k ad H locs la hH hE (hO.pop.pop.push trivial) hl0 hl)
theorem zs_lmul (C : z_Cx p R s m args meth c G y cc nL d MC MS) {x : Int64} {v : Int64} (hd : decode cc pc = .ok (.lmul, 1)) (k : z_At p l e R s m args below meth c G ad0 h0 nL Qs (pc + 1) ls (z_l (x * v) :: st) h ce sl) : z_At p l e R s m args below meth c G ad0 h0 nL Qs pc ls (z_l v :: z_l x :: st) h ce sl := by
  intro ad H locs la hH hE hO hl0 hl
  exact lv_lmul C.1 C.2.1 hd (k ad H locs la hH hE (hO.pop.pop.push trivial) hl0 hl)
theorem zs_land (C : z_Cx p R s m args meth c G y cc nL d MC MS) {x : Int64} {v : Int64} (hd : decode cc pc = .ok (.land, 1)) (k : z_At p l e R s m args below meth c G ad0 h0 nL Qs (pc + 1) ls (z_l (x &&& v) :: st) h ce sl) : z_At p l e R s m args below meth c G ad0 h0 nL Qs pc ls (z_l v :: z_l x :: st) h ce sl := by
  intro ad H locs la hH hE hO hl0 hl
  exact lv_land C.1 C.2.1 hd (k ad H locs la hH hE (hO.pop.pop.push trivial) hl0 hl)
theorem zs_lor (C : z_Cx p R s m args meth c G y cc nL d MC MS) {x : Int64} {v : Int64} (hd : decode cc pc = .ok (.lor, 1)) (k : z_At p l e R s m args below meth c G ad0 h0 nL Qs (pc + 1) ls (z_l (x ||| v) :: st) h ce sl) : z_At p l e R s m args below meth c G ad0 h0 nL Qs pc ls (z_l v :: z_l x :: st) h ce sl := by
  intro ad H locs la hH hE hO hl0 hl
  exact lv_lor C.1 C.2.1 hd (k ad H locs la hH hE (hO.pop.pop.push trivial) hl0 hl)
theorem zs_ldiv (C : z_Cx p R s m args meth c G y cc nL d MC MS) {x : Int64} {v : Int64} (hd : decode cc pc = .ok (.ldiv, 1)) (hne : ¬ v = 0) (k : z_At p l e R s m args below meth c G ad0 h0 nL Qs (pc + 1) ls (z_l (x / v) :: st) h ce sl) : z_At p l e R s m args below meth c G ad0 h0 nL Qs pc ls (z_l v :: z_l x :: st) h ce sl := by
  intro ad H locs la hH hE hO hl0 hl
  exact lv_ldiv C.1 C.2.1 hd hne (k ad H locs la hH hE (hO.pop.pop.push trivial) hl0 hl)
theorem zs_lrem (C : z_Cx p R s m args meth c G y cc nL d MC MS) {x : Int64} {v : Int64} (hd : decode cc pc = .ok (.lrem, 1)) (hne : ¬ v = 0) (k : z_At p l e R s m args below meth c G ad0 h0 nL Qs (pc + 1) ls (z_l (x - x / v * v) :: st) h ce sl) : z_At p l e R s m args below meth c G ad0 h0 nL Qs pc ls (z_l v :: z_l x :: st) h ce sl := by
  intro ad H locs la hH hE hO hl0 hl
  exact lv_lrem C.1 C.2.1 hd hne (k ad H locs la hH hE (hO.pop.pop.push trivial) hl0 hl)
theorem zs_lshl (C : z_Cx p R s m args meth c G y cc nL d MC MS) {x : Int64} {v : Int32} (hd : decode cc pc = .ok (.lshl, 1)) (k : z_At p l e R s m args below meth c G ad0 h0 nL Qs (pc + 1) ls (z_l (x <<< (v.toInt64 &&& 63)) :: st) h ce sl) : z_At p l e R s m args below meth c G ad0 h0 nL Qs pc ls (z_i v :: z_l x :: st) h ce sl := by
  intro ad H locs la hH hE hO hl0 hl
  exact lv_lshl C.1 C.2.1 hd rfl (k ad H locs la hH hE (hO.pop.pop.push trivial) hl0 hl)
theorem zs_lcmp (C : z_Cx p R s m args meth c G y cc nL d MC MS) {x : Int64} {v : Int64} (hd : decode cc pc = .ok (.lcmp, 1)) (k : z_At p l e R s m args below meth c G ad0 h0 nL Qs (pc + 1) ls (z_i (lg_cmp x v) :: st) h ce sl) : z_At p l e R s m args below meth c G ad0 h0 nL Qs pc ls (z_l v :: z_l x :: st) h ce sl := by
  intro ad H locs la hH hE hO hl0 hl
  exact W.lcmp C.1 C.2.1 hd (k ad H locs la hH hE (hO.pop.pop.push trivial) hl0 hl)
theorem zs_ineg (C : z_Cx p R s m args meth c G y cc nL d MC MS) {x : Int32} (hd : decode cc pc = .ok (.ineg, 1)) (k : z_At p l e R s m args below meth c G ad0 h0 nL Qs (pc + 1) ls (z_i (-x) :: st) h ce sl) : z_At p l e R s m args below meth c G ad0 h0 nL Qs pc ls (z_i x :: st) h ce sl := by
  intro ad H locs la hH hE hO hl0 hl
  exact lv_ineg C.1 C.2.1 hd (k ad H locs la hH hE (hO.pop.push trivial) hl0 hl)
theorem zs_lneg (C : z_Cx p R s m args meth c G y cc nL d MC MS) {x : Int64} (hd : decode cc pc = .ok (.lneg, 1)) (k : z_At p l e R s m args below meth c G ad0 h0 nL Qs (pc + 1) ls (z_l (-x) :: st) h ce sl) : z_At p l e R s m args below meth c G ad0 h0 nL Qs pc ls (z_l x :: st) h ce sl := by
  intro ad H locs la hH hE hO hl0 hl
  exact lv_lneg C.1 C.2.1 hd (k ad H locs la hH hE (hO.pop.push trivial) hl0 hl)
theorem zs_i2l (C : z_Cx p R s m args meth c G y cc nL d MC MS) {x : Int32} (hd : decode cc pc = .ok (.i2l, 1)) (k : z_At p l e R s m args below meth c G ad0 h0 nL Qs (pc + 1) ls (z_l (x.toInt64) :: st) h ce sl) : z_At p l e R s m args below meth c G ad0 h0 nL Qs pc ls (z_i x :: st) h ce sl := by
  intro ad H locs la hH hE hO hl0 hl
  exact lv_i2l C.1 C.2.1 hd rfl (k ad H locs la hH hE (hO.pop.push trivial) hl0 hl)
theorem zs_l2i (C : z_Cx p R s m args meth c G y cc nL d MC MS) {x : Int64} (hd : decode cc pc = .ok (.l2i, 1)) (k : z_At p l e R s m args below meth c G ad0 h0 nL Qs (pc + 1) ls (z_i (x.toInt32) :: st) h ce sl) : z_At p l e R s m args below meth c G ad0 h0 nL Qs pc ls (z_l x :: st) h ce sl := by
  intro ad H locs la hH hE hO hl0 hl
  exact lv_l2i C.1 C.2.1 hd rfl (k ad H locs la hH hE (hO.pop.push trivial) hl0 hl)
theorem zs_i2b (C : z_Cx p R s m args meth c G y cc nL d MC MS) {x : Int32} (hd : decode cc pc = .ok (.i2b, 1)) (k : z_At p l e R s m args below meth c G ad0 h0 nL Qs (pc + 1) ls (z_i (x.toInt8.toInt32) :: st) h ce sl) : z_At p l e R s m args below meth c G ad0 h0 nL Qs pc ls (z_i x :: st) h ce sl := by
  intro ad H locs la hH hE hO hl0 hl
  exact lv_i2b C.1 C.2.1 hd rfl (k ad H locs la hH hE (hO.pop.push trivial) hl0 hl)
theorem zs_i2s (C : z_Cx p R s m args meth c G y cc nL d MC MS) {x : Int32} (hd : decode cc pc = .ok (.i2s, 1)) (k : z_At p l e R s m args below meth c G ad0 h0 nL Qs (pc + 1) ls (z_i (x.toInt16.toInt32) :: st) h ce sl) : z_At p l e R s m args below meth c G ad0 h0 nL Qs pc ls (z_i x :: st) h ce sl := by
  intro ad H locs la hH hE hO hl0 hl
  exact lv_i2s C.1 C.2.1 hd rfl (k ad H locs la hH hE (hO.pop.push trivial) hl0 hl)
theorem zs_if_icmp (C : z_Cx p R s m args meth c G y cc nL d MC MS) {cd : ClassFile.Cond} {off : Int} {t : Nat} {x v : Int32} (hd : decode cc pc = .ok (.if_icmp cd off, 3)) (ht : (pc : Int) + off = (t : Int)) (k1 : z_cP cd x v → z_At p l e R s m args below meth c G ad0 h0 nL Qs t ls st h ce sl) (k2 : ¬ z_cP cd x v → z_At p l e R s m args below meth c G ad0 h0 nL Qs (pc + 3) ls st h ce sl) : z_At p l e R s m args below meth c G ad0 h0 nL Qs pc ls (z_i v :: z_i x :: st) h ce sl := by
  intro ad H locs la hH hE hO hl0 hl
  have K1 := fun q => k1 q ad H locs la hH hE hO.pop.pop hl0 hl
  have K2 := fun q => k2 q ad H locs la hH hE hO.pop.pop hl0 hl
  cases cd with
  | eq => exact lv_icmp_eq C.1 C.2.1 hd ht (fun q => K1 q) (fun q => K2 q)
  | ne => exact lv_icmp_ne C.1 C.2.1 hd ht (fun q => K1 q) (fun q => K2 (fun z => z q))
  | lt => exact lv_icmp_lt C.1 C.2.1 hd ht (fun q => K1 q) (fun q => K2 q)
  | ge => exact lv_icmp_ge C.1 C.2.1 hd ht (fun q => K1 q) (fun q => K2 q)
  | gt => exact lv_icmp_gt C.1 C.2.1 hd ht (fun q => K1 q) (fun q => K2 q)
  | le => exact lv_icmp_le C.1 C.2.1 hd ht (fun q => K1 q) (fun q => K2 q)
theorem zs_ifCond (C : z_Cx p R s m args meth c G y cc nL d MC MS) {cd : ClassFile.Cond} {off : Int} {t : Nat} {x : Int32} (hd : decode cc pc = .ok (.ifCond cd off, 3)) (ht : (pc : Int) + off = (t : Int)) (k1 : z_cP cd x 0 → z_At p l e R s m args below meth c G ad0 h0 nL Qs t ls st h ce sl) (k2 : ¬ z_cP cd x 0 → z_At p l e R s m args below meth c G ad0 h0 nL Qs (pc + 3) ls st h ce sl) : z_At p l e R s m args below meth c G ad0 h0 nL Qs pc ls (z_i x :: st) h ce sl := by
  intro ad H locs la hH hE hO hl0 hl
  have K1 := fun q => k1 q ad H locs la hH hE hO.pop hl0 hl
  have K2 := fun q => k2 q ad H locs la hH hE hO.pop hl0 hl
  cases cd with
  | eq => exact lv_if_eq C.1 C.2.1 hd ht (fun q => K1 q) (fun q => K2 q)
  | ne => exact lv_if_ne C.1 C.2.1 hd ht (fun q => K1 q) (fun q => K2 (fun z => z q))
  | lt => exact lv_if_lt C.1 C.2.1 hd ht (fun q => K1 q) (fun q => K2 q)
  | ge => exact lv_if_ge C.1 C.2.1 hd ht (fun q => K1 q) (fun q => K2 q)
  | gt => exact lv_if_gt C.1 C.2.1 hd ht (fun q => K1 q) (fun q => K2 q)
  | le => exact lv_if_le C.1 C.2.1 hd ht (fun q => K1 q) (fun q => K2 q)
theorem zs_ifnull (C : z_Cx p R s m args meth c G y cc nL d MC MS) {off : Int} {t : Nat} {r : Option (Nat × Nat)} (hd : decode cc pc = .ok (.ifnull off, 3)) (ht : (pc : Int) + off = (t : Int)) (k1 : r = none → z_At p l e R s m args below meth c G ad0 h0 nL Qs t ls st h ce sl) (k2 : ∀ q, r = some q → z_At p l e R s m args below meth c G ad0 h0 nL Qs (pc + 3) ls st h ce sl) : z_At p l e R s m args below meth c G ad0 h0 nL Qs pc ls (z_q r :: st) h ce sl := by
  intro ad H locs la hH hE hO hl0 hl
  cases r with
  | none => exact lv_ifnullN C.1 C.2.1 hd ht (k1 rfl ad H locs la hH hE hO.pop hl0 hl)
  | some q => exact lv_ifnull C.1 C.2.1 hd (k2 q rfl ad H locs la hH hE hO.pop hl0 hl)
theorem zs_ifnonnull (C : z_Cx p R s m args meth c G y cc nL d MC MS) {off : Int} {t : Nat} {r : Option (Nat × Nat)} (hd : decode cc pc = .ok (.ifnonnull off, 3)) (ht : (pc : Int) + off = (t : Int)) (k1 : r = none → z_At p l e R s m args below meth c G ad0 h0 nL Qs (pc + 3) ls st h ce sl) (k2 : ∀ q, r = some q → z_At p l e R s m args below meth c G ad0 h0 nL Qs t ls st h ce sl) : z_At p l e R s m args below meth c G ad0 h0 nL Qs pc ls (z_q r :: st) h ce sl := by
  intro ad H locs la hH hE hO hl0 hl
  cases r with
  | none => exact lv_ifnonnullN C.1 C.2.1 hd (k1 rfl ad H locs la hH hE hO.pop hl0 hl)
  | some q => exact lv_ifnonnull C.1 C.2.1 hd ht (k2 q rfl ad H locs la hH hE hO.pop hl0 hl)
theorem zs_goto (C : z_Cx p R s m args meth c G y cc nL d MC MS) {off : Int} {t : Nat} (hd : decode cc pc = .ok (.goto off, 3)) (ht : (pc : Int) + off = (t : Int)) (k : z_At p l e R s m args below meth c G ad0 h0 nL Qs t ls st h ce sl) : z_At p l e R s m args below meth c G ad0 h0 nL Qs pc ls st h ce sl := by
  intro ad H locs la hH hE hO hl0 hl
  exact lv_goto C.1 C.2.1 hd ht (k ad H locs la hH hE hO hl0 hl)
theorem zs_tableswitch (C : z_Cx p R s m args meth c G y cc nL d MC MS) {dflt lo hi : Int} {offs : Array Int} {n : Nat} {x : Int32} (hd : decode cc pc = .ok (.tableswitch dflt lo hi offs, n)) (h1 : 0 ≤ (pc : Int) + dflt) (h2 : ∀ o ∈ offs.toList, 0 ≤ (pc : Int) + o) (h3 : hi - lo + 1 = offs.size) (k : z_At p l e R s m args below meth c G ad0 h0 nL Qs (z_sw pc dflt lo hi offs.toList x.toInt) ls st h ce sl) : z_At p l e R s m args below meth c G ad0 h0 nL Qs pc ls (z_i x :: st) h ce sl := by
  intro ad H locs la hH hE hO hl0 hl
  have K := k ad H locs la hH hE hO.pop hl0 hl
  unfold z_sw at K
  by_cases hq : x.toInt < lo ∨ hi < x.toInt
  · rw [if_pos hq] at K
    exact lv_tableOut C.1 C.2.1 hd hq (Int.toNat_of_nonneg h1).symm K
  · rw [if_neg hq] at K
    have hj : (x.toInt - lo).toNat < offs.size := by omega
    have ho : offs.toList[(x.toInt - lo).toNat]? = some (offs[(x.toInt - lo).toNat]) := by
      rw [Array.getElem?_toList]
      exact Array.getElem?_eq_getElem hj
    have hg : offs.toList.getD (x.toInt - lo).toNat 0 = offs[(x.toInt - lo).toNat] := by
      rw [List.getD_eq_getElem?_getD, ho]
      rfl
    rw [hg] at K
    exact lv_tableIn C.1 C.2.1 hd (fun z => hq (Or.inl z)) (fun z => hq (Or.inr z)) (Array.getElem?_eq_getElem hj) (Int.toNat_of_nonneg (h2 _ (List.mem_of_getElem? ho))).symm K
theorem zs_lookupswitch (C : z_Cx p R s m args meth c G y cc nL d MC MS) {dflt : Int} {ps : Array (Int × Int)} {n : Nat} {x : Int32} (hd : decode cc pc = .ok (.lookupswitch dflt ps, n)) (hp : (ps.toList.zip (ps.toList.drop 1)).all (fun (a, next) => a.1 < next.1) = true) (h1 : ∀ v : Int, 0 ≤ (pc : Int) + Op.lookupswitch.offset ps.toList dflt v) (k : z_At p l e R s m args below meth c G ad0 h0 nL Qs (z_lk pc dflt ps.toList x.toInt) ls st h ce sl) : z_At p l e R s m args below meth c G ad0 h0 nL Qs pc ls (z_i x :: st) h ce sl := by
  intro ad H locs la hH hE hO hl0 hl
  exact lv_lookup C.1 C.2.1 hd hp rfl (Int.toNat_of_nonneg (h1 _)).symm (k ad H locs la hH hE hO.pop hl0 hl)
end ZS
