/-! A METHOD, by its stretches: what is shown of every judgement A that the stretches support holds of the machine -/
def z_rt (rt : Option FieldType) (r : Option z_V) : Prop := match rt, r with
  | some .int, some (.inl _) => True
  | some .boolean, some (.inl x) => x = 0 ∨ x = 1
  | some .long, some (.inr (.inl _)) => True
  | some (.object _), some (.inr (.inr _)) => True
  | none, none => True
  | _, _ => False
def z_T (rt : Option FieldType) (MC MS : Nat) (Q : Option z_V → z_H → Prop) : Option z_V → z_H → Nat → Nat → Prop := fun r h ce sl => ce ≤ MC ∧ sl ≤ MS ∧ z_rt rt r ∧ Q r h
def z_args : Nat → List z_V → z_L
  | _, [] => []
  | n, v :: r => (n, v) :: z_args (n + z_cat v) r
theorem z_args_lm (ad : Nat → Nat → Nat) (as : List z_V) : ∀ n, z_lm ad (z_args n as) = lv_args n (as.map (z_val ad)) := by
  induction as with
  | nil => intro n; rfl
  | cons v r ih =>
    intro n
    show (n, z_val ad v) :: z_lm ad (z_args (n + z_cat v) r) = lv_args n (z_val ad v :: r.map (z_val ad))
    rw [ih]
    simp only [lv_args, z_val_cat]
    rcases v with x | x | x <;> rfl
theorem z_sl_len (ad : Nat → Nat → Nat) (as : List z_V) : (lg_sl (as.map (z_val ad))).length = z_w as := by
  induction as with
  | nil => rfl
  | cons v r ih =>
    have : lg_sl ((v :: r).map (z_val ad)) = (if (z_val ad v).category = 2 then [.val (z_val ad v), .second] else [.val (z_val ad v)]) ++ lg_sl (r.map (z_val ad)) := rfl
    rw [this, List.length_append, ih, z_val_cat]
    rcases v with x | x | x <;> simp [z_w, z_cat]
theorem z_args_ok {h : z_H} {as : List z_V} (ha : ∀ x ∈ as, z_ok h x) : ∀ n, ∀ q ∈ z_args n as, z_ok h q.2 := by
  induction as with
  | nil => intro n q hq; cases hq
  | cons v r ih =>
    intro n q hq
    rcases List.mem_cons.mp hq with rfl | hq
    · exact ha v List.mem_cons_self
    · exact ih (fun x hx => ha x (List.mem_cons_of_mem _ hx)) _ q hq
theorem z_meth {l : Launch} {G : z_G} {d : Nat} {y : MethodName} {cc : ByteArray} {mL : Nat} {rt : Option FieldType} {as : List z_V} {h : z_H} {mc ms : Nat} {Q : Option z_V → z_H → Prop} (yk : Nat) (ini : Bool) (hy : plainName y.cls = true ∧ y.cls = kO yk ∧ (ini = true → y.name = "<init>")) (hw : z_w as ≤ mL)
    (HA : ∀ A : Nat → z_K, (∀ (es : List z_E) (pc ep : Nat), z_chk yk ini cc mL pc es ep = true → ∀ ls st h' ce sl, z_wp l G d mc ms y.cls A (z_T rt mc ms Q) ep es ls st h' ce sl → A pc ls st h' ce sl) → A 0 (z_args 0 as) [] h 0 0) : z_MT l G d y cc mL rt as h mc ms Q := by
  intro ad
  refine Met.ofW (cc := cc) (maxL := mL) (ret := rt) hy.1 rfl ?_
  intro p e s m args below meth c s₁ B hml hv
  obtain ⟨rfl, ⟨hKN, hHR⟩, hok⟩ := hv
  have hts := atoms_spec (ws := Cond.code y cc mL rt :: z_tbl) B.pre
  have hlk := B.notSynchronized
  have C : z_Cx p (z_rm d mc ms) s m (as.map (z_val ad)).toArray meth c G y cc mL d mc ms := ⟨B.exec, B.bytes, hml, findClass_of_methodNamed B.named, (name_of_methodNamed B.named B.method).1, fun w hw => hts w (List.mem_cons_of_mem _ hw), hKN, rfl, Nat.le_refl _, rfl, rfl⟩
  have hr := B.returns
  have hRT : z_RT (z_At p l e (z_rm d mc ms) s m (as.map (z_val ad)).toArray below meth c G ad h mL (MQ below (z_Qc G ad h Q) (as.map (z_val ad)).toArray s mc ms (z_A G))) (z_T rt mc ms Q) cc := by
    refine ⟨fun pc ls h ce sl x hd hq => ?_, fun pc ls h ce sl x hd hq => ?_, fun pc ls h ce sl x hd hq => ?_, fun pc ls h ce sl hd hq => ?_⟩
    · obtain ⟨q1, q2, q3, q4⟩ := hq
      unfold z_rt at q3
      split at q3
      · exact zs_ireturn C hlk hd hr (Or.inl rfl) q1 q2 q4
      · rename_i hq; cases hq; exact zs_ireturn C hlk hd hr (Or.inr ⟨rfl, q3⟩) q1 q2 q4
      · rename_i hq; cases hq
      · rename_i hq; cases hq
      · rename_i hq; cases hq
      · exact q3.elim
    · obtain ⟨q1, q2, q3, q4⟩ := hq
      unfold z_rt at q3
      split at q3
      · rename_i hq; cases hq
      · rename_i hq; cases hq
      · exact zs_lreturn C hlk hd hr q1 q2 q4
      · rename_i hq; cases hq
      · rename_i hq; cases hq
      · exact q3.elim
    · obtain ⟨q1, q2, q3, q4⟩ := hq
      unfold z_rt at q3
      split at q3
      · rename_i hq; cases hq
      · rename_i hq; cases hq
      · rename_i hq; cases hq
      · exact zs_areturn C hlk hd hr (Or.inl ⟨_, rfl⟩) q1 q2 q4
      · rename_i hq; cases hq
      · exact q3.elim
    · obtain ⟨q1, q2, q3, q4⟩ := hq
      unfold z_rt at q3
      split at q3
      · rename_i hq; cases hq
      · rename_i hq; cases hq
      · rename_i hq; cases hq
      · rename_i hq; cases hq
      · exact zs_return C hlk hd hr q1 q2 q4
      · exact q3.elim
  have hA := HA _ (z_blk C hRT hy.2.1 hy.2.2)
  have hl := lv_entry (as.map (z_val ad)) (n := mL) (by rw [z_sl_len]; exact hw)
  rw [lg_entry_eq]
  refine hA ad s.heap [] _ hHR z_EX.rf ⟨z_args_ok hok 0, fun v hv => by cases hv⟩ (fun x hx => by cases hx) ?_
  rw [z_args_lm]
  exact hl
