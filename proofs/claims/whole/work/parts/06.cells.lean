/-! the small machine against the machine: fields, arrays, new cells, casts, returns -/
theorem inzX0 : ∀ w ∈ wsX00, w ∈ z_tbl := fun w h => List.mem_filter.mpr ⟨inX0 w h, List.all_eq_true.mp (show wsX00.all goodWord = true by decide +kernel) w h⟩
theorem inzX1 : ∀ w ∈ wsX10, w ∈ z_tbl := fun w h => List.mem_filter.mpr ⟨inX1 w h, List.all_eq_true.mp (show wsX10.all goodWord = true by decide +kernel) w h⟩
theorem inzX2 : ∀ w ∈ wsX20, w ∈ z_tbl := fun w h => List.mem_filter.mpr ⟨inX2 w h, List.all_eq_true.mp (show wsX20.all goodWord = true by decide +kernel) w h⟩
theorem inzX3 : ∀ w ∈ wsX30, w ∈ z_tbl := fun w h => List.mem_filter.mpr ⟨inX3 w h, List.all_eq_true.mp (show wsX30.all goodWord = true by decide +kernel) w h⟩
theorem inzX4 : ∀ w ∈ wsX40, w ∈ z_tbl := fun w h => List.mem_filter.mpr ⟨inX4 w h, List.all_eq_true.mp (show wsX40.all goodWord = true by decide +kernel) w h⟩
theorem inzX5 : ∀ w ∈ wsX50, w ∈ z_tbl := fun w h => List.mem_filter.mpr ⟨inX5 w h, List.all_eq_true.mp (show wsX50.all goodWord = true by decide +kernel) w h⟩
theorem inzX6 : ∀ w ∈ wsX60, w ∈ z_tbl := fun w h => List.mem_filter.mpr ⟨inX6 w h, List.all_eq_true.mp (show wsX60.all goodWord = true by decide +kernel) w h⟩
theorem inzX7 : ∀ w ∈ wsX70, w ∈ z_tbl := fun w h => List.mem_filter.mpr ⟨inX7 w h, List.all_eq_true.mp (show wsX70.all goodWord = true by decide +kernel) w h⟩
theorem inzX8 : ∀ w ∈ wsX80, w ∈ z_tbl := fun w h => List.mem_filter.mpr ⟨inX8 w h, List.all_eq_true.mp (show wsX80.all goodWord = true by decide +kernel) w h⟩
theorem inzX9 : ∀ w ∈ wsX90, w ∈ z_tbl := fun w h => List.mem_filter.mpr ⟨inX9 w h, List.all_eq_true.mp (show wsX90.all goodWord = true by decide +kernel) w h⟩
theorem inzX10 : ∀ w ∈ wsX100, w ∈ z_tbl := fun w h => List.mem_filter.mpr ⟨inX10 w h, List.all_eq_true.mp (show wsX100.all goodWord = true by decide +kernel) w h⟩
theorem inzX11 : ∀ w ∈ wsX110, w ∈ z_tbl := fun w h => List.mem_filter.mpr ⟨inX11 w h, List.all_eq_true.mp (show wsX110.all goodWord = true by decide +kernel) w h⟩
theorem inzX12 : ∀ w ∈ wsX120, w ∈ z_tbl := fun w h => List.mem_filter.mpr ⟨inX12 w h, List.all_eq_true.mp (show wsX120.all goodWord = true by decide +kernel) w h⟩
theorem z_objc {K : Nat} (h : z_obj K = true) : K = 2 ∨ K = 3 ∨ K = 4 ∨ K = 5 ∨ K = 6 ∨ K = 7 ∨ K = 8 ∨ K = 9 ∨ K = 10 ∨ K = 11 ∨ K = 12 ∨ K = 13 ∨ K = 14 := by
  simp only [z_obj, Bool.and_eq_true, decide_eq_true_eq] at h
  omega
theorem z_cl {K : Nat} (h : z_obj K = true) : vwCl[K]? = some (kR K, kT K, kF K) := by
  rcases z_objc h with rfl | rfl | rfl | rfl | rfl | rfl | rfl | rfl | rfl | rfl | rfl | rfl | rfl <;> rfl
theorem z_in {K : Nat} (h : z_obj K = true) : ∀ w ∈ u_ws (kR K) (kT K) (kF K), w ∈ z_tbl := by
  rcases z_objc h with rfl | rfl | rfl | rfl | rfl | rfl | rfl | rfl | rfl | rfl | rfl | rfl | rfl
  · exact inzX0
  · exact inzX1
  · exact inzX2
  · exact inzX3
  · exact inzX4
  · exact inzX5
  · exact inzX6
  · exact inzX7
  · exact inzX8
  · exact inzX9
  · exact inzX10
  · exact inzX11
  · exact inzX12
theorem z_ty {K : Nat} (h : z_obj K = true) : ∀ k, k < kF K → parseFieldDescriptor (kT K k).2.2.1 = some (kY K k) := by
  rcases z_objc h with rfl | rfl | rfl | rfl | rfl | rfl | rfl | rfl | rfl | rfl | rfl | rfl | rfl
  · exact tyX0_ok
  · exact tyX1_ok
  · exact tyX2_ok
  · exact tyX3_ok
  · exact tyX4_ok
  · exact tyX5_ok
  · exact tyX6_ok
  · exact tyX7_ok
  · exact tyX8_ok
  · exact tyX9_ok
  · exact tyX10_ok
  · exact tyX11_ok
  · exact tyX12_ok
theorem z_nm {K : Nat} (h : z_obj K = true) : ∀ a, a < kF K → ∀ b, b < kF K → a ≠ b → (kT K a).2.1 ≠ (kT K b).2.1 := by
  rcases z_objc h with rfl | rfl | rfl | rfl | rfl | rfl | rfl | rfl | rfl | rfl | rfl | rfl | rfl
  · exact nmX0
  · exact nmX1
  · exact nmX2
  · exact nmX3
  · exact nmX4
  · exact nmX5
  · exact nmX6
  · exact nmX7
  · exact nmX8
  · exact nmX9
  · exact nmX10
  · exact nmX11
  · exact nmX12
theorem z_fc4 : ∀ K, K < 15 → ∀ k, k < kF K → z_fc (kY K k) < 4 := by decide +kernel
theorem z_obj_no {K : Nat} (h : z_obj K = true) : aLen K = 0 ∧ z_lst K = false ∧ K < 15 ∧ K ≠ 400 ∧ K < 1000 := by
  rcases z_objc h with rfl | rfl | rfl | rfl | rfl | rfl | rfl | rfl | rfl | rfl | rfl | rfl | rfl <;> decide
theorem z_arr_no {K : Nat} (h : aLen K ≠ 0) : z_obj K = false ∧ z_lst K = false ∧ K ≠ 400 ∧ K < 1000 := by
  unfold aLen at h
  split at h
  all_goals first
    | decide
    | exact absurd rfl h
theorem z_dflt {t : FieldType} (h : z_fc t < 4) : defaultValue t = (match z_fc t with | 1 => .long 0 | 2 => .null | _ => .int 0) := by
  cases t <;> first | rfl | (exact absurd h (by decide))
theorem z_aCod3 (K : Nat) : aCod K = 0 ∨ aCod K = 1 ∨ aCod K = 2 := by
  unfold aCod
  split <;> decide
theorem z_arrT {G : z_G} {U : State} (h : z_KN G U) {c : Nat} (hc : c = 0 ∨ c = 1 ∨ c = 2) : ArrOfT U (gA G c) (aTy c) ∧ U.vm.findClass ("[" ++ (aTy c).toString) = some (gA G c) := by
  rcases hc with rfl | rfl | rfl
  · exact h.1.2 0 _ rfl
  · exact h.1.2 1 _ rfl
  · exact h.1.2 2 _ rfl
theorem aVal_i {h : z_H} {K i q : Nat} (hc : aCod K ≠ 1) : aVal h K i q = .int (hI h K i q) := if_neg hc
theorem aVal_l {h : z_H} {K i q : Nat} (hc : aCod K = 1) : aVal h K i q = .long (hL h K i q) := if_pos hc
theorem z_w_eq (ad : Nat → Nat → Nat) (st : z_S) : ((st.map (z_val ad)).map fun v => v.category).sum = z_w st := by
  induction st with
  | nil => rfl
  | cons v r ih =>
    simp only [List.map_cons, List.sum_cons, z_w, z_val_cat]
    rw [ih]
/-- how a method ends -/
def z_Qc (G : z_G) (ad0 : Nat → Nat → Nat) (h0 : z_H) (Q : Option z_V → z_H → Prop) : Array Value → State → Outcome → State → Prop := fun _ _ o t => ∃ (ad' : Nat → Nat → Nat) (r : Option z_V) (h' : z_H), o = .returned (r.map (z_val ad')) ∧ z_RP G ad' h' t ∧ z_EX h0 ad0 h' ad' ∧ (∀ x, r = some x → z_ok h' x) ∧ Q r h'
section ZC
variable {p : Program} {l : Launch} {e : Env} {R : Room} {s : State} {m : MethodId} {args : Array Value} {below : List Frame} {meth : Method} {c : Code} {G : z_G} {ad0 : Nat → Nat → Nat} {h0 : z_H} {nL : Nat} {Qs : State → Prop} {y : MethodName} {cc : ByteArray} {d MC MS : Nat}
variable {pc : Nat} {ls : z_L} {st : z_S} {h : z_H} {ce sl : Nat}
theorem z_okfv {G : z_G} {ad : Nat → Nat → Nat} {h : z_H} {U : State} {H : Heap} (hH : z_HR G ad h U H) {K i : Nat} (hK : K < 1000) (hi : i < hN h K) (f : Nat) : z_ok h (z_fv h K i f) := by
  unfold z_fv
  split
  · trivial
  · cases hq : hR h K i f with
    | none => trivial
    | some q => exact hH.2.2.2.2.2 K i f q hK hi hq
  · trivial
theorem zs_getfield (C : z_Cx p R s m args meth c G y cc nL d MC MS) {idx K f i : Nat} (hd : decode cc pc = .ok (.getfield idx, 3)) (hK : z_obj K = true) (hf : f < kF K) (hlk : Cond.fieldLink y.cls idx (kT K f).1 (kT K f).2.1 (kT K f).2.2.1 ∈ z_tbl)
    (k : z_At p l e R s m args below meth c G ad0 h0 nL Qs (pc + 3) ls (z_fv h K i f :: st) h ce sl) : z_At p l e R s m args below meth c G ad0 h0 nL Qs pc ls (z_r K i :: st) h ce sl := by
  intro ad H locs la hH hE hO hl0 hl
  have hi := hO.top
  have hts := C.2.2.2.2.2.1
  obtain ⟨cell, q1, q2, q3, q4⟩ := (hH.2.2.2.2.1 K i hi.2 hi.1).1 hK
  obtain ⟨hS, hfc, kC, hkC, hkind⟩ := C.2.2.2.2.2.2.1.1.1 K _ (z_cl hK)
  obtain ⟨cf, kf, fi, f', hi', hsl⟩ := hS f hf
  refine W.getf C.1 C.2.1 C.2.2.2.1 (hts _ hlk) hi' (u_facts hfc hkC (u_lays hts (z_in hK) hf) hi').1 q1 (by rw [q3]; exact fun h => by cases h) (v := z_val ad (z_fv h K i f)) ?_ rfl rfl hd (k ad H locs la hH hE (hO.pop.push (z_okfv hH hi.2 hi.1 f)) hl0 hl)
  rw [hsl]
  exact q4 f hf
theorem zs_putg (C : z_Cx p R s m args meth c G y cc nL d MC MS) {idx K f i : Nat} {v : z_V} {h' : z_H} (hd : decode cc pc = .ok (.putfield idx, 3)) (hK : z_obj K = true) (hf : f < kF K) (hlk : Cond.fieldLink y.cls idx (kT K f).1 (kT K f).2.1 (kT K f).2.2.1 ∈ z_tbl)
    (hfin : (kT K f).2.2.2 = true → y.name = "<init>" ∧ (kT K f).1 = y.cls) (hty : ∀ ad : Nat → Nat → Nat, narrow (kY K f) (z_val ad v) = z_val ad v ∧ fits (kY K f) (z_val ad v) = true)
    (hn : hN h' = hN h) (hz : hZ h' = hZ h) (f1 : ∀ K' i' k, ¬ (K' = K ∧ i' = i) → hI h' K' i' k = hI h K' i' k) (f2 : ∀ K' i' k, ¬ (K' = K ∧ i' = i) → hL h' K' i' k = hL h K' i' k) (f3 : ∀ K' i' k, ¬ (K' = K ∧ i' = i) → hR h' K' i' k = hR h K' i' k)
    (hv : ∀ k, k < kF K → z_fv h' K i k = if k = f then v else z_fv h K i k) (href : ∀ k q, hR h' K i k = some q → hR h K i k = some q ∨ v = z_q (some q))
    (k : z_At p l e R s m args below meth c G ad0 h0 nL Qs (pc + 3) ls st h' ce sl) : z_At p l e R s m args below meth c G ad0 h0 nL Qs pc ls (v :: z_r K i :: st) h ce sl := by
  intro ad H locs la hH hE hO hl0 hl
  have hi := hO.pop.top
  have hts := C.2.2.2.2.2.1
  obtain ⟨cell, q1, q2, q3, q4⟩ := (hH.2.2.2.2.1 K i hi.2 hi.1).1 hK
  have hKn := C.2.2.2.2.2.2.1.1
  obtain ⟨hS, hfc, kC, hkC, hkind⟩ := hKn.1 K _ (z_cl hK)
  obtain ⟨cf, kf, fi, f', hi', hsl⟩ := hS f hf
  have hap := va_apart (own := y.cls) hts (z_in hK) (kY K) (z_ty hK) (z_nm hK) hKn (z_cl hK)
  have hst := (u_facts hfc hkC (u_lays hts (z_in hK) hf) hi').1
  have hlay := hts _ (z_in hK _ (u_in_lay hf))
  have hno := z_obj_no hK
  have hlv := hH.2.2.1 K i (z_live_of hi.2 hno.2.2.2.1 hi.1)
  have fin : ∀ H' : Heap, H'[ad K i]? = some (cell.setSlot f'.slot (z_val ad v)) → H'.size = H.size → (∀ q, q ≠ ad K i → H'[q]? = H[q]?) → W p l e R s m args below meth c H' (locs ++ [⟨ad K i, f'.slot⟩]) ce sl Qs (F0 m (pc + 3) la (st.map (z_val ad))) := by
    intro H' e1 e2 e3
    rw [hsl] at e1
    refine k ad H' _ la (hH.set hi.2 hno.2.2.2.1 hi.1 e2 e3 hn hz f1 f2 f3 ⟨fun _ => ?_, fun q => absurd hno.1 q, fun q => (by rw [hno.2.1] at q; cases q)⟩ (fun k q hq => ?_)) ⟨fun K => by rw [hn]; exact hE.1 K, hE.2⟩ (hO.pop.pop.mono (fun K => by rw [hn]; exact Nat.le_refl _)) ?_ hl
    · refine t_OB.to (V := updV (fun k => z_val ad (z_fv h K i k)) f (z_val ad v)) ⟨_, e1, q2, q3, t_set q4 hap hf _⟩ (fun j hj => ?_)
      rw [hv j hj]
      unfold updV
      split <;> rfl
    · rcases href k q hq with hq | hq
      · exact hH.2.2.2.2.2 K i k q hi.2 hi.1 hq
      · have := hO.top
        rw [hq] at this
        exact this
    · intro x hx
      rcases List.mem_append.mp hx with hx | hx
      · exact hl0 x hx
      · rw [List.mem_singleton.mp hx]
        exact hlv.1
  unfold u_lay at hlay
  by_cases hb : (kT K f).2.2.2 = true
  · rw [if_pos hb] at hlay
    have hcf : m.cls = cf := by
      obtain ⟨_, _, c', _, _, _, -, -, hf', -, -, -, hown2, -⟩ := Cond.laysFinal_spec hlay
      have e1 : c' = cf := by have := hi'.symm.trans hf'; simp at this; exact this.1.symm
      rw [(hfin hb).2] at hown2
      rw [← e1]; exact Option.some.inj (C.2.2.2.1.symm.trans hown2)
    have h6 := u_fits hfc hkC hkind (Or.inr hlay) hi' (z_ty hK f hf) (hty ad).1 (hty ad).2
    exact W.putFinK C.1 C.2.1 C.2.2.2.1 (hts _ hlk) hi' hst hcf (C.2.2.2.2.1.trans (hfin hb).1) (by rw [q2]; exact h6) q1 q3 (by rw [hsl]; exact k2_hasslot (q4 f hf)) rfl rfl hd fin
  · rw [if_neg hb] at hlay
    have h6 := u_store hfc hkC hkind hlay hi' (z_ty hK f hf) (hty ad).1 (hty ad).2
    exact W.putK C.1 C.2.1 (f := f') ⟨C.2.2.2.1, hts _ hlk, ⟨_, _, _, hi'⟩, hst⟩ (by rw [q2]; exact h6) q1 q3 (by rw [hsl]; exact k2_hasslot (q4 f hf)) rfl rfl hd fin
theorem z_u3_ne {α : Type} {f : Nat → Nat → Nat → α} {K i k : Nat} {v : α} {K' i' k' : Nat} (h : ¬ (K' = K ∧ i' = i)) : z_u3 f K i k v K' i' k' = f K' i' k' := if_neg (fun q => h ⟨q.1, q.2.1⟩)
theorem z_u3_k {α : Type} {f : Nat → Nat → Nat → α} {K i k : Nat} {v : α} {k' : Nat} : z_u3 f K i k v K i k' = if k' = k then v else f K i k' := by
  unfold z_u3
  by_cases h : k' = k
  · rw [if_pos h, if_pos ⟨rfl, rfl, h⟩]
  · rw [if_neg h, if_neg (fun q => h q.2.2)]
theorem zs_putI (C : z_Cx p R s m args meth c G y cc nL d MC MS) {idx K f i : Nat} {x : Int32} (hd : decode cc pc = .ok (.putfield idx, 3)) (hK : z_obj K = true) (hf : f < kF K) (hlk : Cond.fieldLink y.cls idx (kT K f).1 (kT K f).2.1 (kT K f).2.2.1 ∈ z_tbl)
    (hfin : (kT K f).2.2.2 = true → y.name = "<init>" ∧ (kT K f).1 = y.cls) (hty : kY K f = .int ∨ (kY K f = .boolean ∧ (x = 0 ∨ x = 1)))
    (k : z_At p l e R s m args below meth c G ad0 h0 nL Qs (pc + 3) ls st (sI h K i f x) ce sl) : z_At p l e R s m args below meth c G ad0 h0 nL Qs pc ls (z_i x :: z_r K i :: st) h ce sl := by
  have hcode : z_fc (kY K f) = 0 ∨ z_fc (kY K f) = 3 := by
    rcases hty with q | ⟨q, -⟩ <;> rw [q]
    · exact Or.inl rfl
    · exact Or.inr rfl
  refine zs_putg C (v := z_i x) (h' := sI h K i f x) hd hK hf hlk hfin (fun ad => ?_) rfl rfl (fun _ _ _ q => z_u3_ne q) (fun _ _ _ _ => rfl) (fun _ _ _ _ => rfl) (fun k hk => ?_) (fun k q hq => Or.inl hq) k
  · rcases hty with q | ⟨q, q2⟩
    · rw [q]; exact ⟨rfl, rfl⟩
    · rw [q]
      rcases q2 with rfl | rfl <;> exact ⟨rfl, rfl⟩
  · unfold z_fv
    rw [show hI (sI h K i f x) K i k = z_u3 (hI h) K i f x K i k from rfl, z_u3_k]
    by_cases e : k = f
    · subst e
      rw [if_pos rfl, if_pos rfl]
      rcases hcode with q | q <;> (rw [q]; rfl)
    · rw [if_neg e, if_neg e]
      rfl
theorem zs_putL (C : z_Cx p R s m args meth c G y cc nL d MC MS) {idx K f i : Nat} {x : Int64} (hd : decode cc pc = .ok (.putfield idx, 3)) (hK : z_obj K = true) (hf : f < kF K) (hlk : Cond.fieldLink y.cls idx (kT K f).1 (kT K f).2.1 (kT K f).2.2.1 ∈ z_tbl)
    (hfin : (kT K f).2.2.2 = true → y.name = "<init>" ∧ (kT K f).1 = y.cls) (hty : kY K f = .long)
    (k : z_At p l e R s m args below meth c G ad0 h0 nL Qs (pc + 3) ls st (sL h K i f x) ce sl) : z_At p l e R s m args below meth c G ad0 h0 nL Qs pc ls (z_l x :: z_r K i :: st) h ce sl := by
  refine zs_putg C (v := z_l x) (h' := sL h K i f x) hd hK hf hlk hfin (fun ad => ?_) rfl rfl (fun _ _ _ _ => rfl) (fun _ _ _ q => z_u3_ne q) (fun _ _ _ _ => rfl) (fun k hk => ?_) (fun k q hq => Or.inl hq) k
  · rw [hty]; exact ⟨rfl, rfl⟩
  · unfold z_fv
    rw [show hL (sL h K i f x) K i k = z_u3 (hL h) K i f x K i k from rfl, z_u3_k]
    by_cases e : k = f
    · subst e
      rw [if_pos rfl, if_pos rfl, hty]
      rfl
    · rw [if_neg e, if_neg e]
      rfl
theorem zs_putR (C : z_Cx p R s m args meth c G y cc nL d MC MS) {idx K f i : Nat} {x : Option (Nat × Nat)} (hd : decode cc pc = .ok (.putfield idx, 3)) (hK : z_obj K = true) (hf : f < kF K) (hlk : Cond.fieldLink y.cls idx (kT K f).1 (kT K f).2.1 (kT K f).2.2.1 ∈ z_tbl)
    (hfin : (kT K f).2.2.2 = true → y.name = "<init>" ∧ (kT K f).1 = y.cls) (hty : z_fc (kY K f) = 2)
    (k : z_At p l e R s m args below meth c G ad0 h0 nL Qs (pc + 3) ls st (sR h K i f x) ce sl) : z_At p l e R s m args below meth c G ad0 h0 nL Qs pc ls (z_q x :: z_r K i :: st) h ce sl := by
  refine zs_putg C (v := z_q x) (h' := sR h K i f x) hd hK hf hlk hfin (fun ad => ?_) rfl rfl (fun _ _ _ _ => rfl) (fun _ _ _ _ => rfl) (fun _ _ _ q => z_u3_ne q) (fun k hk => ?_) (fun k q hq => ?_) k
  · have : (∃ n, kY K f = .object n) ∨ ∃ t, kY K f = .array t := by
      revert hty
      cases kY K f <;> intro hty <;> first | (exact absurd hty (by decide)) | exact Or.inl ⟨_, rfl⟩ | exact Or.inr ⟨_, rfl⟩
    rcases this with ⟨n, q⟩ | ⟨t, q⟩ <;> rw [q] <;> cases x <;> exact ⟨rfl, rfl⟩
  · unfold z_fv
    rw [show hR (sR h K i f x) K i k = z_u3 (hR h) K i f x K i k from rfl, z_u3_k]
    by_cases e : k = f
    · subst e
      rw [if_pos rfl, if_pos rfl, hty]
      rfl
    · rw [if_neg e, if_neg e]
      rfl
  · rw [show hR (sR h K i f x) K i k = z_u3 (hR h) K i f x K i k from rfl, z_u3_k] at hq
    by_cases e : k = f
    · rw [if_pos e] at hq
      exact Or.inr (by rw [hq])
    · rw [if_neg e] at hq
      exact Or.inl hq
theorem zs_new (C : z_Cx p R s m args meth c G y cc nL d MC MS) {idx K : Nat} (hd : decode cc pc = .ok (.new idx, 3)) (hK : z_obj K = true) (h1 : Cond.classLink y.cls idx (kR K) ∈ z_tbl) (h2 : Cond.instantiable (kR K) (kF K) ∈ z_tbl) (h3 : Cond.initialized (kR K) ∈ z_tbl) (hc : ce + 1 ≤ MC) (hs : sl + kF K ≤ MS)
    (k : z_At p l e R s m args below meth c G ad0 h0 nL Qs (pc + 3) ls (z_r K (hN h K) :: st) (z_nw h K) (ce + 1) (sl + kF K)) : z_At p l e R s m args below meth c G ad0 h0 nL Qs pc ls st h ce sl := by
  intro ad H locs la hH hE hO hl0 hl
  have hts := C.2.2.2.2.2.1
  have hno := z_obj_no hK
  have hKn := C.2.2.2.2.2.2.1.1.1 K _ (z_cl hK)
  refine W.newcK C.1 C.2.1 C.2.2.2.1 (hts _ h1) (hts _ h2) (hts _ h3) rfl hd (by rw [C.2.2.2.2.2.2.2.2.2.1]; exact hc) (by rw [C.2.2.2.2.2.2.2.2.2.2]; exact hs) hKn.2.1 rfl fun H1 kC hkC e1 z1 o1 => ?_
  have ads : z_u2 ad K (hN h K) H.size K (hN h K) = H.size := if_pos ⟨rfl, rfl⟩
  obtain ⟨hH', hE'⟩ := hH.new hno.2.2.2.2 hno.2.2.2.1 z1 o1 ⟨fun _ => (by
    rw [ads]
    refine (u_born (kY K) hts (z_in hK) hKn hkC e1 (z_ty hK)).to (fun j hj => ?_)
    rw [z_dflt (z_fc4 K hno.2.2.1 j hj)]
    unfold z_fv
    have w1 : hI (z_nw h K) K (hN h K) j = 0 := if_pos ⟨rfl, rfl⟩
    have w2 : hL (z_nw h K) K (hN h K) j = 0 := if_pos ⟨rfl, rfl⟩
    have w3 : hR (z_nw h K) K (hN h K) j = none := if_pos ⟨rfl, rfl⟩
    rw [w1, w2, w3]
    generalize z_fc (kY K j) = q
    rcases q with _ | _ | _ | q <;> rfl), fun q => absurd hno.1 q, fun q => (by rw [hno.2.1] at q; cases q)⟩
  have hO' : z_OK (z_nw h K) ls (z_r K (hN h K) :: st) := (hO.mono hE'.1).push ⟨by show hN h K < z_u1 h.1 K (h.1 K + 1) K; unfold z_u1; rw [if_pos rfl]; exact Nat.lt_succ_self _, hno.2.2.2.2⟩
  have hk := k _ H1 locs la hH' (hE.tr hE') hO' hl0 (by rw [z_lm_ex hE' hO]; exact hl)
  rw [List.map_cons, z_sm_ex hE' hO] at hk
  show W p l e R s m args below meth c H1 locs (ce + 1) (sl + kF K) Qs (F0 m (pc + 3) la (Value.ref H.size :: st.map (z_val ad)))
  have e : z_val (z_u2 ad K (hN h K) H.size) (z_r K (hN h K)) = Value.ref H.size := congrArg Value.ref ads
  rw [e] at hk
  exact hk
theorem zs_newarray (C : z_Cx p R s m args meth c G y cc nL d MC MS) {t : ArrayType} {K : Nat} {n : Int32} (hd : decode cc pc = .ok (.newarray t, 2)) (hK : aLen K ≠ 0) (ht : newarray.typeOf t = aTy (aCod K)) (h1 : Cond.arrayClass (newarray.typeOf t) ∈ z_tbl) (hn : n = nI (aLen K)) (hc : ce + 1 ≤ MC) (hs : sl + aLen K ≤ MS)
    (k : z_At p l e R s m args below meth c G ad0 h0 nL Qs (pc + 2) ls (z_r K (hN h K) :: st) (z_nw h K) (ce + 1) (sl + aLen K)) : z_At p l e R s m args below meth c G ad0 h0 nL Qs pc ls (z_i n :: st) h ce sl := by
  intro ad H locs la hH hE hO hl0 hl
  have hts := C.2.2.2.2.2.1
  have hno := z_arr_no hK
  have hlen : aLen K ≤ 2000 := by unfold aLen; split <;> decide
  have hcl : n.toNatClampNeg = aLen K := by rw [hn]; exact nI_clamp (by omega)
  refine W.newa C.1 C.2.1 (hts _ h1) rfl hd rfl (by rw [hn]; exact nI_pos (by omega)) ?_ (by rw [C.2.2.2.2.2.2.2.2.2.1]; exact hc) (by rw [C.2.2.2.2.2.2.2.2.2.2, hcl]; exact hs) fun cA kA comp g1 g2 g3 => ?_
  · rw [hcl]
    have : componentBytes (newarray.typeOf t) ≤ 8 := by cases t <;> decide
    calc aLen K * componentBytes (newarray.typeOf t) ≤ 2000 * 8 := Nat.mul_le_mul hlen this
      _ ≤ 536870912 := by decide
  · rw [ht] at g1
    have hcA : cA = gA G (aCod K) := Option.some.inj (g1.symm.trans (z_arrT C.2.2.2.2.2.2.1 (z_aCod3 K)).2)
    have ads : z_u2 ad K (hN h K) H.size K (hN h K) = H.size := if_pos ⟨rfl, rfl⟩
    rw [hcl, hcA, arrV_new, ht]
    obtain ⟨hH', hE'⟩ := hH.new (H' := H.push (arrV (gA G (aCod K)) (aLen K) (fun _ => defaultValue (aTy (aCod K))))) hno.2.2.2 hno.2.2.1 (by simp) (fun q hq => by rw [Array.getElem?_push, if_neg (Nat.ne_of_lt hq)]) ⟨fun q => (by rw [hno.1] at q; cases q), fun _ => (by
      rw [ads]
      have e1 : (fun _ : Nat => defaultValue (aTy (aCod K))) = aVal (z_nw h K) K (hN h K) := by
        funext j
        unfold aVal
        have w1 : hI (z_nw h K) K (hN h K) j = 0 := if_pos ⟨rfl, rfl⟩
        have w2 : hL (z_nw h K) K (hN h K) j = 0 := if_pos ⟨rfl, rfl⟩
        rw [w1, w2]
        rcases z_aCod3 K with q | q | q <;> rw [q] <;> rfl
      rw [← e1]
      simp), fun q => (by rw [hno.2.1] at q; cases q)⟩
    have hO' : z_OK (z_nw h K) ls (z_r K (hN h K) :: st) := (hO.pop.mono hE'.1).push ⟨by show hN h K < z_u1 h.1 K (h.1 K + 1) K; unfold z_u1; rw [if_pos rfl]; exact Nat.lt_succ_self _, hno.2.2.2⟩
    have hk := k _ _ locs la hH' (hE.tr hE') hO' hl0 (by rw [z_lm_ex hE' hO]; exact hl)
    rw [List.map_cons, z_sm_ex hE' hO.pop] at hk
    have e : z_val (z_u2 ad K (hN h K) H.size) (z_r K (hN h K)) = Value.ref H.size := congrArg Value.ref ads
    rw [e] at hk
    exact hk
theorem zs_iaload (C : z_Cx p R s m args meth c G y cc nL d MC MS) {K i : Nat} {j : Int32} (hd : decode cc pc = .ok (.iaload, 1)) (hc : aCod K = 0) (hj : vp_in j (aLen K))
    (k : z_At p l e R s m args below meth c G ad0 h0 nL Qs (pc + 1) ls (z_i (hI h K i j.toNatClampNeg) :: st) h ce sl) : z_At p l e R s m args below meth c G ad0 h0 nL Qs pc ls (z_i j :: z_r K i :: st) h ce sl := by
  intro ad H locs la hH hE hO hl0 hl
  have hi := hO.pop.top
  have hjl : j.toNatClampNeg < aLen K := Nat.lt_of_not_le (fun q => hj (Or.inr q))
  have h1 := (hH.2.2.2.2.1 K i hi.2 hi.1).2.1 (by omega)
  have hT := (z_arrT C.2.2.2.2.2.2.1 (z_aCod3 K)).1
  have e : aVal h K i j.toNatClampNeg = .int (hI h K i j.toNatClampNeg) := by unfold aVal; rw [if_neg (by rw [hc]; decide)]
  exact W.iald C.1 C.2.1 h1 (by have := hT (aLen K) (aVal h K i); rw [show aTy (aCod K) = .int by rw [hc]; rfl] at this; exact this) (fun q => by cases q) (by rw [arrV_size]; exact hj) (by rw [arrV_read _ _ hjl, e]; rfl) rfl rfl hd (k ad H locs la hH hE (hO.pop.pop.push trivial) hl0 hl)
theorem zs_baload (C : z_Cx p R s m args meth c G y cc nL d MC MS) {K i : Nat} {j : Int32} (hd : decode cc pc = .ok (.baload, 1)) (hc : aCod K = 2) (hj : vp_in j (aLen K))
    (k : z_At p l e R s m args below meth c G ad0 h0 nL Qs (pc + 1) ls (z_i (hI h K i j.toNatClampNeg) :: st) h ce sl) : z_At p l e R s m args below meth c G ad0 h0 nL Qs pc ls (z_i j :: z_r K i :: st) h ce sl := by
  intro ad H locs la hH hE hO hl0 hl
  have hi := hO.pop.top
  have hjl : j.toNatClampNeg < aLen K := Nat.lt_of_not_le (fun q => hj (Or.inr q))
  have h1 := (hH.2.2.2.2.1 K i hi.2 hi.1).2.1 (by omega)
  have hT := (z_arrT C.2.2.2.2.2.2.1 (z_aCod3 K)).1
  have e : aVal h K i j.toNatClampNeg = .int (hI h K i j.toNatClampNeg) := by unfold aVal; rw [if_neg (by rw [hc]; decide)]
  exact W.zald C.1 C.2.1 h1 (by have := hT (aLen K) (aVal h K i); rw [show aTy (aCod K) = .boolean by rw [hc]; rfl] at this; exact this) (fun q => by cases q) (by rw [arrV_size]; exact hj) (by rw [arrV_read _ _ hjl, e]; rfl) rfl rfl hd (k ad H locs la hH hE (hO.pop.pop.push trivial) hl0 hl)
theorem zs_laload (C : z_Cx p R s m args meth c G y cc nL d MC MS) {K i : Nat} {j : Int32} (hd : decode cc pc = .ok (.laload, 1)) (hc : aCod K = 1) (hj : vp_in j (aLen K))
    (k : z_At p l e R s m args below meth c G ad0 h0 nL Qs (pc + 1) ls (z_l (hL h K i j.toNatClampNeg) :: st) h ce sl) : z_At p l e R s m args below meth c G ad0 h0 nL Qs pc ls (z_i j :: z_r K i :: st) h ce sl := by
  intro ad H locs la hH hE hO hl0 hl
  have hi := hO.pop.top
  have hjl : j.toNatClampNeg < aLen K := Nat.lt_of_not_le (fun q => hj (Or.inr q))
  have h1 := (hH.2.2.2.2.1 K i hi.2 hi.1).2.1 (by omega)
  have hT := (z_arrT C.2.2.2.2.2.2.1 (z_aCod3 K)).1
  have e : aVal h K i j.toNatClampNeg = .long (hL h K i j.toNatClampNeg) := by unfold aVal; rw [if_pos hc]
  exact W.lald C.1 C.2.1 h1 (by have := hT (aLen K) (aVal h K i); rw [show aTy (aCod K) = .long by rw [hc]; rfl] at this; exact this) (fun q => by cases q) (by rw [arrV_size]; exact hj) (by rw [arrV_read _ _ hjl, e]; rfl) rfl rfl hd (k ad H locs la hH hE (hO.pop.pop.push trivial) hl0 hl)
theorem z_HR.arr {G : z_G} {ad : Nat → Nat → Nat} {h h' : z_H} {U : State} {H H' : Heap} (hH : z_HR G ad h U H) {K i : Nat} (hK : aLen K ≠ 0) (hi : i < hN h K) {j : Nat} {x : Value} (e1 : H'[ad K i]? = some ((arrV (gA G (aCod K)) (aLen K) (aVal h K i)).setSlot j x)) (hsz : H'.size = H.size) (ho : ∀ q : Nat, q ≠ ad K i → H'[q]? = H[q]?)
    (hn : hN h' = hN h) (hz : hZ h' = hZ h) (f1 : ∀ K' i' k, ¬ (K' = K ∧ i' = i) → hI h' K' i' k = hI h K' i' k) (f2 : ∀ K' i' k, ¬ (K' = K ∧ i' = i) → hL h' K' i' k = hL h K' i' k) (f3 : hR h' = hR h) (hv : aVal h' K i = updV (aVal h K i) j x) : z_HR G ad h' U H' := by
  have hno := z_arr_no hK
  refine hH.set hno.2.2.2 hno.2.2.1 hi hsz ho hn hz f1 f2 (fun _ _ _ _ => by rw [f3]) ⟨fun q => (by rw [hno.1] at q; cases q), fun _ => ?_, fun q => (by rw [hno.2.1] at q; cases q)⟩ (fun k q hq => hH.2.2.2.2.2 K i k q hno.2.2.2 hi (by rw [← f3]; exact hq))
  rw [e1, arrV_store, hv]
theorem z_mem_locs {G : z_G} {locs : List Loc} {a j : Nat} (hl0 : ∀ x ∈ locs, gB G ≤ x.base) (ha : gB G ≤ a) : ∀ x ∈ locs ++ [(⟨a, j⟩ : Loc)], gB G ≤ x.base := by
  intro x hx
  rcases List.mem_append.mp hx with hx | hx
  · exact hl0 x hx
  · rw [List.mem_singleton.mp hx]
    exact ha
theorem zs_iastore (C : z_Cx p R s m args meth c G y cc nL d MC MS) {K i : Nat} {j x : Int32} (hd : decode cc pc = .ok (.iastore, 1)) (hc : aCod K = 0) (hj : vp_in j (aLen K))
    (k : z_At p l e R s m args below meth c G ad0 h0 nL Qs (pc + 1) ls st (sI h K i j.toNatClampNeg x) ce sl) : z_At p l e R s m args below meth c G ad0 h0 nL Qs pc ls (z_i x :: z_i j :: z_r K i :: st) h ce sl := by
  intro ad H locs la hH hE hO hl0 hl
  have hi := hO.pop.pop.top
  have hjl : j.toNatClampNeg < aLen K := Nat.lt_of_not_le (fun q => hj (Or.inr q))
  have hK : aLen K ≠ 0 := by omega
  have hno := z_arr_no hK
  have h1 := (hH.2.2.2.2.1 K i hi.2 hi.1).2.1 hK
  have hT := (z_arrT C.2.2.2.2.2.2.1 (z_aCod3 K)).1
  refine W.iast C.1 C.2.1 h1 (by have := hT (aLen K) (aVal h K i); rw [show aTy (aCod K) = .int by rw [hc]; rfl] at this; exact this) (fun q => by cases q) (by rw [arrV_size]; exact hj) rfl rfl hd fun H' e1 e2 e3 => ?_
  refine k ad H' _ la (hH.arr hK hi.1 e1 e2 e3 rfl rfl (fun _ _ _ q => z_u3_ne q) (fun _ _ _ _ => rfl) rfl ?_) hE hO.pop.pop.pop (z_mem_locs hl0 (hH.2.2.1 K i (z_live_of hi.2 hno.2.2.1 hi.1)).1) hl
  funext q
  have hc1 : aCod K ≠ 1 := by rw [hc]; decide
  unfold updV
  rw [aVal_i hc1, aVal_i hc1, show hI (sI h K i j.toNatClampNeg x) K i q = z_u3 (hI h) K i j.toNatClampNeg x K i q from rfl, z_u3_k]
  split <;> rfl
theorem zs_bastore (C : z_Cx p R s m args meth c G y cc nL d MC MS) {K i : Nat} {j x : Int32} (hd : decode cc pc = .ok (.bastore, 1)) (hc : aCod K = 2) (hj : vp_in j (aLen K)) (hx : x = 0 ∨ x = 1)
    (k : z_At p l e R s m args below meth c G ad0 h0 nL Qs (pc + 1) ls st (sI h K i j.toNatClampNeg x) ce sl) : z_At p l e R s m args below meth c G ad0 h0 nL Qs pc ls (z_i x :: z_i j :: z_r K i :: st) h ce sl := by
  intro ad H locs la hH hE hO hl0 hl
  have hi := hO.pop.pop.top
  have hjl : j.toNatClampNeg < aLen K := Nat.lt_of_not_le (fun q => hj (Or.inr q))
  have hK : aLen K ≠ 0 := by omega
  have hno := z_arr_no hK
  have h1 := (hH.2.2.2.2.1 K i hi.2 hi.1).2.1 hK
  have hT := (z_arrT C.2.2.2.2.2.2.1 (z_aCod3 K)).1
  refine W.zast C.1 C.2.1 h1 (by have := hT (aLen K) (aVal h K i); rw [show aTy (aCod K) = .boolean by rw [hc]; rfl] at this; exact this) (fun q => by cases q) (by rw [arrV_size]; exact hj) rfl rfl hd fun H' e1 e2 e3 => ?_
  refine k ad H' _ la (hH.arr hK hi.1 e1 e2 e3 rfl rfl (fun _ _ _ q => z_u3_ne q) (fun _ _ _ _ => rfl) rfl ?_) hE hO.pop.pop.pop (z_mem_locs hl0 (hH.2.2.1 K i (z_live_of hi.2 hno.2.2.1 hi.1)).1) hl
  funext q
  have hc1 : aCod K ≠ 1 := by rw [hc]; decide
  unfold updV
  rw [aVal_i hc1, aVal_i hc1, show hI (sI h K i j.toNatClampNeg x) K i q = z_u3 (hI h) K i j.toNatClampNeg x K i q from rfl, z_u3_k]
  split
  · rcases hx with rfl | rfl <;> rfl
  · rfl
theorem zs_lastore (C : z_Cx p R s m args meth c G y cc nL d MC MS) {K i : Nat} {j : Int32} {x : Int64} (hd : decode cc pc = .ok (.lastore, 1)) (hc : aCod K = 1) (hj : vp_in j (aLen K))
    (k : z_At p l e R s m args below meth c G ad0 h0 nL Qs (pc + 1) ls st (sL h K i j.toNatClampNeg x) ce sl) : z_At p l e R s m args below meth c G ad0 h0 nL Qs pc ls (z_l x :: z_i j :: z_r K i :: st) h ce sl := by
  intro ad H locs la hH hE hO hl0 hl
  have hi := hO.pop.pop.top
  have hjl : j.toNatClampNeg < aLen K := Nat.lt_of_not_le (fun q => hj (Or.inr q))
  have hK : aLen K ≠ 0 := by omega
  have hno := z_arr_no hK
  have h1 := (hH.2.2.2.2.1 K i hi.2 hi.1).2.1 hK
  have hT := (z_arrT C.2.2.2.2.2.2.1 (z_aCod3 K)).1
  refine W.last C.1 C.2.1 h1 (by have := hT (aLen K) (aVal h K i); rw [show aTy (aCod K) = .long by rw [hc]; rfl] at this; exact this) (fun q => by cases q) (by rw [arrV_size]; exact hj) rfl rfl hd fun H' e1 e2 e3 => ?_
  refine k ad H' _ la (hH.arr hK hi.1 e1 e2 e3 rfl rfl (fun _ _ _ _ => rfl) (fun _ _ _ q => z_u3_ne q) rfl ?_) hE hO.pop.pop.pop (z_mem_locs hl0 (hH.2.2.1 K i (z_live_of hi.2 hno.2.2.1 hi.1)).1) hl
  funext q
  unfold updV
  rw [aVal_l hc, aVal_l hc, show hL (sL h K i j.toNatClampNeg x) K i q = z_u3 (hL h) K i j.toNatClampNeg x K i q from rfl, z_u3_k]
  split <;> rfl
/-- the script -/
theorem zs_slen (C : z_Cx p R s m args meth c G y cc nL d MC MS) (hd : decode cc pc = .ok (.arraylength, 1)) (k : z_At p l e R s m args below meth c G ad0 h0 nL Qs (pc + 1) ls (z_i (nI (gL G)) :: st) h ce sl) : z_At p l e R s m args below meth c G ad0 h0 nL Qs pc ls (z_r 400 0 :: st) h ce sl := by
  intro ad H locs la hH hE hO hl0 hl
  obtain ⟨scr, a1, a2, a3, a4, a5⟩ := hH.1.2.2.1
  refine W.alen C.1 C.2.1 (a := ad 400 0) (by rw [hH.2.1]; exact a1) a2 (n := nI (gL G)) (by rw [a4]; rfl) rfl rfl hd (k ad H locs la hH hE (hO.pop.push trivial) hl0 hl)
theorem zs_sld (C : z_Cx p R s m args meth c G y cc nL d MC MS) {j : Int32} (hd : decode cc pc = .ok (.iaload, 1)) (hj : vp_in j (gL G)) (k : z_At p l e R s m args below meth c G ad0 h0 nL Qs (pc + 1) ls (z_i (gV G j.toNatClampNeg) :: st) h ce sl) : z_At p l e R s m args below meth c G ad0 h0 nL Qs pc ls (z_i j :: z_r 400 0 :: st) h ce sl := by
  intro ad H locs la hH hE hO hl0 hl
  obtain ⟨scr, a1, a2, a3, a4, a5⟩ := hH.1.2.2.1
  have hjl : j.toNatClampNeg < gL G := Nat.lt_of_not_le (fun q => hj (Or.inr q))
  exact W.iald C.1 C.2.1 (a := ad 400 0) (by rw [hH.2.1]; exact a1) a2 a3 (by rw [a4]; exact hj) (a5 _ hjl) rfl rfl hd (k ad H locs la hH hE (hO.pop.pop.push trivial) hl0 hl)
theorem zs_checkcast (C : z_Cx p R s m args meth c G y cc nL d MC MS) {idx K i : Nat} (hd : decode cc pc = .ok (.checkcast idx, 3)) (hK : z_obj K = true) (h1 : Cond.classLink y.cls idx (kR K) ∈ z_tbl) (k : z_At p l e R s m args below meth c G ad0 h0 nL Qs (pc + 3) ls (z_r K i :: st) h ce sl) : z_At p l e R s m args below meth c G ad0 h0 nL Qs pc ls (z_r K i :: st) h ce sl := by
  intro ad H locs la hH hE hO hl0 hl
  have hi := hO.top
  obtain ⟨cell, q1, q2, q3, q4⟩ := (hH.2.2.2.2.1 K i hi.2 hi.1).1 hK
  have hKn := C.2.2.2.2.2.2.1.1.1 K _ (z_cl hK)
  exact va_castS C.1 C.2.1 C.2.2.2.1 (C.2.2.2.2.2.1 _ h1) hKn.2 ⟨cell, q1, by rw [q3]; rfl, by rw [q2]; exact hKn.2.1⟩ hd (k ad H locs la hH hE hO hl0 hl)
theorem zs_objInit (C : z_Cx p R s m args meth c G y cc nL d MC MS) {idx K i : Nat} (hd : decode cc pc = .ok (.invokespecial idx, 3)) (h1 : Cond.methodLink y.cls idx Lib.objectInit ∈ z_tbl) (h2 : Cond.instanceMethod Lib.objectInit ∈ z_tbl) (h3 : Cond.code Lib.objectInit ⟨#[0xb1]⟩ 1 none ∈ z_tbl) (hd1 : 1 ≤ d) (hw : z_w st ≤ 8)
    (k : z_At p l e R s m args below meth c G ad0 h0 nL Qs (pc + 3) ls st h ce sl) : z_At p l e R s m args below meth c G ad0 h0 nL Qs pc ls (z_r K i :: st) h ce sl := by
  intro ad H locs la hH hE hO hl0 hl
  have hts := C.2.2.2.2.2.1
  refine W.objInit C.1 C.2.1 C.2.2.2.1 (hts _ h1) (hts _ h2) (hts _ h3) rfl (by rw [C.2.2.1]; exact hl.1) rfl hd (by rw [C.2.2.2.2.2.2.2.1]; exact hd1) ?_ (k ad H locs la hH hE hO.pop hl0 hl)
  rw [z_w_eq]
  have := C.2.2.2.2.2.2.2.2.1
  show 2 * 0 + z_w st + 12 ≤ R.locals
  omega
/-! returns -/
theorem z_end {G : z_G} {ad : Nat → Nat → Nat} {h : z_H} {s t : State} {H : Heap} (hK : z_KN G s) (hH : z_HR G ad h s H) (ht : t.heap = H) (hW : s.WarmedH t.vm) : z_RP G ad h t := ⟨hK.moved hW.alike, by rw [ht]; exact hH.moved hW.alike⟩
variable {Q : Option z_V → z_H → Prop}
theorem zs_ireturn (C : z_Cx p R s m args meth c G y cc nL d MC MS) {ty : FieldType} {x : Int32} (hlk : meth.locks = false) (hd : decode cc pc = .ok (.ireturn, 1)) (hr : meth.sig.returnType = some ty) (hx : ty = .int ∨ (ty = .boolean ∧ (x = 0 ∨ x = 1))) (hc : ce ≤ MC) (hs : sl ≤ MS) (hq : Q (some (z_i x)) h) : z_At p l e R s m args below meth c G ad0 h0 nL (MQ below (z_Qc G ad0 h0 Q) args s MC MS (z_A G)) pc ls [z_i x] h ce sl := by
  intro ad H locs la hH hE hO hl0 hl
  have hn : narrow ty (.int x) = .int x := by
    rcases hx with rfl | ⟨rfl, rfl | rfl⟩ <;> rfl
  refine W.widen hc hs ?_
  exact W.zret C.1 C.2.1 hr hn (fun t ht hW => ⟨ad, some (z_i x), h, rfl, z_end C.2.2.2.2.2.2.1 hH ht hW, hE, fun v hv => (by cases hv; trivial), hq⟩) hl0 hd hlk
theorem zs_lreturn (C : z_Cx p R s m args meth c G y cc nL d MC MS) {x : Int64} (hlk : meth.locks = false) (hd : decode cc pc = .ok (.lreturn, 1)) (hr : meth.sig.returnType = some .long) (hc : ce ≤ MC) (hs : sl ≤ MS) (hq : Q (some (z_l x)) h) : z_At p l e R s m args below meth c G ad0 h0 nL (MQ below (z_Qc G ad0 h0 Q) args s MC MS (z_A G)) pc ls [z_l x] h ce sl := by
  intro ad H locs la hH hE hO hl0 hl
  refine W.widen hc hs ?_
  exact W.lret C.1 C.2.1 hr (fun t ht hW => ⟨ad, some (z_l x), h, rfl, z_end C.2.2.2.2.2.2.1 hH ht hW, hE, fun v hv => (by cases hv; trivial), hq⟩) hl0 hd hlk
theorem zs_areturn (C : z_Cx p R s m args meth c G y cc nL d MC MS) {ty : FieldType} {x : Option (Nat × Nat)} (hlk : meth.locks = false) (hd : decode cc pc = .ok (.areturn, 1)) (hr : meth.sig.returnType = some ty) (hty : (∃ n, ty = .object n) ∨ ∃ t, ty = .array t) (hc : ce ≤ MC) (hs : sl ≤ MS) (hq : Q (some (z_q x)) h) : z_At p l e R s m args below meth c G ad0 h0 nL (MQ below (z_Qc G ad0 h0 Q) args s MC MS (z_A G)) pc ls [z_q x] h ce sl := by
  intro ad H locs la hH hE hO hl0 hl
  refine W.widen hc hs ?_
  have hv : z_val ad (z_q x) = .null ∨ ∃ a, z_val ad (z_q x) = .ref a := by
    cases x with
    | none => exact Or.inl rfl
    | some q => exact Or.inr ⟨_, rfl⟩
  exact W.aret C.1 C.2.1 hr hty hv (fun t ht hW => ⟨ad, some (z_q x), h, rfl, z_end C.2.2.2.2.2.2.1 hH ht hW, hE, fun v hv => (by cases hv; exact hO.top), hq⟩) hl0 hd hlk
theorem zs_return (C : z_Cx p R s m args meth c G y cc nL d MC MS) (hlk : meth.locks = false) (hd : decode cc pc = .ok (.return_, 1)) (hr : meth.sig.returnType = none) (hc : ce ≤ MC) (hs : sl ≤ MS) (hq : Q none h) : z_At p l e R s m args below meth c G ad0 h0 nL (MQ below (z_Qc G ad0 h0 Q) args s MC MS (z_A G)) pc ls [] h ce sl := by
  intro ad H locs la hH hE hO hl0 hl
  refine W.widen hc hs ?_
  exact W.vret C.1 C.2.1 hr (fun t ht hW => ⟨ad, none, h, rfl, z_end C.2.2.2.2.2.2.1 hH ht hW, hE, fun v hv => (by cases hv), hq⟩) hl0 hd hlk
end ZC
