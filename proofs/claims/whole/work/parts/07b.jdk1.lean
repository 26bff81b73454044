/-! ArrayList's and Integer's reads, constructors -/
section JD
variable (l : Launch) (G : z_G) (d : Nat)
theorem jd_ci3 {i n : Int32} (h1 : ¬ i < 0) (h2 : i < n) : z_RM l G d yJ3_checkIndex_8e157 cJ3_checkIndex_8e157 3 (some .int) [.int i, .int n, .null] 0 0 (fun _ _ => True) (fun H r H' => r = some (.int i) ∧ H' = H) := by
  refine zj_meth (by decide) (Nat.le_of_ble_eq_true rfl) (fun p e s m below meth c la C hlk hr hold _ hl => ?_)
  have hl : lv_has la 3 [(0, .int i), (1, .int n), (2, .null)] := hl
  refine lv_iload_n C.1 C.2.1 dJ3_checkIndex_8e157_0 rfl (lv_at hl 0 rfl) ?_
  refine lv_if_lt (tgt := 9) C.1 C.2.1 dJ3_checkIndex_8e157_1 (by decide) (fun q => absurd q h1) (fun _ => ?_)
  refine lv_iload_n C.1 C.2.1 dJ3_checkIndex_8e157_4 rfl (lv_at hl 0 rfl) ?_
  refine lv_iload_n C.1 C.2.1 dJ3_checkIndex_8e157_5 rfl (lv_at hl 1 rfl) ?_
  refine lv_icmp_lt (tgt := 16) C.1 C.2.1 dJ3_checkIndex_8e157_6 (by decide) (fun _ => ?_) (fun q => absurd h2 q)
  refine lv_iload_n C.1 C.2.1 dJ3_checkIndex_8e157_16 rfl (lv_at hl 0 rfl) ?_
  exact zj_iret C hlk hr dJ3_checkIndex_8e157_17 (fun _ h => by cases h) (Nat.le_refl _) (Nat.le_refl _) ⟨rfl, rfl⟩
theorem jd_ci15 (hd : 1 ≤ d) {i n : Int32} (h1 : ¬ i < 0) (h2 : i < n) : z_RM l G d yJ15_checkIndex_7cf53 cJ15_checkIndex_7cf53 2 (some .int) [.int i, .int n] 0 0 (fun _ _ => True) (fun H r H' => r = some (.int i) ∧ H' = H) := by
  refine zj_meth (by decide) (Nat.le_of_ble_eq_true rfl) (fun p e s m below meth c la C hlk hr hold _ hl => ?_)
  have hl : lv_has la 2 [(0, .int i), (1, .int n)] := hl
  refine lv_iload_n C.1 C.2.1 dJ15_checkIndex_7cf53_0 rfl (lv_at hl 0 rfl) ?_
  refine lv_iload_n C.1 C.2.1 dJ15_checkIndex_7cf53_1 rfl (lv_at hl 1 rfl) ?_
  refine lv_null C.1 C.2.1 dJ15_checkIndex_7cf53_2 ?_
  refine zj_callS (av := [.int i, .int n, .null]) C lk_J15_105 (jd_ci3 l G (d - 1) h1 h2) hd hold (fun _ _ => trivial) hl.1 (rest := []) (by decide) dJ15_checkIndex_7cf53_3 (Nat.le_refl _) (Nat.le_refl _) (fun _ h => by cases h) rfl (fun r H' locs' hq hl0 => ?_)
  obtain ⟨rfl, rfl⟩ := hq
  exact zj_iret C hlk hr dJ15_checkIndex_7cf53_6 hl0 (Nat.le_refl _) (Nat.le_refl _) ⟨rfl, rfl⟩
theorem jd_size {a : Nat} {V : Nat → Value} {z : Int32} (hz : V 2 = .int z) : z_RM l G d yJx4a65c_size_8abf5 cJx4a65c_size_8abf5 1 (some .int) [.ref a] 0 0 (fun _ H => t_OB a (gC G 1) 3 (gI G 1) H V) (fun H r H' => r = some (.int z) ∧ H' = H) := by
  refine zj_meth (by decide) (Nat.le_of_ble_eq_true rfl) (fun p e s m below meth c la C hlk hr hold hP hl => ?_)
  have hl : lv_has la 1 [(0, .ref a)] := hl
  refine lv_aload_n C.1 C.2.1 dJx4a65c_size_8abf5_0 rfl (lv_at hl 0 rfl) ?_
  refine zj_get C hP (k := 2) (by decide) jf_Jx4a65c_48 (fun _ q => q) dJx4a65c_size_8abf5_1 ?_
  rw [hz]
  exact zj_iret C hlk hr dJx4a65c_size_8abf5_4 (fun _ h => by cases h) (Nat.le_refl _) (Nat.le_refl _) ⟨rfl, rfl⟩
theorem z_refArr {G : z_G} {U : State} (h : z_KN G U) : ArrOfT U (gA G 3) (.object "java/lang/Object") ∧ va_RA U (gA G 3) (.object "java/lang/Object") := h.1.2 3 _ rfl
theorem jd_ed {a ea cp : Nat} {V f : Nat → Value} {j : Int32} (hV : V 1 = .ref ea) (hj : vp_in j cp) (hf : f j.toNatClampNeg = .null ∨ ∃ q, f j.toNatClampNeg = .ref q) : z_RM l G d yJx4a65c_elementData_915e3 cJx4a65c_elementData_915e3 2 (some (.object "java/lang/Object")) [.ref a, .int j] 0 0 (fun _ H => t_OB a (gC G 1) 3 (gI G 1) H V ∧ H[ea]? = some (arrV (gA G 3) cp f)) (fun H r H' => r = some (f j.toNatClampNeg) ∧ H' = H) := by
  refine zj_meth (by decide) (Nat.le_of_ble_eq_true rfl) (fun p e s m below meth c la C hlk hr hold hP hl => ?_)
  have hl : lv_has la 2 [(0, .ref a), (1, .int j)] := hl
  refine lv_aload_n C.1 C.2.1 dJx4a65c_elementData_915e3_0 rfl (lv_at hl 0 rfl) ?_
  refine zj_get C hP.1 (k := 1) (by decide) jf_Jx4a65c_9 (fun _ q => q) dJx4a65c_elementData_915e3_1 ?_
  rw [hV]
  refine lv_iload_n C.1 C.2.1 dJx4a65c_elementData_915e3_4 rfl (lv_at hl 1 rfl) ?_
  have hlt : j.toNatClampNeg < cp := Nat.lt_of_not_le (fun q => hj (Or.inr q))
  refine W.aald C.1 C.2.1 hP.2 ((z_refArr C.2.2.2.2.2.2.1).1 cp f) rfl (fun q => by cases q) (by rw [arrV_size]; exact hj) (by rw [arrV_read _ _ hlt]) rfl rfl dJx4a65c_elementData_915e3_5 ?_
  exact zj_aret C hlk hr (Or.inl ⟨_, rfl⟩) hf dJx4a65c_elementData_915e3_6 (fun _ h => by cases h) (Nat.le_refl _) (Nat.le_refl _) ⟨rfl, rfl⟩
theorem z_lrecv {G : z_G} {U : State} {H : Heap} {a : Nat} {V : Nat → Value} (hK : z_KN G U) (h : t_OB a (gC G 1) 3 (gI G 1) H V) : ∃ cell : Cell, H[a]? = some cell ∧ cell.vm.isStatics = false ∧ U.vm.findClass RJx4a65c = some cell.cls := by
  obtain ⟨cell, q1, q2, q3, -⟩ := h
  exact ⟨cell, q1, by rw [q3]; rfl, by rw [q2]; exact (hK.1.1 1 _ rfl).2.1⟩
theorem jd_get (hd : 2 ≤ d) {a ea cp z : Nat} {V f : Nat → Value} {j : Int32} (hV : V 1 = .ref ea) (hV2 : V 2 = .int (nI z)) (hz : z < 2 ^ 31) (hj : vp_in j z) (hcp : z ≤ cp) (hf : f j.toNatClampNeg = .null ∨ ∃ q, f j.toNatClampNeg = .ref q) : z_RM l G d yJx4a65c_get_915e3 cJx4a65c_get_915e3 2 (some (.object "java/lang/Object")) [.ref a, .int j] 0 0 (fun _ H => t_OB a (gC G 1) 3 (gI G 1) H V ∧ H[ea]? = some (arrV (gA G 3) cp f)) (fun H r H' => r = some (f j.toNatClampNeg) ∧ H' = H) := by
  refine zj_meth (by decide) (Nat.le_of_ble_eq_true rfl) (fun p e s m below meth c la C hlk hr hold hP hl => ?_)
  have hl : lv_has la 2 [(0, .ref a), (1, .int j)] := hl
  have hj0 : ¬ j < 0 := fun q => hj (Or.inl q)
  have hjz : j.toNatClampNeg < z := Nat.lt_of_not_le (fun q => hj (Or.inr q))
  have hj1 : j < nI z := by
    obtain ⟨k, hk, rfl⟩ := nI_of hj0
    rw [nI_clamp hk] at hjz
    exact nI_lt hjz hz
  refine lv_iload_n C.1 C.2.1 dJx4a65c_get_915e3_0 rfl (lv_at hl 1 rfl) ?_
  refine lv_aload_n C.1 C.2.1 dJx4a65c_get_915e3_1 rfl (lv_at hl 0 rfl) ?_
  refine zj_get C hP.1 (k := 2) (by decide) jf_Jx4a65c_48 (fun _ q => q) dJx4a65c_get_915e3_2 ?_
  rw [hV2]
  refine zj_callS (av := [.int j, .int (nI z)]) C lk_Jx4a65c_118 (jd_ci15 l G (d - 1) (by omega) hj0 hj1) (by omega) hold (fun _ _ => trivial) hl.1 (rest := []) (by decide) dJx4a65c_get_915e3_5 (Nat.le_refl _) (Nat.le_refl _) (fun _ h => by cases h) rfl (fun r H' locs' hq hl0 => ?_)
  obtain ⟨rfl, rfl⟩ := hq
  refine lv_pop C.1 C.2.1 dJx4a65c_get_915e3_8 rfl ?_
  refine lv_aload_n C.1 C.2.1 dJx4a65c_get_915e3_9 rfl (lv_at hl 0 rfl) ?_
  refine lv_iload_n C.1 C.2.1 dJx4a65c_get_915e3_10 rfl (lv_at hl 1 rfl) ?_
  refine zj_callV (a := a) (av := [.int j]) C lk_Jx4a65c_123 (jd_ed l G (d - 1) (a := a) (V := V) hV (j := j) (f := f) (cp := cp) (fun q => q.elim hj0 (fun q => by omega)) hf) (by omega) hold (fun _ _ => hP) (z_lrecv C.2.2.2.2.2.2.1 hP.1) hl.1 (rest := []) (by decide) dJx4a65c_get_915e3_11 (Nat.le_refl _) (Nat.le_refl _) hl0 rfl (fun r H' locs' hq hl0 => ?_)
  obtain ⟨rfl, rfl⟩ := hq
  exact zj_aret C hlk hr (Or.inl ⟨_, rfl⟩) hf dJx4a65c_get_915e3_14 hl0 (Nat.le_refl _) (Nat.le_refl _) ⟨rfl, rfl⟩
/-! constructors -/
theorem jd_obj {p : Program} {e : Env} {R : Room} {s : State} {m : MethodId} {args : Array Value} {below : List Frame} {meth : Method} {c : Code} {nL : Nat} {Qs : State → Prop} {y : MethodName} {cc : ByteArray} {MC MS pc : Nat} {H : Heap} {locs : List Loc} {la : Array Slot} {ce sl idx a : Nat} {l : Launch} {G : z_G} {d : Nat}
    (C : z_Cx p R s m args meth c G y cc nL d MC MS) (hd1 : 1 ≤ d) (hlk : Cond.methodLink y.cls idx Lib.objectInit ∈ z_tbl) (hl : la.size = nL) (hd : decode cc pc = .ok (.invokespecial idx, 3)) (kk : W p l e R s m args below meth c H locs ce sl Qs (F0 m (pc + 3) la [])) : W p l e R s m args below meth c H locs ce sl Qs (F0 m pc la [.ref a]) := by
  have hts := C.2.2.2.2.2.1
  refine W.objInit C.1 C.2.1 C.2.2.2.1 (hts _ hlk) (hts _ z_obj_ok.1) (hts _ z_obj_ok.2) rfl (by rw [C.2.2.1]; exact hl) rfl hd (by rw [C.2.2.2.2.2.2.2.1]; exact hd1) ?_ kk
  have := C.2.2.2.2.2.2.2.2.1
  show 2 * 0 + 0 + 12 ≤ R.locals
  omega
theorem jd_acol (hd : 1 ≤ d) {a : Nat} : z_RM l G d yJxa1e45_init_da8c8 cJxa1e45_init_da8c8 1 none [.ref a] 0 0 (fun _ _ => True) (fun H r H' => r = none ∧ H' = H) := by
  refine zj_meth (by decide) (Nat.le_of_ble_eq_true rfl) (fun p e s m below meth c la C hlk hr hold _ hl => ?_)
  have hl : lv_has la 1 [(0, .ref a)] := hl
  refine lv_aload_n C.1 C.2.1 dJxa1e45_init_da8c8_0 rfl (lv_at hl 0 rfl) ?_
  refine jd_obj C hd jo_Jxa1e45 hl.1 dJxa1e45_init_da8c8_1 ?_
  exact zj_vret C hlk hr dJxa1e45_init_da8c8_4 (fun _ h => by cases h) (Nat.le_refl _) (Nat.le_refl _) ⟨rfl, rfl⟩
theorem jd_num (hd : 1 ≤ d) {a : Nat} : z_RM l G d yJxd2413_init_da8c8 cJxd2413_init_da8c8 1 none [.ref a] 0 0 (fun _ _ => True) (fun H r H' => r = none ∧ H' = H) := by
  refine zj_meth (by decide) (Nat.le_of_ble_eq_true rfl) (fun p e s m below meth c la C hlk hr hold _ hl => ?_)
  have hl : lv_has la 1 [(0, .ref a)] := hl
  refine lv_aload_n C.1 C.2.1 dJxd2413_init_da8c8_0 rfl (lv_at hl 0 rfl) ?_
  refine jd_obj C hd jo_Jxd2413 hl.1 dJxd2413_init_da8c8_1 ?_
  exact zj_vret C hlk hr dJxd2413_init_da8c8_4 (fun _ h => by cases h) (Nat.le_refl _) (Nat.le_refl _) ⟨rfl, rfl⟩
theorem jd_alist (hd : 2 ≤ d) {a : Nat} {V : Nat → Value} (ha : gB G ≤ a) : z_RM l G d yJxc12de_init_da8c8 cJxc12de_init_da8c8 1 none [.ref a] 0 0 (fun _ H => t_OB a (gC G 1) 3 (gI G 1) H V) (fun H r H' => r = none ∧ t_OB a (gC G 1) 3 (gI G 1) H' (updV V 0 (.int 0)) ∧ H'.size = H.size ∧ ∀ q, q ≠ a → H'[q]? = H[q]?) := by
  refine zj_meth (by decide) (Nat.le_of_ble_eq_true rfl) (fun p e s m below meth c la C hlk hr hold hP hl => ?_)
  have hl : lv_has la 1 [(0, .ref a)] := hl
  refine lv_aload_n C.1 C.2.1 dJxc12de_init_da8c8_0 rfl (lv_at hl 0 rfl) ?_
  refine zj_callI (a := a) (av := []) C lk_Jxc12de_1 (jd_acol l G (d - 1) (by omega)) (by omega) hold (fun _ _ => trivial) hl.1 (rest := []) (by decide) dJxc12de_init_da8c8_1 (Nat.le_refl _) (Nat.le_refl _) (fun _ h => by cases h) rfl (fun r H' locs' hq hl0 => ?_)
  obtain ⟨rfl, rfl⟩ := hq
  refine lv_aload_n C.1 C.2.1 dJxc12de_init_da8c8_4 rfl (lv_at hl 0 rfl) ?_
  refine lv_iconst (v := 0) C.1 C.2.1 dJxc12de_init_da8c8_5 (by decide) ?_
  refine zj_put C hP (k := 0) (by decide) jf_Jxc12de_7 (fun _ q => q) ⟨rfl, rfl⟩ dJxc12de_init_da8c8_6 ha hl0 (fun H' locs' h1 h2 h3 hl0 => ?_)
  exact zj_vret C hlk hr dJxc12de_init_da8c8_9 hl0 (Nat.le_refl _) (Nat.le_refl _) ⟨rfl, h1, h2, h3⟩
theorem jd_linit (hd : 3 ≤ d) {a : Nat} {V : Nat → Value} (ha : gB G ≤ a) : z_RM l G d yJx4a65c_init_da8c8 cJx4a65c_init_da8c8 1 none [.ref a] 0 0 (fun _ H => t_OB a (gC G 1) 3 (gI G 1) H V) (fun H r H' => r = none ∧ t_OB a (gC G 1) 3 (gI G 1) H' (updV (updV V 0 (.int 0)) 1 (.ref (gE G))) ∧ H'.size = H.size ∧ ∀ q, q ≠ a → H'[q]? = H[q]?) := by
  refine zj_meth (by decide) (Nat.le_of_ble_eq_true rfl) (fun p e s m below meth c la C hlk hr hold hP hl => ?_)
  have hl : lv_has la 1 [(0, .ref a)] := hl
  refine lv_aload_n C.1 C.2.1 dJx4a65c_init_da8c8_0 rfl (lv_at hl 0 rfl) ?_
  refine zj_callI (a := a) (av := []) C lk_Jx4a65c_1 (jd_alist l G (d - 1) (by omega) (V := V) ha) (by omega) hold (fun _ _ => hP) hl.1 (rest := []) (by decide) dJx4a65c_init_da8c8_1 (Nat.le_refl _) (Nat.le_refl _) (fun _ h => by cases h) rfl (fun r H1 locs1 hq hl0 => ?_)
  obtain ⟨rfl, g1, g2, g3⟩ := hq
  have hold1 : z_OLD G s H1 := hold.kept (by omega) (fun q hq => g3 q (by omega))
  refine lv_aload_n C.1 C.2.1 dJx4a65c_init_da8c8_4 rfl (lv_at hl 0 rfl) ?_
  obtain ⟨cf, kf, fi, f, as, cell, e1, e2, e3, e4, e5, e6, e7, e8⟩ := hold1.2.2.2.1
  refine W.gets C.1 C.2.1 C.2.2.2.1 (C.2.2.2.2.2.1 _ jf_Jx4a65c_39) e1 e2 e3 e4 e5 (fun q => by rw [q] at e6; cases e6) e7 rfl dJx4a65c_init_da8c8_5 ?_
  refine zj_put C g1 (k := 1) (by decide) jf_Jx4a65c_9 (fun _ q => q) ⟨rfl, rfl⟩ dJx4a65c_init_da8c8_8 ha hl0 (fun H' locs' h1 h2 h3 hl0 => ?_)
  exact zj_vret C hlk hr dJx4a65c_init_da8c8_11 hl0 (Nat.le_refl _) (Nat.le_refl _) ⟨rfl, h1, h2.trans g2, fun q hq => (h3 q hq).trans (g3 q hq)⟩
end JD
