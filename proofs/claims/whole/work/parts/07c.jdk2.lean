/-! ArrayList's growth -/
section JG
variable (l : Launch) (G : z_G) (d : Nat)
/-- an object that an Object[] takes -/
def z_any (vm : Vm) (H : Heap) (q : Nat) : Prop := ∃ cell : Cell, H[q]? = some cell ∧ cell.vm.isStatics = false ∧ (∃ kC : Class, vm.classes[cell.cls]? = some kC) ∧ ∀ comp : ClassId, vm.findClass "java/lang/Object" = some comp → vm.assignable cell.cls comp = true
theorem z_any.moved {vm vm' : Vm} {H : Heap} {q : Nat} (hal : vm.Alike vm') (h : z_any vm H q) : z_any vm' H q := by
  obtain ⟨cell, h1, h2, ⟨kC, h3⟩, h4⟩ := h
  obtain ⟨k', hk', -⟩ := hal.2.2 _ _ h3
  exact ⟨cell, h1, h2, ⟨k', hk'⟩, fun comp hc => by rw [hal.assignable]; exact h4 comp (by rw [← hal.findClass]; exact hc)⟩
theorem z_any.kept {vm : Vm} {H H' : Heap} {q : Nat} (h : z_any vm H q) (e : H'[q]? = H[q]?) : z_any vm H' q := by
  obtain ⟨cell, h1, h2⟩ := h
  exact ⟨cell, by rw [e]; exact h1, h2⟩
def z_mir (vm : Vm) (mi : Nat) : Prop := ∃ (c : ClassId) (k : Class), vm.findClass "[Ljava/lang/Object;" = some c ∧ vm.classes[c]? = some k ∧ k.mirror = some mi
theorem jd_newLen (hd : 1 ≤ d) {n : Nat} (h2 : 2 ≤ n) (hn : n ≤ 1000000) : z_RM l G d yJ8_newLength_cabcc cJ8_newLength_cabcc 4 (some .int) [.int (nI n), .int 1, .int (nI (n / 2))] 0 0 (fun _ _ => True) (fun H r H' => r = some (.int (nI (n + n / 2))) ∧ H' = H) := by
  refine zj_meth (by decide) (Nat.le_of_ble_eq_true rfl) (fun p e s m below meth c la C hlk hr hold _ hl => ?_)
  have hl : lv_has la 4 [(0, .int (nI n)), (1, .int 1), (2, .int (nI (n / 2)))] := hl
  refine lv_iload_n C.1 C.2.1 dJ8_newLength_cabcc_0 rfl (lv_at hl 0 rfl) ?_
  refine lv_iload_n C.1 C.2.1 dJ8_newLength_cabcc_1 rfl (lv_at hl 1 rfl) ?_
  refine lv_iload_n C.1 C.2.1 dJ8_newLength_cabcc_2 rfl (lv_at hl 2 rfl) ?_
  have hl0 : ∀ x ∈ ([] : List Loc), gB G ≤ x.base := fun _ h => by cases h
  have hts := C.2.2.2.2.2.1
  refine va_mmax (x := 1) (y := nI (n / 2)) (rest := [.int (nI n)]) C.1 C.2.1 (by rw [C.2.2.1, hl.1]) C.2.2.2.1 (hts _ jm_J8_194) (hts _ jq_J9_max_7cf53.1) (hts _ jq_ini) (hts _ jq_J9_max_7cf53.2) hd (by show 1 + 13 ≤ 40 * d; omega) (Nat.le_refl _) (Nat.le_refl _) dJ8_newLength_cabcc_3 ?_
  have e1 : nI n + (if (1 : Int32) < nI (n / 2) then nI (n / 2) else 1) = nI (n + n / 2) := by
    by_cases hq : 1 < n / 2
    · rw [if_pos (show (1 : Int32) < nI (n / 2) from nI_lt hq (by omega)), nI_add]
    · have : n / 2 = 1 := by omega
      rw [if_neg (show ¬ (1 : Int32) < nI (n / 2) from nI_nlt (a := 1) (by omega) (by decide)), this]
      exact nI_add n 1
  refine lv_iadd C.1 C.2.1 dJ8_newLength_cabcc_6 ?_
  rw [e1]
  refine lv_istore_n C.1 C.2.1 dJ8_newLength_cabcc_7 rfl hl (by decide) rfl (fun la hl => ?_)
  have hl : lv_has la 4 [(3, .int (nI (n + n / 2))), (0, .int (nI n)), (1, .int 1), (2, .int (nI (n / 2)))] := hl
  refine lv_iconst (v := 0) C.1 C.2.1 dJ8_newLength_cabcc_8 (by decide) ?_
  refine lv_iload_n C.1 C.2.1 dJ8_newLength_cabcc_9 rfl (lv_at hl 0 rfl) ?_
  refine lv_icmp_ge (tgt := 21) C.1 C.2.1 dJ8_newLength_cabcc_10 (by decide) (fun q => absurd q (show ¬ nI (n + n / 2) ≤ 0 from nI_nle (by omega) (by omega))) (fun _ => ?_)
  refine lv_iload_n C.1 C.2.1 dJ8_newLength_cabcc_13 rfl (lv_at hl 0 rfl) ?_
  refine lv_ldc C.1 C.2.1 C.2.2.2.1 (C.2.2.2.2.2.1 _ jk_newLen) dJ8_newLength_cabcc_14 ?_
  refine lv_icmp_gt (tgt := 21) C.1 C.2.1 dJ8_newLength_cabcc_16 (by decide) (fun q => absurd q (show ¬ nI 2147483639 < nI (n + n / 2) from nI_nlt (by omega) (by decide))) (fun _ => ?_)
  refine lv_iload_n C.1 C.2.1 dJ8_newLength_cabcc_19 rfl (lv_at hl 0 rfl) ?_
  exact zj_iret C hlk hr dJ8_newLength_cabcc_20 hl0 (Nat.le_refl _) (Nat.le_refl _) ⟨rfl, rfl⟩
/-- an array of objects: its elements are null or objects -/
def z_els (vm : Vm) (H : Heap) (c0 : Nat) (f : Nat → Value) : Prop := ∀ j, j < c0 → f j = .null ∨ ∃ q, f j = .ref q ∧ z_any vm H q
theorem z_els.moved {vm vm' : Vm} {H : Heap} {c0 : Nat} {f : Nat → Value} (hal : vm.Alike vm') (h : z_els vm H c0 f) : z_els vm' H c0 f := fun j hj => (h j hj).imp id (fun ⟨q, h1, h2⟩ => ⟨q, h1, h2.moved hal⟩)
theorem z_els.kept {vm : Vm} {H H' : Heap} {c0 : Nat} {f : Nat → Value} (h : z_els vm H c0 f) (e : ∀ q, q < H.size → H'[q]? = H[q]?) : z_els vm H' c0 f := fun j hj => (h j hj).imp id (fun ⟨q, h1, h2⟩ => ⟨q, h1, h2.kept (e q (by obtain ⟨cell, g, -⟩ := h2; exact (Array.getElem?_eq_some_iff.mp g).1))⟩)
def z_grown (G : z_G) (n c0 : Nat) (f : Nat → Value) (H : Heap) (H' : Heap) : Prop := H'.size = H.size + 1 ∧ H'[H.size]? = some (arrV (gA G 3) n (fun j => if j < c0 then f j else .null)) ∧ ∀ q, q < H.size → H'[q]? = H[q]?
theorem z_AO_use {G : z_G} {U : State} {A : Array Value} (h : z_KN G U) : (Cond.arrayOver (.object "java/lang/Object")).before A U = true := h.2.2.2.1.use
theorem z_objcls {G : z_G} {U : State} (h : z_KN G U) {cA : ClassId} (hc : U.vm.findClass ("[" ++ (FieldType.object "java/lang/Object").toString) = some cA) : cA = gA G 3 := by
  obtain ⟨-, -, -, -, -, h4⟩ := (z_refArr h).2
  exact Option.some.inj (hc.symm.trans h4)
theorem jd_copy3 (hd : 1 ≤ d) {ea c0 n mi : Nat} {f : Nat → Value} (hc : c0 ≤ n) (hn : n ≤ 1000000) : z_RM l G d yJ7_copyOf_6403c cJ7_copyOf_6403c 4 (some (.array (.object "java/lang/Object"))) [.ref ea, .int (nI n), .ref mi] 1 n (fun vm H => H[ea]? = some (arrV (gA G 3) c0 f) ∧ z_mir vm mi ∧ z_els vm H c0 f) (fun H r H' => r = some (.ref H.size) ∧ z_grown G n c0 f H H') := by
  refine zj_meth (by decide) (Nat.le_of_ble_eq_true rfl) (fun p e s m below meth c la C hlk hr hold hP hl => ?_)
  obtain ⟨hP1, hP2, hP3⟩ := hP
  have hl : lv_has la 4 [(0, .ref ea), (1, .int (nI n)), (2, .ref mi)] := hl
  have hKN := C.2.2.2.2.2.2.1
  obtain ⟨mi', hM⟩ := hKN.2.1
  have hmi : mi = mi' := by
    obtain ⟨c1, k1, a1, a2, a3⟩ := hP2
    obtain ⟨c2, k2, b1, b2, b3⟩ := hM
    cases a1.symm.trans b1
    cases a2.symm.trans b2
    exact Option.some.inj (a3.symm.trans b3)
  subst hmi
  refine lv_aload_n C.1 C.2.1 dJ7_copyOf_6403c_0 rfl (lv_at hl 2 rfl) ?_
  refine va_ldcM C.1 C.2.1 C.2.2.2.1 (C.2.2.2.2.2.1 _ jc_J7_110) hM dJ7_copyOf_6403c_1 ?_
  refine lv_acmp_ne (rx := some mi) (ry := some mi) (tgt := 13) C.1 C.2.1 dJ7_copyOf_6403c_3 (by decide) (fun q => absurd rfl q) (fun _ => ?_)
  refine lv_iload_n C.1 C.2.1 dJ7_copyOf_6403c_6 rfl (lv_at hl 1 rfl) ?_
  have hcl : (nI n).toNatClampNeg = n := nI_clamp (by omega)
  refine W.anew C.1 C.2.1 C.2.2.2.1 (C.2.2.2.2.2.1 _ jc_J7_2) (z_AO_use hKN) rfl dJ7_copyOf_6403c_7 rfl (nI_pos (by omega)) (by rw [hcl]; omega) (Nat.le_refl _) (by rw [hcl]; show 0 + n ≤ n; omega) fun cA kA comp g1 g2 g3 g4 => ?_
  rw [z_objcls hKN g1, hcl, arrV_new]
  have hsz : (s.heap.push (arrV (gA G 3) n (fun _ => Value.null))).size = s.heap.size + 1 := by simp
  have hnew : (s.heap.push (arrV (gA G 3) n (fun _ => Value.null)))[s.heap.size]? = some (arrV (gA G 3) n (fun _ => Value.null)) := by simp
  have hoth : ∀ q, q < s.heap.size → (s.heap.push (arrV (gA G 3) n (fun _ => Value.null)))[q]? = s.heap[q]? := fun q hq => by rw [Array.getElem?_push, if_neg (Nat.ne_of_lt hq)]
  generalize s.heap.push (arrV (gA G 3) n (fun _ => Value.null)) = H1 at hsz hnew hoth ⊢
  refine W.eq (g2 := F0 m 10 la [.ref s.heap.size]) rfl ?_
  refine lv_goto (tgt := 24) C.1 C.2.1 dJ7_copyOf_6403c_10 (by decide) ?_
  refine lv_astore_n C.1 C.2.1 dJ7_copyOf_6403c_24 rfl hl (by decide) rfl (fun la hl => ?_)
  have hl : lv_has la 4 [(3, .ref s.heap.size), (0, .ref ea), (1, .int (nI n)), (2, .ref mi)] := hl
  have hea : ea < s.heap.size := (Array.getElem?_eq_some_iff.mp hP1).1
  refine lv_aload_n C.1 C.2.1 dJ7_copyOf_6403c_25 rfl (lv_at hl 1 rfl) ?_
  refine lv_iconst (v := 0) C.1 C.2.1 dJ7_copyOf_6403c_26 (by decide) ?_
  refine lv_aload_n C.1 C.2.1 dJ7_copyOf_6403c_27 rfl (lv_at hl 0 rfl) ?_
  refine lv_iconst (v := 0) C.1 C.2.1 dJ7_copyOf_6403c_28 (by decide) ?_
  refine lv_aload_n C.1 C.2.1 dJ7_copyOf_6403c_29 rfl (lv_at hl 1 rfl) ?_
  have hA := (z_refArr hKN).1
  refine W.alen C.1 C.2.1 (n := nI c0) ((hoth ea hea).trans hP1) (hA c0 f) (by rw [arrV_size]; rfl) rfl rfl dJ7_copyOf_6403c_30 ?_
  refine lv_iload_n C.1 C.2.1 dJ7_copyOf_6403c_31 rfl (lv_at hl 2 rfl) ?_
  have hold1 : z_OLD G s H1 := hold.kept (by omega) (fun q hq => hoth q (Nat.lt_of_lt_of_le hq hold.1))
  have hl0 : ∀ x ∈ ([] : List Loc), gB G ≤ x.base := fun _ h => by cases h
  have hts := C.2.2.2.2.2.1
  refine va_mmin (x := nI c0) (y := nI n) (rest := [.int 0, .ref s.heap.size, .int 0, .ref ea]) C.1 C.2.1 (by rw [C.2.2.1, hl.1]) C.2.2.2.1 (hts _ jm_J7_304) (hts _ jq_J9_min_7cf53.1) (hts _ jq_ini) (hts _ jq_J9_min_7cf53.2) hd (by show 4 + 13 ≤ 40 * d; omega) (Nat.le_refl _) (by show 0 + n ≤ n; omega) dJ7_copyOf_6403c_32 ?_
  have emin : (if nI n < nI c0 then nI n else nI c0) = nI c0 := if_neg (nI_nlt hc (by omega))
  have ec0 : (nI c0).toNatClampNeg = c0 := nI_clamp (by omega)
  have e00 : (0 : Int32).toNatClampNeg = 0 := rfl
  rw [emin]
  refine zj_cpy C jw_cpyL hA ((hoth ea hea).trans hP1) hnew (by decide) (by decide) (nI_pos (by omega)) (by rw [ec0, e00]; omega) (by rw [ec0, e00]; omega) (fun T kd dComp hT hk hkind vm' hal i hi => ?_) hd hl.1 (rest := []) (Nat.le_of_ble_eq_true rfl) dJ7_copyOf_6403c_35 (Nat.le_trans hold.1 (Nat.le_refl _)) hl0 (fun H2 locs2 q1 q2 q3 hl0 => ?_)
  · rw [e00, Nat.zero_add]
    rw [ec0] at hi
    rcases hP3 i hi with q | ⟨q, q1, q2⟩
    · rw [q]
      exact ⟨rfl, trivial⟩
    · rw [q1]
      obtain ⟨cellV, w1, w2, ⟨kC, w3⟩, w4⟩ := q2
      obtain ⟨kA', comp', r1, r2, r3, -⟩ := (z_refArr hKN).2
      cases hk.symm.trans r1
      cases hkind.symm.trans r2
      obtain ⟨kE, hkE, -⟩ := Vm.findClass_spec r3
      obtain ⟨kC', hkC', -⟩ := hal.2.2 _ _ w3
      obtain ⟨kE', hkE', -⟩ := hal.2.2 _ _ hkE
      have hqlt : q < s.heap.size := (Array.getElem?_eq_some_iff.mp w1).1
      refine ⟨rfl, cellV, (show T.heap[q]? = some cellV by rw [hT, hoth q hqlt]; exact w1), (fun z h => by rw [h] at w2; cases w2), ⟨kC', hkC'⟩, ⟨kE', hkE'⟩, ?_⟩
      show vm'.assignable _ _ = true
      rw [hal.assignable]
      exact w4 _ r3
  · refine lv_aload_n C.1 C.2.1 dJ7_copyOf_6403c_38 rfl (lv_at hl 0 rfl) ?_
    refine zj_aret C hlk hr (Or.inr ⟨_, rfl⟩) (Or.inr ⟨_, rfl⟩) dJ7_copyOf_6403c_39 hl0 (Nat.le_refl _) (by show 0 + n ≤ n; omega) ⟨rfl, q2.trans hsz, ?_, fun q hq => (q3 q (Nat.ne_of_lt hq)).trans (hoth q hq)⟩
    rw [q1, ec0, e00]
    congr 2
    funext j
    unfold va_cpy
    by_cases hj : j < c0
    · rw [if_pos ⟨Nat.zero_le _, by omega⟩, if_pos hj, Nat.zero_add, Nat.sub_zero]
    · rw [if_neg (fun z => hj (by omega)), if_neg hj]
theorem jd_copy2 (hd : 2 ≤ d) {ea c0 n : Nat} {f : Nat → Value} (hc : c0 ≤ n) (hn : n ≤ 1000000) : z_RM l G d yJ7_copyOf_1904c cJ7_copyOf_1904c 2 (some (.array (.object "java/lang/Object"))) [.ref ea, .int (nI n)] 1 n (fun vm H => H[ea]? = some (arrV (gA G 3) c0 f) ∧ z_els vm H c0 f) (fun H r H' => r = some (.ref H.size) ∧ z_grown G n c0 f H H') := by
  refine zj_meth (by decide) (Nat.le_of_ble_eq_true rfl) (fun p e s m below meth c la C hlk hr hold hP hl => ?_)
  obtain ⟨hP1, hP3⟩ := hP
  have hl : lv_has la 2 [(0, .ref ea), (1, .int (nI n))] := hl
  have hKN := C.2.2.2.2.2.2.1
  obtain ⟨mi, hM⟩ := hKN.2.1
  have hts := C.2.2.2.2.2.1
  refine lv_aload_n C.1 C.2.1 dJ7_copyOf_1904c_0 rfl (lv_at hl 0 rfl) ?_
  refine lv_iload_n C.1 C.2.1 dJ7_copyOf_1904c_1 rfl (lv_at hl 1 rfl) ?_
  refine lv_aload_n C.1 C.2.1 dJ7_copyOf_1904c_2 rfl (lv_at hl 0 rfl) ?_
  have hlo := C.2.2.2.2.2.2.2.2.1
  have hfr := C.2.2.2.2.2.2.2.1
  have hcls : s.vm.findClass "[Ljava/lang/Object;" = some (gA G 3) := va_nmO (z_refArr hKN).2 (by decide)
  refine va_getC C.1 C.2.1 (by rw [C.2.2.1, hl.1]) C.2.2.2.1 (hts _ jw_gcL) hKN.2.2.1.use (hts _ jw_gcS) (hts _ jw_gcI) (hts _ jw_gcN) hM ⟨_, hP1, rfl, hcls⟩ (by omega) (by show 2 + 14 ≤ 40 * d; omega) dJ7_copyOf_1904c_3 ?_
  refine zj_callS (av := [.ref ea, .int (nI n), .ref mi]) C lk_J7_300 (jd_copy3 l G (d - 1) (by omega) (mi := mi) (f := f) hc hn) (by omega) hold (fun vm hal => ⟨hP1, ?_, hP3.moved hal⟩) hl.1 (rest := []) (Nat.le_of_ble_eq_true rfl) dJ7_copyOf_1904c_6 (Nat.le_refl _) (by show 0 + n ≤ n; omega) (fun _ h => by cases h) rfl (fun r H' locs' hq hl0 => ?_)
  · obtain ⟨c1, k1, a1, a2, a3⟩ := hM
    obtain ⟨k', hk', he⟩ := hal.2.2 _ _ a2
    exact ⟨c1, k', by rw [hal.findClass]; exact a1, hk', by rw [he]; exact a3⟩
  · obtain ⟨rfl, hg⟩ := hq
    exact zj_aret C hlk hr (Or.inr ⟨_, rfl⟩) (Or.inr ⟨_, rfl⟩) dJ7_copyOf_1904c_9 hl0 (Nat.le_refl _) (by show 0 + n ≤ n; omega) ⟨rfl, hg⟩
end JG
