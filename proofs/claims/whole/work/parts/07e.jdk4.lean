/-! ArrayList.add itself; Integers -/
section JB
variable (l : Launch) (G : z_G) (d : Nat)
def z_el (el : Nat → Nat) (z : Nat) : Nat → Value := fun j => if j < z then .ref (el j) else .null
/-- behind add: where the array is, what it holds, the list's object -/
def z_ad (G : z_G) (a ea z x : Nat) (el : Nat → Nat) (V : Nat → Value) (H H' : Heap) : Prop := ∃ e' : Nat, e' = (if z_cap z = z then H.size else ea) ∧ H'.size = H.size + z_gc z ∧ H'[e']? = some (arrV (gA G 3) (z_cap (z + 1)) (z_el (z_u1 el z x) (z + 1))) ∧
  t_OB a (gC G 1) 3 (gI G 1) H' (updV (updV V 1 (.ref e')) 2 (.int (nI (z + 1)))) ∧ ∀ q, q < H.size → q ≠ a → q ≠ e' → H'[q]? = H[q]?
theorem z_el_set {cA : ClassId} {el : Nat → Nat} {z n x : Nat} : (arrV cA n (z_el el z)).setSlot z (.ref x) = arrV cA n (z_el (z_u1 el z x) (z + 1)) := by
  rw [arrV_store]
  congr 1
  funext j
  unfold updV z_el z_u1
  by_cases e : j = z
  · rw [if_pos e, if_pos (by omega), if_pos e]
  · rw [if_neg e]
    by_cases e2 : j < z
    · rw [if_pos e2, if_pos (by omega), if_neg e]
    · rw [if_neg e2, if_neg (by omega)]
theorem jd_add3 (hd : 5 ≤ d) {a ea z x : Nat} {V : Nat → Value} {el : Nat → Nat} (hz : z ≤ 200000) (hV : V 1 = .ref (if z = 0 then gE G else ea)) (hV2 : V 2 = .int (nI z)) (ha : gB G ≤ a) (hea : z ≠ 0 → gB G ≤ ea ∧ ea ≠ a) :
    z_RM l G d yJx4a65c_add_72be8 cJx4a65c_add_72be8 4 none [.ref a, .ref x, .ref (if z = 0 then gE G else ea), .int (nI z)] (z_gc z) (z_gs z)
      (fun vm H => t_OB a (gC G 1) 3 (gI G 1) H V ∧ (z ≠ 0 → H[ea]? = some (arrV (gA G 3) (z_cap z) (z_el el z))) ∧ z_els vm H z (z_el el z) ∧ z_any vm H x) (fun H r H' => r = none ∧ z_ad G a ea z x el V H H') := by
  refine zj_meth (by decide) (Nat.le_of_ble_eq_true rfl) (fun p e s m below meth c la C hlk hr hold hP hl => ?_)
  obtain ⟨hP1, hP2, hP3, hP4⟩ := hP
  have hl : lv_has la 4 [(0, .ref a), (1, .ref x), (2, .ref (if z = 0 then gE G else ea)), (3, .int (nI z))] := hl
  have hKN := C.2.2.2.2.2.2.1
  have hl0 : ∀ x ∈ ([] : List Loc), gB G ≤ x.base := fun _ h => by cases h
  have hal : a < s.heap.size := by obtain ⟨cell, q, -⟩ := hP1; exact (Array.getElem?_eq_some_iff.mp q).1
  have hzb := z_cap_b z
  -- the end, from 11, with the array at e'
  have fin : ∀ (H1 : Heap) (locs1 : List Loc) (la : Array Slot) (e' ce sl : Nat) (V1 : Nat → Value), ce ≤ z_gc z → sl ≤ z_gs z → e' = (if z_cap z = z then s.heap.size else ea) → gB G ≤ e' → e' ≠ a → H1.size = s.heap.size + z_gc z → H1[e']? = some (arrV (gA G 3) (z_cap (z + 1)) (z_el el z)) → t_OB a (gC G 1) 3 (gI G 1) H1 (updV V 1 (.ref e')) → (∀ q, q < s.heap.size → q ≠ a → q ≠ e' → H1[q]? = s.heap[q]?) → z_any s.vm H1 x → (∀ x ∈ locs1, gB G ≤ x.base) →
      lv_has la 4 [(2, .ref e'), (0, .ref a), (1, .ref x), (3, .int (nI z))] → W p l e (z_rm d (z_gc z) (z_gs z)) s m [Value.ref a, .ref x, .ref (if z = 0 then gE G else ea), .int (nI z)].toArray below meth c H1 locs1 ce sl (MQ below (z_QM G (fun H r H' => r = none ∧ z_ad G a ea z x el V H H')) [Value.ref a, .ref x, .ref (if z = 0 then gE G else ea), .int (nI z)].toArray s (z_gc z) (z_gs z) (z_A G)) (F0 m 11 la []) := by
    intro H1 locs1 la e' ce sl V1 hce hsl he' hb' hne hsz hnew hob hoth hany hl0 hl
    refine lv_aload_n C.1 C.2.1 dJx4a65c_add_72be8_11 rfl (lv_at hl 0 rfl) ?_
    refine lv_iload_n C.1 C.2.1 dJx4a65c_add_72be8_12 rfl (lv_at hl 3 rfl) ?_
    refine lv_aload_n C.1 C.2.1 dJx4a65c_add_72be8_13 rfl (lv_at hl 2 rfl) ?_
    obtain ⟨cellV, w1, w2, ⟨kC, w3⟩, w4⟩ := hany
    obtain ⟨kA, comp, k1, k2, k3, -⟩ := (z_refArr hKN).2
    obtain ⟨kE, hkE, -⟩ := Vm.findClass_spec k3
    have hc1 := z_cap_le (z + 1)
    have ecl : (nI z).toNatClampNeg = z := nI_clamp (by omega)
    refine W.aast C.1 C.2.1 hnew (fun q h => by cases h) (fun h => by cases h) k1 k2 rfl hkE ⟨nI_pos (by omega), by rw [arrV_size, ecl]; omega⟩ w1 (fun q h => by rw [h] at w2; cases w2) w3 (w4 _ k3) rfl rfl dJx4a65c_add_72be8_14 fun H2 e1 e2 e3 => ?_
    rw [ecl, z_el_set] at e1
    refine W.eq (g2 := F0 m 15 la []) rfl ?_
    refine lv_aload_n C.1 C.2.1 dJx4a65c_add_72be8_15 rfl (lv_at hl 1 rfl) ?_
    refine lv_iload_n C.1 C.2.1 dJx4a65c_add_72be8_16 rfl (lv_at hl 3 rfl) ?_
    refine lv_iconst (v := 1) C.1 C.2.1 dJx4a65c_add_72be8_17 (by decide) ?_
    refine lv_iadd C.1 C.2.1 dJx4a65c_add_72be8_18 ?_
    rw [nI_1]
    refine zj_put C (hob.kept (e3 a (Ne.symm hne))) (k := 2) (by decide) jf_Jx4a65c_48 (fun _ q => q) ⟨rfl, rfl⟩ dJx4a65c_add_72be8_19 ha (z_mem_locs hl0 hb') (fun H3 locs3 h1 h2 h3 hl0 => ?_)
    exact zj_vret C hlk hr dJx4a65c_add_72be8_22 hl0 hce hsl ⟨rfl, e', he', h2.trans (e2.trans hsz), (h3 e' hne).trans e1, h1, fun q hq q1 q2 => (h3 q q1).trans ((e3 q q2).trans (hoth q hq q1 q2))⟩
  refine lv_iload_n C.1 C.2.1 dJx4a65c_add_72be8_0 rfl (lv_at hl 3 rfl) ?_
  refine lv_aload_n C.1 C.2.1 dJx4a65c_add_72be8_1 rfl (lv_at hl 2 rfl) ?_
  -- the array's length
  have hlen : ∀ (k : W p l e (z_rm d (z_gc z) (z_gs z)) s m [Value.ref a, .ref x, .ref (if z = 0 then gE G else ea), .int (nI z)].toArray below meth c s.heap [] 0 0 (MQ below (z_QM G (fun H r H' => r = none ∧ z_ad G a ea z x el V H H')) [Value.ref a, .ref x, .ref (if z = 0 then gE G else ea), .int (nI z)].toArray s (z_gc z) (z_gs z) (z_A G)) (F0 m 3 la [.int (nI (z_cap z)), .int (nI z)])),
      W p l e (z_rm d (z_gc z) (z_gs z)) s m [Value.ref a, .ref x, .ref (if z = 0 then gE G else ea), .int (nI z)].toArray below meth c s.heap [] 0 0 (MQ below (z_QM G (fun H r H' => r = none ∧ z_ad G a ea z x el V H H')) [Value.ref a, .ref x, .ref (if z = 0 then gE G else ea), .int (nI z)].toArray s (z_gc z) (z_gs z) (z_A G)) (F0 m 2 la [.ref (if z = 0 then gE G else ea), .int (nI z)]) := by
    intro k
    by_cases e0 : z = 0
    · subst e0
      obtain ⟨ct, t1, t2, t3, t4, t5, t6, t7⟩ := hold.2.2.2.2.1
      exact W.alen C.1 C.2.1 (n := nI 0) t1 t2 t5 rfl rfl dJx4a65c_add_72be8_2 k
    · have h1 := hP2 e0
      rw [if_neg e0]
      rw [if_neg e0] at k
      exact W.alen C.1 C.2.1 (n := nI (z_cap z)) h1 ((z_refArr hKN).1 _ _) (by rw [arrV_size]; rfl) rfl rfl dJx4a65c_add_72be8_2 k
  refine hlen ?_
  refine lv_icmp_ne (tgt := 11) C.1 C.2.1 dJx4a65c_add_72be8_3 (by decide) (fun q => ?_) (fun q => ?_)
  · have hne : ¬ z_cap z = z := fun z1 => q (by rw [z1])
    have e0 : z ≠ 0 := fun z1 => hne (by rw [z1]; rfl)
    have hs1 : z_cap (z + 1) = z_cap z := by rw [z_cap_s, if_neg hne]
    rw [if_neg e0] at hl hV
    refine fin s.heap [] la ea 0 0 V (Nat.zero_le _) (Nat.zero_le _) (by rw [if_neg hne]) (hea e0).1 (hea e0).2 (by unfold z_gc; rw [if_neg hne]; rfl) (by rw [hs1]; exact hP2 e0) (hP1.to (fun k hk => ?_)) (fun _ _ _ _ => rfl) hP4 hl0 (lv_sub hl [2, 0, 1, 3] rfl)
    unfold updV
    by_cases e1 : k = 1
    · rw [if_pos e1, e1, hV]
    · rw [if_neg e1]
  · have hcap : z_cap z = z := ((nI_eq (by omega) (by omega)).mp q).symm
    have hgc : z_gc z = 1 := if_pos hcap
    have hgs : z_gs z = z_cap (z + 1) := if_pos hcap
    refine lv_aload_n C.1 C.2.1 dJx4a65c_add_72be8_6 rfl (lv_at hl 0 rfl) ?_
    refine zj_callV (a := a) (av := []) C lk_Jx4a65c_129 (jd_grow0 l G (d - 1) (by omega) (f := z_el el z) hcap hz hV hV2 ha) (by omega) hold (fun vm hal2 => ⟨hP1, fun e0 => ⟨by have := hP2 e0; rw [hcap] at this; exact this, hP3.moved hal2⟩⟩) (z_lrecv hKN hP1) hl.1 (rest := []) (Nat.le_of_ble_eq_true rfl) dJx4a65c_add_72be8_7 (by omega) (by omega) hl0 rfl (fun r H1 locs1 hq hl0 => ?_)
    obtain ⟨rfl, hsz, hnew, hob, hoth⟩ := hq
    refine lv_astore_n C.1 C.2.1 dJx4a65c_add_72be8_10 rfl hl (by decide) rfl (fun la hl => ?_)
    have hl : lv_has la 4 [(2, .ref s.heap.size), (0, .ref a), (1, .ref x), (3, .int (nI z))] := hl
    have hxl : x < s.heap.size := by obtain ⟨cell, q, -⟩ := hP4; exact (Array.getElem?_eq_some_iff.mp q).1
    refine fin H1 locs1 la s.heap.size _ _ V (by omega) (by omega) (by rw [if_pos hcap]) hold.1 (Nat.ne_of_gt hal) (by rw [hgc]; exact hsz) ?_ hob (fun q hq q1 _ => hoth q hq q1) ?_ hl0 hl
    · rw [hnew]
      congr 2
      funext j
      unfold z_el
      by_cases hj : j < z
      · simp [hj]
      · simp [hj]
    · by_cases hxa : x = a
      · subst hxa
        obtain ⟨cellV, w1, w2, w3, w4⟩ := hP4
        obtain ⟨cell, q1, q2, q3, -⟩ := hP1
        obtain ⟨cell', r1, r2, r3, -⟩ := hob
        cases w1.symm.trans q1
        exact ⟨cell', r1, by rw [r3]; rfl, by rw [r2, ← q2]; exact w3, by rw [r2, ← q2]; exact w4⟩
      · exact hP4.kept (hoth x hxl hxa)
theorem jd_add (hd : 6 ≤ d) {a ea z x : Nat} {V : Nat → Value} {el : Nat → Nat} {mo : Int32} (hz : z ≤ 200000) (hV0 : V 0 = .int mo) (hV : V 1 = .ref (if z = 0 then gE G else ea)) (hV2 : V 2 = .int (nI z)) (ha : gB G ≤ a) (hea : z ≠ 0 → gB G ≤ ea ∧ ea ≠ a) :
    z_RM l G d yJx4a65c_add_9ea2d cJx4a65c_add_9ea2d 2 (some .boolean) [.ref a, .ref x] (z_gc z) (z_gs z)
      (fun vm H => t_OB a (gC G 1) 3 (gI G 1) H V ∧ (z ≠ 0 → H[ea]? = some (arrV (gA G 3) (z_cap z) (z_el el z))) ∧ z_els vm H z (z_el el z) ∧ z_any vm H x) (fun H r H' => r = some (.int 1) ∧ z_ad G a ea z x el (updV V 0 (.int (mo + 1))) H H') := by
  refine zj_meth (by decide) (Nat.le_of_ble_eq_true rfl) (fun p e s m below meth c la C hlk hr hold hP hl => ?_)
  obtain ⟨hP1, hP2, hP3, hP4⟩ := hP
  have hl : lv_has la 2 [(0, .ref a), (1, .ref x)] := hl
  have hKN := C.2.2.2.2.2.2.1
  have hl0 : ∀ x ∈ ([] : List Loc), gB G ≤ x.base := fun _ h => by cases h
  have hsf := u_same (C.2.2.2.2.2.1 _ jw_same)
  refine lv_aload_n C.1 C.2.1 dJx4a65c_add_9ea2d_0 rfl (lv_at hl 0 rfl) ?_
  refine lv_dup C.1 C.2.1 dJx4a65c_add_9ea2d_1 rfl ?_
  refine zj_get C hP1 (k := 0) (by decide) jf_Jx4a65c_63 hsf dJx4a65c_add_9ea2d_2 ?_
  rw [hV0]
  refine lv_iconst (v := 1) C.1 C.2.1 dJx4a65c_add_9ea2d_5 (by decide) ?_
  refine lv_iadd C.1 C.2.1 dJx4a65c_add_9ea2d_6 ?_
  refine zj_put C hP1 (k := 0) (by decide) jf_Jx4a65c_63 hsf ⟨rfl, rfl⟩ dJx4a65c_add_9ea2d_7 ha hl0 (fun H1 locs1 g1 g2 g3 hl0 => ?_)
  have hold1 : z_OLD G s H1 := hold.kept (by omega) (fun q hq => g3 q (by omega))
  refine lv_aload_n C.1 C.2.1 dJx4a65c_add_9ea2d_10 rfl (lv_at hl 0 rfl) ?_
  refine lv_aload_n C.1 C.2.1 dJx4a65c_add_9ea2d_11 rfl (lv_at hl 1 rfl) ?_
  refine lv_aload_n C.1 C.2.1 dJx4a65c_add_9ea2d_12 rfl (lv_at hl 0 rfl) ?_
  refine zj_get C g1 (k := 1) (by decide) jf_Jx4a65c_9 (fun _ q => q) dJx4a65c_add_9ea2d_13 ?_
  rw [show updV V 0 (.int (mo + 1)) 1 = V 1 from if_neg (by decide), hV]
  refine lv_aload_n C.1 C.2.1 dJx4a65c_add_9ea2d_16 rfl (lv_at hl 0 rfl) ?_
  refine zj_get C g1 (k := 2) (by decide) jf_Jx4a65c_48 (fun _ q => q) dJx4a65c_add_9ea2d_17 ?_
  rw [show updV V 0 (.int (mo + 1)) 2 = V 2 from if_neg (by decide), hV2]
  have hany : ∀ q, z_any s.vm s.heap q → z_any s.vm H1 q := by
    intro q hq
    by_cases hqa : q = a
    · subst hqa
      obtain ⟨cellV, w1, w2, w3, w4⟩ := hq
      obtain ⟨cell, q1, q2, q3, -⟩ := hP1
      obtain ⟨cell', r1, r2, r3, -⟩ := g1
      cases w1.symm.trans q1
      exact ⟨cell', r1, by rw [r3]; rfl, by rw [r2, ← q2]; exact w3, by rw [r2, ← q2]; exact w4⟩
    · exact hq.kept (g3 q hqa)
  refine zj_callV (a := a) (av := [.ref x, .ref (if z = 0 then gE G else ea), .int (nI z)]) C lk_Jx4a65c_131 (jd_add3 l G (d - 1) (by omega) (ea := ea) (x := x) (el := el) (V := updV V 0 (.int (mo + 1))) hz (by rw [show updV V 0 (.int (mo + 1)) 1 = V 1 from if_neg (by decide), hV]) (by rw [show updV V 0 (.int (mo + 1)) 2 = V 2 from if_neg (by decide), hV2]) ha hea) (by omega) hold1
    (fun vm hal => ⟨g1, fun e0 => (g3 _ (hea e0).2).trans (hP2 e0), fun j hj => (hP3 j hj).imp id (fun ⟨q, h1, h2⟩ => ⟨q, h1, (hany q h2).moved hal⟩), (hany x hP4).moved hal⟩) (z_lrecv hKN g1) hl.1 (rest := []) (Nat.le_of_ble_eq_true rfl) dJx4a65c_add_9ea2d_20 (by omega) (by omega) hl0 rfl (fun r H2 locs2 hq hl0 => ?_)
  obtain ⟨rfl, e', q1, q2, q3, q4, q5⟩ := hq
  refine lv_iconst (v := 1) C.1 C.2.1 dJx4a65c_add_9ea2d_23 (by decide) ?_
  exact zj_zret C hlk hr dJx4a65c_add_9ea2d_24 hl0 (by omega) (by omega) ⟨rfl, e', by rw [q1, g2], by rw [q2, g2], q3, q4, fun q hq h1 h2 => (q5 q (by omega) h1 h2).trans (g3 q h1)⟩
end JB
