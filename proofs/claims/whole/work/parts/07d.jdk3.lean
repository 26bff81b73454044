/-! ArrayList.add -/
section JA
variable (l : Launch) (G : z_G) (d : Nat)
theorem z_cap_full : ∀ z, z_cap z = z → z = 0 ∨ 10 ≤ z := by
  have key : ∀ z, z = 0 ∨ (10 ≤ z_cap z ∧ z ≤ z_cap z) := by
    intro z
    induction z with
    | zero => exact Or.inl rfl
    | succ n ih =>
      refine Or.inr ?_
      show 10 ≤ (if z_cap n = n then (if n = 0 then 10 else n + n / 2) else z_cap n) ∧ n + 1 ≤ (if z_cap n = n then (if n = 0 then 10 else n + n / 2) else z_cap n)
      rcases ih with rfl | ⟨h1, h2⟩
      · decide
      · by_cases e : z_cap n = n
        · have hn : ¬ n = 0 := by omega
          rw [if_pos e, if_neg hn]
          omega
        · rw [if_neg e]
          omega
  intro z hz
  rcases key z with h | h
  · exact Or.inl h
  · omega
theorem z_cap_le : ∀ z, z ≤ z_cap z := by
  intro z
  induction z with
  | zero => exact Nat.zero_le _
  | succ n ih =>
    show n + 1 ≤ (if z_cap n = n then (if n = 0 then 10 else n + n / 2) else z_cap n)
    by_cases e : z_cap n = n
    · rw [if_pos e]
      rcases z_cap_full n e with rfl | h
      · decide
      · rw [if_neg (by omega)]
        omega
    · rw [if_neg e]
      omega
theorem z_cap_b : ∀ z, z_cap z ≤ 2 * z + 10 := by
  intro z
  induction z with
  | zero => exact Nat.zero_le _
  | succ n ih =>
    show (if z_cap n = n then (if n = 0 then 10 else n + n / 2) else z_cap n) ≤ _
    by_cases e : z_cap n = n
    · rw [if_pos e]
      split <;> omega
    · rw [if_neg e]
      omega
theorem z_cap_s (z : Nat) : z_cap (z + 1) = if z_cap z = z then (if z = 0 then 10 else z + z / 2) else z_cap z := rfl
def z_gw (G : z_G) (a z n : Nat) (f V : Nat → Value) (H H' : Heap) : Prop := H'.size = H.size + 1 ∧ H'[H.size]? = some (arrV (gA G 3) n (fun j => if j < z then f j else .null)) ∧ t_OB a (gC G 1) 3 (gI G 1) H' (updV V 1 (.ref H.size)) ∧ ∀ q, q < H.size → q ≠ a → H'[q]? = H[q]?
theorem jd_growE (hd : 1 ≤ d) {a : Nat} {V f : Nat → Value} (hV : V 1 = .ref (gE G)) (ha : gB G ≤ a) : z_RM l G d yJx4a65c_grow_92f84 cJx4a65c_grow_92f84 4 (some (.array (.object "java/lang/Object"))) [.ref a, .int (nI 1)] 1 10 (fun _ H => t_OB a (gC G 1) 3 (gI G 1) H V) (fun H r H' => r = some (.ref H.size) ∧ z_gw G a 0 10 f V H H') := by
  refine zj_meth (by decide) (Nat.le_of_ble_eq_true rfl) (fun p e s m below meth c la C hlk hr hold hP hl => ?_)
  have hl : lv_has la 4 [(0, .ref a), (1, .int (nI 1))] := hl
  have hKN := C.2.2.2.2.2.2.1
  have hts := C.2.2.2.2.2.1
  refine lv_aload_n C.1 C.2.1 dJx4a65c_grow_92f84_0 rfl (lv_at hl 0 rfl) ?_
  refine zj_get C hP (k := 1) (by decide) jf_Jx4a65c_9 (fun _ q => q) dJx4a65c_grow_92f84_1 ?_
  rw [hV]
  obtain ⟨ct, t1, t2, t3, t4, t5, t6, t7⟩ := hold.2.2.2.2.1
  refine W.alen C.1 C.2.1 (n := 0) t1 t2 t5 rfl rfl dJx4a65c_grow_92f84_4 ?_
  refine W.eq (g2 := F0 m 5 la [.int 0]) rfl ?_
  refine lv_istore_n C.1 C.2.1 dJx4a65c_grow_92f84_5 rfl hl (by decide) rfl (fun la hl => ?_)
  have hl : lv_has la 4 [(2, .int 0), (0, .ref a), (1, .int (nI 1))] := hl
  refine lv_iload_n C.1 C.2.1 dJx4a65c_grow_92f84_6 rfl (lv_at hl 0 rfl) ?_
  refine lv_if_gt (tgt := 20) C.1 C.2.1 dJx4a65c_grow_92f84_7 (by decide) (fun q => absurd q (by decide)) (fun _ => ?_)
  refine lv_aload_n C.1 C.2.1 dJx4a65c_grow_92f84_10 rfl (lv_at hl 1 rfl) ?_
  refine zj_get C hP (k := 1) (by decide) jf_Jx4a65c_9 (fun _ q => q) dJx4a65c_grow_92f84_11 ?_
  rw [hV]
  obtain ⟨cf, kf, fi, fd, as, cell, e1, e2, e3, e4, e5, e6, e7, e8⟩ := hold.2.2.2.1
  refine W.gets C.1 C.2.1 C.2.2.2.1 (hts _ jf_Jx4a65c_39) e1 e2 e3 e4 e5 (fun q => by rw [q] at e6; cases e6) e7 rfl dJx4a65c_grow_92f84_14 ?_
  refine W.eq (g2 := F0 m 17 la [.ref (gE G), .ref (gE G)]) rfl ?_
  refine lv_acmp_eq (rx := some (gE G)) (ry := some (gE G)) (tgt := 45) C.1 C.2.1 dJx4a65c_grow_92f84_17 (by decide) (fun _ => ?_) (fun q => absurd rfl q)
  refine lv_aload_n C.1 C.2.1 dJx4a65c_grow_92f84_45 rfl (lv_at hl 1 rfl) ?_
  refine lv_bipush (v := 10) C.1 C.2.1 dJx4a65c_grow_92f84_46 (by decide) ?_
  refine lv_iload_n C.1 C.2.1 dJx4a65c_grow_92f84_48 rfl (lv_at hl 2 rfl) ?_
  refine va_mmax (x := 10) (y := nI 1) (rest := [.ref a]) C.1 C.2.1 (by rw [C.2.2.1, hl.1]) C.2.2.2.1 (hts _ jm_Jx4a65c_79) (hts _ jq_J9_max_7cf53.1) (hts _ jq_ini) (hts _ jq_J9_max_7cf53.2) hd (by show 1 + 13 ≤ 40 * d; omega) (Nat.zero_le _) (Nat.zero_le _) dJx4a65c_grow_92f84_49 ?_
  rw [show (if (10 : Int32) < nI 1 then nI 1 else 10) = nI 10 from by decide]
  have hcl : (nI 10).toNatClampNeg = 10 := nI_clamp (by decide)
  refine W.anew C.1 C.2.1 C.2.2.2.1 (hts _ jc_Jx4a65c_7) (z_AO_use hKN) rfl dJx4a65c_grow_92f84_52 rfl (nI_pos (by decide)) (by rw [hcl]; decide) (Nat.le_refl _) (by rw [hcl]; exact Nat.le_refl _) fun cA kA comp g1 g2 g3 g4 => ?_
  rw [z_objcls hKN g1, hcl, arrV_new]
  have hsz : (s.heap.push (arrV (gA G 3) 10 (fun _ => Value.null))).size = s.heap.size + 1 := by simp
  have hnew : (s.heap.push (arrV (gA G 3) 10 (fun _ => Value.null)))[s.heap.size]? = some (arrV (gA G 3) 10 (fun _ => Value.null)) := by simp
  have hoth : ∀ q, q < s.heap.size → (s.heap.push (arrV (gA G 3) 10 (fun _ => Value.null)))[q]? = s.heap[q]? := fun q hq => by rw [Array.getElem?_push, if_neg (Nat.ne_of_lt hq)]
  generalize s.heap.push (arrV (gA G 3) 10 (fun _ => Value.null)) = H1 at hsz hnew hoth ⊢
  refine W.eq (g2 := F0 m 55 la [.ref s.heap.size, .ref a]) rfl ?_
  have hal : a < s.heap.size := by obtain ⟨cell, q, -⟩ := hP; exact (Array.getElem?_eq_some_iff.mp q).1
  refine lv_dup_x1 C.1 C.2.1 dJx4a65c_grow_92f84_55 rfl rfl ?_
  refine zj_put C (hP.kept (hoth a hal)) (k := 1) (by decide) jf_Jx4a65c_9 (fun _ q => q) ⟨rfl, rfl⟩ dJx4a65c_grow_92f84_56 ha (fun _ h => by cases h) (fun H' locs' h1 h2 h3 hl0 => ?_)
  exact zj_aret C hlk hr (Or.inr ⟨_, rfl⟩) (Or.inr ⟨_, rfl⟩) dJx4a65c_grow_92f84_59 hl0 (Nat.le_refl _) (Nat.le_refl _) ⟨rfl, h2.trans hsz, (h3 _ (Nat.ne_of_gt hal)).trans hnew, h1, fun q hq hne => (h3 q hne).trans (hoth q hq)⟩
theorem jd_growF (hd : 3 ≤ d) {a ea z : Nat} {V f : Nat → Value} (h2 : 2 ≤ z) (hz : z ≤ 200000) (hV : V 1 = .ref ea) (ha : gB G ≤ a) : z_RM l G d yJx4a65c_grow_92f84 cJx4a65c_grow_92f84 4 (some (.array (.object "java/lang/Object"))) [.ref a, .int (nI (z + 1))] 1 (z + z / 2) (fun vm H => t_OB a (gC G 1) 3 (gI G 1) H V ∧ H[ea]? = some (arrV (gA G 3) z f) ∧ z_els vm H z f) (fun H r H' => r = some (.ref H.size) ∧ z_gw G a z (z + z / 2) f V H H') := by
  refine zj_meth (by decide) (Nat.le_of_ble_eq_true rfl) (fun p e s m below meth c la C hlk hr hold hP hl => ?_)
  obtain ⟨hP1, hP2, hP3⟩ := hP
  have hl : lv_has la 4 [(0, .ref a), (1, .int (nI (z + 1)))] := hl
  have hKN := C.2.2.2.2.2.2.1
  have hts := C.2.2.2.2.2.1
  have hl0 : ∀ x ∈ ([] : List Loc), gB G ≤ x.base := fun _ h => by cases h
  refine lv_aload_n C.1 C.2.1 dJx4a65c_grow_92f84_0 rfl (lv_at hl 0 rfl) ?_
  refine zj_get C hP1 (k := 1) (by decide) jf_Jx4a65c_9 (fun _ q => q) dJx4a65c_grow_92f84_1 ?_
  rw [hV]
  refine W.alen C.1 C.2.1 (n := nI z) hP2 ((z_refArr hKN).1 z f) (by rw [arrV_size]; rfl) rfl rfl dJx4a65c_grow_92f84_4 ?_
  refine W.eq (g2 := F0 m 5 la [.int (nI z)]) rfl ?_
  refine lv_istore_n C.1 C.2.1 dJx4a65c_grow_92f84_5 rfl hl (by decide) rfl (fun la hl => ?_)
  have hl : lv_has la 4 [(2, .int (nI z)), (0, .ref a), (1, .int (nI (z + 1)))] := hl
  refine lv_iload_n C.1 C.2.1 dJx4a65c_grow_92f84_6 rfl (lv_at hl 0 rfl) ?_
  refine lv_if_gt (tgt := 20) C.1 C.2.1 dJx4a65c_grow_92f84_7 (by decide) (fun _ => ?_) (fun q => absurd (show nI 0 < nI z from nI_lt (by omega) (by omega)) q)
  refine lv_iload_n C.1 C.2.1 dJx4a65c_grow_92f84_20 rfl (lv_at hl 0 rfl) ?_
  refine lv_iload_n C.1 C.2.1 dJx4a65c_grow_92f84_21 rfl (lv_at hl 2 rfl) ?_
  refine lv_iload_n C.1 C.2.1 dJx4a65c_grow_92f84_22 rfl (lv_at hl 0 rfl) ?_
  refine lv_isub C.1 C.2.1 dJx4a65c_grow_92f84_23 ?_
  refine lv_iload_n C.1 C.2.1 dJx4a65c_grow_92f84_24 rfl (lv_at hl 0 rfl) ?_
  refine lv_iconst (v := 1) C.1 C.2.1 dJx4a65c_grow_92f84_25 (by decide) ?_
  refine lv_ishr C.1 C.2.1 dJx4a65c_grow_92f84_26 ?_
  have es : nI z >>> ((1 : Int32) &&& 31) = nI (z / 2) := by
    have k := pk_shrN (n := z) (by omega) ((1 : Int32) &&& 31) 1 (by decide)
    rw [Nat.pow_one] at k
    exact k
  have ed : nI (z + 1) - nI z = 1 := by
    rw [pk_sub (by omega), Nat.add_sub_cancel_left]
    rfl
  rw [es, ed]
  refine zj_callS (av := [.int (nI z), .int 1, .int (nI (z / 2))]) C lk_Jx4a65c_73 (jd_newLen l G (d - 1) (by omega) h2 (by omega)) (by omega) hold (fun _ _ => trivial) hl.1 (rest := []) (Nat.le_of_ble_eq_true rfl) dJx4a65c_grow_92f84_27 (Nat.zero_le _) (Nat.zero_le _) hl0 rfl (fun r H' locs' hq hl0 => ?_)
  obtain ⟨rfl, rfl⟩ := hq
  refine lv_istore_n C.1 C.2.1 dJx4a65c_grow_92f84_30 rfl hl (by decide) rfl (fun la hl => ?_)
  have hl : lv_has la 4 [(3, .int (nI (z + z / 2))), (2, .int (nI z)), (0, .ref a), (1, .int (nI (z + 1)))] := hl
  refine lv_aload_n C.1 C.2.1 dJx4a65c_grow_92f84_31 rfl (lv_at hl 2 rfl) ?_
  refine lv_aload_n C.1 C.2.1 dJx4a65c_grow_92f84_32 rfl (lv_at hl 2 rfl) ?_
  refine zj_get C hP1 (k := 1) (by decide) jf_Jx4a65c_9 (fun _ q => q) dJx4a65c_grow_92f84_33 ?_
  rw [hV]
  refine lv_iload_n C.1 C.2.1 dJx4a65c_grow_92f84_36 rfl (lv_at hl 0 rfl) ?_
  refine zj_callS (av := [.ref ea, .int (nI (z + z / 2))]) C lk_Jx4a65c_66 (jd_copy2 l G (d - 1) (by omega) (c0 := z) (f := f) (by omega) (by omega)) (by omega) hold (fun vm hal => ⟨hP2, hP3.moved hal⟩) hl.1 (rest := [.ref a]) (Nat.le_of_ble_eq_true rfl) dJx4a65c_grow_92f84_37 (Nat.le_refl _) (by show 0 + 0 + (z + z / 2) ≤ z + z / 2; omega) hl0 rfl (fun r H1 locs1 hq hl0 => ?_)
  obtain ⟨rfl, hsz, hnew, hoth⟩ := hq
  have hal : a < s.heap.size := by obtain ⟨cell, q, -⟩ := hP1; exact (Array.getElem?_eq_some_iff.mp q).1
  refine lv_dup_x1 C.1 C.2.1 dJx4a65c_grow_92f84_40 rfl rfl ?_
  refine zj_put C (hP1.kept (hoth a hal)) (k := 1) (by decide) jf_Jx4a65c_9 (fun _ q => q) ⟨rfl, rfl⟩ dJx4a65c_grow_92f84_41 ha hl0 (fun H' locs' h1 h2 h3 hl0 => ?_)
  exact zj_aret C hlk hr (Or.inr ⟨_, rfl⟩) (Or.inr ⟨_, rfl⟩) dJx4a65c_grow_92f84_44 hl0 (Nat.le_refl _) (by show 0 + 0 + (z + z / 2) ≤ z + z / 2; omega) ⟨rfl, h2.trans hsz, (h3 _ (Nat.ne_of_gt hal)).trans hnew, h1, fun q hq hne => (h3 q hne).trans (hoth q hq)⟩
theorem jd_grow0 (hd : 4 ≤ d) {a ea z : Nat} {V f : Nat → Value} (hcap : z_cap z = z) (hz : z ≤ 200000) (hV : V 1 = .ref (if z = 0 then gE G else ea)) (hV2 : V 2 = .int (nI z)) (ha : gB G ≤ a) : z_RM l G d yJx4a65c_grow_d5877 cJx4a65c_grow_d5877 1 (some (.array (.object "java/lang/Object"))) [.ref a] 1 (z_cap (z + 1)) (fun vm H => t_OB a (gC G 1) 3 (gI G 1) H V ∧ (z ≠ 0 → H[ea]? = some (arrV (gA G 3) z f) ∧ z_els vm H z f)) (fun H r H' => r = some (.ref H.size) ∧ z_gw G a z (z_cap (z + 1)) f V H H') := by
  refine zj_meth (by decide) (Nat.le_of_ble_eq_true rfl) (fun p e s m below meth c la C hlk hr hold hP hl => ?_)
  obtain ⟨hP1, hP2⟩ := hP
  have hl : lv_has la 1 [(0, .ref a)] := hl
  have hKN := C.2.2.2.2.2.2.1
  have hl0 : ∀ x ∈ ([] : List Loc), gB G ≤ x.base := fun _ h => by cases h
  refine lv_aload_n C.1 C.2.1 dJx4a65c_grow_d5877_0 rfl (lv_at hl 0 rfl) ?_
  refine lv_aload_n C.1 C.2.1 dJx4a65c_grow_d5877_1 rfl (lv_at hl 0 rfl) ?_
  refine zj_get C hP1 (k := 2) (by decide) jf_Jx4a65c_48 (fun _ q => q) dJx4a65c_grow_d5877_2 ?_
  rw [hV2]
  refine lv_iconst (v := 1) C.1 C.2.1 dJx4a65c_grow_d5877_5 (by decide) ?_
  refine lv_iadd C.1 C.2.1 dJx4a65c_grow_d5877_6 ?_
  rw [nI_1]
  by_cases e0 : z = 0
  · subst e0
    rw [if_pos rfl] at hV
    refine zj_callV (a := a) (av := [.int (nI 1)]) C lk_Jx4a65c_69 (jd_growE l G (d - 1) (by omega) (f := f) hV ha) (by omega) hold (fun _ _ => hP1) (z_lrecv hKN hP1) hl.1 (rest := []) (Nat.le_of_ble_eq_true rfl) dJx4a65c_grow_d5877_7 (Nat.le_refl _) (Nat.le_refl _) hl0 rfl (fun r H' locs' hq hl0 => ?_)
    obtain ⟨rfl, hg⟩ := hq
    exact zj_aret C hlk hr (Or.inr ⟨_, rfl⟩) (Or.inr ⟨_, rfl⟩) dJx4a65c_grow_d5877_10 hl0 (Nat.le_refl _) (Nat.le_refl _) ⟨rfl, hg⟩
  · rw [if_neg e0] at hV
    have e1 : z_cap (z + 1) = z + z / 2 := by rw [z_cap_s, if_pos hcap, if_neg e0]
    have h10 := z_cap_full z hcap
    refine zj_callV (a := a) (av := [.int (nI (z + 1))]) C lk_Jx4a65c_69 (jd_growF l G (d - 1) (by omega) (f := f) (by omega) hz hV ha) (by omega) hold (fun vm hal => ⟨hP1, (hP2 e0).1, (hP2 e0).2.moved hal⟩) (z_lrecv hKN hP1) hl.1 (rest := []) (Nat.le_of_ble_eq_true rfl) dJx4a65c_grow_d5877_7 (Nat.le_refl _) (by omega) hl0 rfl (fun r H' locs' hq hl0 => ?_)
    obtain ⟨rfl, hg⟩ := hq
    exact zj_aret C hlk hr (Or.inr ⟨_, rfl⟩) (Or.inr ⟨_, rfl⟩) dJx4a65c_grow_d5877_10 hl0 (Nat.le_refl _) (by omega) ⟨rfl, by rw [e1]; exact hg⟩
end JA
