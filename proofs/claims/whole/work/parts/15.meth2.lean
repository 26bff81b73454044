/-! a method whose judgement may forget locals; loops; switches; lists -/
theorem z_mt2 {l : Launch} {G : z_G} {d : Nat} {y : MethodName} {cc : ByteArray} {mL : Nat} {rt : Option FieldType} {as : List z_V} {h : z_H} {mc ms : Nat} {Q : Option z_V → z_H → Prop} (yk : Nat) (ini : Bool) (hy : plainName y.cls = true ∧ y.cls = kO yk ∧ (ini = true → y.name = "<init>")) (hw : z_w as ≤ mL)
    (HA : ∀ A : Nat → z_K, (∀ (es : List z_E) (pc ep : Nat), z_chk yk ini cc mL pc es ep = true → ∀ ls st h' ce sl, z_wp l G d mc ms y.cls A (z_T rt mc ms Q) ep es ls st h' ce sl → A pc ls st h' ce sl) → (∀ (ex : z_L) (pc : Nat) ls st h' ce sl, A pc ls st h' ce sl → A pc (ls ++ ex) st h' ce sl) → A 0 (z_args 0 as) [] h 0 0) : z_MT l G d y cc mL rt as h mc ms Q := by
  intro ad
  refine Met.ofW (cc := cc) (maxL := mL) (ret := rt) hy.1 rfl ?_
  intro p e s m args below meth c s₁ B hml hv
  obtain ⟨rfl, ⟨hKN, hHR⟩, hok⟩ := hv
  have hts := atoms_spec (ws := Cond.code y cc mL rt :: z_tbl) B.pre
  have hlk := B.notSynchronized
  have C : z_Cx p (z_rm d mc ms) s m (as.map (z_val ad)).toArray meth c G y cc mL d mc ms := ⟨B.exec, B.bytes, hml, findClass_of_methodNamed B.named, (name_of_methodNamed B.named B.method).1, fun w hw => hts w (List.mem_cons_of_mem _ hw), hKN, rfl, Nat.le_refl _, rfl, rfl⟩
  have hr := B.returns
  have hRT : z_RT (z_At p l e (z_rm d mc ms) s m (as.map (z_val ad)).toArray below meth c G ad h mL (MQ below (z_Qc G ad h Q) (as.map (z_val ad)).toArray s mc ms (z_A G))) (z_T rt mc ms Q) cc := by
    refine ⟨fun pc ls h ce sl x hd hq => ?_, fun pc ls h ce sl x hd hq => ?_, fun pc ls h ce sl x hd hq => ?_, fun pc ls h ce sl hd hq => ?_⟩
    · obtain ⟨q1, q2, q3, q4⟩ := hq
      unfold z_rt at q3
      split at q3
      · exact zs_ireturn C hlk hd hr (Or.inl rfl) q1 q2 q4
      · rename_i hq; cases hq; exact zs_ireturn C hlk hd hr (Or.inr ⟨rfl, q3⟩) q1 q2 q4
      · rename_i hq; cases hq
      · rename_i hq; cases hq
      · rename_i hq; cases hq
      · exact q3.elim
    · obtain ⟨q1, q2, q3, q4⟩ := hq
      unfold z_rt at q3
      split at q3
      · rename_i hq; cases hq
      · rename_i hq; cases hq
      · exact zs_lreturn C hlk hd hr q1 q2 q4
      · rename_i hq; cases hq
      · rename_i hq; cases hq
      · exact q3.elim
    · obtain ⟨q1, q2, q3, q4⟩ := hq
      unfold z_rt at q3
      split at q3
      · rename_i hq; cases hq
      · rename_i hq; cases hq
      · rename_i hq; cases hq
      · exact zs_areturn C hlk hd hr (Or.inl ⟨_, rfl⟩) q1 q2 q4
      · rename_i hq; cases hq
      · exact q3.elim
    · obtain ⟨q1, q2, q3, q4⟩ := hq
      unfold z_rt at q3
      split at q3
      · rename_i hq; cases hq
      · rename_i hq; cases hq
      · rename_i hq; cases hq
      · rename_i hq; cases hq
      · exact zs_return C hlk hd hr q1 q2 q4
      · exact q3.elim
  have hA := HA _ (z_blk C hRT hy.2.1 hy.2.2) (fun ex pc ls st h' ce sl k ad H locs la g1 g2 g3 g4 g5 => k ad H locs la g1 g2 ⟨fun q hq => g3.1 q (List.mem_append_left _ hq), g3.2⟩ g4 ⟨g5.1, g5.2.1, fun q hq => g5.2.2 q (by rw [show z_lm ad (ls ++ ex) = z_lm ad ls ++ z_lm ad ex from List.map_append]; exact List.mem_append_left _ hq)⟩)
  have hl := lv_entry (as.map (z_val ad)) (n := mL) (by rw [z_sl_len]; exact hw)
  rw [lg_entry_eq]
  refine hA ad s.heap [] _ hHR z_EX.rf ⟨z_args_ok hok 0, fun v hv => by cases hv⟩ (fun x hx => by cases hx) ?_
  rw [z_args_lm]
  exact hl
theorem z_loop {n : Nat} {P : Nat → Prop} (h : ∀ i, i ≤ n → (i < n → P (i + 1)) → P i) (i : Nat) (hi : i ≤ n) : P i := by
  have key : ∀ k i, i + k = n → P i := by
    intro k
    induction k with
    | zero => exact fun i e => h i (by omega) (fun q => absurd q (by omega))
    | succ k ih => exact fun i e => h i (by omega) (fun _ => ih (i + 1) (by omega))
  exact key (n - i) i (by omega)
theorem op_n {α : Type} {p : Prop} [Decidable p] {x : α} : ((if p then some x else none) = none) = ¬ p := by
  by_cases h : p
  · rw [if_pos h]
    exact propext ⟨fun q => (nomatch q), fun q => absurd h q⟩
  · rw [if_neg h]
    exact propext ⟨fun _ => h, fun _ => rfl⟩
theorem op_p {α : Type} {p : Prop} [Decidable p] {x y : α} (q : (if p then some x else none) = some y) : p := by
  by_cases h : p
  · exact h
  · rw [if_neg h] at q
    exact (nomatch q)
theorem z_swA {A : Nat → z_K} {pc : Nat} {d lo hi x : Int} {offs : List Int} {ls : z_L} {st : z_S} {h : z_H} {ce sl : Nat} (T : Nat) (v : Int) (hx : x = v) (ht : z_sw pc d lo hi offs v = T) (k : A T ls st h ce sl) : A (z_sw pc d lo hi offs x) ls st h ce sl := by
  rw [hx, ht]
  exact k
theorem z_swD {A : Nat → z_K} {pc : Nat} {d lo hi x : Int} {offs : List Int} {ls : z_L} {st : z_S} {h : z_H} {ce sl : Nat} (T : Nat) (hx : x < lo ∨ hi < x) (ht : ((pc : Int) + d).toNat = T) (k : A T ls st h ce sl) : A (z_sw pc d lo hi offs x) ls st h ce sl := by
  unfold z_sw
  rw [if_pos hx, ht]
  exact k
theorem z_lkA {A : Nat → z_K} {pc : Nat} {d x : Int} {ps : List (Int × Int)} {ls : z_L} {st : z_S} {h : z_H} {ce sl : Nat} (T : Nat) (v : Int) (hx : x = v) (ht : z_lk pc d ps v = T) (k : A T ls st h ce sl) : A (z_lk pc d ps x) ls st h ce sl := by
  rw [hx, ht]
  exact k
theorem zl_200 : z_lst 200 = true := rfl
theorem lT_200 : lT 200 = 4 := rfl
theorem zl_201 : z_lst 201 = true := rfl
theorem lT_201 : lT 201 = 2 := rfl
theorem zl_202 : z_lst 202 = true := rfl
theorem lT_202 : lT 202 = 9 := rfl
theorem zl_203 : z_lst 203 = true := rfl
theorem lT_203 : lT 203 = 8 := rfl
theorem zl_204 : z_lst 204 = true := rfl
theorem lT_204 : lT 204 = 7 := rfl
theorem zl_205 : z_lst 205 = true := rfl
theorem lT_205 : lT 205 = 10 := rfl
theorem zl_206 : z_lst 206 = true := rfl
theorem lT_206 : lT 206 = 6 := rfl
theorem zl_207 : z_lst 207 = true := rfl
theorem kF_2 : kF 2 = 7 := rfl
theorem kF_3 : kF 3 = 5 := rfl
theorem kF_4 : kF 4 = 6 := rfl
theorem kF_5 : kF 5 = 5 := rfl
theorem kF_6 : kF 6 = 6 := rfl
theorem kF_7 : kF 7 = 2 := rfl
theorem kF_8 : kF 8 = 12 := rfl
theorem kF_9 : kF 9 = 7 := rfl
theorem kF_10 : kF 10 = 4 := rfl
theorem kF_11 : kF 11 = 8 := rfl
theorem kF_12 : kF 12 = 4 := rfl
theorem kF_13 : kF 13 = 13 := rfl
theorem kF_14 : kF 14 = 67 := rfl
theorem zr_hInwN {h : z_H} {K K' : Nat} (e : K' ≠ K) : hI (z_nw h K) K' = hI h K' := by
  funext i k
  rw [zr_hInw, if_neg (fun q => e q.1)]
theorem zr_hLnwN {h : z_H} {K K' : Nat} (e : K' ≠ K) : hL (z_nw h K) K' = hL h K' := by
  funext i k
  rw [zr_hLnw, if_neg (fun q => e q.1)]
theorem zr_hRnwN {h : z_H} {K K' : Nat} (e : K' ≠ K) : hR (z_nw h K) K' = hR h K' := by
  funext i k
  rw [zr_hRnw, if_neg (fun q => e q.1)]
theorem b2_1 {c : Prop} [Decidable c] : (b2 c = 1) = c := by
  by_cases h : c
  · rw [b2_t h]; exact propext ⟨fun _ => h, fun _ => rfl⟩
  · rw [b2_f h]; exact propext ⟨fun q => absurd q (by decide), fun q => absurd q h⟩
theorem zc_1000 : ((1000 : Int64) = 0) = False := eq_false (by decide)
theorem zc_100 : ((100 : Int64) = 0) = False := eq_false (by decide)
theorem zc_10 : ((10 : Int64) = 0) = False := eq_false (by decide)
theorem zc_9 : ((9 : Int64) = 0) = False := eq_false (by decide)
theorem zc_2 : ((2 : Int64) = 0) = False := eq_false (by decide)
section ZR2
variable {l : Launch} {G : z_G} {d MC MS : Nat} {own : String} {A : Nat → z_K} {T : Option z_V → z_H → Nat → Nat → Prop} {ls : z_L} {st : z_S} {h : z_H} {ce sl : Nat} {k : z_K} {n a b : Nat} {z : Int}
theorem zr_iload_n0 : z_stp l G d MC MS own A T (.iload_n 0, n, a, b, z) ls st h ce sl k = eI (z_get ls 0) fun x => k ls (z_i x :: st) h ce sl := rfl
theorem zr_lload_n0 : z_stp l G d MC MS own A T (.lload_n 0, n, a, b, z) ls st h ce sl k = eL (z_get ls 0) fun x => k ls (z_l x :: st) h ce sl := rfl
theorem zr_aload_n0 : z_stp l G d MC MS own A T (.aload_n 0, n, a, b, z) ls st h ce sl k = eR (z_get ls 0) fun x => k ls (z_q x :: st) h ce sl := rfl
theorem zr_istore_n0 : z_stp l G d MC MS own A T (.istore_n 0, n, a, b, z) ls st h ce sl k = pI st fun x st => k (z_put ls 0 (z_i x)) st h ce sl := rfl
theorem zr_lstore_n0 : z_stp l G d MC MS own A T (.lstore_n 0, n, a, b, z) ls st h ce sl k = pL st fun x st => k (z_put ls 0 (z_l x)) st h ce sl := rfl
theorem zr_astore_n0 : z_stp l G d MC MS own A T (.astore_n 0, n, a, b, z) ls st h ce sl k = pR st fun x st => k (z_put ls 0 (z_q x)) st h ce sl := rfl
theorem zr_iload_n1 : z_stp l G d MC MS own A T (.iload_n 1, n, a, b, z) ls st h ce sl k = eI (z_get ls 1) fun x => k ls (z_i x :: st) h ce sl := rfl
theorem zr_lload_n1 : z_stp l G d MC MS own A T (.lload_n 1, n, a, b, z) ls st h ce sl k = eL (z_get ls 1) fun x => k ls (z_l x :: st) h ce sl := rfl
theorem zr_aload_n1 : z_stp l G d MC MS own A T (.aload_n 1, n, a, b, z) ls st h ce sl k = eR (z_get ls 1) fun x => k ls (z_q x :: st) h ce sl := rfl
theorem zr_istore_n1 : z_stp l G d MC MS own A T (.istore_n 1, n, a, b, z) ls st h ce sl k = pI st fun x st => k (z_put ls 1 (z_i x)) st h ce sl := rfl
theorem zr_lstore_n1 : z_stp l G d MC MS own A T (.lstore_n 1, n, a, b, z) ls st h ce sl k = pL st fun x st => k (z_put ls 1 (z_l x)) st h ce sl := rfl
theorem zr_astore_n1 : z_stp l G d MC MS own A T (.astore_n 1, n, a, b, z) ls st h ce sl k = pR st fun x st => k (z_put ls 1 (z_q x)) st h ce sl := rfl
theorem zr_iload_n2 : z_stp l G d MC MS own A T (.iload_n 2, n, a, b, z) ls st h ce sl k = eI (z_get ls 2) fun x => k ls (z_i x :: st) h ce sl := rfl
theorem zr_lload_n2 : z_stp l G d MC MS own A T (.lload_n 2, n, a, b, z) ls st h ce sl k = eL (z_get ls 2) fun x => k ls (z_l x :: st) h ce sl := rfl
theorem zr_aload_n2 : z_stp l G d MC MS own A T (.aload_n 2, n, a, b, z) ls st h ce sl k = eR (z_get ls 2) fun x => k ls (z_q x :: st) h ce sl := rfl
theorem zr_istore_n2 : z_stp l G d MC MS own A T (.istore_n 2, n, a, b, z) ls st h ce sl k = pI st fun x st => k (z_put ls 2 (z_i x)) st h ce sl := rfl
theorem zr_lstore_n2 : z_stp l G d MC MS own A T (.lstore_n 2, n, a, b, z) ls st h ce sl k = pL st fun x st => k (z_put ls 2 (z_l x)) st h ce sl := rfl
theorem zr_astore_n2 : z_stp l G d MC MS own A T (.astore_n 2, n, a, b, z) ls st h ce sl k = pR st fun x st => k (z_put ls 2 (z_q x)) st h ce sl := rfl
theorem zr_iload_n3 : z_stp l G d MC MS own A T (.iload_n 3, n, a, b, z) ls st h ce sl k = eI (z_get ls 3) fun x => k ls (z_i x :: st) h ce sl := rfl
theorem zr_lload_n3 : z_stp l G d MC MS own A T (.lload_n 3, n, a, b, z) ls st h ce sl k = eL (z_get ls 3) fun x => k ls (z_l x :: st) h ce sl := rfl
theorem zr_aload_n3 : z_stp l G d MC MS own A T (.aload_n 3, n, a, b, z) ls st h ce sl k = eR (z_get ls 3) fun x => k ls (z_q x :: st) h ce sl := rfl
theorem zr_istore_n3 : z_stp l G d MC MS own A T (.istore_n 3, n, a, b, z) ls st h ce sl k = pI st fun x st => k (z_put ls 3 (z_i x)) st h ce sl := rfl
theorem zr_lstore_n3 : z_stp l G d MC MS own A T (.lstore_n 3, n, a, b, z) ls st h ce sl k = pL st fun x st => k (z_put ls 3 (z_l x)) st h ce sl := rfl
theorem zr_astore_n3 : z_stp l G d MC MS own A T (.astore_n 3, n, a, b, z) ls st h ce sl k = pR st fun x st => k (z_put ls 3 (z_q x)) st h ce sl := rfl
theorem zr_lconst0 : z_stp l G d MC MS own A T (.lconst 0, n, a, b, z) ls st h ce sl k = k ls (z_l 0 :: st) h ce sl := rfl
theorem zr_lconst1 : z_stp l G d MC MS own A T (.lconst 1, n, a, b, z) ls st h ce sl k = k ls (z_l 1 :: st) h ce sl := rfl
end ZR2
theorem zq_pA0 {st : z_S} {as : List z_V} {f : List z_V → z_S → Prop} : pA 0 st as f = f as st := id rfl
theorem zq_pA {n : Nat} {st : z_S} {x : z_V} {as : List z_V} {f : List z_V → z_S → Prop} : pA (n + 1) (x :: st) as f = pA n st (x :: as) f := id rfl
theorem rc_2 {i : Nat} {y : MethodName} {as : List z_V} (e : y.cls = RX0) : z_rcv 0 y (z_r 2 i :: as) := ⟨show z_obj 2 = true from by decide, e.symm⟩
theorem rc_3 {i : Nat} {y : MethodName} {as : List z_V} (e : y.cls = RX1) : z_rcv 0 y (z_r 3 i :: as) := ⟨show z_obj 3 = true from by decide, e.symm⟩
theorem rc_4 {i : Nat} {y : MethodName} {as : List z_V} (e : y.cls = RX2) : z_rcv 0 y (z_r 4 i :: as) := ⟨show z_obj 4 = true from by decide, e.symm⟩
theorem rc_5 {i : Nat} {y : MethodName} {as : List z_V} (e : y.cls = RX3) : z_rcv 0 y (z_r 5 i :: as) := ⟨show z_obj 5 = true from by decide, e.symm⟩
theorem rc_6 {i : Nat} {y : MethodName} {as : List z_V} (e : y.cls = RX4) : z_rcv 0 y (z_r 6 i :: as) := ⟨show z_obj 6 = true from by decide, e.symm⟩
theorem rc_7 {i : Nat} {y : MethodName} {as : List z_V} (e : y.cls = RX5) : z_rcv 0 y (z_r 7 i :: as) := ⟨show z_obj 7 = true from by decide, e.symm⟩
theorem rc_8 {i : Nat} {y : MethodName} {as : List z_V} (e : y.cls = RX6) : z_rcv 0 y (z_r 8 i :: as) := ⟨show z_obj 8 = true from by decide, e.symm⟩
theorem rc_9 {i : Nat} {y : MethodName} {as : List z_V} (e : y.cls = RX7) : z_rcv 0 y (z_r 9 i :: as) := ⟨show z_obj 9 = true from by decide, e.symm⟩
theorem rc_10 {i : Nat} {y : MethodName} {as : List z_V} (e : y.cls = RX8) : z_rcv 0 y (z_r 10 i :: as) := ⟨show z_obj 10 = true from by decide, e.symm⟩
theorem rc_11 {i : Nat} {y : MethodName} {as : List z_V} (e : y.cls = RX9) : z_rcv 0 y (z_r 11 i :: as) := ⟨show z_obj 11 = true from by decide, e.symm⟩
theorem rc_12 {i : Nat} {y : MethodName} {as : List z_V} (e : y.cls = RX10) : z_rcv 0 y (z_r 12 i :: as) := ⟨show z_obj 12 = true from by decide, e.symm⟩
theorem rc_13 {i : Nat} {y : MethodName} {as : List z_V} (e : y.cls = RX11) : z_rcv 0 y (z_r 13 i :: as) := ⟨show z_obj 13 = true from by decide, e.symm⟩
theorem rc_14 {i : Nat} {y : MethodName} {as : List z_V} (e : y.cls = RX12) : z_rcv 0 y (z_r 14 i :: as) := ⟨show z_obj 14 = true from by decide, e.symm⟩
