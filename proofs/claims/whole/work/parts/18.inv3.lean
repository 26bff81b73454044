/-! suspects and the close: what holds of the states between (pure) -/
theorem su_A {S : z_M} {d : Int32} {g : Int64} {n k : Nat} (h : k ≠ 60 ∧ k ≠ 61) : mA (o_su S d g n) k = mA S k := by
  induction n with
  | zero => rfl
  | succ n ih =>
    unfold o_su
    split
    · rw [mA_uS, mA_ne h.2, mA_ne h.1, ih]
    · exact ih
theorem su_B {S : z_M} {d : Int32} {g : Int64} {n : Nat} : mB (o_su S d g n) = mB S := by
  induction n with
  | zero => rfl
  | succ n ih =>
    unfold o_su
    split
    · exact ih
    · exact ih
theorem su_S {S : z_M} {d : Int32} {g : Int64} {n k : Nat} (h : k ≠ 62) : mS (o_su S d g n) k = mS S k := by
  induction n with
  | zero => exact if_neg h
  | succ n ih =>
    unfold o_su
    split
    · rw [mS_uS, if_neg h]
      exact ih
    · exact ih
theorem su_T {S : z_M} {d : Int32} {g : Int64} {n : Nat} : mT (o_su S d g n) = mT S := by
  induction n with
  | zero => rfl
  | succ n ih =>
    unfold o_su
    split
    · exact ih
    · exact ih
theorem o_cL_le {w : Nat → Int32} {i n : Nat} (h : i ≤ n) : o_cL w i ≤ o_cL w n := by
  induction n with
  | zero => rw [Nat.le_zero.mp h]; exact Nat.le_refl _
  | succ n ih =>
    by_cases e : i = n + 1
    · rw [e]; exact Nat.le_refl _
    · have := ih (by omega)
      show _ ≤ o_cL w n + _
      omega
theorem o_cL_b {w : Nat → Int32} {n : Nat} : o_cL w n ≤ n := by
  induction n with
  | zero => exact Nat.le_refl _
  | succ n ih =>
    show o_cL w n + (if _ then 0 else 1) ≤ _
    split <;> omega
theorem su_n {S : z_M} {d : Int32} {g : Int64} {n : Nat} (hn : n < 2000000000) : mS (o_su S d g n) 62 = nI (nU (o_su S d g n)) ∧ nU (o_su S d g n) ≤ o_cL (mA S 53) n := by
  induction n with
  | zero => exact ⟨rfl, Nat.le_refl _⟩
  | succ n ih =>
    have i1 := ih (by omega)
    have b := o_cL_b (w := mA S 53) (n := n)
    have c : o_cL (mA S 53) (n + 1) = o_cL (mA S 53) n + (if (mA S 53 n).toInt = -1 then 0 else 1) := rfl
    unfold o_su
    split
    · rename_i hq
      rw [c, if_neg hq.1.2]
      have e : nU (uS (uA (uA (o_su S d g n) 60 (nU (o_su S d g n)) (nI n)) 61 (nU (o_su S d g n)) (o_how S n g)) 62 (nI (nU (o_su S d g n) + 1))) = nU (o_su S d g n) + 1 := ci_nI (by omega)
      rw [e]
      exact ⟨rfl, by omega⟩
    · rw [c]
      exact ⟨i1.1, by omega⟩
theorem inv_su {S : z_M} {d : Int32} {g : Int64} {n : Nat} (inv : INV S) (hn : n ≤ nL S) : INV (o_su S d g n) := by
  have hS : ∀ k, k ≠ 62 → mS (o_su S d g n) k = mS S k := fun k h => su_S h
  have hA : ∀ k, (k ≠ 60 ∧ k ≠ 61) → mA (o_su S d g n) k = mA S k := fun k h => su_A h
  have hB : mB (o_su S d g n) = mB S := su_B
  have hT : mT (o_su S d g n) = mT S := su_T
  have hl : nL S ≤ 2000 := inv.cL.2
  have hu := su_n (S := S) (d := d) (g := g) (n := n) (by omega)
  have h1 := o_cL_le (w := mA S 53) hn
  have h2 : o_cL (mA S 53) (nL S) ≤ o_cO (mA S 42) (mA S 46) (nO S) := inv.sus
  have h3 := o_cO_le (a := mA S 42) (b := mA S 46) (n := nO S)
  have h4 : nO S ≤ 300 := inv.cO.2
  generalize o_su S d g n = T at *
  have i_cK : J_n (mS T 15) 6 := by
    rw [hS 15 (by decide)]
    exact inv.cK
  have i_cA : J_n (mS T 16) 24 := by
    rw [hS 16 (by decide)]
    exact inv.cA
  have i_cR : J_n (mS T 17) 200 := by
    rw [hS 17 (by decide)]
    exact inv.cR
  have i_cO : J_n (mS T 18) 300 := by
    rw [hS 18 (by decide)]
    exact inv.cO
  have i_cL : J_n (mS T 19) 2000 := by
    rw [hS 19 (by decide)]
    exact inv.cL
  have i_cF : J_n (mS T 20) 2000 := by
    rw [hS 20 (by decide)]
    exact inv.cF
  have i_cE : J_n (mS T 21) 20 := by
    rw [hS 21 (by decide)]
    exact inv.cE
  have i_cD : J_n (mS T 14) 5000 := by
    rw [hS 14 (by decide)]
    exact inv.cD
  have i_fl : (ci (mS T 20)) ≤ (ci (mS T 19)) := by
    rw [hS 20 (by decide), hS 19 (by decide)]
    exact inv.fl
  have i_rm : (ci (mS T 19)) + 3 * o_wt (mA T 42) ((ci (mS T 18))) ≤ 2000 := by
    rw [hS 19 (by decide), hA 42 (by decide), hS 18 (by decide)]
    exact inv.rm
  have i_ter : J_ter (mS T 5) (mS T 6) (mS T 7) (mS T 8) (mS T 9) (mS T 10) (mS T 11) (mS T 12) (mS T 13) := by
    rw [hS 5 (by decide), hS 6 (by decide), hS 7 (by decide), hS 8 (by decide), hS 9 (by decide), hS 10 (by decide), hS 11 (by decide), hS 12 (by decide), hS 13 (by decide)]
    exact inv.ter
  have i_kin : J_kin ((ci (mS T 15))) ((ci (mS T 17))) (mA T 22) (mA T 23) (mA T 24) (mB T 25) (mB T 26) := by
    rw [hS 15 (by decide), hS 17 (by decide), hA 22 (by decide), hA 23 (by decide), hA 24 (by decide), hB]
    exact inv.kin
  have i_row : J_row (mA T 1) (mA T 2) := by
    rw [hA 1 (by decide), hA 2 (by decide)]
    exact inv.row
  have i_acc : J_acc ((ci (mS T 16))) (mA T 28) (mB T 27) := by
    rw [hS 16 (by decide), hA 28 (by decide), hB]
    exact inv.acc
  have i_rec : J_rec ((ci (mS T 17))) ((ci (mS T 16))) ((ci (mS T 15))) (mA T 30) (mA T 31) (mA T 32) (mA T 34) (mB T 35) := by
    rw [hS 17 (by decide), hS 16 (by decide), hS 15 (by decide), hA 30 (by decide), hA 31 (by decide), hA 32 (by decide), hA 34 (by decide), hB]
    exact inv.rec
  have i_ord : J_ord ((ci (mS T 18))) ((ci (mS T 16))) ((ci (mS T 19))) (mA T 37) (mA T 38) (mA T 40) (mA T 41) (mA T 42) (mA T 43) (mA T 44) (mA T 46) (mA T 48) (mB T 47) := by
    rw [hS 18 (by decide), hS 16 (by decide), hS 19 (by decide), hA 37 (by decide), hA 38 (by decide), hA 40 (by decide), hA 41 (by decide), hA 42 (by decide), hA 43 (by decide), hA 44 (by decide), hA 46 (by decide), hA 48 (by decide), hB]
    exact inv.ord
  have i_lin : J_lin ((ci (mS T 19))) ((ci (mS T 16))) (mA T 50) (mA T 52) := by
    rw [hS 19 (by decide), hS 16 (by decide), hA 50 (by decide), hA 52 (by decide)]
    exact inv.lin
  have i_fol : J_fol ((ci (mS T 20))) ((ci (mS T 16))) (mA T 55) (mA T 56) := by
    rw [hS 20 (by decide), hS 16 (by decide), hA 55 (by decide), hA 56 (by decide)]
    exact inv.fol
  have i_len : J_len ((ci (mS T 21))) (mS T 14) (mA T 57) (mA T 58) := by
    rw [hS 21 (by decide), hS 14 (by decide), hA 57 (by decide), hA 58 (by decide)]
    exact inv.len
  have i_sus : J_sus ((ci (mS T 19))) ((ci (mS T 18))) (mA T 53) (mA T 42) (mA T 46) := by
    rw [hS 19 (by decide), hS 18 (by decide), hA 53 (by decide), hA 42 (by decide), hA 46 (by decide)]
    exact inv.sus
  have i_tak : inq (mT T 63) 0 (600000000 * ((ci (mS T 17)) : Int)) := by
    rw [hT, hS 17 (by decide)]
    exact inv.tak
  unfold INV
  refine ⟨i_cK, i_cA, i_cR, i_cO, i_cL, i_cF, i_cE, i_cD, ?_, i_fl, i_rm, i_ter, i_kin, i_row, i_acc, i_rec, i_ord, i_lin, i_fol, i_len, i_sus, i_tak⟩
  rw [hu.1]
  exact J_nI (by omega)
theorem inv_pays {S : z_M} {a : Int32} {sum : Int64} (inv : INV S) (ha : isx a (nA S)) (hr : nL S + 1 + 3 * o_wt (mA S 42) (nO S) ≤ 2000) : INV (o_pays S a sum) := by
  unfold o_pays
  exact inv_wr (S := uB S 27 (ci a) (mB S 27 (ci a) - sum)) (inv_bal inv (ci_lt ha)) ha (by decide) hr (Or.inl (by decide))
theorem uA_same {S : z_M} {k j : Nat} {v : Int32} (h : mA S k j = v) : uA S k j v = S := by
  refine z_M_ext (fun k' j' => ?_) (fun _ _ => rfl) (fun _ => rfl) (fun _ => rfl)
  rw [mA_uA]
  split
  · rename_i q
    rw [q.1, q.2, h]
  · rfl
theorem inv_wr2 {S : z_M} {d a side : Int32} {sum : Int64} {o : Nat} (inv : INV S) (ha : isx a (nA S)) (hs : inp side 0 1) (hr : nL S + 1 + 3 * o_wt (mA S 42) (nO S) ≤ 2000) (ho : o < nO S) (hw : (mA S 42 o).toInt = 1) (hl : (mA S 46 o).toInt = -1) : INV (uA (o_writes S d a side sum (nI o)).2 46 o (o_writes S d a side sum (nI o)).1) := by
  unfold o_writes
  split
  · show INV (uA S 46 o (-1))
    rw [uA_same (show mA S 46 o = -1 from Int32.toInt_inj.mp hl)]
    exact inv
  · have hfl := inv.fl
    have hff := ff_fol inv ha (by omega)
    have hS : ∀ k, k ≠ 20 → mS (o_ff S a).2 k = mS S k := fun k h => ff_S h
    have hA : ∀ k, (k ≠ 55 ∧ k ≠ 56) → mA (o_ff S a).2 k = mA S k := fun k h => ff_A h
    have hB : mB (o_ff S a).2 = mB S := ff_B
    have hT : mT (o_ff S a).2 = mT S := ff_T
    show INV (uA (o_ln (o_ff S a).2 d a (o_ff S a).1 side sum (nI o)) 46 o (nI (nL S)))
    generalize (o_ff S a).1 = f
    generalize (o_ff S a).2 = T at *
    have i_cK : J_n (mS T 15) 6 := by
      rw [hS 15 (by decide)]
      exact inv.cK
    have i_cA : J_n (mS T 16) 24 := by
      rw [hS 16 (by decide)]
      exact inv.cA
    have i_cR : J_n (mS T 17) 200 := by
      rw [hS 17 (by decide)]
      exact inv.cR
    have i_cO : J_n (mS T 18) 300 := by
      rw [hS 18 (by decide)]
      exact inv.cO
    have i_cE : J_n (mS T 21) 20 := by
      rw [hS 21 (by decide)]
      exact inv.cE
    have i_cD : J_n (mS T 14) 5000 := by
      rw [hS 14 (by decide)]
      exact inv.cD
    have i_cU : J_n (mS T 62) 600 := by
      rw [hS 62 (by decide)]
      exact inv.cU
    have i_ter : J_ter (mS T 5) (mS T 6) (mS T 7) (mS T 8) (mS T 9) (mS T 10) (mS T 11) (mS T 12) (mS T 13) := by
      rw [hS 5 (by decide), hS 6 (by decide), hS 7 (by decide), hS 8 (by decide), hS 9 (by decide), hS 10 (by decide), hS 11 (by decide), hS 12 (by decide), hS 13 (by decide)]
      exact inv.ter
    have i_kin : J_kin ((ci (mS T 15))) ((ci (mS T 17))) (mA T 22) (mA T 23) (mA T 24) (mB T 25) (mB T 26) := by
      rw [hS 15 (by decide), hS 17 (by decide), hA 22 (by decide), hA 23 (by decide), hA 24 (by decide), hB]
      exact inv.kin
    have i_row : J_row (mA T 1) (mA T 2) := by
      rw [hA 1 (by decide), hA 2 (by decide)]
      exact inv.row
    have i_acc : J_acc ((ci (mS T 16))) (mA T 28) (mB T 27) := by
      rw [hS 16 (by decide), hA 28 (by decide), hB]
      exact inv.acc
    have i_rec : J_rec ((ci (mS T 17))) ((ci (mS T 16))) ((ci (mS T 15))) (mA T 30) (mA T 31) (mA T 32) (mA T 34) (mB T 35) := by
      rw [hS 17 (by decide), hS 16 (by decide), hS 15 (by decide), hA 30 (by decide), hA 31 (by decide), hA 32 (by decide), hA 34 (by decide), hB]
      exact inv.rec
    have i_len : J_len ((ci (mS T 21))) (mS T 14) (mA T 57) (mA T 58) := by
      rw [hS 21 (by decide), hS 14 (by decide), hA 57 (by decide), hA 58 (by decide)]
      exact inv.len
    have i_tak : inq (mT T 63) 0 (600000000 * ((ci (mS T 17)) : Int)) := by
      rw [hT, hS 17 (by decide)]
      exact inv.tak
    have eL : nL T = nL S := by show ci (mS T 19) = ci (mS S 19); rw [hS 19 (by decide)]
    have eL' : nL (uA (o_ln T d a f side sum (nI o)) 46 o (nI (nL S))) = nL S + 1 := by
      show ci (nI (nL T + 1)) = _
      rw [eL, ci_nI (by omega)]
    have eA : nA T = nA S := by show ci (mS T 16) = ci (mS S 16); rw [hS 16 (by decide)]
    have eO : nO T = nO S := by show ci (mS T 18) = ci (mS S 18); rw [hS 18 (by decide)]
    unfold INV
    refine ⟨i_cK, i_cA, i_cR, i_cO, ?_, ?_, i_cE, i_cD, i_cU, ?_, ?_, i_ter, i_kin, i_row, i_acc, i_rec, ?_, ?_, ?_, i_len, ?_, i_tak⟩
    · show J_n (nI (nL T + 1)) 2000
      exact J_nI (by omega)
    · show J_n (mS T 20) 2000
      rw [hff.2.2]
      exact J_nI (by have := hff.2.1; omega)
    · rw [eL']
      have := hff.2.1
      show nF T ≤ _
      omega
    · rw [eL']
      show nL S + 1 + 3 * o_wt (mA T 42) (nO T) ≤ 2000
      rw [hA 42 (by decide), eO]
      exact hr
    · rw [eL']
      show J_ord (nO T) (nA T) (nL S + 1) (mA T 37) (mA T 38) (mA T 40) (mA T 41) (mA T 42) (mA T 43) (mA T 44) (mA (uA T 46 o (nI (nL S))) 46) (mA T 48) (mB T 47)
      rw [eO, eA, hA 37 (by decide), hA 38 (by decide), hA 40 (by decide), hA 41 (by decide), hA 42 (by decide), hA 43 (by decide), hA 44 (by decide), hA 48 (by decide), hB]
      refine And.intro (fun o' ho' => ?_) inv.ord.2
      have j := inv.ord.1 o' ho'
      refine ⟨j.1, j.2.1, j.2.2.1, j.2.2.2.1, j.2.2.2.2.1, j.2.2.2.2.2.1, j.2.2.2.2.2.2.1, j.2.2.2.2.2.2.2.1, ?_, j.2.2.2.2.2.2.2.2.2.1, j.2.2.2.2.2.2.2.2.2.2.1, ?_⟩
      · by_cases e : o' = o
        · rw [e, uA_at]
          have := nI_toInt (show nL S < 2 ^ 31 by omega)
          omega
        · rw [uA_of e, hA 46 (by decide)]
          have j9 := j.2.2.2.2.2.2.2.2.1
          omega
      · by_cases e : o' = o
        · rw [e]
          intro q
          omega
        · rw [uA_of e, hA 46 (by decide)]
          exact j.2.2.2.2.2.2.2.2.2.2.2
    · rw [eL']
      show J_lin (nL S + 1) (nA T) (mA (uA T 50 (nL T) a) 50) (mA (uA T 52 (nL T) side) 52)
      rw [eA, eL]
      intro i hi
      by_cases e : i = nL S
      · rw [e, uA_at, uA_at]
        exact ⟨ha, hs⟩
      · rw [uA_of e, uA_of e, hA 50 (by decide), hA 52 (by decide)]
        exact inv.lin i (by omega)
    · show J_fol (nF T) (nA T) (mA T 55) (mA T 56)
      rw [eA]
      exact hff.1
    · rw [eL']
      show o_cL (mA (uA T 53 (nL T) (nI o)) 53) (nL S + 1) ≤ o_cO (mA T 42) (mA (uA T 46 o (nI (nL S))) 46) (nO T)
      rw [eL, eO, hA 42 (by decide)]
      have e1 : o_cL (mA (uA T 53 (nL S) (nI o)) 53) (nL S) = o_cL (mA S 53) (nL S) := o_cL_c (fun j hj => by rw [uA_of (by omega), hA 53 (by decide)])
      have e2 : o_cL (mA S 53) (nL S) ≤ o_cO (mA S 42) (mA S 46) (nO S) := inv.sus
      have e3 : o_cO (mA S 42) (mA (uA T 46 o (nI (nL S))) 46) (nO S) = o_cO (mA S 42) (mA S 46) (nO S) + 1 := o_cO_u ho (fun j hj => ⟨rfl, by rw [uA_of hj, hA 46 (by decide)]⟩) (by
        rw [uA_at]
        have := nI_toInt (show nL S < 2 ^ 31 by omega)
        unfold o_cc
        rw [if_pos hw, if_pos hw, if_pos hl, if_neg (by omega)])
      show o_cL _ (nL S) + (if (mA (uA T 53 (nL S) (nI o)) 53 (nL S)).toInt = -1 then 0 else 1) ≤ _
      rw [e1, e3]
      split <;> omega
theorem deb_42 {S : z_M} {o : Nat} : mA (o_deb S o) 42 = mA (uA S 42 o 1) 42 := wr_A (by decide)
theorem deb_46 {S : z_M} {o : Nat} : mA (o_deb S o) 46 = mA S 46 := wr_A (by decide)
theorem deb_S {S : z_M} {o k : Nat} (h : k ≠ 19 ∧ k ≠ 20) : mS (o_deb S o) k = mS S k := (wr_S h).trans rfl
theorem cr_ok {S : z_M} {o : Nat} (inv : INV S) (ho : o < nO S) : isx (o_ca S o) (nA S) ∧ inp (o_cs S o) 0 1 := by
  have jo := inv.ord.1 o ho
  unfold o_ca o_cs
  refine ⟨?_, ?_⟩
  · split
    · rename_i q
      exact jo.2.2.2.2.2.2.2.1 q
    · exact jo.2.1
  · split <;> decide
theorem inv_does {S : z_M} {o : Nat} (inv : INV S) (ho : o < nO S) (hw : (mA S 42 o).toInt = 0) : INV (o_does S o).2 := by
  have jo := inv.ord.1 o ho
  have hl := jo.2.2.2.2.2.2.2.2.2.2.2 hw
  unfold o_does
  split
  · exact (inv_how inv ho hw (by decide)).1
  · split
    · have a := inv_how (x := 3) inv ho hw (by decide)
      exact inv_pays (S := uT (uA S 42 o 3) 64 (mT S 64 + o_fine S o)) a.1 jo.1 (by have := a.2; show nL S + 1 + 3 * o_wt (mA (uA S 42 o 3) 42) (nO S) ≤ 2000; omega)
    · have b := inv_deb inv ho hw
      split
      · exact b.1
      · have e1 : nO (o_deb S o) = nO S := by show ci _ = ci _; rw [deb_S (by decide)]
        have e2 : nA (o_deb S o) = nA S := by show ci _ = ci _; rw [deb_S (by decide)]
        have c := cr_ok inv ho
        refine inv_wr2 b.1 (by rw [e2]; exact c.1) c.2 (by rw [e1]; have := b.2.2; omega) (by rw [e1]; exact ho) ?_ ?_
        · rw [deb_42, uA_at]; rfl
        · rw [deb_46]; exact hl
theorem pays_A {S : z_M} {a : Int32} {sum : Int64} {k : Nat} (h : k ≠ 49 ∧ k ≠ 50 ∧ k ≠ 51 ∧ k ≠ 52 ∧ k ≠ 53 ∧ k ≠ 55 ∧ k ≠ 56) : mA (o_pays S a sum) k = mA S k := (wr_A h).trans rfl
theorem pays_S {S : z_M} {a : Int32} {sum : Int64} {k : Nat} (h : k ≠ 19 ∧ k ≠ 20) : mS (o_pays S a sum) k = mS S k := (wr_S h).trans rfl
theorem pays_T {S : z_M} {a : Int32} {sum : Int64} : mT (o_pays S a sum) = mT S := wr_T.trans rfl
theorem pays_B {S : z_M} {a : Int32} {sum : Int64} {k : Nat} (h : k ≠ 27 ∧ k ≠ 54) : mB (o_pays S a sum) k = mB S k := (wr_B h.2).trans (mB_ne h.1)
theorem does_S {S : z_M} {o k : Nat} (h : k ≠ 19 ∧ k ≠ 20) : mS (o_does S o).2 k = mS S k := by
  unfold o_does
  split
  · rfl
  · split
    · exact (pays_S h).trans rfl
    · split
      · exact deb_S h
      · show mS (o_writes (o_deb S o) (dy S) (o_ca S o) (o_cs S o) (o_cm S o) (nI o)).2 k = _
        rw [wr_S h, deb_S h]
theorem does_A {S : z_M} {o k : Nat} (h : k ≠ 42 ∧ k ≠ 45 ∧ k ≠ 46 ∧ k ≠ 49 ∧ k ≠ 50 ∧ k ≠ 51 ∧ k ≠ 52 ∧ k ≠ 53 ∧ k ≠ 55 ∧ k ≠ 56) : mA (o_does S o).2 k = mA S k := by
  unfold o_does
  split
  · exact mA_ne h.1
  · split
    · exact (pays_A (by omega)).trans (mA_ne h.1)
    · split
      · exact deb_A (by omega)
      · show mA (uA _ 46 o _) k = _
        rw [mA_ne h.2.2.1, wr_A (by omega), deb_A (by omega)]
theorem does_B {S : z_M} {o k : Nat} (h : k ≠ 27 ∧ k ≠ 54) : mB (o_does S o).2 k = mB S k := by
  have hd : mB (o_deb S o) k = mB S k := by
    unfold o_deb
    rw [wr_B h.2]
    unfold o_mov
    rw [mB_ne h.1, mB_ne h.1]
    rfl
  unfold o_does
  split
  · rfl
  · split
    · exact (pays_B h).trans rfl
    · split
      · exact hd
      · show mB (o_writes (o_deb S o) (dy S) (o_ca S o) (o_cs S o) (o_cm S o) (nI o)).2 k = _
        rw [wr_B h.2, hd]
theorem does_42 {S : z_M} {o : Nat} : (∀ j, j ≠ o → mA (o_does S o).2 42 j = mA S 42 j) ∧ ((mA (o_does S o).2 42 o).toInt = 1 ∨ (mA (o_does S o).2 42 o).toInt = 2 ∨ (mA (o_does S o).2 42 o).toInt = 3) ∧ ((o_does S o).1 = true ↔ (mA (o_does S o).2 42 o).toInt = 1) := by
  unfold o_does
  split
  · exact ⟨fun j hj => uA_of hj, by rw [uA_at]; decide, by rw [uA_at]; first | exact (show (false = true ↔ Int32.toInt 2 = 1) by decide) | exact (show (false = true ↔ Int32.toInt 3 = 1) by decide) | exact (show (true = true ↔ Int32.toInt 1 = 1) by decide) | exact (show (True ↔ Int32.toInt 1 = 1) by decide)⟩
  · split
    · have e : mA (o_pays (uT (uA S 42 o 3) 64 (mT S 64 + o_fine S o)) (mA S 37 o) (o_fine S o)) 42 = mA (uA S 42 o 3) 42 := (pays_A (by decide)).trans rfl
      show (∀ j, j ≠ o → mA (o_pays _ _ _) 42 j = _) ∧ _ ∧ _
      simp only [e]
      exact ⟨fun j hj => uA_of hj, by rw [uA_at]; decide, by rw [uA_at]; first | exact (show (false = true ↔ Int32.toInt 2 = 1) by decide) | exact (show (false = true ↔ Int32.toInt 3 = 1) by decide) | exact (show (true = true ↔ Int32.toInt 1 = 1) by decide) | exact (show (True ↔ Int32.toInt 1 = 1) by decide)⟩
    · split
      · show (∀ j, j ≠ o → mA (o_deb S o) 42 j = _) ∧ _ ∧ _
        simp only [deb_42]
        exact ⟨fun j hj => uA_of hj, by rw [uA_at]; decide, by rw [uA_at]; first | exact (show (false = true ↔ Int32.toInt 2 = 1) by decide) | exact (show (false = true ↔ Int32.toInt 3 = 1) by decide) | exact (show (true = true ↔ Int32.toInt 1 = 1) by decide) | exact (show (True ↔ Int32.toInt 1 = 1) by decide)⟩
      · have e : mA (uA (o_writes (o_deb S o) (dy S) (o_ca S o) (o_cs S o) (o_cm S o) (nI o)).2 46 o (o_writes (o_deb S o) (dy S) (o_ca S o) (o_cs S o) (o_cm S o) (nI o)).1) 42 = mA (uA S 42 o 1) 42 := by
          rw [mA_ne (by decide), wr_A (by decide), deb_42]
        simp only [e]
        exact ⟨fun j hj => uA_of hj, by rw [uA_at]; decide, by rw [uA_at]; first | exact (show (false = true ↔ Int32.toInt 2 = 1) by decide) | exact (show (false = true ↔ Int32.toInt 3 = 1) by decide) | exact (show (true = true ↔ Int32.toInt 1 = 1) by decide) | exact (show (True ↔ Int32.toInt 1 = 1) by decide)⟩
/-- what holds between the steps of a close -/
def QI (S : z_M) (q : z_Q) : Prop := INV q.2.2 ∧ (∀ k, k ≠ 19 ∧ k ≠ 20 → mS q.2.2 k = mS S k) ∧ q.1 + o_wt (mA q.2.2 42) (nO S) ≤ nO S ∧ (0 ≤ q.2.1.toInt ∧ q.2.1.toInt ≤ 1000000000 * (q.1 : Int)) ∧ (∀ k, k = 39 ∨ k = 40 ∨ k = 33 ∨ k = 34 → mA q.2.2 k = mA S k) ∧ mB q.2.2 47 = mB S 47 ∧ (mT q.2.2 63 = mT S 63 ∧ mT q.2.2 65 = mT S 65 ∧ mT q.2.2 66 = mT S 66)
theorem does_T {S : z_M} {o k : Nat} (h : k ≠ 64) : mT (o_does S o).2 k = mT S k := by
  unfold o_does
  split
  · rfl
  · split
    · show mT (o_pays _ _ _) k = _
      rw [pays_T, mT_uT, if_neg h]
      rfl
    · have e : mT (o_deb S o) k = mT S k := by
        unfold o_deb
        rw [wr_T]
        rfl
      split
      · exact e
      · show mT (o_writes (o_deb S o) (dy S) (o_ca S o) (o_cs S o) (o_cm S o) (nI o)).2 k = _
        rw [wr_T, e]
theorem QI.start {S : z_M} (inv : INV S) : QI S (0, 0, S) := by
  refine ⟨inv, fun _ _ => rfl, ?_, (show 0 ≤ (0 : Int64).toInt ∧ (0 : Int64).toInt ≤ 1000000000 * ((0 : Nat) : Int) from by decide), fun _ _ => rfl, rfl, rfl, rfl, rfl⟩
  have : ∀ n, o_wt (mA S 42) n ≤ n := by
    intro n
    induction n with
    | zero => exact Nat.le_refl _
    | succ n ih =>
      show o_wt (mA S 42) n + (if _ then 1 else 0) ≤ _
      split <;> omega
  have := this (nO S)
  show 0 + o_wt (mA S 42) (nO S) ≤ nO S
  omega
theorem QI.does {S : z_M} {q : z_Q} {o : Nat} (a : QI S q) (ho : o < nO S) (hw : (mA q.2.2 42 o).toInt = 0) : QI S (if (o_does q.2.2 o).1 = true then (q.1 + 1, q.2.1 + mB q.2.2 47 o, (o_does q.2.2 o).2) else (q.1, q.2.1, (o_does q.2.2 o).2)) := by
  obtain ⟨a1, a2, a3, a4, a5, a6, a7⟩ := a
  have eO : nO q.2.2 = nO S := by show ci _ = ci _; rw [a2 18 (by decide)]
  have ho' : o < nO q.2.2 := by omega
  have hi := inv_does a1 ho' hw
  have h42 := does_42 (S := q.2.2) (o := o)
  have hwt : o_wt (mA (o_does q.2.2 o).2 42) (nO S) + 1 = o_wt (mA q.2.2 42) (nO S) := o_wt_u ho h42.1 hw (by omega)
  have hb : nO q.2.2 ≤ 300 := a1.cO.2
  have jo := (a1.ord.1 o ho').2.2.2.2.2.2.2.2.2.1
  have x1 : ∀ k, k ≠ 19 ∧ k ≠ 20 → mS (o_does q.2.2 o).2 k = mS S k := fun k h => by rw [does_S h, a2 k h]
  have x2 : ∀ k, k = 39 ∨ k = 40 ∨ k = 33 ∨ k = 34 → mA (o_does q.2.2 o).2 k = mA S k := fun k h => by rw [does_A (by omega), a5 k h]
  have x3 : mB (o_does q.2.2 o).2 47 = mB S 47 := by rw [does_B (by decide), a6]
  have x4 : mT (o_does q.2.2 o).2 63 = mT S 63 ∧ mT (o_does q.2.2 o).2 65 = mT S 65 ∧ mT (o_does q.2.2 o).2 66 = mT S 66 := by
    rw [does_T (by decide), does_T (by decide), does_T (by decide)]
    exact a7
  split
  · refine ⟨hi, x1, ?_, ?_, x2, x3, x4⟩
    · show q.1 + 1 + o_wt (mA (o_does q.2.2 o).2 42) (nO S) ≤ nO S
      omega
    · show 0 ≤ (q.2.1 + mB q.2.2 47 o).toInt ∧ (q.2.1 + mB q.2.2 47 o).toInt ≤ 1000000000 * ((q.1 + 1 : Nat) : Int)
      rw [add64 (by omega) (by omega)]
      omega
  · refine ⟨hi, x1, ?_, a4, x2, x3, x4⟩
    show q.1 + o_wt (mA (o_does q.2.2 o).2 42) (nO S) ≤ nO S
    omega
theorem QI.st {S : z_M} {q : z_Q} {o hour : Nat} (a : QI S q) (ho : o < nO S) : QI S (o_st hour o q) := by
  unfold o_st
  split
  · rename_i h
    exact a.does ho h.1
  · exact a
theorem QI.hs {S : z_M} {q : z_Q} {hour n : Nat} (a : QI S q) (hn : n ≤ nO S) : QI S (o_hs hour n q) := by
  induction n with
  | zero => exact a
  | succ n ih => exact (ih (by omega)).st (by omega)
theorem QI.cl {S : z_M} {q : z_Q} {n h : Nat} (a : QI S q) (hn : n ≤ nO S) : QI S (o_cl n h q) := by
  induction h with
  | zero => exact a
  | succ h ih => exact ih.hs hn
