/-! counts over changed rows; the invariant over the primitive changes (pure) -/
theorem uA_at {S : z_M} {k j : Nat} {v : Int32} : mA (uA S k j v) k j = v := if_pos ⟨rfl, rfl⟩
theorem uA_of {S : z_M} {k j j' : Nat} {v : Int32} (h : j' ≠ j) : mA (uA S k j v) k j' = mA S k j' := if_neg (fun q => h q.2)
theorem uB_at {S : z_M} {k j : Nat} {v : Int64} : mB (uB S k j v) k j = v := if_pos ⟨rfl, rfl⟩
theorem uB_of {S : z_M} {k j j' : Nat} {v : Int64} (h : j' ≠ j) : mB (uB S k j v) k j' = mB S k j' := if_neg (fun q => h q.2)
theorem uS_at {S : z_M} {k : Nat} {v : Int32} : mS (uS S k v) k = v := if_pos rfl
theorem J_nI {n b : Nat} (h : n ≤ b) (hb : b < 2 ^ 31 := by decide) : J_n (nI n) b := by
  unfold J_n
  rw [ci_nI (by omega)]
  exact ⟨rfl, h⟩
theorem o_wt_c {w w' : Nat → Int32} {n : Nat} (h : ∀ j, j < n → w' j = w j) : o_wt w' n = o_wt w n := by
  induction n with
  | zero => rfl
  | succ n ih =>
    show o_wt w' n + (if (w' n).toInt = 0 then 1 else 0) = o_wt w n + (if (w n).toInt = 0 then 1 else 0)
    rw [ih (fun j hj => h j (by omega)), h n (by omega)]
theorem o_wt_u {w w' : Nat → Int32} {n o : Nat} (ho : o < n) (h : ∀ j, j ≠ o → w' j = w j) (h0 : (w o).toInt = 0) (h1 : ¬ (w' o).toInt = 0) : o_wt w' n + 1 = o_wt w n := by
  induction n with
  | zero => omega
  | succ n ih =>
    show o_wt w' n + (if (w' n).toInt = 0 then 1 else 0) + 1 = o_wt w n + (if (w n).toInt = 0 then 1 else 0)
    by_cases e : o = n
    · subst e
      rw [if_neg h1, if_pos h0, o_wt_c (w := w) (w' := w') (fun j hj => h j (by omega))]
    · rw [h n (fun q => e q.symm), ← ih (by omega)]
      omega
theorem o_cL_c {w w' : Nat → Int32} {n : Nat} (h : ∀ j, j < n → w' j = w j) : o_cL w' n = o_cL w n := by
  induction n with
  | zero => rfl
  | succ n ih =>
    show o_cL w' n + (if (w' n).toInt = -1 then 0 else 1) = o_cL w n + (if (w n).toInt = -1 then 0 else 1)
    rw [ih (fun j hj => h j (by omega)), h n (by omega)]
abbrev o_cc (x y : Int32) : Nat := if x.toInt = 1 then (if y.toInt = -1 then 1 else 2) else 0
theorem o_cO_c {a a' b b' : Nat → Int32} {n : Nat} (h : ∀ j, j < n → o_cc (a' j) (b' j) = o_cc (a j) (b j)) : o_cO a' b' n = o_cO a b n := by
  induction n with
  | zero => rfl
  | succ n ih =>
    show o_cO a' b' n + o_cc (a' n) (b' n) = o_cO a b n + o_cc (a n) (b n)
    rw [ih (fun j hj => h j (by omega)), h n (by omega)]
theorem o_cO_u {a a' b b' : Nat → Int32} {n o : Nat} (ho : o < n) (h : ∀ j, j ≠ o → a' j = a j ∧ b' j = b j) (h1 : o_cc (a' o) (b' o) = o_cc (a o) (b o) + 1) : o_cO a' b' n = o_cO a b n + 1 := by
  induction n with
  | zero => omega
  | succ n ih =>
    show o_cO a' b' n + o_cc (a' n) (b' n) = o_cO a b n + o_cc (a n) (b n) + 1
    by_cases e : o = n
    · subst e
      rw [h1, o_cO_c (a := a) (a' := a') (b := b) (b' := b') (fun j hj => by rw [(h j (by omega)).1, (h j (by omega)).2])]
      omega
    · rw [(h n (fun q => e q.symm)).1, (h n (fun q => e q.symm)).2, ih (by omega)]
      omega
theorem o_cO_le {a b : Nat → Int32} {n : Nat} : o_cO a b n ≤ 2 * n := by
  induction n with
  | zero => exact Nat.le_refl _
  | succ n ih =>
    show o_cO a b n + o_cc (a n) (b n) ≤ _
    have : o_cc (a n) (b n) ≤ 2 := by unfold o_cc; (repeat' split) <;> omega
    omega

theorem inv_bal {S : z_M} {a : Nat} {v : Int64} (inv : INV S) (ha : a < nA S) : INV (uB S 27 a v) := by
  unfold INV
  refine ⟨inv.cK, inv.cA, inv.cR, inv.cO, inv.cL, inv.cF, inv.cE, inv.cD, inv.cU, inv.fl, inv.rm, inv.ter, inv.kin, inv.row, ?_, inv.rec, inv.ord, inv.lin, inv.fol, inv.len, inv.sus, inv.tak⟩
  intro a' h1 h2
  have h1' : nA S ≤ a' := h1
  refine ⟨(inv.acc a' h1 h2).1, ?_⟩
  rw [uB_of (by omega)]
  exact (inv.acc a' h1 h2).2
theorem inv_how {S : z_M} {o : Nat} {x : Int32} (inv : INV S) (ho : o < nO S) (hw : (mA S 42 o).toInt = 0) (hx : x.toInt = 2 ∨ x.toInt = 3) : INV (uA S 42 o x) ∧ nL S + 3 * o_wt (mA (uA S 42 o x) 42) (nO S) + 3 ≤ 2000 := by
  have hw' : o_wt (mA (uA S 42 o x) 42) (nO S) + 1 = o_wt (mA S 42) (nO S) := o_wt_u ho (fun j hj => uA_of hj) hw (by rw [uA_at]; omega)
  have hr := inv.rm
  refine ⟨?_, by omega⟩
  unfold INV
  refine ⟨inv.cK, inv.cA, inv.cR, inv.cO, inv.cL, inv.cF, inv.cE, inv.cD, inv.cU, inv.fl, ?_, inv.ter, inv.kin, inv.row, inv.acc, inv.rec, ?_, inv.lin, inv.fol, inv.len, ?_, inv.tak⟩
  · show nL S + 3 * o_wt (mA (uA S 42 o x) 42) (nO S) ≤ 2000
    omega
  · unfold J_ord
    refine ⟨fun o' ho' => ?_, inv.ord.2⟩
    have j := inv.ord.1 o' ho'
    refine ⟨j.1, j.2.1, j.2.2.1, j.2.2.2.1, ?_, j.2.2.2.2.2.1, j.2.2.2.2.2.2.1, j.2.2.2.2.2.2.2.1, j.2.2.2.2.2.2.2.2.1, j.2.2.2.2.2.2.2.2.2.1, j.2.2.2.2.2.2.2.2.2.2.1, ?_⟩
    · by_cases e : o' = o
      · rw [e, uA_at]; omega
      · rw [uA_of e]; exact j.2.2.2.2.1
    · by_cases e : o' = o
      · rw [e, uA_at]; omega
      · rw [uA_of e]; exact j.2.2.2.2.2.2.2.2.2.2.2
  · unfold J_sus
    have e1 : o_cO (mA (uA S 42 o x) 42) (mA S 46) (nO S) = o_cO (mA S 42) (mA S 46) (nO S) := o_cO_c (fun j hj => by
      by_cases e : j = o
      · rw [e, uA_at]
        unfold o_cc
        rw [if_neg (by omega), if_neg (by omega)]
      · rw [uA_of e])
    have e2 := inv.sus
    unfold J_sus at e2
    rw [← e1] at e2
    exact e2
theorem o_fol_in (w : Nat → Int32) (a : Int32) (n : Nat) (hn : n < 2000000000) : -1 ≤ (o_fol w a n).toInt ∧ (o_fol w a n).toInt < (n : Int) := by
  induction n with
  | zero => exact (show -1 ≤ (-1 : Int32).toInt ∧ (-1 : Int32).toInt < ((0 : Nat) : Int) from by decide)
  | succ n ih =>
    have i1 := ih (by omega)
    unfold o_fol
    split
    · rw [nI_toInt (by omega)]
      omega
    · omega
theorem ff_S {S : z_M} {a : Int32} {k : Nat} (h : k ≠ 20) : mS (o_ff S a).2 k = mS S k := by
  unfold o_ff
  split
  · simp only [mS_uS, mS_uA, if_neg h]
  · simp only [mS_uA]
theorem ff_A {S : z_M} {a : Int32} {k : Nat} (h : k ≠ 55 ∧ k ≠ 56) : mA (o_ff S a).2 k = mA S k := by
  unfold o_ff
  funext j
  split
  · simp only [mA_uA, mA_uS]
    rw [if_neg (by omega), if_neg (by omega), if_neg (by omega)]
  · simp only [mA_uA]
    rw [if_neg (by omega)]
theorem ff_B {S : z_M} {a : Int32} : mB (o_ff S a).2 = mB S := by
  unfold o_ff
  split <;> rfl
theorem ff_T {S : z_M} {a : Int32} : mT (o_ff S a).2 = mT S := by
  unfold o_ff
  split <;> rfl
theorem ff_fol {S : z_M} {a : Int32} (inv : INV S) (ha : isx a (nA S)) (hl : nL S < 2000) : J_fol (nF (o_ff S a).2) (nA S) (mA (o_ff S a).2 55) (mA (o_ff S a).2 56) ∧ nF (o_ff S a).2 ≤ nF S + 1 ∧ mS (o_ff S a).2 20 = nI (nF (o_ff S a).2) := by
  have hb := inv.fl
  have hf := o_fol_in (mA S 55) a (nF S) (by omega)
  unfold o_ff
  split
  · refine ⟨?_, ?_, ?_⟩
    · intro f hf'
      have hf2 : f < ci (nI (nF S + 1)) := hf'
      rw [ci_nI (by omega)] at hf2
      by_cases e : f = nF S
      · refine ⟨?_, ?_⟩
        · show isx (mA (uA (uS (uA (uA S 55 (nF S) a) 56 (nF S) 0) 20 (nI (nF S + 1))) 56 (nF S) 1) 55 f) (nA S)
          simp only [mA_uA, mA_uS]
          rw [if_neg (by omega), if_neg (by omega), if_pos ⟨trivial, e⟩]
          exact ha
        · show inp (mA (uA (uS (uA (uA S 55 (nF S) a) 56 (nF S) 0) 20 (nI (nF S + 1))) 56 (nF S) 1) 56 f) 1 8
          rw [e, uA_at]
          decide
      · have j := inv.fol f (by omega)
        refine ⟨?_, ?_⟩
        · show isx (mA (uA (uS (uA (uA S 55 (nF S) a) 56 (nF S) 0) 20 (nI (nF S + 1))) 56 (nF S) 1) 55 f) (nA S)
          simp only [mA_uA, mA_uS]
          rw [if_neg (by omega), if_neg (by omega), if_neg (by omega)]
          exact j.1
        · show inp (mA (uA (uS (uA (uA S 55 (nF S) a) 56 (nF S) 0) 20 (nI (nF S + 1))) 56 (nF S) 1) 56 f) 1 8
          rw [uA_of e, mA_uS, uA_of e]
          show inp (mA (uA S 55 (nF S) a) 56 f) 1 8
          rw [mA_uA, if_neg (by omega)]
          exact j.2
    · show ci (nI (nF S + 1)) ≤ _
      rw [ci_nI (by omega)]
      exact Nat.le_refl _
    · show nI (nF S + 1) = nI (ci (nI (nF S + 1)))
      rw [ci_nI (by omega)]
  · rename_i hq
    refine ⟨?_, Nat.le_succ _, inv.cF.1⟩
    intro f hf'
    have j := inv.fol f hf'
    have kf := ci_int (x := o_fol (mA S 55) a (nF S)) (by omega)
    have jf := inv.fol (ci (o_fol (mA S 55) a (nF S))) (by omega)
    refine ⟨?_, ?_⟩
    · show isx (mA (uA S 56 _ _) 55 f) (nA S)
      rw [mA_uA, if_neg (by omega)]
      exact j.1
    · show inp (mA (uA S 56 (ci (o_fol (mA S 55) a (nF S))) (mA S 56 (ci (o_fol (mA S 55) a (nF S))) + 1)) 56 f) 1 8
      by_cases e : f = ci (o_fol (mA S 55) a (nF S))
      · have one : (1 : Int32).toInt = 1 := rfl
        rw [e, uA_at]
        unfold inp
        rw [add32 (by omega) (by omega)]
        omega
      · rw [uA_of e]
        exact j.2
theorem inv_wr {S : z_M} {d a side order : Int32} {sum : Int64} (inv : INV S) (ha : isx a (nA S)) (hs : inp side 0 1) (hr : nL S + 1 + 3 * o_wt (mA S 42) (nO S) ≤ 2000) (ho : order.toInt = -1 ∨ o_cL (mA S 53) (nL S) + 1 ≤ o_cO (mA S 42) (mA S 46) (nO S)) : INV (o_writes S d a side sum order).2 := by
  unfold o_writes
  split
  · exact inv
  · have hfl := inv.fl
    have hff := ff_fol inv ha (by omega)
    have hS : ∀ k, k ≠ 20 → mS (o_ff S a).2 k = mS S k := fun k h => ff_S h
    have hA : ∀ k, (k ≠ 55 ∧ k ≠ 56) → mA (o_ff S a).2 k = mA S k := fun k h => ff_A h
    have hB : mB (o_ff S a).2 = mB S := ff_B
    have hT : mT (o_ff S a).2 = mT S := ff_T
    show INV (o_ln (o_ff S a).2 d a (o_ff S a).1 side sum order)
    generalize (o_ff S a).1 = f
    generalize (o_ff S a).2 = T at *
    have i_cK : J_n (mS T 15) 6 := by
      rw [hS 15 (by decide)]
      exact inv.cK
    have i_cA : J_n (mS T 16) 24 := by
      rw [hS 16 (by decide)]
      exact inv.cA
    have i_cR : J_n (mS T 17) 200 := by
      rw [hS 17 (by decide)]
      exact inv.cR
    have i_cO : J_n (mS T 18) 300 := by
      rw [hS 18 (by decide)]
      exact inv.cO
    have i_cE : J_n (mS T 21) 20 := by
      rw [hS 21 (by decide)]
      exact inv.cE
    have i_cD : J_n (mS T 14) 5000 := by
      rw [hS 14 (by decide)]
      exact inv.cD
    have i_cU : J_n (mS T 62) 600 := by
      rw [hS 62 (by decide)]
      exact inv.cU
    have i_ter : J_ter (mS T 5) (mS T 6) (mS T 7) (mS T 8) (mS T 9) (mS T 10) (mS T 11) (mS T 12) (mS T 13) := by
      rw [hS 5 (by decide), hS 6 (by decide), hS 7 (by decide), hS 8 (by decide), hS 9 (by decide), hS 10 (by decide), hS 11 (by decide), hS 12 (by decide), hS 13 (by decide)]
      exact inv.ter
    have i_kin : J_kin ((ci (mS T 15))) ((ci (mS T 17))) (mA T 22) (mA T 23) (mA T 24) (mB T 25) (mB T 26) := by
      rw [hS 15 (by decide), hS 17 (by decide), hA 22 (by decide), hA 23 (by decide), hA 24 (by decide), hB]
      exact inv.kin
    have i_row : J_row (mA T 1) (mA T 2) := by
      rw [hA 1 (by decide), hA 2 (by decide)]
      exact inv.row
    have i_acc : J_acc ((ci (mS T 16))) (mA T 28) (mB T 27) := by
      rw [hS 16 (by decide), hA 28 (by decide), hB]
      exact inv.acc
    have i_rec : J_rec ((ci (mS T 17))) ((ci (mS T 16))) ((ci (mS T 15))) (mA T 30) (mA T 31) (mA T 32) (mA T 34) (mB T 35) := by
      rw [hS 17 (by decide), hS 16 (by decide), hS 15 (by decide), hA 30 (by decide), hA 31 (by decide), hA 32 (by decide), hA 34 (by decide), hB]
      exact inv.rec
    have i_len : J_len ((ci (mS T 21))) (mS T 14) (mA T 57) (mA T 58) := by
      rw [hS 21 (by decide), hS 14 (by decide), hA 57 (by decide), hA 58 (by decide)]
      exact inv.len
    have i_tak : inq (mT T 63) 0 (600000000 * ((ci (mS T 17)) : Int)) := by
      rw [hT, hS 17 (by decide)]
      exact inv.tak
    have eL : nL T = nL S := by show ci (mS T 19) = ci (mS S 19); rw [hS 19 (by decide)]
    have eL' : nL (o_ln T d a f side sum order) = nL S + 1 := by
      show ci (nI (nL T + 1)) = _
      rw [eL, ci_nI (by omega)]
    have eA : nA T = nA S := by show ci (mS T 16) = ci (mS S 16); rw [hS 16 (by decide)]
    have eO : nO T = nO S := by show ci (mS T 18) = ci (mS S 18); rw [hS 18 (by decide)]
    unfold INV
    refine ⟨i_cK, i_cA, i_cR, i_cO, ?_, ?_, i_cE, i_cD, i_cU, ?_, ?_, i_ter, i_kin, i_row, i_acc, i_rec, ?_, ?_, ?_, i_len, ?_, i_tak⟩
    · show J_n (nI (nL T + 1)) 2000
      exact J_nI (by omega)
    · show J_n (mS T 20) 2000
      rw [hff.2.2]
      exact J_nI (by have := hff.2.1; omega)
    · rw [eL']
      have := hff.2.1
      show nF T ≤ _
      omega
    · rw [eL']
      show nL S + 1 + 3 * o_wt (mA T 42) (nO T) ≤ 2000
      rw [hA 42 (by decide), eO]
      exact hr
    · rw [eL']
      show J_ord (nO T) (nA T) (nL S + 1) (mA T 37) (mA T 38) (mA T 40) (mA T 41) (mA T 42) (mA T 43) (mA T 44) (mA T 46) (mA T 48) (mB T 47)
      rw [eO, eA, hA 37 (by decide), hA 38 (by decide), hA 40 (by decide), hA 41 (by decide), hA 42 (by decide), hA 43 (by decide), hA 44 (by decide), hA 46 (by decide), hA 48 (by decide), hB]
      refine And.intro (fun o' ho' => ?_) inv.ord.2
      have j := inv.ord.1 o' ho'
      refine ⟨j.1, j.2.1, j.2.2.1, j.2.2.2.1, j.2.2.2.2.1, j.2.2.2.2.2.1, j.2.2.2.2.2.2.1, j.2.2.2.2.2.2.2.1, ?_, j.2.2.2.2.2.2.2.2.2.1, j.2.2.2.2.2.2.2.2.2.2.1, j.2.2.2.2.2.2.2.2.2.2.2⟩
      have j9 := j.2.2.2.2.2.2.2.2.1
      omega
    · rw [eL']
      show J_lin (nL S + 1) (nA T) (mA (uA T 50 (nL T) a) 50) (mA (uA T 52 (nL T) side) 52)
      rw [eA, eL]
      intro i hi
      by_cases e : i = nL S
      · rw [e, uA_at, uA_at]
        exact ⟨ha, hs⟩
      · rw [uA_of e, uA_of e, hA 50 (by decide), hA 52 (by decide)]
        exact inv.lin i (by omega)
    · show J_fol (nF T) (nA T) (mA T 55) (mA T 56)
      rw [eA]
      exact hff.1
    · rw [eL']
      show o_cL (mA (uA T 53 (nL T) order) 53) (nL S + 1) ≤ o_cO (mA T 42) (mA T 46) (nO T)
      rw [eL, eO, hA 42 (by decide), hA 46 (by decide)]
      have e1 : o_cL (mA (uA T 53 (nL S) order) 53) (nL S) = o_cL (mA S 53) (nL S) := o_cL_c (fun j hj => by rw [uA_of (by omega), hA 53 (by decide)])
      have e2 : o_cL (mA S 53) (nL S) ≤ o_cO (mA S 42) (mA S 46) (nO S) := inv.sus
      show o_cL _ (nL S) + (if (mA (uA T 53 (nL S) order) 53 (nL S)).toInt = -1 then 0 else 1) ≤ _
      rw [e1, uA_at]
      split <;> omega
theorem inv_mov {S : z_M} {o : Nat} (inv : INV S) (ho : o < nO S) (hw : (mA S 42 o).toInt = 0) (hl : (mA S 46 o).toInt = -1) : INV (o_mov S o) ∧ nL S + 3 * o_wt (mA (o_mov S o) 42) (nO S) + 3 ≤ 2000 ∧ o_cL (mA S 53) (nL S) + 1 ≤ o_cO (mA (o_mov S o) 42) (mA (o_mov S o) 46) (nO S) := by
  have e42 : mA (o_mov S o) 42 = mA (uA S 42 o 1) 42 := rfl
  have e46 : mA (o_mov S o) 46 = mA S 46 := rfl
  have one : (1 : Int32).toInt = 1 := rfl
  have hw' : o_wt (mA (uA S 42 o 1) 42) (nO S) + 1 = o_wt (mA S 42) (nO S) := o_wt_u ho (fun j hj => uA_of hj) hw (by rw [uA_at]; omega)
  have hr := inv.rm
  have hc : o_cO (mA (uA S 42 o 1) 42) (mA S 46) (nO S) = o_cO (mA S 42) (mA S 46) (nO S) + 1 := o_cO_u ho (fun j hj => ⟨uA_of hj, rfl⟩) (by
    rw [uA_at]
    unfold o_cc
    rw [if_pos one, if_pos hl, if_neg (by omega)])
  have hs : o_cL (mA S 53) (nL S) ≤ o_cO (mA S 42) (mA S 46) (nO S) := inv.sus
  rw [e42, e46]
  refine ⟨?_, by omega, by omega⟩
  have jo := inv.ord.1 o ho
  have k1 := ci_lt jo.1
  have k2 := ci_lt jo.2.1
  unfold INV
  refine ⟨inv.cK, inv.cA, inv.cR, inv.cO, inv.cL, inv.cF, inv.cE, inv.cD, inv.cU, inv.fl, ?_, inv.ter, inv.kin, inv.row, ?_, inv.rec, ?_, inv.lin, inv.fol, inv.len, ?_, inv.tak⟩
  · show nL S + 3 * o_wt (mA (uA S 42 o 1) 42) (nO S) ≤ 2000
    omega
  · intro a' h1 h2
    have h1' : nA S ≤ a' := h1
    refine ⟨(inv.acc a' h1 h2).1, ?_⟩
    unfold o_mov
    rw [uB_of (by omega), uB_of (by omega)]
    exact (inv.acc a' h1 h2).2
  · refine And.intro (fun o' ho' => ?_) inv.ord.2
    have j := inv.ord.1 o' ho'
    refine ⟨j.1, j.2.1, j.2.2.1, j.2.2.2.1, ?_, j.2.2.2.2.2.1, j.2.2.2.2.2.2.1, j.2.2.2.2.2.2.2.1, j.2.2.2.2.2.2.2.2.1, j.2.2.2.2.2.2.2.2.2.1, j.2.2.2.2.2.2.2.2.2.2.1, ?_⟩
    · show inp (mA (uA S 42 o 1) 42 o') 0 3
      by_cases e : o' = o
      · rw [e, uA_at]; omega
      · rw [uA_of e]; exact j.2.2.2.2.1
    · show (mA (uA S 42 o 1) 42 o').toInt = 0 → _
      by_cases e : o' = o
      · rw [e, uA_at]; omega
      · rw [uA_of e]; exact j.2.2.2.2.2.2.2.2.2.2.2
  · show o_cL (mA S 53) (nL S) ≤ o_cO (mA (uA S 42 o 1) 42) (mA S 46) (nO S)
    omega
theorem inv_bring {S : z_M} {a k : Int32} {n : Int32} {w b : Int64} (inv : INV S) (ha : isx a (nA S)) (hk : isx k (nK S)) (hR : nR S < 200) (hn : inp n 1 60) (hw : inq w 0 6000000) (hb : inq b 0 600000000) : INV (o_bring S a k n w b) := by
  have eR : nR (o_bring S a k n w b) = nR S + 1 := by
    show ci (nI (nR S + 1)) = _
    exact ci_nI (by omega)
  have ka := ci_lt ha
  have kk := ci_lt hk
  unfold INV
  rw [eR]
  refine ⟨inv.cK, inv.cA, ?_, inv.cO, inv.cL, inv.cF, inv.cE, inv.cD, inv.cU, inv.fl, inv.rm, inv.ter, ?_, inv.row, ?_, ?_, inv.ord, inv.lin, inv.fol, inv.len, inv.sus, ?_⟩
  · show J_n (nI (nR S + 1)) 200
    exact J_nI (by omega)
  · show J_kin (nK S) (nR S + 1) (mA S 22) (mA S 23) (mA S 24) (mB (uB S 25 (ci k) (mB S 25 (ci k) + n.toInt64)) 25) (mB (uB S 26 (ci k) (mB S 26 (ci k) + w)) 26)
    refine And.intro (fun j hj => ?_) (fun j h1 h2 => ?_)
    · have q := inv.kin.1 j hj
      refine ⟨q.1, q.2.1, q.2.2.1, q.2.2.2.1, ?_⟩
      have q5 := q.2.2.2.2
      by_cases e : j = ci k
      · rw [e, uB_at]
        rw [e] at q5
        unfold inq
        rw [add64 (by rw [Int32.toInt_toInt64]; omega) (by rw [Int32.toInt_toInt64]; omega), Int32.toInt_toInt64]
        omega
      · rw [uB_of e]
        omega
    · rw [uB_of (by omega), uB_of (by omega)]
      exact inv.kin.2 j h1 h2
  · intro a' h1 h2
    have h1' : nA S ≤ a' := h1
    refine ⟨(inv.acc a' h1 h2).1, ?_⟩
    show mB (uB S 27 (ci a) (mB S 27 (ci a) + b)) 27 a' = 0
    rw [uB_of (by omega)]
    exact (inv.acc a' h1 h2).2
  · show J_rec (nR S + 1) (nA S) (nK S) (mA (uA S 30 (nR S) a) 30) (mA (uA S 31 (nR S) k) 31) (mA (uA S 32 (nR S) n) 32) (mA (uA S 34 (nR S) 0) 34) (mB (uB S 35 (nR S) w) 35)
    intro r hr
    by_cases e : r = nR S
    · rw [e, uA_at, uA_at, uA_at, uA_at, uB_at]
      exact ⟨ha, hk, by omega, hw, by decide⟩
    · rw [uA_of e, uA_of e, uA_of e, uA_of e, uB_of e]
      exact inv.rec r (by omega)
  · show inq (mT S 63 + b) 0 (600000000 * ((nR S + 1 : Nat) : Int))
    have t := inv.tak
    unfold inq
    rw [add64 (by omega) (by omega)]
    omega
theorem inv_cw {S : z_M} {k : Nat} {v x : Int64} (inv : INV S) (hk : k < nK S) (hv : 0 ≤ v.toInt ∧ v.toInt ≤ (mB S 25 k).toInt) : INV (uB (uB S 25 k v) 26 k x) := by
  unfold INV
  refine ⟨inv.cK, inv.cA, inv.cR, inv.cO, inv.cL, inv.cF, inv.cE, inv.cD, inv.cU, inv.fl, inv.rm, inv.ter, ?_, inv.row, inv.acc, inv.rec, inv.ord, inv.lin, inv.fol, inv.len, inv.sus, inv.tak⟩
  show J_kin (nK S) (nR S) (mA S 22) (mA S 23) (mA S 24) (mB (uB S 25 k v) 25) (mB (uB S 26 k x) 26)
  refine And.intro (fun j hj => ?_) (fun j h1 h2 => ?_)
  · have q := inv.kin.1 j hj
    refine ⟨q.1, q.2.1, q.2.2.1, q.2.2.2.1, ?_⟩
    have q5 := q.2.2.2.2
    by_cases e : j = k
    · rw [e, uB_at]
      rw [e] at q5
      omega
    · rw [uB_of e]
      omega
  · rw [uB_of (by omega), uB_of (by omega)]
    exact inv.kin.2 j h1 h2
theorem inv_rhow {S : z_M} {r : Nat} {v : Int32} (inv : INV S) (hv : inp v 0 2) : INV (uA S 34 r v) := by
  unfold INV
  refine ⟨inv.cK, inv.cA, inv.cR, inv.cO, inv.cL, inv.cF, inv.cE, inv.cD, inv.cU, inv.fl, inv.rm, inv.ter, inv.kin, inv.row, inv.acc, ?_, inv.ord, inv.lin, inv.fol, inv.len, inv.sus, inv.tak⟩
  intro j hj
  have q := inv.rec j hj
  refine ⟨q.1, q.2.1, q.2.2.1, q.2.2.2.1, ?_⟩
  by_cases e : j = r
  · rw [e, uA_at]; exact hv
  · rw [uA_of e]; exact q.2.2.2.2
theorem inv_rdm {S : z_M} {r : Nat} {v x : Int64} (inv : INV S) (hr : r < nR S) (h1 : (mA S 32 r).toInt ≤ (mB S 25 (ci (mA S 31 r))).toInt) : INV (uT (uA (uB (uB S 25 (ci (mA S 31 r)) (mB S 25 (ci (mA S 31 r)) - (mA S 32 r).toInt64)) 26 (ci (mA S 31 r)) v) 34 r 1) 64 x) := by
  have jr := inv.rec r hr
  have kk := ci_lt jr.2.1
  have jk := inv.kin.1 (ci (mA S 31 r)) kk
  have rb : nR S ≤ 200 := inv.cR.2
  have e1 : (mB S 25 (ci (mA S 31 r)) - (mA S 32 r).toInt64).toInt = (mB S 25 (ci (mA S 31 r))).toInt - (mA S 32 r).toInt := by
    have := jk.2.2.2.2
    have := jr.2.2.1
    rw [sub64 (by rw [Int32.toInt_toInt64]; omega) (by rw [Int32.toInt_toInt64]; omega), Int32.toInt_toInt64]
  have i1 := inv_cw (k := ci (mA S 31 r)) (v := mB S 25 (ci (mA S 31 r)) - (mA S 32 r).toInt64) (x := v) inv kk (by rw [e1]; have := jr.2.2.1; omega)
  exact inv_rhow (r := r) (v := 1) i1 (by decide)
