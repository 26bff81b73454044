/-! the invariant over every call (pure) -/
theorem inv_S0 : INV S_0 := by
  unfold INV
  refine ⟨And.intro rfl (by decide), And.intro rfl (by decide), And.intro rfl (by decide), And.intro rfl (by decide), And.intro rfl (by decide), And.intro rfl (by decide), And.intro rfl (by decide), And.intro rfl (by decide), And.intro rfl (by decide), by decide, by decide, by unfold J_ter; decide, ?_, ?_, ?_, ?_, ?_, ?_, ?_, ?_, by unfold J_sus; decide, by decide⟩
  · exact ⟨fun k hk => absurd hk (Nat.not_lt_zero k), fun k _ _ => ⟨rfl, rfl⟩⟩
  · intro s hs
    have e1 : mA S_0 1 s = -1 := if_pos (Or.inl ⟨rfl, hs⟩)
    have e2 : mA S_0 2 s = 0 := by
      show (if (2 = 1 ∧ s < 4) ∨ (2 = 28 ∧ s < 24) then (-1 : Int32) else 0) = 0
      rw [if_neg (by omega)]
    rw [e1, e2]
    decide
  · intro a _ ha
    exact ⟨if_pos (Or.inr ⟨rfl, ha⟩), rfl⟩
  · exact fun k hk => absurd hk (Nat.not_lt_zero k)
  · refine And.intro (fun k hk => absurd hk (Nat.not_lt_zero k)) (fun o _ _ => ⟨?_, ?_⟩)
    · show (if (44 = 1 ∧ o < 4) ∨ (44 = 28 ∧ o < 24) then (-1 : Int32) else 0) = 0
      rw [if_neg (by omega)]
    · show (if (48 = 1 ∧ o < 4) ∨ (48 = 28 ∧ o < 24) then (-1 : Int32) else 0) = 0
      rw [if_neg (by omega)]
  · exact fun k hk => absurd hk (Nat.not_lt_zero k)
  · exact fun k hk => absurd hk (Nat.not_lt_zero k)
  · exact fun k hk => absurd hk (Nat.not_lt_zero k)
theorem inv_row {S : z_M} (inv : INV S) (s a n : Int32) : INV (o_row S s a n).2 := by
  unfold o_row
  split
  · exact inv
  · rename_i q1
    split
    · exact inv
    · rename_i q2
      unfold INV
      refine ⟨inv.cK, inv.cA, inv.cR, inv.cO, inv.cL, inv.cF, inv.cE, inv.cD, inv.cU, inv.fl, inv.rm, inv.ter, inv.kin, ?_, inv.acc, inv.rec, inv.ord, inv.lin, inv.fol, inv.len, inv.sus, inv.tak⟩
      intro b hb
      have j := inv.row b hb
      by_cases e : b = ci s
      · refine ⟨?_, ?_⟩
        · show inp (if 1 = 2 ∧ b = ci s then n else (if 1 = 1 ∧ b = ci s then a else S.1 1 b)) (-1) 3
          rw [if_neg (by omega), if_pos ⟨rfl, e⟩]
          omega
        · show inp (if 2 = 2 ∧ b = ci s then n else (if 2 = 1 ∧ b = ci s then a else S.1 2 b)) 0 60
          rw [if_pos ⟨rfl, e⟩]
          omega
      · refine ⟨?_, ?_⟩
        · show inp (if 1 = 2 ∧ b = ci s then n else (if 1 = 1 ∧ b = ci s then a else S.1 1 b)) (-1) 3
          rw [if_neg (by omega), if_neg (by omega)]
          exact j.1
        · show inp (if 2 = 2 ∧ b = ci s then n else (if 2 = 1 ∧ b = ci s then a else S.1 2 b)) 0 60
          rw [if_neg (by omega), if_neg (by omega)]
          exact j.2
theorem inv_tear {S : z_M} (inv : INV S) (s : Int32) : INV (o_tear S s).2 := by
  unfold o_tear
  split
  · unfold INV
    refine ⟨inv.cK, inv.cA, inv.cR, inv.cO, inv.cL, inv.cF, inv.cE, inv.cD, inv.cU, inv.fl, inv.rm, inv.ter, inv.kin, ?_, inv.acc, inv.rec, inv.ord, inv.lin, inv.fol, inv.len, inv.sus, inv.tak⟩
    intro b hb
    have j := inv.row b hb
    refine ⟨?_, j.2⟩
    show inp (mA (uA S 1 (ci s) (-1)) 1 b) (-1) 3
    by_cases e : b = ci s
    · rw [e, uA_at]
      decide
    · rw [uA_of e]
      exact j.1
  · exact inv
theorem inv_write {S : z_M} (inv : INV S) (s i : Int32) (v : Int64) : INV (o_write S s i v).2 := by
  unfold o_write
  (repeat' split) <;> exact inv
theorem inv_paste {S : z_M} (inv : INV S) (s i t k n : Int32) : INV (o_paste S s i t k n).2 := by
  unfold o_paste
  (repeat' split) <;> exact inv
theorem inv_terms {S : z_M} (inv : INV S) (r f l n p s b t : Int32) : INV (o_terms S r f l n p s b t).2 := by
  unfold o_terms
  split
  · rename_i q
    unfold INV
    refine ⟨inv.cK, inv.cA, inv.cR, inv.cO, inv.cL, inv.cF, inv.cE, inv.cD, inv.cU, inv.fl, inv.rm, ?_, inv.kin, inv.row, inv.acc, inv.rec, inv.ord, inv.lin, inv.fol, inv.len, inv.sus, inv.tak⟩
    have g := inv.ter.2.2.2.2.2.2.2.2.2
    exact ⟨q.1, q.2.1, q.2.2.1, q.2.2.2.1, q.2.2.2.2.1, q.2.2.2.2.2.1, q.2.2.2.2.2.2.1.1, q.2.2.2.2.2.2.2.1, q.2.2.2.2.2.2.2.2, g⟩
  · exact inv
theorem inv_kind {S : z_M} (inv : INV S) (a s f : Int32) : INV (o_kind S a s f).2 := by
  have hb : nK S ≤ 6 := inv.cK.2
  unfold o_kind
  split
  · exact inv
  · rename_i q1
    split
    · exact inv
    · rename_i q2
      have eN : nK (uS (uA (uA (uA S 22 (nK S) a) 23 (nK S) s) 24 (nK S) f) 15 (nI (nK S + 1))) = nK S + 1 := ci_nI (by omega)
      unfold INV
      refine ⟨?_, inv.cA, inv.cR, inv.cO, inv.cL, inv.cF, inv.cE, inv.cD, inv.cU, inv.fl, inv.rm, inv.ter, ?_, inv.row, inv.acc, ?_, inv.ord, inv.lin, inv.fol, inv.len, inv.sus, inv.tak⟩
      · exact J_nI (by omega)
      · rw [eN]
        refine And.intro (fun k hk => ?_) (fun k h1 h2 => inv.kin.2 k (by omega) h2)
        show inp (mA (uA S 22 (nK S) a) 22 k) 1 100000 ∧ 1 ≤ (mA (uA S 23 (nK S) s) 23 k).toInt ∧ (mA (uA S 23 (nK S) s) 23 k).toInt ≤ (mA (uA S 22 (nK S) a) 22 k).toInt ∧ inp (mA (uA S 24 (nK S) f) 24 k) 1 1000 ∧ inq (mB S 25 k) 0 (60 * (nR S : Int))
        by_cases e : k = nK S
        · rw [e, uA_at, uA_at, uA_at]
          have z := (inv.kin.2 (nK S) (Nat.le_refl _) (by omega)).1
          rw [z]
          have z0 : (0 : Int64).toInt = 0 := rfl
          omega
        · rw [uA_of e, uA_of e, uA_of e]
          exact inv.kin.1 k (by omega)
      · rw [eN]
        intro r hr
        have j := inv.rec r hr
        refine ⟨j.1, ?_, j.2.2.1, j.2.2.2.1, j.2.2.2.2⟩
        have := j.2.1
        show isx (mA S 31 r) (nK S + 1)
        omega
theorem inv_account {S : z_M} (inv : INV S) : INV (o_account S).2 := by
  have hb : nA S ≤ 24 := inv.cA.2
  unfold o_account
  split
  · exact inv
  · rename_i q2
    have eN : nA (uS S 16 (nI (nA S + 1))) = nA S + 1 := ci_nI (by omega)
    unfold INV
    refine ⟨inv.cK, ?_, inv.cR, inv.cO, inv.cL, inv.cF, inv.cE, inv.cD, inv.cU, inv.fl, inv.rm, inv.ter, inv.kin, inv.row, ?_, ?_, ?_, ?_, ?_, inv.len, inv.sus, inv.tak⟩
    · exact J_nI (by omega)
    · rw [eN]
      exact fun a h1 h2 => inv.acc a (by omega) h2
    · rw [eN]
      intro r hr
      have j := inv.rec r hr
      refine ⟨?_, j.2⟩
      have := j.1
      show isx (mA S 30 r) (nA S + 1)
      omega
    · rw [eN]
      refine And.intro (fun o ho => ?_) inv.ord.2
      have j := inv.ord.1 o ho
      refine ⟨?_, ?_, j.2.2.1, j.2.2.2.1, j.2.2.2.2.1, j.2.2.2.2.2.1, j.2.2.2.2.2.2.1, ?_, j.2.2.2.2.2.2.2.2.1, j.2.2.2.2.2.2.2.2.2.1, j.2.2.2.2.2.2.2.2.2.2.1, j.2.2.2.2.2.2.2.2.2.2.2⟩
      · have := j.1
        show isx (mA S 37 o) (nA S + 1)
        omega
      · have := j.2.1
        show isx (mA S 38 o) (nA S + 1)
        omega
      · intro z
        have := j.2.2.2.2.2.2.2.1 z
        show isx (mA S 44 o) (nA S + 1)
        omega
    · rw [eN]
      intro i hi
      have j := inv.lin i hi
      refine ⟨?_, j.2⟩
      have := j.1
      show isx (mA S 50 i) (nA S + 1)
      omega
    · rw [eN]
      intro f hf
      have j := inv.fol f hf
      refine ⟨?_, j.2⟩
      have := j.1
      show isx (mA S 55 f) (nA S + 1)
      omega
theorem inv_attorney {S : z_M} (inv : INV S) (a p t : Int32) : INV (o_attorney S a p t).2 := by
  unfold o_attorney
  split
  · rename_i q
    have ka := ci_lt q.1
    unfold INV
    refine ⟨inv.cK, inv.cA, inv.cR, inv.cO, inv.cL, inv.cF, inv.cE, inv.cD, inv.cU, inv.fl, inv.rm, inv.ter, inv.kin, inv.row, ?_, inv.rec, inv.ord, inv.lin, inv.fol, inv.len, inv.sus, inv.tak⟩
    intro b h1 h2
    have h1' : nA S ≤ b := h1
    have j := inv.acc b h1 h2
    refine ⟨?_, j.2⟩
    show mA (uA S 28 (ci a) p) 28 b = -1
    rw [uA_of (by omega)]
    exact j.1
  · exact inv
theorem inv_take {S : z_M} (inv : INV S) (a k s : Int32) : INV (o_take S a k s).2 := by
  have rm := inv.rm
  have hrm : o_rm S = 2000 - nL S - 3 * o_wt (mA S 42) (nO S) := rfl
  have rb : nR S ≤ 200 := inv.cR.2
  unfold o_take
  split
  · exact inv
  · rename_i q1
    split
    · exact inv
    · split
      · exact inv
      · rename_i q2 q3
        split
        · exact inv
        · rename_i q4
          have ha : isx a (nA S) := by omega
          have hk : isx k (nK S) := by omega
          have js := inv.row (ci s) (by have := ci_int (x := s) (by omega); omega)
          have kz := ci_int (x := mA S 2 (ci s)) (by omega)
          have ik := inv.kin.1 (ci k) (ci_lt hk)
          have nb : o_tN S k s ≤ o_sz S s := o_tn_le (o_sz S s)
          have uz : o_sz S s = ci (mA S 2 (ci s)) := rfl
          have tn := toIntS (show o_tN S k s < 2000000000 by omega)
          have hW0 := o_tw_in (lo := mA S 23 (ci k)) (hi := mA S 22 (ci k)) (c := mB S 3) (b := 60 * ci s) (by omega) (by omega) (o_sz S s) (by omega)
          have hW : inq (o_tW S k s) 0 6000000 := ⟨hW0.1, Int.le_trans hW0.2 (by omega)⟩
          exact inv_wr (inv_bring inv ha hk (by omega) (by omega) hW (o_b_in ik.2.2.2.1 inv.ter.1 hW)) ha (by decide) (show nL S + 1 + 3 * o_wt (mA S 42) (nO S) ≤ 2000 by omega) (Or.inl (by decide))
theorem inv_redeem {S : z_M} (inv : INV S) (r : Int32) : INV (o_redeem S r).2 := by
  have rm := inv.rm
  have hrm : o_rm S = 2000 - nL S - 3 * o_wt (mA S 42) (nO S) := rfl
  unfold o_redeem
  split
  · exact inv
  · rename_i q1
    split
    · exact inv
    · split
      · exact inv
      · split
        · exact inv
        · rename_i q3 q4
          have ho : isx r (nR S) := by omega
          have kr := ci_lt ho
          exact inv_pays (inv_rdm inv kr (by omega)) (inv.rec (ci r) kr).1 (show nL S + 1 + 3 * o_wt (mA S 42) (nO S) ≤ 2000 by omega)
theorem inv_prolong {S : z_M} (inv : INV S) (r : Int32) : INV (o_prolong S r).2 := by
  have rm := inv.rm
  have hrm : o_rm S = 2000 - nL S - 3 * o_wt (mA S 42) (nO S) := rfl
  unfold o_prolong
  split
  · exact inv
  · rename_i q1
    split
    · exact inv
    · split
      · exact inv
      · have ho : isx r (nR S) := by omega
        have kr := ci_lt ho
        exact inv_pays (inv_due inv) (inv.rec (ci r) kr).1 (show nL S + 1 + 3 * o_wt (mA S 42) (nO S) ≤ 2000 by omega)
theorem inv_give {S : z_M} (inv : INV S) (r a : Int32) : INV (o_give S r a).2 := by
  unfold o_give
  split
  · rename_i q
    unfold INV
    refine ⟨inv.cK, inv.cA, inv.cR, inv.cO, inv.cL, inv.cF, inv.cE, inv.cD, inv.cU, inv.fl, inv.rm, inv.ter, inv.kin, inv.row, inv.acc, ?_, inv.ord, inv.lin, inv.fol, inv.len, inv.sus, inv.tak⟩
    intro b hb
    have j := inv.rec b hb
    refine ⟨?_, j.2⟩
    show isx (mA (uA S 30 (ci r) a) 30 b) (nA S)
    by_cases e : b = ci r
    · rw [e, uA_at]
      exact q.2
    · rw [uA_of e]
      exact j.1
  · exact inv
theorem inv_waits {S : z_M} (inv : INV S) (f t : Int32) (sum : Int64) (on hour signer : Int32) (hh : inp hour 0 23) (hs : isx f (nA S) → 0 ≤ signer.toInt) : INV (o_waits S f t sum on hour signer).2 := by
  have rm := inv.rm
  have hrm : o_rm S = 2000 - nL S - 3 * o_wt (mA S 42) (nO S) := rfl
  have hb : nO S ≤ 300 := inv.cO.2
  unfold o_waits
  split
  · exact inv
  · rename_i q1
    split
    · exact inv
    · rename_i q2
      have wt := wt_ord (S := S) (f := f) (t := t) (on := on) (hour := hour) (signer := signer) (sum := sum) (by omega)
      have eN : nO (uS (uA (uA (uA (uA (uA (uA (uB (uA (uA S 37 (nO S) f) 38 (nO S) t) 47 (nO S) sum) 39 (nO S) on) 40 (nO S) hour) 41 (nO S) signer) 42 (nO S) 0) 43 (nO S) (-1)) 46 (nO S) (-1)) 18 (nI (nO S + 1))) = nO S + 1 := ci_nI (by omega)
      unfold INV
      refine ⟨inv.cK, inv.cA, inv.cR, ?_, inv.cL, inv.cF, inv.cE, inv.cD, inv.cU, inv.fl, ?_, inv.ter, inv.kin, inv.row, inv.acc, inv.rec, ?_, inv.lin, inv.fol, inv.len, ?_, inv.tak⟩
      · exact J_nI (by omega)
      · rw [wt]
        show nL S + 3 * (o_wt (mA S 42) (nO S) + 1) ≤ 2000
        omega
      · rw [eN]
        show J_ord (nO S + 1) (nA S) (nL S) (mA (uA S 37 (nO S) f) 37) (mA (uA S 38 (nO S) t) 38) (mA (uA S 40 (nO S) hour) 40) (mA (uA S 41 (nO S) signer) 41) (mA (uA S 42 (nO S) 0) 42) (mA (uA S 43 (nO S) (-1)) 43) (mA S 44) (mA (uA S 46 (nO S) (-1)) 46) (mA S 48) (mB (uB S 47 (nO S) sum) 47)
        refine And.intro (fun o ho => ?_) (fun o h1 h2 => inv.ord.2 o (by omega) h2)
        by_cases e : o = nO S
        · have z := inv.ord.2 (nO S) (Nat.le_refl _) (by omega)
          rw [e, uA_at, uA_at, uA_at, uA_at, uA_at, uA_at, uA_at, uB_at]
          have m1 : (-1 : Int32).toInt = -1 := rfl
          exact ⟨by omega, by omega, hh, hs (by omega), by decide, by decide, fun q => absurd q (by decide), fun q => absurd q (by decide), Or.inl rfl, by omega, Or.inl z.2, fun _ => rfl⟩
        · rw [uA_of e, uA_of e, uA_of e, uA_of e, uA_of e, uA_of e, uA_of e, uB_of e]
          exact inv.ord.1 o (by omega)
      · rw [eN]
        show o_cL (mA S 53) (nL S) ≤ o_cO (mA (uA S 42 (nO S) 0) 42) (mA (uA S 46 (nO S) (-1)) 46) (nO S + 1)
        have e1 : o_cO (mA (uA S 42 (nO S) 0) 42) (mA (uA S 46 (nO S) (-1)) 46) (nO S) = o_cO (mA S 42) (mA S 46) (nO S) := o_cO_c (fun j hj => by rw [uA_of (by omega), uA_of (by omega)])
        have e2 : o_cL (mA S 53) (nL S) ≤ o_cO (mA S 42) (mA S 46) (nO S) := inv.sus
        show _ ≤ o_cO _ _ (nO S) + _
        rw [e1]
        omega
theorem inv_order {S : z_M} (inv : INV S) (f t : Int32) (sum : Int64) (hour signer : Int32) : INV (o_order S f t sum hour signer).2 := by
  unfold o_order
  split
  · exact inv
  · rename_i q
    exact inv_waits inv _ _ _ _ _ _ (by omega) (fun _ => by omega)
theorem inv_bill {S : z_M} (inv : INV S) (f t : Int32) (sum : Int64) (days : Int32) : INV (o_bill S f t sum days).2 := by
  unfold o_bill
  split
  · exact inv
  · exact inv_waits inv _ _ _ _ _ _ (by decide) (fun q => q.1)
theorem inv_slip {S : z_M} (inv : INV S) (o how x : Int32) : INV (o_slip S o how x).2 := by
  unfold o_slip
  split
  · exact inv
  · rename_i q1
    split
    · exact inv
    · rename_i q2
      have ko := ci_lt (show isx o (nO S) by omega)
      unfold INV
      refine ⟨inv.cK, inv.cA, inv.cR, inv.cO, inv.cL, inv.cF, inv.cE, inv.cD, inv.cU, inv.fl, inv.rm, inv.ter, inv.kin, inv.row, inv.acc, inv.rec, ?_, inv.lin, inv.fol, inv.len, inv.sus, inv.tak⟩
      show J_ord (nO S) (nA S) (nL S) (mA S 37) (mA S 38) (mA S 40) (mA S 41) (mA S 42) (mA (uA S 43 (ci o) how) 43) (mA (uA S 44 (ci o) x) 44) (mA S 46) (mA S 48) (mB S 47)
      refine And.intro (fun b hb => ?_) (fun b h1 h2 => ?_)
      · have j := inv.ord.1 b hb
        by_cases e : b = ci o
        · rw [e] at j ⊢
          rw [uA_at, uA_at]
          refine ⟨j.1, j.2.1, j.2.2.1, j.2.2.2.1, j.2.2.2.2.1, ?_, ?_, ?_, j.2.2.2.2.2.2.2.2.1, j.2.2.2.2.2.2.2.2.2.1, j.2.2.2.2.2.2.2.2.2.2.1, j.2.2.2.2.2.2.2.2.2.2.2⟩
          · omega
          · omega
          · omega
        · rw [uA_of e, uA_of e]
          exact j
      · rw [uA_of (by omega)]
        exact inv.ord.2 b h1 h2
theorem inv_suspects {S : z_M} (inv : INV S) (t : Int32) : INV (o_suspects S t).2 := by
  unfold o_suspects
  split
  · exact inv
  · split
    · exact inv_su (S := S) (d := t) (g := 0) (n := 0) inv (Nat.zero_le _)
    · exact inv_su inv (Nat.le_refl _)
theorem inv_48 {S : z_M} {o : Nat} (inv : INV S) (ho : o < nO S) : INV (uA S 48 o 1) := by
  unfold INV
  refine ⟨inv.cK, inv.cA, inv.cR, inv.cO, inv.cL, inv.cF, inv.cE, inv.cD, inv.cU, inv.fl, inv.rm, inv.ter, inv.kin, inv.row, inv.acc, inv.rec, ?_, inv.lin, inv.fol, inv.len, inv.sus, inv.tak⟩
  show J_ord (nO S) (nA S) (nL S) (mA S 37) (mA S 38) (mA S 40) (mA S 41) (mA S 42) (mA S 43) (mA S 44) (mA S 46) (mA (uA S 48 o 1) 48) (mB S 47)
  refine And.intro (fun b hb => ?_) (fun b h1 h2 => ?_)
  · have j := inv.ord.1 b hb
    refine ⟨j.1, j.2.1, j.2.2.1, j.2.2.2.1, j.2.2.2.2.1, j.2.2.2.2.2.1, j.2.2.2.2.2.2.1, j.2.2.2.2.2.2.2.1, j.2.2.2.2.2.2.2.2.1, j.2.2.2.2.2.2.2.2.2.1, ?_, j.2.2.2.2.2.2.2.2.2.2.2⟩
    by_cases e : b = o
    · rw [e, uA_at]
      exact Or.inr rfl
    · rw [uA_of e]
      exact j.2.2.2.2.2.2.2.2.2.2.1
  · rw [uA_of (by omega)]
    exact inv.ord.2 b h1 h2
theorem inv_mend {S : z_M} (inv : INV S) (o : Int32) : INV (o_mend S o).2 := by
  have rm := inv.rm
  have hrm : o_rm S = 2000 - nL S - 3 * o_wt (mA S 42) (nO S) := rfl
  unfold o_mend
  split
  · exact inv
  · rename_i q1
    have hi : isx o (nO S) := by omega
    have ko := ci_lt hi
    have j := inv.ord.1 (ci o) ko
    split
    · split
      · exact inv
      · rename_i q2 q3
        have e : nI (ci o) = o := ci_nIx hi
        have a := inv_wr2 (d := mA S 45 (ci o)) (sum := mB S 47 (ci o)) (side := 1) (o := ci o) inv j.2.1 (by decide) (by omega) ko (by omega) q2
        rw [e] at a
        refine inv_48 a ?_
        show ci o < ci (mS (o_writes S (mA S 45 (ci o)) (mA S 38 (ci o)) 1 (mB S 47 (ci o)) o).2 18)
        rw [wr_S (by decide)]
        exact ko
    · rename_i q2
      refine inv_48 (S := uB (uA (uA S 50 (ci (mA S 46 (ci o))) (mA S 38 (ci o))) 52 (ci (mA S 46 (ci o))) 1) 54 (ci (mA S 46 (ci o))) (mB S 47 (ci o))) ?_ ko
      unfold INV
      refine ⟨inv.cK, inv.cA, inv.cR, inv.cO, inv.cL, inv.cF, inv.cE, inv.cD, inv.cU, inv.fl, inv.rm, inv.ter, inv.kin, inv.row, inv.acc, inv.rec, inv.ord, ?_, inv.fol, inv.len, inv.sus, inv.tak⟩
      show J_lin (nL S) (nA S) (mA (uA S 50 (ci (mA S 46 (ci o))) (mA S 38 (ci o))) 50) (mA (uA S 52 (ci (mA S 46 (ci o))) 1) 52)
      intro i hi2
      have ji := inv.lin i hi2
      by_cases e : i = ci (mA S 46 (ci o))
      · rw [e, uA_at, uA_at]
        exact ⟨j.2.1, by decide⟩
      · rw [uA_of e, uA_of e]
        exact ji
theorem inv_loan {S : z_M} (inv : INV S) (k n known : Int32) : INV (o_loan S k n known).2 := by
  have hb : nE S ≤ 20 := inv.cE.2
  have rb : nR S ≤ 200 := inv.cR.2
  have jd := inv.cD
  unfold o_loan
  split
  · exact inv
  · rename_i q1
    split
    · exact inv
    · rename_i q2
      split
      · exact inv
      · rename_i q3
        have hk : isx k (nK S) := by omega
        have kk := ci_lt hk
        have ik := (inv.kin.1 (ci k) kk).2.2.2.2
        have hco : 0 ≤ (mB S 25 (ci k) - n.toInt64).toInt ∧ (mB S 25 (ci k) - n.toInt64).toInt ≤ (mB S 25 (ci k)).toInt := by
          rw [sub64 (by rw [Int32.toInt_toInt64]; omega) (by rw [Int32.toInt_toInt64]; omega), Int32.toInt_toInt64]
          omega
        have i1 := inv_cw (x := mB S 26 (ci k) - o_lw S k n) inv kk hco
        have eN : nE (o_lend S k n known) = nE S + 1 := ci_nI (by omega)
        show INV (o_lend S k n known)
        have dt := inv.cD.t
        unfold INV
        refine ⟨i1.cK, i1.cA, i1.cR, i1.cO, i1.cL, i1.cF, ?_, i1.cD, i1.cU, i1.fl, i1.rm, i1.ter, i1.kin, i1.row, i1.acc, i1.rec, i1.ord, i1.lin, i1.fol, ?_, i1.sus, i1.tak⟩
        · exact J_nI (by omega)
        · rw [eN]
          intro e he
          have a1 : mA (o_lend S k n known) 57 e = if e = nE S then dy S else mA S 57 e := by
            show (if 57 = 58 ∧ 32 * nE S ≤ e ∧ e < 32 * nE S + 32 then o_snc known (dy S) (e - 32 * nE S) else mA (uA S 57 (nE S) (dy S)) 57 e) = _
            rw [if_neg (by omega), mA_uA]
            by_cases z : e = nE S
            · rw [if_pos ⟨rfl, z⟩, if_pos z]
            · rw [if_neg (fun q => z q.2), if_neg z]
          have a2 : ∀ p, p < 32 → mA (o_lend S k n known) 58 (32 * e + p) = if e = nE S then o_snc known (dy S) p else mA S 58 (32 * e + p) := fun p hp => by
            show (if 58 = 58 ∧ 32 * nE S ≤ 32 * e + p ∧ 32 * e + p < 32 * nE S + 32 then o_snc known (dy S) (32 * e + p - 32 * nE S) else mA S 58 (32 * e + p)) = _
            by_cases z : e = nE S
            · rw [if_pos (by omega), if_pos z, show 32 * e + p - 32 * nE S = p from by omega]
            · rw [if_neg (by omega), if_neg z]
          rw [a1]
          by_cases z : e = nE S
          · rw [if_pos z]
            refine ⟨by show 0 ≤ (mS S 14).toInt; omega, Int.le_refl _, fun p hp => ?_⟩
            rw [a2 p hp, if_pos z]
            unfold o_snc
            split
            · exact Or.inr (Int.le_refl _)
            · exact Or.inl rfl
          · rw [if_neg z]
            have j := inv.len e (by omega)
            refine ⟨j.1, j.2.1, fun p hp => ?_⟩
            rw [a2 p hp, if_neg z]
            exact j.2.2 p hp
theorem inv_tell {S : z_M} (inv : INV S) (e p : Int32) : INV (o_tell S e p).2 := by
  unfold o_tell
  split
  · rename_i q
    unfold INV
    refine ⟨inv.cK, inv.cA, inv.cR, inv.cO, inv.cL, inv.cF, inv.cE, inv.cD, inv.cU, inv.fl, inv.rm, inv.ter, inv.kin, inv.row, inv.acc, inv.rec, inv.ord, inv.lin, inv.fol, ?_, inv.sus, inv.tak⟩
    intro b hb
    have j := inv.len b hb
    refine ⟨j.1, j.2.1, fun z hz => ?_⟩
    show (mA (uA S 58 (32 * ci e + ci p) (dy S)) 58 (32 * b + z)).toInt = -1 ∨ _ ≤ (mA (uA S 58 (32 * ci e + ci p) (dy S)) 58 (32 * b + z)).toInt
    by_cases y : 32 * b + z = 32 * ci e + ci p
    · rw [y, uA_at]
      exact Or.inr j.2.1
    · rw [uA_of y]
      exact j.2.2 z hz
  · exact inv
theorem inv_close {S : z_M} (inv : INV S) : INV (o_close S).2 := by
  by_cases h5 : (dy S).toInt = 5000
  · have es : o_close S = (-9, S) := by
      unfold o_close
      rw [if_pos h5]
    rw [es]
    exact inv
  · rw [(wt_close inv h5).1]
    have qi : QI S (o_cl (nO S) 24 (0, 0, S)) := (QI.start inv).cl (Nat.le_refl _)
    generalize o_cl (nO S) 24 (0, 0, S) = R at *
    have i1 := inv_lp qi.1 (nR S)
    have ed : mS (o_lp R.2.2 (nR S)) 14 = mS S 14 := by
      rw [lp_S]
      exact qi.2.1 14 (by decide)
    show INV (o_agio (o_lp R.2.2 (nR S)) R.2.1)
    generalize o_lp R.2.2 (nR S) = T at *
    have t := i1.ter
    unfold J_ter at t
    have jd : ci (mS S 14) ≤ 5000 := inv.cD.2
    have jt := inv.cD.t
    have h5' : ¬ (mS S 14).toInt = 5000 := h5
    have ev : mS T 14 + 1 = nI (ci (mS S 14) + 1) := by
      rw [ed]
      exact inv.cD.s
    have b : -100 ≤ o_ag0 T R.2.1 ∧ o_ag0 T R.2.1 ≤ 300 := cla_in (by omega)
    have cb := cla_in (x := o_ag0 T R.2.1) (a := (mS T 11).toInt) (b := (mS T 12).toInt) (by omega)
    unfold INV
    refine ⟨i1.cK, i1.cA, i1.cR, i1.cO, i1.cL, i1.cF, i1.cE, ?_, i1.cU, i1.fl, i1.rm, ?_, i1.kin, i1.row, i1.acc, i1.rec, i1.ord, i1.lin, i1.fol, ?_, i1.sus, ?_⟩
    · show J_n (mS T 14 + 1) 5000
      rw [ev]
      exact J_nI (by omega)
    · show J_ter (mS T 5) (mS T 6) (mS T 7) (mS T 8) (mS T 9) (mS T 10) (mS T 11) (mS T 12) (Int32.ofInt (o_cla (o_ag0 T R.2.1) (mS T 11).toInt (mS T 12).toInt))
      refine ⟨t.1, t.2.1, t.2.2.1, t.2.2.2.1, t.2.2.2.2.1, t.2.2.2.2.2.1, t.2.2.2.2.2.2.1, t.2.2.2.2.2.2.2.1, t.2.2.2.2.2.2.2.2.1, ?_⟩
      unfold inp
      rw [ofInt32 (by omega) (by omega)]
      omega
    · intro e he
      have j := i1.len e he
      refine ⟨j.1, ?_, j.2.2⟩
      show (mA T 57 e).toInt ≤ (mS T 14 + 1).toInt
      rw [ev, nI_toInt (by omega)]
      have := j.2.1
      rw [ed] at this
      omega
    · show inq 0 0 (600000000 * ((nR T : Nat) : Int))
      have z0 : (0 : Int64).toInt = 0 := rfl
      unfold inq
      rw [z0]
      omega
