/-! the invariant over the primitive changes (pure) -/
theorem inv_bal {S : z_M} {a : Nat} {v : Int64} (inv : INV S) (ha : a < nA S) : INV (uB S 27 a v) := by
  sorry
theorem inv_how {S : z_M} {o : Nat} {x : Int32} (inv : INV S) (ho : o < nO S) (hw : (mA S 42 o).toInt = 0) (hx : x.toInt = 2 ∨ x.toInt = 3) : INV (uA S 42 o x) ∧ nL S + 3 * o_wt (mA (uA S 42 o x) 42) (nO S) + 3 ≤ 2000 := by
  sorry
theorem inv_wr {S : z_M} {d a side order : Int32} {sum : Int64} (inv : INV S) (ha : isx a (nA S)) (hs : inp side 0 1) (hr : nL S + 1 + 3 * o_wt (mA S 42) (nO S) ≤ 2000) (ho : order.toInt = -1 ∨ o_cL (mA S 53) (nL S) + 1 ≤ o_cO (mA S 42) (mA S 46) (nO S)) : INV (o_writes S d a side sum order).2 := by
  sorry
theorem inv_mov {S : z_M} {o : Nat} (inv : INV S) (ho : o < nO S) (hw : (mA S 42 o).toInt = 0) (hl : (mA S 46 o).toInt = -1) : INV (o_mov S o) ∧ nL S + 3 * o_wt (mA (o_mov S o) 42) (nO S) + 3 ≤ 2000 ∧ o_cL (mA S 53) (nL S) + 1 ≤ o_cO (mA (o_mov S o) 42) (mA (o_mov S o) 46) (nO S) := by
  sorry
theorem inv_bring {S : z_M} {a k : Int32} {n : Int32} {w b : Int64} (inv : INV S) (ha : isx a (nA S)) (hk : isx k (nK S)) (hR : nR S < 200) (hn : inp n 1 60) (hw : inq w 0 6000000) (hb : inq b 0 600000000) : INV (o_bring S a k n w b) := by
  sorry

theorem inv_rdm {S : z_M} {r : Nat} {v x : Int64} (inv : INV S) (hr : r < nR S) (h1 : (mA S 32 r).toInt ≤ (mB S 25 (ci (mA S 31 r))).toInt) : INV (uT (uA (uB (uB S 25 (ci (mA S 31 r)) (mB S 25 (ci (mA S 31 r)) - (mA S 32 r).toInt64)) 26 (ci (mA S 31 r)) v) 34 r 1) 64 x) := by
  sorry
theorem inv_due {S : z_M} {r : Nat} {v : Int32} {x : Int64} (inv : INV S) : INV (uT (uA S 33 r v) 64 x) := inv
theorem o_fol_in (w : Nat → Int32) (a : Int32) (n : Nat) (hn : n < 2000000000) : -1 ≤ (o_fol w a n).toInt ∧ (o_fol w a n).toInt < (n : Int) := by
  induction n with
  | zero => exact (show -1 ≤ (-1 : Int32).toInt ∧ (-1 : Int32).toInt < ((0 : Nat) : Int) from by decide)
  | succ n ih =>
    have i1 := ih (by omega)
    unfold o_fol
    split
    · rw [nI_toInt (by omega)]
      omega
    · omega
theorem o_un_ne {p : Nat} (h : p ≤ 8) : ¬ o_un p = 0 := by
  have : ∀ p, p < 9 → ¬ o_un p = 0 := by decide
  exact this p (by omega)
theorem z_u2_ne {α : Type} {f : Nat → Nat → α} {k j k' : Nat} {v : α} (h : k' ≠ k) : z_u2 f k j v k' = f k' := by
  funext j'
  show (if k' = k ∧ j' = j then v else f k' j') = _
  rw [if_neg (fun q => h q.1)]
theorem mA_ne {S : z_M} {k j k' : Nat} {v : Int32} (h : k' ≠ k) : mA (uA S k j v) k' = mA S k' := z_u2_ne h
theorem mB_ne {S : z_M} {k j k' : Nat} {v : Int64} (h : k' ≠ k) : mB (uB S k j v) k' = mB S k' := z_u2_ne h
theorem wr_A {S : z_M} {d a side order : Int32} {sum : Int64} {k : Nat} (h : k ≠ 49 ∧ k ≠ 50 ∧ k ≠ 51 ∧ k ≠ 52 ∧ k ≠ 53 ∧ k ≠ 55 ∧ k ≠ 56) : mA (o_writes S d a side sum order).2 k = mA S k := by
  unfold o_writes o_ff o_ln
  obtain ⟨h1, h2, h3, h4, h5, h6, h7⟩ := h
  split
  · rfl
  · split
    · rw [mA_uS, mA_ne h5, mA_uB, mA_ne h4, mA_ne h3, mA_ne h2, mA_ne h1, mA_ne h7, mA_uS, mA_ne h7, mA_ne h6]
    · rw [mA_uS, mA_ne h5, mA_uB, mA_ne h4, mA_ne h3, mA_ne h2, mA_ne h1, mA_ne h7]
theorem wr_B {S : z_M} {d a side order : Int32} {sum : Int64} {k : Nat} (h : k ≠ 54) : mB (o_writes S d a side sum order).2 k = mB S k := by
  unfold o_writes o_ff o_ln
  split
  · rfl
  · split <;> simp only [mB_uS, mB_uA, mB_ne h]
theorem wr_S {S : z_M} {d a side order : Int32} {sum : Int64} {k : Nat} (h : k ≠ 19 ∧ k ≠ 20) : mS (o_writes S d a side sum order).2 k = mS S k := by
  unfold o_writes o_ff o_ln
  split
  · rfl
  · split <;> simp only [mS_uS, mS_uA, mS_uB, if_neg h.1, if_neg h.2]
theorem wr_T {S : z_M} {d a side order : Int32} {sum : Int64} : mT (o_writes S d a side sum order).2 = mT S := by
  unfold o_writes o_ff o_ln
  split
  · rfl
  · split <;> simp only [mT_uS, mT_uA, mT_uB]
theorem pays_B36 {S : z_M} {a : Int32} {sum : Int64} : mB (o_pays S a sum) 36 = mB S 36 := (wr_B (by decide)).trans (mB_ne (by decide))
