/-! the invariant over the primitive changes (pure) -/
theorem inv_due {S : z_M} {r : Nat} {v : Int32} {x : Int64} (inv : INV S) : INV (uT (uA S 33 r v) 64 x) := inv
theorem o_nin_t {v g : Int64} {i n : Nat} (hi : i < n) (h : o_sw v i = v + g) : o_nin v g n = true := by
  induction n with
  | zero => omega
  | succ n ih =>
    show (o_nin v g n || decide (o_sw v n = v + g)) = true
    by_cases e : i = n
    · subst e
      rw [decide_eq_true h, Bool.or_true]
    · rw [ih (by omega), Bool.true_or]
theorem ix32c {s i : Int32} (hs : 0 ≤ s.toInt) (hi : 0 ≤ i.toInt) : 32 * s + i = nI (32 * ci s + ci i) := by
  rw [← ix32, ← ci_e hs, ← ci_e hi]
theorem o_un_ne {p : Nat} (h : p ≤ 8) : ¬ o_un p = 0 := by
  have : ∀ p, p < 9 → ¬ o_un p = 0 := by decide
  exact this p (by omega)
theorem z_u2_ne {α : Type} {f : Nat → Nat → α} {k j k' : Nat} {v : α} (h : k' ≠ k) : z_u2 f k j v k' = f k' := by
  funext j'
  show (if k' = k ∧ j' = j then v else f k' j') = _
  rw [if_neg (fun q => h q.1)]
theorem mA_ne {S : z_M} {k j k' : Nat} {v : Int32} (h : k' ≠ k) : mA (uA S k j v) k' = mA S k' := z_u2_ne h
theorem mB_ne {S : z_M} {k j k' : Nat} {v : Int64} (h : k' ≠ k) : mB (uB S k j v) k' = mB S k' := z_u2_ne h
theorem wr_A {S : z_M} {d a side order : Int32} {sum : Int64} {k : Nat} (h : k ≠ 49 ∧ k ≠ 50 ∧ k ≠ 51 ∧ k ≠ 52 ∧ k ≠ 53 ∧ k ≠ 55 ∧ k ≠ 56) : mA (o_writes S d a side sum order).2 k = mA S k := by
  unfold o_writes o_ff o_ln
  obtain ⟨h1, h2, h3, h4, h5, h6, h7⟩ := h
  split
  · rfl
  · split
    · rw [mA_uS, mA_ne h5, mA_uB, mA_ne h4, mA_ne h3, mA_ne h2, mA_ne h1, mA_ne h7, mA_uS, mA_ne h7, mA_ne h6]
    · rw [mA_uS, mA_ne h5, mA_uB, mA_ne h4, mA_ne h3, mA_ne h2, mA_ne h1, mA_ne h7]
theorem wr_B {S : z_M} {d a side order : Int32} {sum : Int64} {k : Nat} (h : k ≠ 54) : mB (o_writes S d a side sum order).2 k = mB S k := by
  unfold o_writes o_ff o_ln
  split
  · rfl
  · split <;> simp only [mB_uS, mB_uA, mB_ne h]
theorem wr_S {S : z_M} {d a side order : Int32} {sum : Int64} {k : Nat} (h : k ≠ 19 ∧ k ≠ 20) : mS (o_writes S d a side sum order).2 k = mS S k := by
  unfold o_writes o_ff o_ln
  split
  · rfl
  · split <;> simp only [mS_uS, mS_uA, mS_uB, if_neg h.1, if_neg h.2]
theorem wr_T {S : z_M} {d a side order : Int32} {sum : Int64} : mT (o_writes S d a side sum order).2 = mT S := by
  unfold o_writes o_ff o_ln
  split
  · rfl
  · split <;> simp only [mT_uS, mT_uA, mT_uB]
theorem pays_B36 {S : z_M} {a : Int32} {sum : Int64} : mB (o_pays S a sum) 36 = mB S 36 := (wr_B (by decide)).trans (mB_ne (by decide))
section CPM
variable {l : Launch} {G : z_G} {d MC MS : Nat} {own : String} {idx : Nat} {h : z_H} {ce sl : Nat} {k : Option z_V → z_H → Nat → Nat → Prop}
theorem cp_lmin {x v : Int64} (hd : 1 ≤ d) (hl : Cond.methodLink own idx yJ9_min_f86c9 ∈ z_tbl) (hc : ce ≤ MC) (hs : sl ≤ MS) (hk : k (some (z_l (if v < x then v else x))) h ce sl) : z_CP l G d MC MS own idx 1 [z_l x, z_l v] h ce sl k := ⟨hd, Or.inr ⟨rfl, hc, hs, 3, hl, hk⟩⟩
theorem cp_lmax {x v : Int64} (hd : 1 ≤ d) (hl : Cond.methodLink own idx yJ9_max_f86c9 ∈ z_tbl) (hc : ce ≤ MC) (hs : sl ≤ MS) (hk : k (some (z_l (if v < x then x else v))) h ce sl) : z_CP l G d MC MS own idx 1 [z_l x, z_l v] h ce sl k := ⟨hd, Or.inr ⟨rfl, hc, hs, 2, hl, hk⟩⟩
theorem cp_imin {x v : Int32} (hd : 1 ≤ d) (hl : Cond.methodLink own idx yJ9_min_7cf53 ∈ z_tbl) (hc : ce ≤ MC) (hs : sl ≤ MS) (hk : k (some (z_i (if v < x then v else x))) h ce sl) : z_CP l G d MC MS own idx 1 [z_i x, z_i v] h ce sl k := ⟨hd, Or.inr ⟨rfl, hc, hs, 1, hl, hk⟩⟩
theorem cp_imax {x v : Int32} (hd : 1 ≤ d) (hl : Cond.methodLink own idx yJ9_max_7cf53 ∈ z_tbl) (hc : ce ≤ MC) (hs : sl ≤ MS) (hk : k (some (z_i (if x < v then v else x))) h ce sl) : z_CP l G d MC MS own idx 1 [z_i x, z_i v] h ce sl k := ⟨hd, Or.inr ⟨rfl, hc, hs, 0, hl, hk⟩⟩
end CPM
theorem o_tn_le {lo hi : Int32} {c : Nat → Int64} {b : Nat} : ∀ n, o_tn lo hi c b n ≤ n := by
  intro n
  induction n with
  | zero => exact Nat.le_refl _
  | succ n ih =>
    unfold o_tn
    split <;> omega
theorem o_tw_in {lo hi : Int32} {c : Nat → Int64} {b : Nat} (hlo : 0 ≤ lo.toInt) (hhi : hi.toInt ≤ 100000) : ∀ n, n ≤ 60 → 0 ≤ (o_tw lo hi c b n).toInt ∧ (o_tw lo hi c b n).toInt ≤ 100000 * (n : Int) := by
  intro n
  induction n with
  | zero => exact fun _ => (show (0 : Int) ≤ (0 : Int64).toInt ∧ (0 : Int64).toInt ≤ 100000 * ((0 : Nat) : Int) from by decide)
  | succ n ih =>
    intro hn
    have i1 := ih (by omega)
    unfold o_tw
    split
    · rename_i hq
      have q1 := hq.1
      have q2 := hq.2
      rw [add64 (by omega) (by omega)]
      omega
    · omega
theorem mul64 {x y : Int64} (h1 : -9223372036854775808 ≤ x.toInt * y.toInt) (h2 : x.toInt * y.toInt ≤ 9223372036854775807) : (x * y).toInt = x.toInt * y.toInt := by
  rw [Int64.toInt_mul]
  show (x.toInt * y.toInt).bmod 18446744073709551616 = _
  unfold Int.bmod
  simp only []
  split <;> omega
theorem div64 {x y : Int64} (h : 0 < y.toInt) : (x / y).toInt = x.toInt.tdiv y.toInt := by
  have hb := i64b x
  rw [Int64.toInt_div]
  have h1 : x.toInt.tdiv y.toInt ≤ 9223372036854775807 ∧ -9223372036854775808 ≤ x.toInt.tdiv y.toInt := by
    rcases Int.le_total 0 x.toInt with q | q
    · have a1 : x.toInt.tdiv y.toInt = x.toInt / y.toInt := Int.tdiv_eq_ediv_of_nonneg q
      have a2 := Int.ediv_le_self y.toInt q
      have a3 := Int.ediv_nonneg q (Int.le_of_lt h)
      omega
    · have a1 : x.toInt.tdiv y.toInt = -((-x.toInt) / y.toInt) := by
        rw [← Int.tdiv_eq_ediv_of_nonneg (by omega : 0 ≤ -x.toInt), Int.neg_tdiv, Int.neg_neg]
      have a2 := Int.ediv_le_self y.toInt (by omega : 0 ≤ -x.toInt)
      have a3 := Int.ediv_nonneg (by omega : 0 ≤ -x.toInt) (Int.le_of_lt h)
      omega
  show (x.toInt.tdiv y.toInt).bmod 18446744073709551616 = _
  unfold Int.bmod
  simp only []
  split <;> omega
theorem o_b_in {p r : Int32} {v : Int64} (hp : inp p 1 1000) (hr : inp r 1 100000) (hv : inq v 0 6000000) : inq (o_b p r v) 0 600000000 := by
  unfold o_b
  have m1 : 0 ≤ v.toInt * p.toInt ∧ v.toInt * p.toInt ≤ 6000000 * 1000 := ⟨Int.mul_nonneg hv.1 (by omega), Int.mul_le_mul hv.2 hp.2 (by omega) (by omega)⟩
  have e1 : (v * p.toInt64).toInt = v.toInt * p.toInt := by rw [mul64 (by rw [Int32.toInt_toInt64]; omega) (by rw [Int32.toInt_toInt64]; omega), Int32.toInt_toInt64]
  have e2 : (v * p.toInt64 / 1000).toInt = v.toInt * p.toInt / 1000 := by
    rw [div64 (by decide), e1]
    exact Int.tdiv_eq_ediv_of_nonneg m1.1
  have b2 : 0 ≤ (v * p.toInt64 / 1000).toInt ∧ (v * p.toInt64 / 1000).toInt ≤ 6000000 := by rw [e2]; omega
  generalize (v * p.toInt64 / 1000) = z at *
  have m2 : 0 ≤ z.toInt * r.toInt ∧ z.toInt * r.toInt ≤ 6000000 * 100000 := ⟨Int.mul_nonneg b2.1 (by omega), Int.mul_le_mul b2.2 hr.2 (by omega) (by omega)⟩
  have e3 : (z * r.toInt64).toInt = z.toInt * r.toInt := by rw [mul64 (by rw [Int32.toInt_toInt64]; omega) (by rw [Int32.toInt_toInt64]; omega), Int32.toInt_toInt64]
  have e4 : (z * r.toInt64 / 1000).toInt = z.toInt * r.toInt / 1000 := by
    rw [div64 (by decide), e3]
    exact Int.tdiv_eq_ediv_of_nonneg m2.1
  show 0 ≤ (z * r.toInt64 / 1000).toInt ∧ (z * r.toInt64 / 1000).toInt ≤ 600000000
  rw [e4]
  omega
theorem deb_A {S : z_M} {o k : Nat} (h : k ≠ 42 ∧ k ≠ 45 ∧ k ≠ 49 ∧ k ≠ 50 ∧ k ≠ 51 ∧ k ≠ 52 ∧ k ≠ 53 ∧ k ≠ 55 ∧ k ≠ 56) : mA (o_deb S o) k = mA S k := by
  unfold o_deb
  rw [wr_A (by omega)]
  unfold o_mov
  rw [mA_uB, mA_uB, mA_ne (by omega), mA_ne (by omega)]
theorem deb_A43 {S : z_M} {o : Nat} : mA (o_deb S o) 43 = mA S 43 := deb_A (by decide)
theorem deb_A44 {S : z_M} {o : Nat} : mA (o_deb S o) 44 = mA S 44 := deb_A (by decide)
theorem deb_S14 {S : z_M} {o : Nat} : mS (o_deb S o) 14 = mS S 14 := by
  unfold o_deb
  rw [wr_S (by decide)]
  rfl
theorem wr_nL {S : z_M} {d a side order : Int32} {sum : Int64} (inv : INV S) : nL (o_writes S d a side sum order).2 ≤ nL S + 1 := by
  have hb := inv.cL.2
  unfold o_writes o_ff o_ln
  split
  · exact Nat.le_succ _
  · split <;> (show ci (nI _) ≤ _; rw [ci_nI (by show ci (mS S 19) + 1 < 2 ^ 31; omega)]; exact Nat.le_refl _)
theorem inv_deb {S : z_M} {o : Nat} (inv : INV S) (ho : o < nO S) (hw : (mA S 42 o).toInt = 0) : INV (o_deb S o) ∧ nL (o_deb S o) < 2000 ∧ nL (o_deb S o) + 3 * o_wt (mA (o_deb S o) 42) (nO S) + 2 ≤ 2000 := by
  have jo := inv.ord.1 o ho
  have a := inv_mov inv ho hw (by have := jo.2.2.2.2.2.2.2.2.2.2.2 hw; exact this)
  have b := wr_nL (d := dy S) (a := mA S 37 o) (side := 0) (sum := mB S 47 o) (order := nI o) a.1
  have c : nL (o_mov S o) = nL S := rfl
  have e : nO (o_mov S o) = nO S := rfl
  have f : mA (o_deb S o) 42 = mA (o_mov S o) 42 := wr_A (by decide)
  refine ⟨inv_wr a.1 jo.1 (by decide) (by rw [c, e]; omega) (Or.inr (by rw [e]; exact a.2.2)), ?_, ?_⟩
  · unfold o_deb
    omega
  · rw [f]
    unfold o_deb
    omega
