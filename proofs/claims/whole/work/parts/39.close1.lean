/-! the close: the order of the orders (pure) -/
theorem hs_id {q : z_Q} {hr n : Nat} (h : ∀ j, j < n → ¬ o_due q.2.2 hr j) : o_hs hr n q = q := by
  induction n with
  | zero => rfl
  | succ n ih =>
    show o_st hr n (o_hs hr n q) = q
    rw [ih (fun j hj => h j (by omega))]
    unfold o_st
    rw [if_neg (h n (by omega))]
theorem cl_id {q : z_Q} {n m : Nat} (h : ∀ r, r < m → ∀ j, j < n → ¬ o_due q.2.2 r j) : o_cl n m q = q := by
  induction m with
  | zero => rfl
  | succ m ih =>
    show o_hs m n (o_cl n m q) = q
    rw [ih (fun r hr => h r (by omega))]
    exact hs_id (h m (by omega))
theorem hs_suf (hr k n : Nat) (hk : k < n) : ∃ g : z_Q → z_Q, ∀ q, o_hs hr n q = g (o_st hr k (o_hs hr k q)) := by
  induction n with
  | zero => omega
  | succ n ih =>
    by_cases e : k = n
    · subst e
      exact ⟨id, fun q => rfl⟩
    · obtain ⟨g, hg⟩ := ih (by omega)
      exact ⟨fun z => o_st hr n (g z), fun q => by
        show o_st hr n (o_hs hr n q) = _
        rw [hg]⟩
theorem cl_suf (n hr m : Nat) (h : hr < m) : ∃ g : z_Q → z_Q, ∀ q, o_cl n m q = g (o_hs hr n (o_cl n hr q)) := by
  induction m with
  | zero => omega
  | succ m ih =>
    by_cases e : hr = m
    · subst e
      exact ⟨id, fun q => rfl⟩
    · obtain ⟨g, hg⟩ := ih (by omega)
      exact ⟨fun z => o_hs m n (g z), fun q => by
        show o_hs m n (o_cl n m q) = _
        rw [hg]⟩
theorem st_S {q : z_Q} {hr k : Nat} (h : o_due q.2.2 hr k) : (o_st hr k q).2.2 = (o_does q.2.2 k).2 := by
  unfold o_st
  rw [if_pos h]
  split <;> rfl
theorem st_due {q : z_Q} {hr k r j : Nat} (h : o_due q.2.2 hr k) (h2 : o_due (o_st hr k q).2.2 r j) : j ≠ k ∧ o_due q.2.2 r j := by
  rw [st_S h] at h2
  have d := does_42 (S := q.2.2) (o := k)
  have e1 : mA (o_does q.2.2 k).2 39 = mA q.2.2 39 := does_A (by decide)
  have e2 : mA (o_does q.2.2 k).2 40 = mA q.2.2 40 := does_A (by decide)
  have e3 : mS (o_does q.2.2 k).2 14 = mS q.2.2 14 := does_S (by decide)
  have hj : j ≠ k := fun e => by
    rw [e] at h2
    have := h2.1
    omega
  refine ⟨hj, ?_⟩
  have a1 := h2.1
  have a2 := h2.2.1
  have a3 := h2.2.2
  rw [d.1 j hj] at a1
  rw [e1] at a2
  rw [e2] at a3
  refine ⟨a1, ?_, a3⟩
  have a2' : (mA q.2.2 39 j).toInt ≤ (mS (o_does q.2.2 k).2 14).toInt := a2
  rw [e3] at a2'
  exact a2'
theorem F_step {q : z_Q} {n k hr : Nat} (hk : k < n) (hh : hr < 24) (du : o_due q.2.2 hr k) (mn : ∀ j, j < n → ∀ r, o_due q.2.2 r j → hr < r ∨ (hr = r ∧ k ≤ j)) : o_cl n 24 (o_st hr k q) = o_cl n 24 q := by
  obtain ⟨g1, h1⟩ := cl_suf n hr 24 hh
  obtain ⟨g2, h2⟩ := hs_suf hr k n hk
  have p0 : o_cl n hr q = q := cl_id (fun r hr' j hj z => by have := mn j hj r z; omega)
  have p1 : o_hs hr k q = q := hs_id (fun j hj z => by have := mn j (by omega) hr z; omega)
  have s0 : o_cl n hr (o_st hr k q) = o_st hr k q := cl_id (fun r hr' j hj z => by have := mn j hj r (st_due du z).2; omega)
  have s1 : o_hs hr k (o_st hr k q) = o_st hr k q := hs_id (fun j hj z => by have := mn j (by omega) hr (st_due du z).2; omega)
  have s2 : o_st hr k (o_st hr k q) = o_st hr k q := by
    have nd : ¬ o_due (o_st hr k q).2.2 hr k := fun z => (st_due du z).1 rfl
    generalize o_st hr k q = p at *
    unfold o_st
    rw [if_neg nd]
  rw [h1, h2, s0, s1, s2, h1, h2, p0, p1]
theorem wt_does {S : z_M} {o n : Nat} (ho : o < n) (hw : (mA S 42 o).toInt = 0) : o_wt (mA (o_does S o).2 42) n + 1 = o_wt (mA S 42) n := by
  have h42 := does_42 (S := S) (o := o)
  exact o_wt_u ho h42.1 hw (by omega)
theorem wt_st {q : z_Q} {hr o n : Nat} (ho : o < n) : o_wt (mA (o_st hr o q).2.2 42) n ≤ o_wt (mA q.2.2 42) n := by
  by_cases h : o_due q.2.2 hr o
  · rw [st_S h]
    have := wt_does ho h.1
    omega
  · unfold o_st
    rw [if_neg h]
    exact Nat.le_refl _
theorem wt_hs {q : z_Q} {hr m n : Nat} (hm : m ≤ n) : o_wt (mA (o_hs hr m q).2.2 42) n ≤ o_wt (mA q.2.2 42) n := by
  induction m with
  | zero => exact Nat.le_refl _
  | succ m ih => exact Nat.le_trans (wt_st (by omega)) (ih (by omega))
theorem wt_cl {q : z_Q} {m n : Nat} : o_wt (mA (o_cl n m q).2.2 42) n ≤ o_wt (mA q.2.2 42) n := by
  induction m with
  | zero => exact Nat.le_refl _
  | succ m ih => exact Nat.le_trans (wt_hs (Nat.le_refl _)) ih
theorem wt_0 {u : Nat → Int32} {n j : Nat} (h : o_wt u n = 0) (hj : j < n) : ¬ (u j).toInt = 0 := by
  induction n with
  | zero => omega
  | succ n ih =>
    have h1 : o_wt u n + (if (u n).toInt = 0 then 1 else 0) = 0 := h
    by_cases e : j = n
    · subst e
      intro q
      rw [if_pos q] at h1
      omega
    · exact ih (by omega) (by omega)
/-- the next order due: its number and its hour -/
def o_nd (S : z_M) : Nat → Int32 × Int32
  | 0 => (-1, 24)
  | n + 1 => if (mA S 42 n).toInt = 0 ∧ (mA S 39 n).toInt ≤ (dy S).toInt ∧ (mA S 40 n).toInt < (o_nd S n).2.toInt then (nI n, mA S 40 n) else o_nd S n
theorem nd_spec {S : z_M} {n : Nat} (hb : n < 2000000000) (hh : ∀ j, j < n → (mA S 40 j).toInt < 24) : (o_nd S n = (-1, 24) ∧ ∀ j, j < n → ∀ r, ¬ o_due S r j) ∨ ∃ k, k < n ∧ o_nd S n = (nI k, mA S 40 k) ∧ (mA S 42 k).toInt = 0 ∧ (mA S 39 k).toInt ≤ (dy S).toInt ∧ ∀ j, j < n → ∀ r, o_due S r j → (mA S 40 k).toInt < (r : Int) ∨ ((mA S 40 k).toInt = (r : Int) ∧ k ≤ j) := by
  have t24 : (24 : Int32).toInt = 24 := rfl
  induction n with
  | zero => exact Or.inl ⟨rfl, fun j hj => absurd hj (by omega)⟩
  | succ n ih =>
    have e : o_nd S (n + 1) = if (mA S 42 n).toInt = 0 ∧ (mA S 39 n).toInt ≤ (dy S).toInt ∧ (mA S 40 n).toInt < (o_nd S n).2.toInt then (nI n, mA S 40 n) else o_nd S n := rfl
    rcases ih (by omega) (fun j hj => hh j (by omega)) with ⟨i1, i2⟩ | ⟨k, i1, i2, i3, i4, i5⟩
    · by_cases q : (mA S 42 n).toInt = 0 ∧ (mA S 39 n).toInt ≤ (dy S).toInt
      · refine Or.inr ⟨n, by omega, ?_, q.1, q.2, fun j hj r z => ?_⟩
        · rw [e, if_pos]
          rw [i1]
          exact ⟨q.1, q.2, by have := hh n (by omega); show (mA S 40 n).toInt < (24 : Int32).toInt; omega⟩
        · by_cases ej : j = n
          · subst ej
            have := z.2.2
            omega
          · exact absurd z (i2 j (by omega) r)
      · refine Or.inl ⟨?_, fun j hj r z => ?_⟩
        · rw [e, if_neg (fun z => q ⟨z.1, z.2.1⟩), i1]
        · by_cases ej : j = n
          · subst ej
            exact q ⟨z.1, z.2.1⟩
          · exact i2 j (by omega) r z
    · by_cases q : (mA S 42 n).toInt = 0 ∧ (mA S 39 n).toInt ≤ (dy S).toInt ∧ (mA S 40 n).toInt < (mA S 40 k).toInt
      · refine Or.inr ⟨n, by omega, ?_, q.1, q.2.1, fun j hj r z => ?_⟩
        · rw [e, if_pos]
          rw [i2]
          exact q
        · by_cases ej : j = n
          · subst ej
            have := z.2.2
            omega
          · have := i5 j (by omega) r z
            omega
      · refine Or.inr ⟨k, by omega, ?_, i3, i4, fun j hj r z => ?_⟩
        · rw [e, if_neg, i2]
          rw [i2]
          exact q
        · by_cases ej : j = n
          · subst ej
            have a1 := z.1
            have a2 := z.2.1
            have a3 := z.2.2
            omega
          · exact i5 j (by omega) r z
theorem min_c {x v : Int64} : (if v < x then v else x) = (if x < v then x else v) := by
  simp only [Int64.lt_iff_toInt_lt]
  (repeat' split) <;> first | rfl | (rw [← Int64.toInt_inj]; omega)
def o_ec (D : z_M) (o : Nat) : Int32 × z_M := if (mA D 43 o).toInt = 0 then (-1, D) else o_writes D (dy D) (o_ca D o) (o_cs D o) (o_cm D o) (nI o)
theorem ec_deb {S : z_M} {o : Nat} : o_ca (o_deb S o) o = o_ca S o ∧ o_cs (o_deb S o) o = o_cs S o ∧ o_cm (o_deb S o) o = o_cm S o ∧ dy (o_deb S o) = dy S := by
  have e47 : mB (o_deb S o) 47 = mB S 47 := (wr_B (by decide)).trans rfl
  unfold o_ca o_cs o_cm
  rw [deb_A43, deb_A44, deb_A (k := 38) (by decide), e47]
  exact ⟨rfl, rfl, rfl, deb_S14⟩
/-- the orders' part of what an order done does, as the class writes it -/
theorem does_ec {S : z_M} {o : Nat} (hl : (mA S 46 o).toInt = -1) (h1 : o_mays S o) (h2 : ¬ (mB S 27 (ci (mA S 37 o))).toInt < (mB S 47 o).toInt) : o_does S o = (true, uA (o_ec (o_deb S o) o).2 46 o (o_ec (o_deb S o) o).1) := by
  have e := ec_deb (S := S) (o := o)
  unfold o_ec
  rw [deb_A43]
  by_cases h3 : (mA S 43 o).toInt = 0
  · rw [if_pos h3]
    unfold o_does
    rw [if_neg (fun q => q h1), if_neg h2, if_pos h3]
    show (true, o_deb S o) = (true, uA (o_deb S o) 46 o (-1))
    rw [uA_same]
    rw [deb_46]
    exact Int32.toInt_inj.mp hl
  · rw [if_neg h3, does_d h1 h2 h3, e.1, e.2.1, e.2.2.1, e.2.2.2]
def o_ag (S : z_M) (dn : Int64) : z_M := uT (uS (uT (uT S 65 (mT S 65 + Int64.ofInt (if (mS S 12).toInt < o_ag0 S dn then o_ag0 S dn - (mS S 12).toInt else 0))) 66 (mT S 66 + Int64.ofInt (if o_ag0 S dn < (mS S 11).toInt then (mS S 11).toInt - o_ag0 S dn else 0))) 13 (Int32.ofInt (o_cla (o_ag0 S dn) (mS S 11).toInt (mS S 12).toInt))) 63 0
theorem ag_e {S : z_M} {dn : Int64} : o_agio S dn = uS (o_ag S dn) 14 (dy S + 1) := rfl
