/-! the class's part of the heap against the abstract state -/
abbrev z_TR : Type := Int64 × Int32
def C_kin (n : Nat) (I : Nat → Nat → Int32) (L : Nat → Nat → Int64) (hi lo pu : Nat → Int32) (co we : Nat → Int64) : Prop := ∀ k, k < n → I k 0 = nI k ∧ I k 1 = hi k ∧ I k 2 = lo k ∧ I k 3 = pu k ∧ (I k 4).toInt64 = co k ∧ L k 5 = we k
def C_acc (n f : Nat) (I : Nat → Nat → Int32) (L : Nat → Nat → Int64) (R : Nat → Nat → Option (Nat × Nat)) (fa fm ay ato : Nat → Int32) (bal : Nat → Int64) : Prop := ∀ a, a < n → I a 0 = nI a ∧ I a 2 = o_fol fa (nI a) f ∧ (0 ≤ (o_fol fa (nI a) f).toInt → I a 3 = fm (ci (o_fol fa (nI a) f))) ∧ L a 4 = bal a ∧ I a 5 = ay a ∧ I a 6 = (if (ay a).toInt = -1 then -1 else ato a) ∧ R a 1 = some (207, a)
def C_fol (n f : Nat) (Z : Nat → Nat) (I : Nat → Nat → Int32) (fa : Nat → Int32) : Prop := ∀ a, a < n → Z a = o_nf fa (nI a) f ∧ ∀ i, i < f → (fa i).toInt = (nI a).toInt → I a (o_nf fa (nI a) i) = nI i
def C_rec (n : Nat) (I : Nat → Nat → Int32) (L : Nat → Nat → Int64) (R : Nat → Nat → Option (Nat × Nat)) (ra rk rc rd rh : Nat → Int32) (rg rb : Nat → Int64) : Prop := ∀ r, r < n → R r 0 = some (4, ci (rk r)) ∧ I r 1 = rc r ∧ (I r 2).toInt64 = rg r ∧ L r 3 = rb r ∧ R r 4 = some (2, ci (ra r)) ∧ I r 5 = rd r ∧ I r 6 = rh r
def C_ord (n : Nat) (I : Nat → Nat → Int32) (L : Nat → Nat → Int64) (R : Nat → Nat → Option (Nat × Nat)) (oF oT od oh os ow op ox oe ol om : Nat → Int32) (ou : Nat → Int64) : Prop := ∀ o, o < n → R o 0 = some (2, ci (oF o)) ∧ R o 1 = some (2, ci (oT o)) ∧ L o 2 = ou o ∧ I o 3 = od o ∧ I o 4 = oh o ∧ I o 5 = os o ∧ I o 6 = ow o ∧ I o 7 = op o ∧ I o 8 = ox o ∧ ((ow o).toInt = 1 → I o 9 = oe o) ∧ I o 10 = ol o ∧ I o 11 = om o
def C_lin (n : Nat) (I : Nat → Nat → Int32) (L : Nat → Nat → Int64) (R : Nat → Nat → Option (Nat × Nat)) (ld la lf lh lo : Nat → Int32) (ls : Nat → Int64) : Prop := ∀ i, i < n → I i 0 = ld i ∧ I i 1 = lf i ∧ I i 2 = lo i ∧ R i 3 = some (2, ci (la i)) ∧ I i 4 = lh i ∧ L i 5 = ls i
def C_len (n : Nat) (L : Nat → Nat → Int64) (R : Nat → Nat → Option (Nat × Nat)) (I : Nat → Nat → Int32) (sn : Nat → Int32) (lb : Nat → Int64) : Prop := ∀ e, e < n → L e 0 = lb e ∧ R e 1 = some (103, e) ∧ ∀ p, p < 32 → I e p = sn (32 * e + p)
def C_row (I : Nat → Nat → Int32) (R : Nat → Nat → Option (Nat × Nat)) (L : Nat → Nat → Int64) (wd sz : Nat → Int32) (ce : Nat → Int64) : Prop := ∀ s, s < 4 → R s 0 = some (100, s) ∧ I s 1 = (if (wd s).toInt < 0 then 0 else 1) ∧ (0 ≤ (wd s).toInt → I s 2 = wd s) ∧ I s 3 = sz s ∧ ∀ j, j < 60 → L s j = ce (60 * s + j)
def C_sus (n : Nat) (I J : Nat → Int32) (sl sh : Nat → Int32) : Prop := ∀ i, i < n → I i = sl i ∧ J i = sh i
def C_ref (R13 R5 : Nat → Option (Nat × Nat)) : Prop := R13 0 = some (11, 0) ∧ R13 1 = some (200, 0) ∧ R13 2 = some (201, 0) ∧ R13 3 = some (202, 0) ∧ R13 4 = some (203, 0) ∧ R13 5 = some (204, 0) ∧ R13 6 = some (205, 0) ∧ R13 7 = some (5, 0) ∧ R13 8 = some (3, 0) ∧ R13 9 = some (12, 0) ∧ R5 0 = some (206, 0) ∧ R5 1 = some (101, 0) ∧ R5 2 = some (102, 0)
def C_ter (I : Nat → Int32) (r f l n p s b t : Int32) : Prop := I 0 = r ∧ I 1 = f ∧ I 2 = l ∧ I 3 = n ∧ I 4 = p ∧ I 5 = s ∧ I 6 = b ∧ I 7 = t
def C_hou (I : Nat → Int32) (L : Nat → Int64) (ag : Int32) (sd bt tr tk : Int64) : Prop := I 0 = ag ∧ L 1 = sd ∧ L 2 = bt ∧ L 3 = tr ∧ L 4 = tk
/-- the class's objects say what the abstract state says; tr: what was transferred since the last close, and the orders counted as waiting -/
def CR (tr : z_TR) (S : z_M) (h : z_H) : Prop := hN h 2 = nA S ∧ hN h 4 = nK S ∧ hN h 6 = nL S ∧ hN h 7 = nE S ∧ hN h 8 = nO S ∧ hN h 9 = nR S ∧ hN h 103 = nE S ∧ hN h 207 = nA S ∧ hZ h 200 0 = nK S ∧ hZ h 201 0 = nA S ∧ hZ h 202 0 = nR S ∧ hZ h 203 0 = nO S ∧ hZ h 204 0 = nE S ∧ hZ h 205 0 = 4 ∧ hZ h 206 0 = nL S ∧ C_ref (hR h 13 0) (hR h 5 0) ∧ hI h 13 0 10 = mS S 14 ∧ hI h 13 0 11 = tr.2 ∧ hL h 13 0 12 = mT S 64 ∧ C_ter (hI h 11 0) (mS S 5) (mS S 6) (mS S 7) (mS S 8) (mS S 9) (mS S 10) (mS S 11) (mS S 12) ∧ C_hou (hI h 3 0) (hL h 3 0) (mS S 13) (mT S 65) (mT S 66) tr.1 (mT S 63) ∧ hI h 5 0 3 = mS S 62 ∧ hI h 5 0 4 = mS S 20 ∧ C_kin (nK S) (hI h 4) (hL h 4) (mA S 22) (mA S 23) (mA S 24) (mB S 25) (mB S 26) ∧ C_acc (nA S) (nF S) (hI h 2) (hL h 2) (hR h 2) (mA S 55) (mA S 56) (mA S 28) (mA S 29) (mB S 27) ∧ C_fol (nA S) (nF S) (hZ h 207) (hI h 207) (mA S 55) ∧ C_rec (nR S) (hI h 9) (hL h 9) (hR h 9) (mA S 30) (mA S 31) (mA S 32) (mA S 33) (mA S 34) (mB S 35) (mB S 36) ∧ C_ord (nO S) (hI h 8) (hL h 8) (hR h 8) (mA S 37) (mA S 38) (mA S 39) (mA S 40) (mA S 41) (mA S 42) (mA S 43) (mA S 44) (mA S 45) (mA S 46) (mA S 48) (mB S 47) ∧ C_lin (nL S) (hI h 6) (hL h 6) (hR h 6) (mA S 49) (mA S 50) (mA S 51) (mA S 52) (mA S 53) (mB S 54) ∧ C_len (nE S) (hL h 7) (hR h 7) (hI h 103) (mA S 58) (mB S 59) ∧ C_row (hI h 10) (hR h 10) (hL h 100) (mA S 1) (mA S 2) (mB S 3) ∧ C_sus (nU S) (hI h 101 0) (hI h 102 0) (mA S 60) (mA S 61)
theorem CR.xA {tr : z_TR} {S : z_M} {h : z_H} (q : CR tr S h) : hN h 2 = nA S := q.1
theorem CR.xK {tr : z_TR} {S : z_M} {h : z_H} (q : CR tr S h) : hN h 4 = nK S := q.2.1
theorem CR.xL {tr : z_TR} {S : z_M} {h : z_H} (q : CR tr S h) : hN h 6 = nL S := q.2.2.1
theorem CR.xE {tr : z_TR} {S : z_M} {h : z_H} (q : CR tr S h) : hN h 7 = nE S := q.2.2.2.1
theorem CR.xO {tr : z_TR} {S : z_M} {h : z_H} (q : CR tr S h) : hN h 8 = nO S := q.2.2.2.2.1
theorem CR.xR {tr : z_TR} {S : z_M} {h : z_H} (q : CR tr S h) : hN h 9 = nR S := q.2.2.2.2.2.1
theorem CR.xX {tr : z_TR} {S : z_M} {h : z_H} (q : CR tr S h) : hN h 103 = nE S := q.2.2.2.2.2.2.1
theorem CR.xF {tr : z_TR} {S : z_M} {h : z_H} (q : CR tr S h) : hN h 207 = nA S := q.2.2.2.2.2.2.2.1
theorem CR.zK {tr : z_TR} {S : z_M} {h : z_H} (q : CR tr S h) : hZ h 200 0 = nK S := q.2.2.2.2.2.2.2.2.1
theorem CR.zA {tr : z_TR} {S : z_M} {h : z_H} (q : CR tr S h) : hZ h 201 0 = nA S := q.2.2.2.2.2.2.2.2.2.1
theorem CR.zR {tr : z_TR} {S : z_M} {h : z_H} (q : CR tr S h) : hZ h 202 0 = nR S := q.2.2.2.2.2.2.2.2.2.2.1
theorem CR.zO {tr : z_TR} {S : z_M} {h : z_H} (q : CR tr S h) : hZ h 203 0 = nO S := q.2.2.2.2.2.2.2.2.2.2.2.1
theorem CR.zE {tr : z_TR} {S : z_M} {h : z_H} (q : CR tr S h) : hZ h 204 0 = nE S := q.2.2.2.2.2.2.2.2.2.2.2.2.1
theorem CR.zS {tr : z_TR} {S : z_M} {h : z_H} (q : CR tr S h) : hZ h 205 0 = 4 := q.2.2.2.2.2.2.2.2.2.2.2.2.2.1
theorem CR.zL {tr : z_TR} {S : z_M} {h : z_H} (q : CR tr S h) : hZ h 206 0 = nL S := q.2.2.2.2.2.2.2.2.2.2.2.2.2.2.1
theorem CR.ref {tr : z_TR} {S : z_M} {h : z_H} (q : CR tr S h) : C_ref (hR h 13 0) (hR h 5 0) := q.2.2.2.2.2.2.2.2.2.2.2.2.2.2.2.1
theorem CR.day {tr : z_TR} {S : z_M} {h : z_H} (q : CR tr S h) : hI h 13 0 10 = mS S 14 := q.2.2.2.2.2.2.2.2.2.2.2.2.2.2.2.2.1
theorem CR.wai {tr : z_TR} {S : z_M} {h : z_H} (q : CR tr S h) : hI h 13 0 11 = tr.2 := q.2.2.2.2.2.2.2.2.2.2.2.2.2.2.2.2.2.1
theorem CR.fee {tr : z_TR} {S : z_M} {h : z_H} (q : CR tr S h) : hL h 13 0 12 = mT S 64 := q.2.2.2.2.2.2.2.2.2.2.2.2.2.2.2.2.2.2.1
theorem CR.ter {tr : z_TR} {S : z_M} {h : z_H} (q : CR tr S h) : C_ter (hI h 11 0) (mS S 5) (mS S 6) (mS S 7) (mS S 8) (mS S 9) (mS S 10) (mS S 11) (mS S 12) := q.2.2.2.2.2.2.2.2.2.2.2.2.2.2.2.2.2.2.2.1
theorem CR.hou {tr : z_TR} {S : z_M} {h : z_H} (q : CR tr S h) : C_hou (hI h 3 0) (hL h 3 0) (mS S 13) (mT S 65) (mT S 66) tr.1 (mT S 63) := q.2.2.2.2.2.2.2.2.2.2.2.2.2.2.2.2.2.2.2.2.1
theorem CR.scn {tr : z_TR} {S : z_M} {h : z_H} (q : CR tr S h) : hI h 5 0 3 = mS S 62 := q.2.2.2.2.2.2.2.2.2.2.2.2.2.2.2.2.2.2.2.2.2.1
theorem CR.fcn {tr : z_TR} {S : z_M} {h : z_H} (q : CR tr S h) : hI h 5 0 4 = mS S 20 := q.2.2.2.2.2.2.2.2.2.2.2.2.2.2.2.2.2.2.2.2.2.2.1
theorem CR.kin {tr : z_TR} {S : z_M} {h : z_H} (q : CR tr S h) : C_kin (nK S) (hI h 4) (hL h 4) (mA S 22) (mA S 23) (mA S 24) (mB S 25) (mB S 26) := q.2.2.2.2.2.2.2.2.2.2.2.2.2.2.2.2.2.2.2.2.2.2.2.1
theorem CR.acc {tr : z_TR} {S : z_M} {h : z_H} (q : CR tr S h) : C_acc (nA S) (nF S) (hI h 2) (hL h 2) (hR h 2) (mA S 55) (mA S 56) (mA S 28) (mA S 29) (mB S 27) := q.2.2.2.2.2.2.2.2.2.2.2.2.2.2.2.2.2.2.2.2.2.2.2.2.1
theorem CR.fol {tr : z_TR} {S : z_M} {h : z_H} (q : CR tr S h) : C_fol (nA S) (nF S) (hZ h 207) (hI h 207) (mA S 55) := q.2.2.2.2.2.2.2.2.2.2.2.2.2.2.2.2.2.2.2.2.2.2.2.2.2.1
theorem CR.rec {tr : z_TR} {S : z_M} {h : z_H} (q : CR tr S h) : C_rec (nR S) (hI h 9) (hL h 9) (hR h 9) (mA S 30) (mA S 31) (mA S 32) (mA S 33) (mA S 34) (mB S 35) (mB S 36) := q.2.2.2.2.2.2.2.2.2.2.2.2.2.2.2.2.2.2.2.2.2.2.2.2.2.2.1
theorem CR.ord {tr : z_TR} {S : z_M} {h : z_H} (q : CR tr S h) : C_ord (nO S) (hI h 8) (hL h 8) (hR h 8) (mA S 37) (mA S 38) (mA S 39) (mA S 40) (mA S 41) (mA S 42) (mA S 43) (mA S 44) (mA S 45) (mA S 46) (mA S 48) (mB S 47) := q.2.2.2.2.2.2.2.2.2.2.2.2.2.2.2.2.2.2.2.2.2.2.2.2.2.2.2.1
theorem CR.lin {tr : z_TR} {S : z_M} {h : z_H} (q : CR tr S h) : C_lin (nL S) (hI h 6) (hL h 6) (hR h 6) (mA S 49) (mA S 50) (mA S 51) (mA S 52) (mA S 53) (mB S 54) := q.2.2.2.2.2.2.2.2.2.2.2.2.2.2.2.2.2.2.2.2.2.2.2.2.2.2.2.2.1
theorem CR.len {tr : z_TR} {S : z_M} {h : z_H} (q : CR tr S h) : C_len (nE S) (hL h 7) (hR h 7) (hI h 103) (mA S 58) (mB S 59) := q.2.2.2.2.2.2.2.2.2.2.2.2.2.2.2.2.2.2.2.2.2.2.2.2.2.2.2.2.2.1
theorem CR.row {tr : z_TR} {S : z_M} {h : z_H} (q : CR tr S h) : C_row (hI h 10) (hR h 10) (hL h 100) (mA S 1) (mA S 2) (mB S 3) := q.2.2.2.2.2.2.2.2.2.2.2.2.2.2.2.2.2.2.2.2.2.2.2.2.2.2.2.2.2.2.1
theorem CR.sus {tr : z_TR} {S : z_M} {h : z_H} (q : CR tr S h) : C_sus (nU S) (hI h 101 0) (hI h 102 0) (mA S 60) (mA S 61) := q.2.2.2.2.2.2.2.2.2.2.2.2.2.2.2.2.2.2.2.2.2.2.2.2.2.2.2.2.2.2.2
/-- the model's part of the heap is as it was -/
def z_sM (h h' : z_H) : Prop := ∀ K, 300 ≤ K ∨ K = 14 → hI h' K 0 = hI h K 0 ∧ hL h' K 0 = hL h K 0 ∧ hR h' K 0 = hR h K 0
theorem z_sM.rf {h : z_H} : z_sM h h := fun _ _ => ⟨rfl, rfl, rfl⟩
theorem z_sM.tr {h h1 h2 : z_H} (a : z_sM h h1) (b : z_sM h1 h2) : z_sM h h2 := fun K q => ⟨(b K q).1.trans (a K q).1, (b K q).2.1.trans (a K q).2.1, (b K q).2.2.trans (a K q).2.2⟩
theorem z_sM.I {h h1 : z_H} (a : z_sM h h1) {K i j : Nat} {v : Int32} (hK : K < 300 ∧ K ≠ 14) : z_sM h (sI h1 K i j v) := a.tr fun K' q => ⟨by funext k'; rw [zr_hIsI, if_neg (by omega)], rfl, rfl⟩
theorem z_sM.L {h h1 : z_H} (a : z_sM h h1) {K i j : Nat} {v : Int64} (hK : K < 300 ∧ K ≠ 14) : z_sM h (sL h1 K i j v) := a.tr fun K' q => ⟨rfl, by funext k'; rw [zr_hLsL, if_neg (by omega)], rfl⟩
theorem z_sM.R {h h1 : z_H} (a : z_sM h h1) {K i j : Nat} {v : Option (Nat × Nat)} (hK : K < 300 ∧ K ≠ 14) : z_sM h (sR h1 K i j v) := a.tr fun K' q => ⟨rfl, rfl, by funext k'; rw [zr_hRsR, if_neg (by omega)]⟩
theorem z_sM.Z {h h1 : z_H} (a : z_sM h h1) {K i v : Nat} : z_sM h (sZ h1 K i v) := a.tr fun K' q => ⟨rfl, rfl, rfl⟩
theorem z_sM.N {h h1 : z_H} (a : z_sM h h1) {K v : Nat} : z_sM h (sN h1 K v) := a.tr fun K' q => ⟨rfl, rfl, rfl⟩
theorem z_sM.W {h h1 : z_H} (a : z_sM h h1) {K : Nat} (hK : K < 300 ∧ K ≠ 14) : z_sM h (z_nw h1 K) := a.tr fun K' q => ⟨by funext k'; rw [zr_hInw, if_neg (by omega)], by funext k'; rw [zr_hLnw, if_neg (by omega)], by funext k'; rw [zr_hRnw, if_neg (by omega)]⟩
theorem z_sM.C {h h1 : z_H} (a : z_sM h h1) {i1 sp i2 dp n : Nat} : z_sM h (z_cpy h1 i1 sp i2 dp n) := a.tr fun K' q => ⟨rfl, by
  funext k'
  show (if K' = 100 ∧ _ then _ else _) = _
  rw [if_neg (by omega)]
  rfl, rfl⟩
theorem z_sM.mv {h h' : z_H} (a : z_sM h h') : mv h' = mv h := by
  refine z_M_ext (fun k j => ?_) (fun k j => ?_) (fun k => ?_) (fun k => ?_)
  · rw [mA_mv, mA_mv, (a (300 + k) (Or.inl (by omega))).1]
  · rw [mB_mv, mB_mv, (a (300 + k) (Or.inl (by omega))).2.1]
  · rw [mS_mv, mS_mv, (a 14 (Or.inr rfl)).1]
  · rw [mT_mv, mT_mv, (a 14 (Or.inr rfl)).2.1]
theorem z_sM.mr {h h' : z_H} (a : z_sM h h') (b : z_MR h) : z_MR h' := by
  unfold z_MR at b ⊢
  rw [(a 14 (Or.inr rfl)).2.2, b]
theorem CR.keep {tr : z_TR} {S : z_M} {h h' : z_H} (q : CR tr S h) (a : z_sC h h') : CR tr S h' := by
  have e : ∀ K, K < 300 → K ≠ 14 → hI h' K = hI h K ∧ hL h' K = hL h K ∧ hR h' K = hR h K := a.1
  have e1 := a.2.1
  have e2 := a.2.2
  unfold CR at q ⊢
  rw [e1, e2, (e 13 (by decide) (by decide)).2.2, (e 5 (by decide) (by decide)).2.2, (e 13 (by decide) (by decide)).1, (e 13 (by decide) (by decide)).2.1, (e 11 (by decide) (by decide)).1, (e 3 (by decide) (by decide)).1, (e 3 (by decide) (by decide)).2.1, (e 5 (by decide) (by decide)).1, (e 4 (by decide) (by decide)).1, (e 4 (by decide) (by decide)).2.1, (e 2 (by decide) (by decide)).1, (e 2 (by decide) (by decide)).2.1, (e 2 (by decide) (by decide)).2.2, (e 207 (by decide) (by decide)).1, (e 9 (by decide) (by decide)).1, (e 9 (by decide) (by decide)).2.1, (e 9 (by decide) (by decide)).2.2, (e 8 (by decide) (by decide)).1, (e 8 (by decide) (by decide)).2.1, (e 8 (by decide) (by decide)).2.2, (e 6 (by decide) (by decide)).1, (e 6 (by decide) (by decide)).2.1, (e 6 (by decide) (by decide)).2.2, (e 7 (by decide) (by decide)).2.1, (e 7 (by decide) (by decide)).2.2, (e 103 (by decide) (by decide)).1, (e 10 (by decide) (by decide)).1, (e 10 (by decide) (by decide)).2.2, (e 100 (by decide) (by decide)).2.1, (e 101 (by decide) (by decide)).1, (e 102 (by decide) (by decide)).1]
  exact q
