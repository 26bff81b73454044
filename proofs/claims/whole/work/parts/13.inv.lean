/-! what always holds of the abstract state; the class's part of the heap against it -/
def J_n (v : Int32) (b : Nat) : Prop := v = nI (ci v) ∧ ci v ≤ b
def J_ter (r f l n p s b t g : Int32) : Prop := inp r 1 100000 ∧ inp f 0 100 ∧ inp l 1 1000 ∧ inp n 0 100 ∧ inp p 0 1000 ∧ inp s 0 100 ∧ -100 ≤ b.toInt ∧ b.toInt ≤ t.toInt ∧ t.toInt ≤ 300 ∧ inp g (-100) 300
def J_kin (n r : Nat) (hi lo pu : Nat → Int32) (co we : Nat → Int64) : Prop := (∀ k, k < n → inp (hi k) 1 100000 ∧ 1 ≤ (lo k).toInt ∧ (lo k).toInt ≤ (hi k).toInt ∧ inp (pu k) 1 1000 ∧ inq (co k) 0 (60 * (r : Int))) ∧ ∀ k, n ≤ k → k < 6 → co k = 0 ∧ we k = 0
def J_row (wd sz : Nat → Int32) : Prop := ∀ s, s < 4 → inp (wd s) (-1) 3 ∧ inp (sz s) 0 60
def J_acc (n : Nat) (ay : Nat → Int32) (bal : Nat → Int64) : Prop := ∀ a, n ≤ a → a < 24 → ay a = -1 ∧ bal a = 0
def J_rec (n a k : Nat) (ra rk rc rh : Nat → Int32) (rg : Nat → Int64) : Prop := ∀ r, r < n → isx (ra r) a ∧ isx (rk r) k ∧ inp (rc r) 0 60 ∧ inq (rg r) 0 6000000 ∧ inp (rh r) 0 2
def J_ord (n a l : Nat) (oF oT oh os ow op ox ol om : Nat → Int32) (ou : Nat → Int64) : Prop := (∀ o, o < n → isx (oF o) a ∧ isx (oT o) a ∧ inp (oh o) 0 23 ∧ 0 ≤ (os o).toInt ∧ inp (ow o) 0 3 ∧ inp (op o) (-1) 3 ∧ ((op o).toInt = 2 → inp (ox o) 0 8) ∧ ((op o).toInt = 3 → isx (ox o) a) ∧ ((ol o).toInt = -1 ∨ isx (ol o) l) ∧ inq (ou o) 1 1000000000 ∧ (om o = 0 ∨ om o = 1) ∧ ((ow o).toInt = 0 → (ol o).toInt = -1)) ∧ ∀ o, n ≤ o → o < 300 → ox o = 0 ∧ om o = 0
def J_lin (n a : Nat) (la lh : Nat → Int32) : Prop := ∀ i, i < n → isx (la i) a ∧ inp (lh i) 0 1
def J_fol (n a : Nat) (fa fm : Nat → Int32) : Prop := ∀ f, f < n → isx (fa f) a ∧ inp (fm f) 1 8
def J_len (n : Nat) (day : Int32) (ld sn : Nat → Int32) : Prop := ∀ e, e < n → 0 ≤ (ld e).toInt ∧ (ld e).toInt ≤ day.toInt ∧ ∀ p, p < 32 → (sn (32 * e + p)).toInt = -1 ∨ (ld e).toInt ≤ (sn (32 * e + p)).toInt
/-- lines of orders: how many there are, and may be -/
def o_cL (lo : Nat → Int32) : Nat → Nat
  | 0 => 0
  | n + 1 => o_cL lo n + (if (lo n).toInt = -1 then 0 else 1)
def o_cO (oh ol : Nat → Int32) : Nat → Nat
  | 0 => 0
  | n + 1 => o_cO oh ol n + (if (oh n).toInt = 1 then (if (ol n).toInt = -1 then 1 else 2) else 0)
def J_sus (n m : Nat) (lo oh ol : Nat → Int32) : Prop := o_cL lo n ≤ o_cO oh ol m
def INV (S : z_M) : Prop := J_n (mS S 15) 6 ∧ J_n (mS S 16) 24 ∧ J_n (mS S 17) 200 ∧ J_n (mS S 18) 300 ∧ J_n (mS S 19) 2000 ∧ J_n (mS S 20) 2000 ∧ J_n (mS S 21) 20 ∧ J_n (mS S 14) 5000 ∧ J_n (mS S 62) 600 ∧ nF S ≤ nL S ∧ nL S + 3 * o_wt (mA S 42) (nO S) ≤ 2000 ∧ J_ter (mS S 5) (mS S 6) (mS S 7) (mS S 8) (mS S 9) (mS S 10) (mS S 11) (mS S 12) (mS S 13) ∧ J_kin (nK S) (nR S) (mA S 22) (mA S 23) (mA S 24) (mB S 25) (mB S 26) ∧ J_row (mA S 1) (mA S 2) ∧ J_acc (nA S) (mA S 28) (mB S 27) ∧ J_rec (nR S) (nA S) (nK S) (mA S 30) (mA S 31) (mA S 32) (mA S 34) (mB S 35) ∧ J_ord (nO S) (nA S) (nL S) (mA S 37) (mA S 38) (mA S 40) (mA S 41) (mA S 42) (mA S 43) (mA S 44) (mA S 46) (mA S 48) (mB S 47) ∧ J_lin (nL S) (nA S) (mA S 50) (mA S 52) ∧ J_fol (nF S) (nA S) (mA S 55) (mA S 56) ∧ J_len (nE S) (mS S 14) (mA S 57) (mA S 58) ∧ J_sus (nL S) (nO S) (mA S 53) (mA S 42) (mA S 46) ∧ inq (mT S 63) 0 (600000000 * (nR S : Int))
theorem INV.cK {S : z_M} (h : INV S) : J_n (mS S 15) 6 := h.1
theorem INV.cA {S : z_M} (h : INV S) : J_n (mS S 16) 24 := h.2.1
theorem INV.cR {S : z_M} (h : INV S) : J_n (mS S 17) 200 := h.2.2.1
theorem INV.cO {S : z_M} (h : INV S) : J_n (mS S 18) 300 := h.2.2.2.1
theorem INV.cL {S : z_M} (h : INV S) : J_n (mS S 19) 2000 := h.2.2.2.2.1
theorem INV.cF {S : z_M} (h : INV S) : J_n (mS S 20) 2000 := h.2.2.2.2.2.1
theorem INV.cE {S : z_M} (h : INV S) : J_n (mS S 21) 20 := h.2.2.2.2.2.2.1
theorem INV.cD {S : z_M} (h : INV S) : J_n (mS S 14) 5000 := h.2.2.2.2.2.2.2.1
theorem INV.cU {S : z_M} (h : INV S) : J_n (mS S 62) 600 := h.2.2.2.2.2.2.2.2.1
theorem INV.fl {S : z_M} (h : INV S) : nF S ≤ nL S := h.2.2.2.2.2.2.2.2.2.1
theorem INV.rm {S : z_M} (h : INV S) : nL S + 3 * o_wt (mA S 42) (nO S) ≤ 2000 := h.2.2.2.2.2.2.2.2.2.2.1
theorem INV.ter {S : z_M} (h : INV S) : J_ter (mS S 5) (mS S 6) (mS S 7) (mS S 8) (mS S 9) (mS S 10) (mS S 11) (mS S 12) (mS S 13) := h.2.2.2.2.2.2.2.2.2.2.2.1
theorem INV.kin {S : z_M} (h : INV S) : J_kin (nK S) (nR S) (mA S 22) (mA S 23) (mA S 24) (mB S 25) (mB S 26) := h.2.2.2.2.2.2.2.2.2.2.2.2.1
theorem INV.row {S : z_M} (h : INV S) : J_row (mA S 1) (mA S 2) := h.2.2.2.2.2.2.2.2.2.2.2.2.2.1
theorem INV.acc {S : z_M} (h : INV S) : J_acc (nA S) (mA S 28) (mB S 27) := h.2.2.2.2.2.2.2.2.2.2.2.2.2.2.1
theorem INV.rec {S : z_M} (h : INV S) : J_rec (nR S) (nA S) (nK S) (mA S 30) (mA S 31) (mA S 32) (mA S 34) (mB S 35) := h.2.2.2.2.2.2.2.2.2.2.2.2.2.2.2.1
theorem INV.ord {S : z_M} (h : INV S) : J_ord (nO S) (nA S) (nL S) (mA S 37) (mA S 38) (mA S 40) (mA S 41) (mA S 42) (mA S 43) (mA S 44) (mA S 46) (mA S 48) (mB S 47) := h.2.2.2.2.2.2.2.2.2.2.2.2.2.2.2.2.1
theorem INV.lin {S : z_M} (h : INV S) : J_lin (nL S) (nA S) (mA S 50) (mA S 52) := h.2.2.2.2.2.2.2.2.2.2.2.2.2.2.2.2.2.1
theorem INV.fol {S : z_M} (h : INV S) : J_fol (nF S) (nA S) (mA S 55) (mA S 56) := h.2.2.2.2.2.2.2.2.2.2.2.2.2.2.2.2.2.2.1
theorem INV.len {S : z_M} (h : INV S) : J_len (nE S) (mS S 14) (mA S 57) (mA S 58) := h.2.2.2.2.2.2.2.2.2.2.2.2.2.2.2.2.2.2.2.1
theorem INV.sus {S : z_M} (h : INV S) : J_sus (nL S) (nO S) (mA S 53) (mA S 42) (mA S 46) := h.2.2.2.2.2.2.2.2.2.2.2.2.2.2.2.2.2.2.2.2.1
theorem INV.tak {S : z_M} (h : INV S) : inq (mT S 63) 0 (600000000 * (nR S : Int)) := h.2.2.2.2.2.2.2.2.2.2.2.2.2.2.2.2.2.2.2.2.2
