/-! what each call does to the abstract state, and answers -/
def ci (x : Int32) : Nat := x.toNatClampNeg
theorem ci_f {x : Int32} : x.toNatClampNeg = ci x := rfl
abbrev nK (S : z_M) : Nat := ci (mS S 15)
abbrev nA (S : z_M) : Nat := ci (mS S 16)
abbrev nR (S : z_M) : Nat := ci (mS S 17)
abbrev nO (S : z_M) : Nat := ci (mS S 18)
abbrev nL (S : z_M) : Nat := ci (mS S 19)
abbrev nF (S : z_M) : Nat := ci (mS S 20)
abbrev nE (S : z_M) : Nat := ci (mS S 21)
abbrev nU (S : z_M) : Nat := ci (mS S 62)
abbrev dy (S : z_M) : Int32 := mS S 14
abbrev isx (a : Int32) (n : Nat) : Prop := 0 ≤ a.toInt ∧ a.toInt < (n : Int)
abbrev inp (a : Int32) (lo hi : Int) : Prop := lo ≤ a.toInt ∧ a.toInt ≤ hi
abbrev inq (a : Int64) (lo hi : Int) : Prop := lo ≤ a.toInt ∧ a.toInt ≤ hi
def o_cut (a : Int32) (v : Int64) : Int64 := if a.toInt = 0 then v.toInt32.toInt8.toInt32.toInt64 else if a.toInt = 1 then v.toInt32.toInt16.toInt32.toInt64 else if a.toInt = 2 then v.toInt32.toInt64 else v
def o_b (pure rate : Int32) (v : Int64) : Int64 := v * pure.toInt64 / 1000 * rate.toInt64 / 1000
abbrev o_bk (S : z_M) (k : Nat) (v : Int64) : Int64 := o_b (mA S 24 k) (mS S 5) v
/-- how many orders below n wait; how many lines may still be written -/
def o_wt (w : Nat → Int32) : Nat → Nat
  | 0 => 0
  | n + 1 => o_wt w n + (if (w n).toInt = 0 then 1 else 0)
abbrev o_rm (S : z_M) : Nat := 2000 - nL S - 3 * o_wt (mA S 42) (nO S)
/-- the latest folio below n of an account; how many it has; its k-th -/
def o_fol (w : Nat → Int32) (a : Int32) : Nat → Int32
  | 0 => -1
  | n + 1 => if (w n).toInt = a.toInt then nI n else o_fol w a n
def o_nf (w : Nat → Int32) (a : Int32) : Nat → Nat
  | 0 => 0
  | n + 1 => o_nf w a n + (if (w n).toInt = a.toInt then 1 else 0)
def o_kf (w : Nat → Int32) (a : Int32) (k : Nat) : Nat → Int32
  | 0 => -1
  | n + 1 => if (w n).toInt = a.toInt ∧ o_nf w a n = k then nI n else o_kf w a k n
/-! rows -/
def o_row (S : z_M) (s w n : Int32) : Int32 × z_M :=
  if ¬ (inp s 0 3 ∧ inp w 0 3 ∧ n.toInt ≤ 60) then (-2, S) else if n.toInt < 0 then (-3, S)
  else (0, (z_u2 (z_u2 S.1 1 (ci s) w) 2 (ci s) n, fun k j => if k = 3 ∧ 60 * ci s ≤ j ∧ j < 60 * ci s + 60 then 0 else S.2.1 k j, S.2.2))
def o_tear (S : z_M) (s : Int32) : Int32 × z_M := if inp s 0 3 ∧ ¬ (mA S 1 (ci s)).toInt < 0 then (1, uA S 1 (ci s) (-1)) else (0, S)
def o_write (S : z_M) (s i : Int32) (v : Int64) : Int32 × z_M :=
  if ¬ inp s 0 3 then (-2, S) else if (mA S 1 (ci s)).toInt < 0 then (-5, S) else if ¬ (0 ≤ i.toInt ∧ i.toInt < (mA S 2 (ci s)).toInt) then (-6, S)
  else (0, uB S 3 (60 * ci s + ci i) (o_cut (mA S 1 (ci s)) v))
def o_paste (S : z_M) (s i t k n : Int32) : Int32 × z_M :=
  if ¬ (inp s 0 3 ∧ inp t 0 3) then (-2, S) else if (mA S 1 (ci s)).toInt < 0 ∨ (mA S 1 (ci t)).toInt < 0 then (-5, S) else if ¬ (mA S 1 (ci s)).toInt = (mA S 1 (ci t)).toInt then (-7, S)
  else if i.toInt < 0 ∨ k.toInt < 0 ∨ n.toInt < 0 ∨ (mA S 2 (ci s)).toInt < i.toInt + n.toInt ∨ (mA S 2 (ci t)).toInt < k.toInt + n.toInt then (-6, S)
  else (0, (S.1, fun q j => if q = 3 ∧ 60 * ci t + ci k ≤ j ∧ j < 60 * ci t + ci k + ci n then S.2.1 3 (60 * ci s + ci i + (j - (60 * ci t + ci k))) else S.2.1 q j, S.2.2))
/-! terms, kinds, accounts -/
def o_terms (S : z_M) (r f l n p s b t : Int32) : Int32 × z_M :=
  if inp r 1 100000 ∧ inp f 0 100 ∧ inp l 1 1000 ∧ inp n 0 100 ∧ inp p 0 1000 ∧ inp s 0 100 ∧ inp b (-100) 300 ∧ (b.toInt ≤ t.toInt ∧ t.toInt ≤ 300)
  then (0, uS (uS (uS (uS (uS (uS (uS (uS S 5 r) 6 f) 7 l) 8 n) 9 p) 10 s) 11 b) 12 t) else (-2, S)
def o_kind (S : z_M) (w s f : Int32) : Int32 × z_M :=
  if ¬ (inp w 1 100000 ∧ (1 ≤ s.toInt ∧ s.toInt ≤ w.toInt) ∧ inp f 1 1000) then (-2, S) else if nK S = 6 then (-3, S)
  else (nI (nK S), uS (uA (uA (uA S 22 (nK S) w) 23 (nK S) s) 24 (nK S) f) 15 (nI (nK S + 1)))
def o_account (S : z_M) : Int32 × z_M := if nA S = 24 then (-3, S) else (nI (nA S), uS S 16 (nI (nA S + 1)))
def o_attorney (S : z_M) (a p t : Int32) : Int32 × z_M := if isx a (nA S) ∧ inp p 0 99 ∧ inp t 0 5000 then (0, uA (uA S 28 (ci a) p) 29 (ci a) t) else (-2, S)
/-! lines -/
def o_ff (S : z_M) (a : Int32) : Int32 × z_M :=
  if (o_fol (mA S 55) a (nF S)).toInt < 0 ∨ (mA S 56 (ci (o_fol (mA S 55) a (nF S)))).toInt = 8 then (nI (nF S), uA (uS (uA (uA S 55 (nF S) a) 56 (nF S) 0) 20 (nI (nF S + 1))) 56 (nF S) 1)
  else (o_fol (mA S 55) a (nF S), uA S 56 (ci (o_fol (mA S 55) a (nF S))) (mA S 56 (ci (o_fol (mA S 55) a (nF S))) + 1))
def o_ln (S : z_M) (d a f side : Int32) (sum : Int64) (order : Int32) : z_M :=
  uS (uA (uB (uA (uA (uA (uA S 49 (nL S) d) 50 (nL S) a) 51 (nL S) f) 52 (nL S) side) 54 (nL S) sum) 53 (nL S) order) 19 (nI (nL S + 1))
def o_writes (S : z_M) (d a side : Int32) (sum : Int64) (order : Int32) : Int32 × z_M :=
  if sum = 0 then (-1, S) else (nI (nL S), o_ln (o_ff S a).2 d a (o_ff S a).1 side sum order)
def o_pays (S : z_M) (a : Int32) (sum : Int64) : z_M := (o_writes (uB S 27 (ci a) (mB S 27 (ci a) - sum)) (dy S) a 0 sum (-1)).2
/-! receipts -/
abbrev o_tk (lo hi : Int32) (v : Int64) : Prop := lo.toInt ≤ v.toInt ∧ v.toInt ≤ hi.toInt
def o_tn (lo hi : Int32) (c : Nat → Int64) (b : Nat) : Nat → Nat
  | 0 => 0
  | n + 1 => if o_tk lo hi (c (b + n)) then o_tn lo hi c b n + 1 else o_tn lo hi c b n
def o_tw (lo hi : Int32) (c : Nat → Int64) (b : Nat) : Nat → Int64
  | 0 => 0
  | n + 1 => if o_tk lo hi (c (b + n)) then o_tw lo hi c b n + c (b + n) else o_tw lo hi c b n
def o_mi (lo hi : Int32) (c : Nat → Int64) (b : Nat) : Nat → Int64
  | 0 => 9223372036854775807
  | n + 1 => if o_tk lo hi (c (b + n)) then (if c (b + n) < o_mi lo hi c b n then c (b + n) else o_mi lo hi c b n) else o_mi lo hi c b n
def o_ma (lo hi : Int32) (c : Nat → Int64) (b : Nat) : Nat → Int64
  | 0 => 0
  | n + 1 => if o_tk lo hi (c (b + n)) then (if c (b + n) < o_ma lo hi c b n then o_ma lo hi c b n else c (b + n)) else o_ma lo hi c b n
abbrev o_sz (S : z_M) (s : Int32) : Nat := ci (mA S 2 (ci s))
abbrev o_tN (S : z_M) (k s : Int32) : Nat := o_tn (mA S 23 (ci k)) (mA S 22 (ci k)) (mB S 3) (60 * ci s) (o_sz S s)
abbrev o_tW (S : z_M) (k s : Int32) : Int64 := o_tw (mA S 23 (ci k)) (mA S 22 (ci k)) (mB S 3) (60 * ci s) (o_sz S s)
def o_bring (S : z_M) (a k : Int32) (n : Int32) (w b : Int64) : z_M :=
  uT (uB (uB (uB (uS (uA (uA (uB (uB (uA (uA (uA S 30 (nR S) a) 31 (nR S) k) 32 (nR S) n) 35 (nR S) w) 36 (nR S) b) 33 (nR S) (dy S + mS S 7)) 34 (nR S) 0) 17 (nI (nR S + 1))) 25 (ci k) (mB S 25 (ci k) + n.toInt64)) 26 (ci k) (mB S 26 (ci k) + w)) 27 (ci a) (mB S 27 (ci a) + b)) 63 (mT S 63 + b)
def o_take (S : z_M) (a k s : Int32) : Int32 × z_M :=
  if ¬ (isx a (nA S) ∧ isx k (nK S) ∧ inp s 0 3) then (-2, S) else if (mA S 1 (ci s)).toInt < 0 then (-5, S) else if nR S = 200 ∨ o_rm S < 1 then (-3, S)
  else if o_tN S k s = 0 then (0, S)
  else (nI (o_tN S k s), (o_writes (o_bring S a k (nI (o_tN S k s)) (o_tW S k s) (o_bk S (ci k) (o_tW S k s))) (dy S) a 1 (o_bk S (ci k) (o_tW S k s)) (-1)).2)
abbrev o_open (S : z_M) (r : Int32) : Prop := isx r (nR S) ∧ (mA S 34 (ci r)).toInt = 0
def o_fee (S : z_M) (r : Nat) : Int64 := mB S 36 r * (mS S 6).toInt64 / 1000
def o_redeem (S : z_M) (r : Int32) : Int64 × z_M :=
  if ¬ o_open S r then (-2, S) else if (mB S 27 (ci (mA S 30 (ci r)))).toInt < (mB S 36 (ci r) + o_fee S (ci r)).toInt then (-7, S) else if o_rm S < 1 then (-3, S)
  else if (mB S 25 (ci (mA S 31 (ci r)))).toInt < (mA S 32 (ci r)).toInt ∨ (mB S 26 (ci (mA S 31 (ci r)))).toInt < (mB S 35 (ci r)).toInt then (-8, S)
  else (mB S 36 (ci r) + o_fee S (ci r), o_pays (uT (uA (uB (uB S 25 (ci (mA S 31 (ci r))) (mB S 25 (ci (mA S 31 (ci r))) - (mA S 32 (ci r)).toInt64)) 26 (ci (mA S 31 (ci r))) (mB S 26 (ci (mA S 31 (ci r))) - mB S 35 (ci r))) 34 (ci r) 1) 64 (mT S 64 + o_fee S (ci r))) (mA S 30 (ci r)) (mB S 36 (ci r) + o_fee S (ci r)))
def o_prolong (S : z_M) (r : Int32) : Int64 × z_M :=
  if ¬ o_open S r then (-2, S) else if (mB S 27 (ci (mA S 30 (ci r)))).toInt < (o_fee S (ci r)).toInt then (-7, S) else if o_rm S < 1 then (-3, S)
  else (o_fee S (ci r), o_pays (uT (uA S 33 (ci r) (mA S 33 (ci r) + mS S 7)) 64 (mT S 64 + o_fee S (ci r))) (mA S 30 (ci r)) (o_fee S (ci r)))
def o_give (S : z_M) (r a : Int32) : Int32 × z_M := if o_open S r ∧ isx a (nA S) then (0, uA S 30 (ci r) a) else (-2, S)
/-! orders -/
def o_waits (S : z_M) (f t : Int32) (sum : Int64) (on hour signer : Int32) : Int32 × z_M :=
  if ¬ (isx f (nA S) ∧ isx t (nA S) ∧ ¬ f.toInt = t.toInt ∧ inq sum 1 1000000000) then (-2, S) else if nO S = 300 ∨ o_rm S < 3 then (-3, S)
  else (nI (nO S), uS (uA (uA (uA (uA (uA (uA (uB (uA (uA S 37 (nO S) f) 38 (nO S) t) 47 (nO S) sum) 39 (nO S) on) 40 (nO S) hour) 41 (nO S) signer) 42 (nO S) 0) 43 (nO S) (-1)) 46 (nO S) (-1)) 18 (nI (nO S + 1)))
def o_order (S : z_M) (f t : Int32) (sum : Int64) (hour signer : Int32) : Int32 × z_M :=
  if ¬ (inp hour 0 23 ∧ inp signer 0 99) then (-2, S) else o_waits S f t sum (if hour.toInt < 11 then dy S else dy S + 1) hour signer
def o_bill (S : z_M) (f t : Int32) (sum : Int64) (days : Int32) : Int32 × z_M :=
  if ¬ inp days 0 1000 then (-2, S) else o_waits S f t sum (dy S + days) 9 f
def o_slip (S : z_M) (o how x : Int32) : Int32 × z_M :=
  if ¬ (isx o (nO S) ∧ (mA S 42 (ci o)).toInt = 0 ∧ inp how 0 3) then (-2, S)
  else if (how.toInt = 2 ∧ ¬ inp x 0 8) ∨ (how.toInt = 3 ∧ ¬ (isx x (nA S) ∧ ¬ x.toInt = (mA S 37 (ci o)).toInt ∧ ¬ x.toInt = (mA S 38 (ci o)).toInt)) ∨ (how.toInt < 2 ∧ ¬ x.toInt = 0) then (-2, S)
  else (0, uA (uA S 43 (ci o) how) 44 (ci o) x)
def o_un : Nat → Int64
  | 0 => 1
  | n + 1 => o_un n * 10
def o_sw (v : Int64) (p : Nat) : Int64 :=
  v + (v / o_un p / 10 - v / o_un p / 10 / 10 * 10 - (v / o_un p - v / o_un p / 10 * 10)) * o_un p + (v / o_un p - v / o_un p / 10 * 10 - (v / o_un p / 10 - v / o_un p / 10 / 10 * 10)) * o_un p * 10
abbrev o_mays (S : z_M) (o : Nat) : Prop := (mA S 41 o).toInt = (mA S 37 o).toInt ∨ ((mA S 28 (ci (mA S 37 o))).toInt = (mA S 41 o).toInt ∧ (dy S).toInt ≤ (mA S 29 (ci (mA S 37 o))).toInt)
def o_fine (S : z_M) (o : Nat) : Int64 := if mB S 47 o * (mS S 8).toInt64 / 100 < mB S 27 (ci (mA S 37 o)) then mB S 47 o * (mS S 8).toInt64 / 100 else mB S 27 (ci (mA S 37 o))
/-- the balances have moved -/
def o_mov (S : z_M) (o : Nat) : z_M :=
  uB (uB (uA (uA S 42 o 1) 45 o (dy S)) 27 (ci (mA S 37 o)) (mB S 27 (ci (mA S 37 o)) - mB S 47 o)) 27 (ci (mA S 38 o)) (mB (uB S 27 (ci (mA S 37 o)) (mB S 27 (ci (mA S 37 o)) - mB S 47 o)) 27 (ci (mA S 38 o)) + mB S 47 o)
def o_deb (S : z_M) (o : Nat) : z_M := (o_writes (o_mov S o) (dy S) (mA S 37 o) 0 (mB S 47 o) (nI o)).2
/-- the credit's line: account, side, sum -/
def o_ca (S : z_M) (o : Nat) : Int32 := if (mA S 43 o).toInt = 3 then mA S 44 o else mA S 38 o
def o_cs (S : z_M) (o : Nat) : Int32 := if (mA S 43 o).toInt = 1 then 0 else 1
def o_cm (S : z_M) (o : Nat) : Int64 := if (mA S 43 o).toInt = 2 then o_sw (mB S 47 o) (ci (mA S 44 o)) else mB S 47 o
def o_does (S : z_M) (o : Nat) : Bool × z_M :=
  if ¬ o_mays S o then (false, uA S 42 o 2)
  else if (mB S 27 (ci (mA S 37 o))).toInt < (mB S 47 o).toInt then (false, o_pays (uT (uA S 42 o 3) 64 (mT S 64 + o_fine S o)) (mA S 37 o) (o_fine S o))
  else if (mA S 43 o).toInt = 0 then (true, o_deb S o)
  else (true, uA (o_writes (o_deb S o) (dy S) (o_ca S o) (o_cs S o) (o_cm S o) (nI o)).2 46 o (o_writes (o_deb S o) (dy S) (o_ca S o) (o_cs S o) (o_cm S o) (nI o)).1)
/-! the close -/
abbrev z_Q : Type := Nat × Int64 × z_M
abbrev o_due (S : z_M) (hour o : Nat) : Prop := (mA S 42 o).toInt = 0 ∧ (mA S 39 o).toInt ≤ (dy S).toInt ∧ (mA S 40 o).toInt = (hour : Int)
def o_st (hour o : Nat) (q : z_Q) : z_Q :=
  if o_due q.2.2 hour o then (if (o_does q.2.2 o).1 = true then (q.1 + 1, q.2.1 + mB q.2.2 47 o, (o_does q.2.2 o).2) else (q.1, q.2.1, (o_does q.2.2 o).2)) else q
def o_hs (hour : Nat) : Nat → z_Q → z_Q
  | 0, q => q
  | n + 1, q => o_st hour n (o_hs hour n q)
def o_cl (n : Nat) : Nat → z_Q → z_Q
  | 0, q => q
  | h + 1, q => o_hs h n (o_cl n h q)
def o_lp (S : z_M) : Nat → z_M
  | 0 => S
  | n + 1 => if (mA S 34 n).toInt = 0 ∧ (mA S 33 n).toInt ≤ (dy S).toInt then uA (o_lp S n) 34 n 2 else o_lp S n
def o_more (S : z_M) (done : Int64) : Int64 := (mS S 9).toInt64 * (done - mT S 63) / (done + mT S 63 + 1000)
def o_cla (x a b : Int) : Int := if x < a then a else if b < x then b else x
/-- the agio before it is held, and after -/
def o_ag0 (S : z_M) (done : Int64) : Int := o_cla ((mS S 13).toInt + o_cla (o_more S done).toInt (-(mS S 10).toInt) (mS S 10).toInt) (-100) 300
def o_agio (S : z_M) (done : Int64) : z_M :=
  uS (uT (uS (uT (uT S 65 (mT S 65 + Int64.ofInt (if (mS S 12).toInt < o_ag0 S done then o_ag0 S done - (mS S 12).toInt else 0))) 66 (mT S 66 + Int64.ofInt (if o_ag0 S done < (mS S 11).toInt then (mS S 11).toInt - o_ag0 S done else 0))) 13 (Int32.ofInt (o_cla (o_ag0 S done) (mS S 11).toInt (mS S 12).toInt))) 63 0) 14 (dy S + 1)
def o_close (S : z_M) : Int32 × z_M :=
  if (dy S).toInt = 5000 then (-9, S)
  else (nI (o_cl (nO S) 24 (0, 0, S)).1, o_agio (o_lp (o_cl (nO S) 24 (0, 0, S)).2.2 (nR S)) (o_cl (nO S) 24 (0, 0, S)).2.1)
/-! suspects -/
abbrev o_ofd (ld lo : Int32) (d : Int32) : Prop := ld.toInt = d.toInt ∧ ¬ lo.toInt = -1
def o_df (ld lo lh : Nat → Int32) (ls : Nat → Int64) (d : Int32) : Nat → Int64
  | 0 => 0
  | n + 1 => if o_ofd (ld n) (lo n) d then o_df ld lo lh ls d n + (if (lh n).toInt = 0 then ls n else -(ls n)) else o_df ld lo lh ls d n
abbrev o_dif (S : z_M) (d : Int32) (n : Nat) : Int64 := o_df (mA S 49) (mA S 53) (mA S 52) (mB S 54) d n
def o_nin (v g : Int64) : Nat → Bool
  | 0 => false
  | n + 1 => o_nin v g n || decide (o_sw v n = v + g)
def o_hw (side : Int32) (v g : Int64) : Int32 :=
  if side.toInt = 0 then (if v = g then 0 else if g - g / 2 * 2 = 0 ∧ v = g / 2 then 1 else -1)
  else if g - g / 9 * 9 = 0 ∧ o_nin v g 9 = true then 2 else -1
abbrev o_how (S : z_M) (l : Nat) (g : Int64) : Int32 := o_hw (mA S 52 l) (mB S 54 l) g
def o_su (S : z_M) (d : Int32) (g : Int64) : Nat → z_M
  | 0 => uS S 62 0
  | n + 1 => if o_ofd (mA S 49 n) (mA S 53 n) d ∧ ¬ (o_how S n g).toInt = -1 then uS (uA (uA (o_su S d g n) 60 (nU (o_su S d g n)) (nI n)) 61 (nU (o_su S d g n)) (o_how S n g)) 62 (nI (nU (o_su S d g n) + 1)) else o_su S d g n
def o_suspects (S : z_M) (d : Int32) : Int32 × z_M :=
  if ¬ (0 ≤ d.toInt ∧ d.toInt < (dy S).toInt) then (-2, S) else if o_dif S d (nL S) = 0 then (-1, uS S 62 0)
  else (mS (o_su S d (o_dif S d (nL S)) (nL S)) 62, o_su S d (o_dif S d (nL S)) (nL S))
def o_suspect (S : z_M) (i what : Int32) : Int32 :=
  if ¬ isx i (nU S) then -1 else if what.toInt = 0 then mA S 60 (ci i) else if what.toInt = 1 then mA S 61 (ci i) else -1
def o_mend (S : z_M) (o : Int32) : Int32 × z_M :=
  if ¬ (isx o (nO S) ∧ (mA S 42 (ci o)).toInt = 1 ∧ ¬ (mA S 43 (ci o)).toInt = -1 ∧ (mA S 48 (ci o)).toInt = 0) then (0, S)
  else if (mA S 46 (ci o)).toInt = -1 then (if o_rm S < 1 then (0, S) else
    (1, uA (uA (o_writes S (mA S 45 (ci o)) (mA S 38 (ci o)) 1 (mB S 47 (ci o)) o).2 46 (ci o) (o_writes S (mA S 45 (ci o)) (mA S 38 (ci o)) 1 (mB S 47 (ci o)) o).1) 48 (ci o) 1))
  else (1, uA (uB (uA (uA S 50 (ci (mA S 46 (ci o))) (mA S 38 (ci o))) 52 (ci (mA S 46 (ci o))) 1) 54 (ci (mA S 46 (ci o))) (mB S 47 (ci o))) 48 (ci o) 1)
def o_weighed (S : z_M) (k s what : Int32) : Int64 :=
  if ¬ (isx k (nK S) ∧ inp s 0 3 ∧ inp what 0 4) then -2 else if (mA S 1 (ci s)).toInt < 0 then -5 else if what.toInt < 2 ∧ o_tN S k s = 0 then -8
  else if what.toInt = 0 then o_mi (mA S 23 (ci k)) (mA S 22 (ci k)) (mB S 3) (60 * ci s) (o_sz S s) else if what.toInt = 1 then o_ma (mA S 23 (ci k)) (mA S 22 (ci k)) (mB S 3) (60 * ci s) (o_sz S s) else if what.toInt = 2 then (nI (o_tN S k s)).toInt64
  else if what.toInt = 3 then o_tW S k s else o_bk S (ci k) (o_tW S k s)
/-! loans -/
def o_snc (known : Int32) (day : Int32) (p : Nat) : Int32 := if (known.toUInt32 >>> ((nI p).toUInt32 &&& Int32.toUInt32 31)).toInt32 &&& 1 = 1 then day else -1
def o_lw (S : z_M) (k n : Int32) : Int64 := mB S 26 (ci k) * n.toInt64 / mB S 25 (ci k)
def o_lend (S : z_M) (k n known : Int32) : z_M :=
  let S1 : z_M := uB (uA (uB (uB S 25 (ci k) (mB S 25 (ci k) - n.toInt64)) 26 (ci k) (mB S 26 (ci k) - o_lw S k n)) 57 (nE S) (dy S)) 59 (nE S) (o_bk S (ci k) (o_lw S k n))
  uS (fun q j => if q = 58 ∧ 32 * nE S ≤ j ∧ j < 32 * nE S + 32 then o_snc known (dy S) (j - 32 * nE S) else S1.1 q j, S1.2) 21 (nI (nE S + 1))
def o_loan (S : z_M) (k n known : Int32) : Int32 × z_M :=
  if ¬ (isx k (nK S) ∧ 1 ≤ n.toInt) then (-2, S) else if (mB S 25 (ci k)).toInt < n.toInt then (-8, S) else if nE S = 20 then (-3, S)
  else (nI (nE S), o_lend S k n known)
def o_tell (S : z_M) (l p : Int32) : Int32 × z_M :=
  if isx l (nE S) ∧ inp p 0 31 ∧ (mA S 58 (32 * ci l + ci p)).toInt = -1 then (1, uA S 58 (32 * ci l + ci p) (dy S)) else (0, S)
def o_gp (w z : Nat → Int32) (b : Nat → Int64) (p : Nat) (d : Int32) : Nat → Int64
  | 0 => 0
  | n + 1 => if (w n).toInt ≤ d.toInt ∧ (0 ≤ (z (32 * n + p)).toInt ∧ (z (32 * n + p)).toInt ≤ d.toInt) then o_gp w z b p d n + b n else o_gp w z b p d n
def o_gap (S : z_M) (p d : Int32) : Int64 := if ¬ (inp p 0 31 ∧ (0 ≤ d.toInt ∧ d.toInt ≤ (dy S).toInt)) then -1 else o_gp (mA S 57) (mA S 58) (mB S 59) (ci p) d (nE S)
/-! sums, reads -/
def o_vb (pu : Nat → Int32) (rate : Int32) (w : Nat → Int64) : Nat → Int64
  | 0 => 0
  | n + 1 => o_vb pu rate w n + o_b (pu n) rate (w n)
def o_bl (w : Nat → Int64) : Nat → Int64
  | 0 => 0
  | n + 1 => o_bl w n + w n
abbrev o_vB (S : z_M) : Int64 := o_vb (mA S 24) (mS S 5) (mB S 26) (nK S)
abbrev o_bL (S : z_M) : Int64 := o_bl (mB S 27) (nA S)
def o_run (S : z_M) (v : Int64) : Int64 := if ¬ inq v 1 1000000000 then -2 else if (o_bL S).toInt ≤ (o_vB S).toInt then -1 else (o_vB S + v - 1) / v
def o_accountOf (S : z_M) (a what : Int32) : Int32 :=
  if ¬ isx a (nA S) then -2 else if what.toInt = 0 then o_fol (mA S 55) a (nF S) else if what.toInt = 1 then nI (o_nf (mA S 55) a (nF S)) else if what.toInt = 2 then mA S 28 (ci a) else if what.toInt = 3 then (if (mA S 28 (ci a)).toInt = -1 then -1 else mA S 29 (ci a)) else -2
def o_folio (S : z_M) (a k : Int32) : Int32 := if ¬ (isx a (nA S) ∧ 0 ≤ k.toInt) then -1 else o_kf (mA S 55) a (ci k) (nF S)
def o_balance (S : z_M) (a : Int32) : Int64 := if isx a (nA S) then mB S 27 (ci a) else 0
def o_wr (la lh : Nat → Int32) (ls : Nat → Int64) (a : Int32) : Nat → Int64
  | 0 => 0
  | n + 1 => if (la n).toInt = a.toInt then o_wr la lh ls a n + (if (lh n).toInt = 1 then ls n else -(ls n)) else o_wr la lh ls a n
def o_written (S : z_M) (a : Int32) : Int64 := o_wr (mA S 50) (mA S 52) (mB S 54) a (nL S)
def o_line (S : z_M) (l what : Int32) : Int32 :=
  if ¬ isx l (nL S) then -2 else if what.toInt = 0 then mA S 49 (ci l) else if what.toInt = 1 then mA S 50 (ci l) else if what.toInt = 2 then mA S 51 (ci l) else if what.toInt = 3 then mA S 52 (ci l) else if what.toInt = 4 then mA S 53 (ci l) else -2
def o_lineSum (S : z_M) (l : Int32) : Int64 := if isx l (nL S) then mB S 54 (ci l) else 0
def o_orderOf (S : z_M) (o what : Int32) : Int32 :=
  if ¬ isx o (nO S) then -2 else if what.toInt = 0 then mA S 37 (ci o) else if what.toInt = 1 then mA S 38 (ci o) else if what.toInt = 2 then mA S 39 (ci o) else if what.toInt = 3 then mA S 40 (ci o) else if what.toInt = 4 then mA S 42 (ci o) else if what.toInt = 5 then mA S 43 (ci o) else if what.toInt = 6 then (if (mA S 48 (ci o)).toInt = 0 then 0 else 1) else -2
def o_receipt (S : z_M) (r what : Int32) : Int32 :=
  if ¬ isx r (nR S) then -2 else if what.toInt = 0 then mA S 30 (ci r) else if what.toInt = 1 then mA S 31 (ci r) else if what.toInt = 2 then mA S 32 (ci r) else if what.toInt = 3 then (mB S 35 (ci r)).toInt32 else if what.toInt = 4 then mA S 33 (ci r) else if what.toInt = 5 then mA S 34 (ci r) else -2
def o_book (S : z_M) (r : Int32) : Int64 := if isx r (nR S) then mB S 36 (ci r) else 0
def o_vault (S : z_M) (k what : Int32) : Int64 :=
  if ¬ isx k (nK S) then -1 else if what.toInt = 0 then mB S 25 (ci k) else if what.toInt = 1 then mB S 26 (ci k) else if what.toInt = 2 then o_bk S (ci k) (mB S 26 (ci k)) else -1
def o_rows (w : Nat → Int32) : Nat → Nat
  | 0 => 0
  | n + 1 => o_rows w n + (if (w n).toInt < 0 then 0 else 1)
def o_count (S : z_M) (what : Int32) : Int32 :=
  if what.toInt = 0 then dy S else if what.toInt = 1 then mS S 15 else if what.toInt = 2 then mS S 16 else if what.toInt = 3 then mS S 18 else if what.toInt = 4 then nI (o_wt (mA S 42) (nO S)) else if what.toInt = 5 then mS S 17 else if what.toInt = 6 then mS S 19
  else if what.toInt = 7 then mS S 20 else if what.toInt = 8 then mS S 13 else if what.toInt = 9 then mS S 21 else if what.toInt = 10 then nI (o_rows (mA S 1) 4) else -1
def o_sum (S : z_M) (what : Int32) : Int64 :=
  if what.toInt = 0 then o_bL S else if what.toInt = 1 then o_vB S else if what.toInt = 2 then mT S 64 else if what.toInt = 3 then mT S 65 else if what.toInt = 4 then mT S 66 else 0
