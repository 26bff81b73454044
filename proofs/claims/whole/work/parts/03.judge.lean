/-! the world of the small machine in the machine's heap; contracts; what an instruction asks -/
def z_A (G : z_G) : Nat → Prop := fun q => gB G ≤ q
def z_tys (G : z_G) : List (ClassId × FieldType) := [(gA G 0, .int), (gA G 1, .long), (gA G 2, .boolean), (gA G 3, .object "java/lang/Object")]
/-- what the tables say -/
def z_cst : List String := [RX0, RX2, RX4, RX5, RX6, RX7, RX8, RJ6]
def z_KN (G : z_G) (U : State) : Prop := va_K (gC G, gI G) vwCl (z_tys G) U ∧ (∃ mi : Nat, va_Mi "[Ljava/lang/Object;" mi U) ∧ va_Dc U ∧ va_AO "java/lang/Object" U ∧ ∀ C ∈ z_cst, va_Nw (.castable C "java/lang/Object") U
/-- what is older than the world, and stays -/
def z_OJ (G : z_G) (U : State) (H : Heap) : Prop :=
  va_Z "java/util/ArrayList" "DEFAULTCAPACITY_EMPTY_ELEMENTDATA" "[Ljava/lang/Object;" (.ref (gE G)) (z_A G) U H ∧ va_T (.object "java/lang/Object") (gE G) 0 (fun _ => .null) (z_A G) U H ∧
  va_Z "java/lang/Integer$IntegerCache" "high" "I" (.int 127) (z_A G) U H ∧ vb_C (gX G) (z_A G) U H ∧
  ∃ tc : Nat, va_Z "java/lang/Integer$IntegerCache" "cache" "[Ljava/lang/Integer;" (.ref tc) (z_A G) U H ∧ va_T (.object "java/lang/Integer") tc 256 (fun k => .ref (gX G k)) (z_A G) U H
def z_OLD (G : z_G) (U : State) (H : Heap) : Prop := gB G ≤ H.size ∧ gS G < gB G ∧ va_X (gS G) (gL G) (gV G) U H ∧ z_OJ G U H
/-- which cells are there -/
def z_live (h : z_H) (K i : Nat) : Prop := (K < 1000 ∧ K ≠ 400 ∧ i < hN h K) ∨ (1200 ≤ K ∧ K ≤ 1207 ∧ i < hN h (K - 1000) ∧ hZ h (K - 1000) i ≠ 0) ∨ (K = 1300 ∧ i < hN h K)
def z_box (G : z_G) (ad : Nat → Nat → Nat) (h : z_H) (H : Heap) (a : Nat) (v : Int32) : Prop :=
  (∃ k : Nat, k < 256 ∧ a = gX G k ∧ v = vb_c k) ∨ ∃ b : Nat, b < hN h 1300 ∧ a = ad 1300 b ∧ t_OB a (gC G 0) 1 (gI G 0) H (fun _ => .int v)
/-- a list: its object, its array, its elements -/
def z_LE (G : z_G) (ad : Nat → Nat → Nat) (h : z_H) (H : Heap) (K i j a : Nat) : Prop :=
  (K = 207 → z_box G ad h H a (hI h K i j)) ∧ (K ≠ 207 → a = ad (lT K) j ∧ j < hN h (lT K))
def z_LV (G : z_G) (ad : Nat → Nat → Nat) (h : z_H) (K i : Nat) (m : Int32) (k : Nat) : Value := match k with | 0 => .int m | 1 => .ref (if hZ h K i = 0 then gE G else ad (K + 1000) i) | _ => .int (nI (hZ h K i))
def z_LR (G : z_G) (ad : Nat → Nat → Nat) (h : z_H) (H : Heap) (K i : Nat) : Prop := ∃ (m : Int32) (el : Nat → Nat),
  t_OB (ad K i) (gC G 1) 3 (gI G 1) H (z_LV G ad h K i m) ∧
  (hZ h K i ≠ 0 → H[ad (K + 1000) i]? = some (arrV (gA G 3) (z_cap (hZ h K i)) (fun j => if j < hZ h K i then .ref (el j) else .null))) ∧
  ∀ j : Nat, j < hZ h K i → z_LE G ad h H K i j (el j)
/-- what cell (K, i) is -/
def z_cell (G : z_G) (ad : Nat → Nat → Nat) (h : z_H) (H : Heap) (K i : Nat) : Prop :=
  (z_obj K = true → t_OB (ad K i) (gC G K) (kF K) (gI G K) H (fun k => z_val ad (z_fv h K i k))) ∧
  (aLen K ≠ 0 → H[ad K i]? = some (arrV (gA G (aCod K)) (aLen K) (aVal h K i))) ∧
  (z_lst K = true → z_LR G ad h H K i)
def z_HR (G : z_G) (ad : Nat → Nat → Nat) (h : z_H) (U : State) (H : Heap) : Prop :=
  z_OLD G U H ∧ ad 400 0 = gS G ∧ (∀ K i, z_live h K i → gB G ≤ ad K i ∧ ad K i < H.size) ∧ (∀ K i K' i', z_live h K i → z_live h K' i' → ad K i = ad K' i' → K = K' ∧ i = i') ∧
  (∀ K i, K < 1000 → i < hN h K → z_cell G ad h H K i) ∧ (∀ K i k q, K < 1000 → i < hN h K → hR h K i k = some q → q.2 < hN h q.1 ∧ q.1 < 1000)
def z_ok (h : z_H) (v : z_V) : Prop := match v with | .inr (.inr (some q)) => q.2 < hN h q.1 ∧ q.1 < 1000 | _ => True
def z_EX (h0 : z_H) (ad0 : Nat → Nat → Nat) (h : z_H) (ad : Nat → Nat → Nat) : Prop := (∀ K, hN h0 K ≤ hN h K) ∧ ∀ K i, K < 1000 → i < hN h0 K → ad K i = ad0 K i
def z_RP (G : z_G) (ad : Nat → Nat → Nat) (h : z_H) (U : State) : Prop := z_KN G U ∧ z_HR G ad h U U.heap
def z_rm (d mc ms : Nat) : Room := { frames := d, cells := mc, slots := ms, locals := 40 * d }
/-- A CONTRACT: from heap h with these arguments method y returns, and then Q of its answer and the heap; mc cells of ms slots at most are new -/
def z_MT (l : Launch) (G : z_G) (d : Nat) (y : MethodName) (cc : ByteArray) (mL : Nat) (rt : Option FieldType) (as : List z_V) (h : z_H) (mc ms : Nat) (Q : Option z_V → z_H → Prop) : Prop :=
  ∀ ad : Nat → Nat → Nat, Met l y (Cond.code y cc mL rt :: z_tbl) (z_rm d mc ms)
    (fun v U => v = (as.map (z_val ad)).toArray ∧ z_RP G ad h U ∧ ∀ x ∈ as, z_ok h x)
    (fun _ _ o t => ∃ (ad' : Nat → Nat → Nat) (r : Option z_V) (h' : z_H), o = .returned (r.map (z_val ad')) ∧ z_RP G ad' h' t ∧ z_EX h ad h' ad' ∧ (∀ x, r = some x → z_ok h' x) ∧ Q r h') mc ms (z_A G)
def z_rcv (kd : Nat) (y : MethodName) (as : List z_V) : Prop := match kd with
  | 0 => match as with | .inr (.inr (some q)) :: _ => z_obj q.1 = true ∧ kR q.1 = y.cls | _ => False
  | 1 => True
  | _ => match as with | .inr (.inr (some _)) :: _ => True | _ => False
/-- Math's max and min (0, 1 of ints; 2, 3 of longs): a call's words, and what it answers -/
def z_mn (c : Nat) : MethodName := match c with | 0 => Lib.Math.max.name | 1 => Lib.Math.min.name | 2 => Lib.MathLoose.max_long.x | _ => Lib.MathLoose.min_long.x
def z_MP (own : String) (idx : Nat) (as : List z_V) (k : z_V → Prop) : Prop := ∃ c : Nat, Cond.methodLink own idx (z_mn c) ∈ z_tbl ∧ (match c, as with
  | 0, [.inl x, .inl v] => k (z_i (if x < v then v else x))
  | 1, [.inl x, .inl v] => k (z_i (if v < x then v else x))
  | 2, [.inr (.inl x), .inr (.inl v)] => k (z_l (if v < x then x else v))
  | 3, [.inr (.inl x), .inr (.inl v)] => k (z_l (if v < x then v else x))
  | _, _ => False)
def z_CP (l : Launch) (G : z_G) (d MC MS : Nat) (own : String) (idx kd : Nat) (as : List z_V) (h : z_H) (ce sl : Nat) (k : Option z_V → z_H → Nat → Nat → Prop) : Prop :=
  1 ≤ d ∧ ((∃ (y : MethodName) (cc : ByteArray) (mL : Nat) (rt : Option FieldType) (mc ms : Nat) (Q : Option z_V → z_H → Prop),
    z_ck own idx kd y cc mL rt as.length ∧ z_rcv kd y as ∧ z_MT l G (d - 1) y cc mL rt as h mc ms Q ∧ ce + mc ≤ MC ∧ sl + ms ≤ MS ∧ ∀ r h', Q r h' → k r h' (ce + mc) (sl + ms)) ∨
    (kd = 1 ∧ ce ≤ MC ∧ sl ≤ MS ∧ z_MP own idx as (fun v => k (some v) h ce sl)))
abbrev z_K : Type := z_L → z_S → z_H → Nat → Nat → Prop
def z_cpy (h : z_H) (i1 sp i2 dp n : Nat) : z_H := (h.1, h.2.1, fun K' i' k' => if K' = 100 ∧ i' = i2 ∧ dp ≤ k' ∧ k' < dp + n then h.2.2.1 100 i1 (sp + (k' - dp)) else h.2.2.1 K' i' k', h.2.2.2)
/-- WHAT AN INSTRUCTION ASKS: that the next one may go on (k), or the one at a label (A), or the end (T) -/
def z_stp (l : Launch) (G : z_G) (d MC MS : Nat) (own : String) (A : Nat → z_K) (T : Option z_V → z_H → Nat → Nat → Prop) (e : z_E) (ls : z_L) (st : z_S) (h : z_H) (ce sl : Nat) (k : z_K) : Prop := match e with
  | (.aconst_null, _, _, _, _) => k ls (z_n :: st) h ce sl
  | (.iconst n, _, _, _, _) => k ls (z_i (Int32.ofInt n) :: st) h ce sl
  | (.bipush n, _, _, _, _) => k ls (z_i (Int32.ofInt n) :: st) h ce sl
  | (.sipush n, _, _, _, _) => k ls (z_i (Int32.ofInt n) :: st) h ce sl
  | (.lconst n, _, _, _, _) => k ls (z_l (Int64.ofNat n) :: st) h ce sl
  | (.ldc _, _, _, _, z) => k ls (z_i (Int32.ofInt z) :: st) h ce sl
  | (.ldc2_w _, _, _, _, z) => k ls (z_l (Int64.ofInt z) :: st) h ce sl
  | (.iload i, _, _, _, _) => eI (z_get ls i) fun x => k ls (z_i x :: st) h ce sl
  | (.iload_n i, _, _, _, _) => eI (z_get ls i) fun x => k ls (z_i x :: st) h ce sl
  | (.lload i, _, _, _, _) => eL (z_get ls i) fun x => k ls (z_l x :: st) h ce sl
  | (.lload_n i, _, _, _, _) => eL (z_get ls i) fun x => k ls (z_l x :: st) h ce sl
  | (.aload i, _, _, _, _) => eR (z_get ls i) fun x => k ls (z_q x :: st) h ce sl
  | (.aload_n i, _, _, _, _) => eR (z_get ls i) fun x => k ls (z_q x :: st) h ce sl
  | (.istore i, _, _, _, _) => pI st fun x st => k (z_put ls i (z_i x)) st h ce sl
  | (.istore_n i, _, _, _, _) => pI st fun x st => k (z_put ls i (z_i x)) st h ce sl
  | (.lstore i, _, _, _, _) => pL st fun x st => k (z_put ls i (z_l x)) st h ce sl
  | (.lstore_n i, _, _, _, _) => pL st fun x st => k (z_put ls i (z_l x)) st h ce sl
  | (.astore i, _, _, _, _) => pR st fun x st => k (z_put ls i (z_q x)) st h ce sl
  | (.astore_n i, _, _, _, _) => pR st fun x st => k (z_put ls i (z_q x)) st h ce sl
  | (.iinc i n, _, _, _, _) => eI (z_get ls i) fun x => k (z_put ls i (z_i (x + Int32.ofInt n))) st h ce sl
  | (.dup, _, _, _, _) => pV st fun v st => z_cat v = 1 ∧ k ls (v :: v :: st) h ce sl
  | (.pop, _, _, _, _) => pV st fun v st => z_cat v = 1 ∧ k ls st h ce sl
  | (.dup2, _, _, _, _) => pV st fun v st => pV st fun w st => z_cat v = 1 ∧ z_cat w = 1 ∧ k ls (v :: w :: v :: w :: st) h ce sl
  | (.iadd, _, _, _, _) => pI st fun y st => pI st fun x st => k ls (z_i (x + y) :: st) h ce sl
  | (.isub, _, _, _, _) => pI st fun y st => pI st fun x st => k ls (z_i (x - y) :: st) h ce sl
  | (.imul, _, _, _, _) => pI st fun y st => pI st fun x st => k ls (z_i (x * y) :: st) h ce sl
  | (.iand, _, _, _, _) => pI st fun y st => pI st fun x st => k ls (z_i (x &&& y) :: st) h ce sl
  | (.iushr, _, _, _, _) => pI st fun y st => pI st fun x st => k ls (z_i (x.toUInt32 >>> (y.toUInt32 &&& Int32.toUInt32 31)).toInt32 :: st) h ce sl
  | (.ineg, _, _, _, _) => pI st fun x st => k ls (z_i (-x) :: st) h ce sl
  | (.ladd, _, _, _, _) => pL st fun y st => pL st fun x st => k ls (z_l (x + y) :: st) h ce sl
  | (.lsub, _, _, _, _) => pL st fun y st => pL st fun x st => k ls (z_l (x - y) :: st) h ce sl
  | (.lmul, _, _, _, _) => pL st fun y st => pL st fun x st => k ls (z_l (x * y) :: st) h ce sl
  | (.land, _, _, _, _) => pL st fun y st => pL st fun x st => k ls (z_l (x &&& y) :: st) h ce sl
  | (.lor, _, _, _, _) => pL st fun y st => pL st fun x st => k ls (z_l (x ||| y) :: st) h ce sl
  | (.ldiv, _, _, _, _) => pL st fun y st => pL st fun x st => ¬ y = 0 ∧ k ls (z_l (x / y) :: st) h ce sl
  | (.lrem, _, _, _, _) => pL st fun y st => pL st fun x st => ¬ y = 0 ∧ k ls (z_l (x - x / y * y) :: st) h ce sl
  | (.lneg, _, _, _, _) => pL st fun x st => k ls (z_l (-x) :: st) h ce sl
  | (.lshl, _, _, _, _) => pI st fun y st => pL st fun x st => k ls (z_l (x <<< (y.toInt64 &&& 63)) :: st) h ce sl
  | (.i2l, _, _, _, _) => pI st fun x st => k ls (z_l x.toInt64 :: st) h ce sl
  | (.l2i, _, _, _, _) => pL st fun x st => k ls (z_i x.toInt32 :: st) h ce sl
  | (.i2b, _, _, _, _) => pI st fun x st => k ls (z_i x.toInt8.toInt32 :: st) h ce sl
  | (.i2s, _, _, _, _) => pI st fun x st => k ls (z_i x.toInt16.toInt32 :: st) h ce sl
  | (.lcmp, _, _, _, _) => pL st fun y st => pL st fun x st => k ls (z_i (lg_cmp x y) :: st) h ce sl
  | (.if_icmp c _, _, t, _, _) => pI st fun y st => pI st fun x st => (z_cP c x y → A t ls st h ce sl) ∧ (¬ z_cP c x y → k ls st h ce sl)
  | (.ifCond c _, _, t, _, _) => pI st fun x st => (z_cP c x 0 → A t ls st h ce sl) ∧ (¬ z_cP c x 0 → k ls st h ce sl)
  | (.ifnull _, _, t, _, _) => pR st fun r st => (r = none → A t ls st h ce sl) ∧ (∀ q, r = some q → k ls st h ce sl)
  | (.ifnonnull _, _, t, _, _) => pR st fun r st => (r = none → k ls st h ce sl) ∧ (∀ q, r = some q → A t ls st h ce sl)
  | (.goto _, _, t, _, _) => A t ls st h ce sl
  | (.tableswitch dflt lo hi offs, _, pc, _, _) => pI st fun x st => A (z_sw pc dflt lo hi offs.toList x.toInt) ls st h ce sl
  | (.lookupswitch dflt ps, _, pc, _, _) => pI st fun x st => A (z_lk pc dflt ps.toList x.toInt) ls st h ce sl
  | (.getfield _, _, K, f, 0) => pO st fun K' i st => K' = K ∧ k ls (z_i (hI h K i f) :: st) h ce sl
  | (.getfield _, _, K, f, 3) => pO st fun K' i st => K' = K ∧ k ls (z_i (hI h K i f) :: st) h ce sl
  | (.getfield _, _, K, f, 1) => pO st fun K' i st => K' = K ∧ k ls (z_l (hL h K i f) :: st) h ce sl
  | (.getfield _, _, K, f, 2) => pO st fun K' i st => K' = K ∧ k ls (z_q (hR h K i f) :: st) h ce sl
  | (.putfield _, _, K, f, 0) => pI st fun x st => pO st fun K' i st => K' = K ∧ k ls st (sI h K i f x) ce sl
  | (.putfield _, _, K, f, 3) => pI st fun x st => pO st fun K' i st => K' = K ∧ (x = 0 ∨ x = 1) ∧ k ls st (sI h K i f x) ce sl
  | (.putfield _, _, K, f, 1) => pL st fun x st => pO st fun K' i st => K' = K ∧ k ls st (sL h K i f x) ce sl
  | (.putfield _, _, K, f, 2) => pR st fun x st => pO st fun K' i st => K' = K ∧ k ls st (sR h K i f x) ce sl
  | (.new _, _, K, 0, _) => ce + 1 ≤ MC ∧ sl + kF K ≤ MS ∧ k ls (z_r K (hN h K) :: st) (z_nw h K) (ce + 1) (sl + kF K)
  | (.new _, _, K, 1, _) => 5 ≤ d ∧ z_w st ≤ 6 ∧ ce + 1 ≤ MC ∧ sl + 3 ≤ MS ∧ k ls (z_r K (hN h K) :: st) (z_nw h K) (ce + 1) (sl + 3)
  | (.newarray _, _, K, _, _) => pI st fun n st => n = nI (aLen K) ∧ ce + 1 ≤ MC ∧ sl + aLen K ≤ MS ∧ k ls (z_r K (hN h K) :: st) (z_nw h K) (ce + 1) (sl + aLen K)
  | (.arraylength, _, _, _, _) => pO st fun K i st => K = 400 ∧ i = 0 ∧ k ls (z_i (nI (gL G)) :: st) h ce sl
  | (.iaload, _, _, 1, _) => pI st fun j st => pO st fun K i st => K = 400 ∧ i = 0 ∧ vp_in j (gL G) ∧ k ls (z_i (gV G j.toNatClampNeg) :: st) h ce sl
  | (.iaload, _, _, _, _) => pI st fun j st => pO st fun K i st => aCod K = 0 ∧ vp_in j (aLen K) ∧ k ls (z_i (hI h K i j.toNatClampNeg) :: st) h ce sl
  | (.baload, _, _, _, _) => pI st fun j st => pO st fun K i st => aCod K = 2 ∧ vp_in j (aLen K) ∧ k ls (z_i (hI h K i j.toNatClampNeg) :: st) h ce sl
  | (.laload, _, _, _, _) => pI st fun j st => pO st fun K i st => aCod K = 1 ∧ vp_in j (aLen K) ∧ k ls (z_l (hL h K i j.toNatClampNeg) :: st) h ce sl
  | (.iastore, _, _, _, _) => pI st fun x st => pI st fun j st => pO st fun K i st => aCod K = 0 ∧ vp_in j (aLen K) ∧ k ls st (sI h K i j.toNatClampNeg x) ce sl
  | (.bastore, _, _, _, _) => pI st fun x st => pI st fun j st => pO st fun K i st => aCod K = 2 ∧ vp_in j (aLen K) ∧ (x = 0 ∨ x = 1) ∧ k ls st (sI h K i j.toNatClampNeg x) ce sl
  | (.lastore, _, _, _, _) => pL st fun x st => pI st fun j st => pO st fun K i st => aCod K = 1 ∧ vp_in j (aLen K) ∧ k ls st (sL h K i j.toNatClampNeg x) ce sl
  | (.checkcast _, _, K, _, _) => pO st fun K' i st => K' = K ∧ k ls (z_r K' i :: st) h ce sl
  | (.ireturn, _, _, _, _) => pI st fun x st => st = [] ∧ T (some (z_i x)) h ce sl
  | (.lreturn, _, _, _, _) => pL st fun x st => st = [] ∧ T (some (z_l x)) h ce sl
  | (.areturn, _, _, _, _) => pR st fun x st => st = [] ∧ T (some (z_q x)) h ce sl
  | (.return_, _, _, _, _) => st = [] ∧ T none h ce sl
  | (.invokevirtual idx, _, n, 0, _) => pA n st [] fun as st => z_w st ≤ 8 ∧ z_CP l G d MC MS own idx 0 as h ce sl fun r h ce sl => k ls (r.toList ++ st) h ce sl
  | (.invokestatic idx, _, n, 0, _) => pA n st [] fun as st => z_w st ≤ 8 ∧ z_CP l G d MC MS own idx 1 as h ce sl fun r h ce sl => k ls (r.toList ++ st) h ce sl
  | (.invokespecial idx, _, n, 0, _) => pA n st [] fun as st => z_w st ≤ 8 ∧ z_CP l G d MC MS own idx 2 as h ce sl fun r h ce sl => k ls (r.toList ++ st) h ce sl
  | (.invokespecial _, _, _, 7, _) => pO st fun _ _ st => 1 ≤ d ∧ z_w st ≤ 8 ∧ k ls st h ce sl
  | (.invokevirtual _, _, _, 1, _) => pO st fun K i st => 1 ≤ d ∧ z_w st ≤ 8 ∧ ce ≤ MC ∧ sl ≤ MS ∧ z_lst K = true ∧ k ls (z_i (nI (hZ h K i)) :: st) h ce sl
  | (.invokevirtual _, _, _, 2, _) => pI st fun j st => pO st fun K i st => 4 ≤ d ∧ z_w st ≤ 8 ∧ ce ≤ MC ∧ sl ≤ MS ∧ z_lst K = true ∧ K ≠ 207 ∧ hZ h K i < 100000 ∧ vp_in j (hZ h K i) ∧ k ls (z_r (lT K) j.toNatClampNeg :: st) h ce sl
  | (.invokevirtual _, _, _, 3, _) => pO st fun K' i' st => pO st fun K i st => 8 ≤ d ∧ z_w st ≤ 8 ∧ z_lst K = true ∧ K ≠ 207 ∧ K' = lT K ∧ i' = hZ h K i ∧ hZ h K i < 100000 ∧ ce + z_gc (hZ h K i) ≤ MC ∧ sl + z_gs (hZ h K i) ≤ MS ∧ k ls (z_i 1 :: st) (sZ h K i (hZ h K i + 1)) (ce + z_gc (hZ h K i)) (sl + z_gs (hZ h K i))
  | (.invokestatic _, _, _, 10, _) => pI st fun x st => pO st fun K i st => 8 ≤ d ∧ z_w st ≤ 7 ∧ K = 207 ∧ hZ h 207 i < 100000 ∧ ce + 1 + z_gc (hZ h 207 i) ≤ MC ∧ sl + 1 + z_gs (hZ h 207 i) ≤ MS ∧ ∀ nb, k ls (z_i 1 :: st) (sN (sI (sZ h 207 i (hZ h 207 i + 1)) 207 i (hZ h 207 i) x) 1300 nb) (ce + 1 + z_gc (hZ h 207 i)) (sl + 1 + z_gs (hZ h 207 i))
  | (.invokevirtual _, _, _, 11, _) => pI st fun j st => pO st fun K i st => 4 ≤ d ∧ z_w st ≤ 8 ∧ ce ≤ MC ∧ sl ≤ MS ∧ K = 207 ∧ hZ h 207 i < 100000 ∧ vp_in j (hZ h 207 i) ∧ k ls (z_i (hI h 207 i j.toNatClampNeg) :: st) h ce sl
  | (.invokestatic _, _, _, 6, _) => pI st fun n st => pI st fun dp st => pO st fun K2 i2 st => pI st fun sp st => pO st fun K1 i1 st => 1 ≤ d ∧ z_w st ≤ 8 ∧ K1 = 100 ∧ K2 = 100 ∧ ¬ sp < 0 ∧ ¬ dp < 0 ∧ ¬ n < 0 ∧ sp.toNatClampNeg + n.toNatClampNeg ≤ 60 ∧ dp.toNatClampNeg + n.toNatClampNeg ≤ 60 ∧ k ls st (z_cpy h i1 sp.toNatClampNeg i2 dp.toNatClampNeg n.toNatClampNeg) ce sl
  | _ => False
/-- a stretch of instructions up to ep -/
def z_wp (l : Launch) (G : z_G) (d MC MS : Nat) (own : String) (A : Nat → z_K) (T : Option z_V → z_H → Nat → Nat → Prop) (ep : Nat) : List z_E → z_K
  | [] => A ep
  | e :: r => fun ls st h ce sl => z_stp l G d MC MS own A T e ls st h ce sl (z_wp l G d MC MS own A T ep r)
