/-! rules by which a stretch is read (all by rfl) -/
section ZR
variable {l : Launch} {G : z_G} {d MC MS : Nat} {own : String} {A : Nat → z_K} {T : Option z_V → z_H → Nat → Nat → Prop} {ls : z_L} {st : z_S} {h : z_H} {ce sl : Nat} {k : z_K} {n a b ep : Nat} {z : Int} {e : z_E} {es : List z_E}
theorem zr_nil : z_wp l G d MC MS own A T ep [] ls st h ce sl = A ep ls st h ce sl := rfl
theorem zr_cons : z_wp l G d MC MS own A T ep (e :: es) ls st h ce sl = z_stp l G d MC MS own A T e ls st h ce sl (z_wp l G d MC MS own A T ep es) := rfl
theorem zr_aconst_null : z_stp l G d MC MS own A T (.aconst_null, n, a, b, z) ls st h ce sl k = k ls (z_n :: st) h ce sl := rfl
theorem zr_iconst {v : Int} : z_stp l G d MC MS own A T (.iconst v, n, a, b, z) ls st h ce sl k = k ls (z_i (Int32.ofInt v) :: st) h ce sl := rfl
theorem zr_bipush {v : Int} : z_stp l G d MC MS own A T (.bipush v, n, a, b, z) ls st h ce sl k = k ls (z_i (Int32.ofInt v) :: st) h ce sl := rfl
theorem zr_sipush {v : Int} : z_stp l G d MC MS own A T (.sipush v, n, a, b, z) ls st h ce sl k = k ls (z_i (Int32.ofInt v) :: st) h ce sl := rfl
theorem zr_lconst {v : Fin 2} : z_stp l G d MC MS own A T (.lconst v, n, a, b, z) ls st h ce sl k = k ls (z_l (Int64.ofNat v) :: st) h ce sl := rfl
theorem zr_ldc {v : Nat} : z_stp l G d MC MS own A T (.ldc v, n, a, b, z) ls st h ce sl k = k ls (z_i (Int32.ofInt z) :: st) h ce sl := rfl
theorem zr_ldc2 {v : Nat} : z_stp l G d MC MS own A T (.ldc2_w v, n, a, b, z) ls st h ce sl k = k ls (z_l (Int64.ofInt z) :: st) h ce sl := rfl
theorem zr_iload {v : Nat} : z_stp l G d MC MS own A T (.iload v, n, a, b, z) ls st h ce sl k = eI (z_get ls v) fun x => k ls (z_i x :: st) h ce sl := rfl
theorem zr_iload_n {v : Fin 4} : z_stp l G d MC MS own A T (.iload_n v, n, a, b, z) ls st h ce sl k = eI (z_get ls v) fun x => k ls (z_i x :: st) h ce sl := rfl
theorem zr_lload {v : Nat} : z_stp l G d MC MS own A T (.lload v, n, a, b, z) ls st h ce sl k = eL (z_get ls v) fun x => k ls (z_l x :: st) h ce sl := rfl
theorem zr_lload_n {v : Fin 4} : z_stp l G d MC MS own A T (.lload_n v, n, a, b, z) ls st h ce sl k = eL (z_get ls v) fun x => k ls (z_l x :: st) h ce sl := rfl
theorem zr_aload {v : Nat} : z_stp l G d MC MS own A T (.aload v, n, a, b, z) ls st h ce sl k = eR (z_get ls v) fun x => k ls (z_q x :: st) h ce sl := rfl
theorem zr_aload_n {v : Fin 4} : z_stp l G d MC MS own A T (.aload_n v, n, a, b, z) ls st h ce sl k = eR (z_get ls v) fun x => k ls (z_q x :: st) h ce sl := rfl
theorem zr_istore {v : Nat} : z_stp l G d MC MS own A T (.istore v, n, a, b, z) ls st h ce sl k = pI st fun x st => k (z_put ls v (z_i x)) st h ce sl := rfl
theorem zr_istore_n {v : Fin 4} : z_stp l G d MC MS own A T (.istore_n v, n, a, b, z) ls st h ce sl k = pI st fun x st => k (z_put ls v (z_i x)) st h ce sl := rfl
theorem zr_lstore {v : Nat} : z_stp l G d MC MS own A T (.lstore v, n, a, b, z) ls st h ce sl k = pL st fun x st => k (z_put ls v (z_l x)) st h ce sl := rfl
theorem zr_lstore_n {v : Fin 4} : z_stp l G d MC MS own A T (.lstore_n v, n, a, b, z) ls st h ce sl k = pL st fun x st => k (z_put ls v (z_l x)) st h ce sl := rfl
theorem zr_astore {v : Nat} : z_stp l G d MC MS own A T (.astore v, n, a, b, z) ls st h ce sl k = pR st fun x st => k (z_put ls v (z_q x)) st h ce sl := rfl
theorem zr_astore_n {v : Fin 4} : z_stp l G d MC MS own A T (.astore_n v, n, a, b, z) ls st h ce sl k = pR st fun x st => k (z_put ls v (z_q x)) st h ce sl := rfl
theorem zr_iinc {v : Nat} {q : Int} : z_stp l G d MC MS own A T (.iinc v q, n, a, b, z) ls st h ce sl k = eI (z_get ls v) fun x => k (z_put ls v (z_i (x + Int32.ofInt q))) st h ce sl := rfl
theorem zr_dup : z_stp l G d MC MS own A T (.dup, n, a, b, z) ls st h ce sl k = pV st fun v st => z_cat v = 1 ∧ k ls (v :: v :: st) h ce sl := rfl
theorem zr_pop : z_stp l G d MC MS own A T (.pop, n, a, b, z) ls st h ce sl k = pV st fun v st => z_cat v = 1 ∧ k ls st h ce sl := rfl
theorem zr_dup2 : z_stp l G d MC MS own A T (.dup2, n, a, b, z) ls st h ce sl k = pV st fun v st => pV st fun w st => z_cat v = 1 ∧ z_cat w = 1 ∧ k ls (v :: w :: v :: w :: st) h ce sl := rfl
theorem zr_iadd : z_stp l G d MC MS own A T (.iadd, n, a, b, z) ls st h ce sl k = pI st fun y st => pI st fun x st => k ls (z_i (x + y) :: st) h ce sl := rfl
theorem zr_isub : z_stp l G d MC MS own A T (.isub, n, a, b, z) ls st h ce sl k = pI st fun y st => pI st fun x st => k ls (z_i (x - y) :: st) h ce sl := rfl
theorem zr_imul : z_stp l G d MC MS own A T (.imul, n, a, b, z) ls st h ce sl k = pI st fun y st => pI st fun x st => k ls (z_i (x * y) :: st) h ce sl := rfl
theorem zr_iand : z_stp l G d MC MS own A T (.iand, n, a, b, z) ls st h ce sl k = pI st fun y st => pI st fun x st => k ls (z_i (x &&& y) :: st) h ce sl := rfl
theorem zr_iushr : z_stp l G d MC MS own A T (.iushr, n, a, b, z) ls st h ce sl k = pI st fun y st => pI st fun x st => k ls (z_i ((x.toUInt32 >>> (y.toUInt32 &&& Int32.toUInt32 31)).toInt32) :: st) h ce sl := rfl
theorem zr_ladd : z_stp l G d MC MS own A T (.ladd, n, a, b, z) ls st h ce sl k = pL st fun y st => pL st fun x st => k ls (z_l (x + y) :: st) h ce sl := rfl
theorem zr_lsub : z_stp l G d MC MS own A T (.lsub, n, a, b, z) ls st h ce sl k = pL st fun y st => pL st fun x st => k ls (z_l (x - y) :: st) h ce sl := rfl
theorem zr_lmul : z_stp l G d MC MS own A T (.lmul, n, a, b, z) ls st h ce sl k = pL st fun y st => pL st fun x st => k ls (z_l (x * y) :: st) h ce sl := rfl
theorem zr_land : z_stp l G d MC MS own A T (.land, n, a, b, z) ls st h ce sl k = pL st fun y st => pL st fun x st => k ls (z_l (x &&& y) :: st) h ce sl := rfl
theorem zr_lor : z_stp l G d MC MS own A T (.lor, n, a, b, z) ls st h ce sl k = pL st fun y st => pL st fun x st => k ls (z_l (x ||| y) :: st) h ce sl := rfl
theorem zr_ldiv : z_stp l G d MC MS own A T (.ldiv, n, a, b, z) ls st h ce sl k = pL st fun y st => pL st fun x st => ¬ y = 0 ∧ k ls (z_l (x / y) :: st) h ce sl := rfl
theorem zr_lrem : z_stp l G d MC MS own A T (.lrem, n, a, b, z) ls st h ce sl k = pL st fun y st => pL st fun x st => ¬ y = 0 ∧ k ls (z_l (x - x / y * y) :: st) h ce sl := rfl
theorem zr_lshl : z_stp l G d MC MS own A T (.lshl, n, a, b, z) ls st h ce sl k = pI st fun y st => pL st fun x st => k ls (z_l (x <<< (y.toInt64 &&& 63)) :: st) h ce sl := rfl
theorem zr_lcmp : z_stp l G d MC MS own A T (.lcmp, n, a, b, z) ls st h ce sl k = pL st fun y st => pL st fun x st => k ls (z_i (lg_cmp x y) :: st) h ce sl := rfl
theorem zr_ineg : z_stp l G d MC MS own A T (.ineg, n, a, b, z) ls st h ce sl k = pI st fun x st => k ls (z_i (-x) :: st) h ce sl := rfl
theorem zr_lneg : z_stp l G d MC MS own A T (.lneg, n, a, b, z) ls st h ce sl k = pL st fun x st => k ls (z_l (-x) :: st) h ce sl := rfl
theorem zr_i2l : z_stp l G d MC MS own A T (.i2l, n, a, b, z) ls st h ce sl k = pI st fun x st => k ls (z_l (x.toInt64) :: st) h ce sl := rfl
theorem zr_l2i : z_stp l G d MC MS own A T (.l2i, n, a, b, z) ls st h ce sl k = pL st fun x st => k ls (z_i (x.toInt32) :: st) h ce sl := rfl
theorem zr_i2b : z_stp l G d MC MS own A T (.i2b, n, a, b, z) ls st h ce sl k = pI st fun x st => k ls (z_i (x.toInt8.toInt32) :: st) h ce sl := rfl
theorem zr_i2s : z_stp l G d MC MS own A T (.i2s, n, a, b, z) ls st h ce sl k = pI st fun x st => k ls (z_i (x.toInt16.toInt32) :: st) h ce sl := rfl
theorem zr_icmp {c : ClassFile.Cond} {v : Int} : z_stp l G d MC MS own A T (.if_icmp c v, n, a, b, z) ls st h ce sl k = pI st fun y st => pI st fun x st => (z_cP c x y → A a ls st h ce sl) ∧ (¬ z_cP c x y → k ls st h ce sl) := rfl
theorem zr_ifc {c : ClassFile.Cond} {v : Int} : z_stp l G d MC MS own A T (.ifCond c v, n, a, b, z) ls st h ce sl k = pI st fun x st => (z_cP c x 0 → A a ls st h ce sl) ∧ (¬ z_cP c x 0 → k ls st h ce sl) := rfl
theorem zr_ifnull {v : Int} : z_stp l G d MC MS own A T (.ifnull v, n, a, b, z) ls st h ce sl k = pR st fun r st => (r = none → A a ls st h ce sl) ∧ (∀ q, r = some q → k ls st h ce sl) := rfl
theorem zr_ifnonnull {v : Int} : z_stp l G d MC MS own A T (.ifnonnull v, n, a, b, z) ls st h ce sl k = pR st fun r st => (r = none → k ls st h ce sl) ∧ (∀ q, r = some q → A a ls st h ce sl) := rfl
theorem zr_goto {v : Int} : z_stp l G d MC MS own A T (.goto v, n, a, b, z) ls st h ce sl k = A a ls st h ce sl := rfl
theorem zr_tsw {d1 lo hi : Int} {offs : Array Int} : z_stp l G d MC MS own A T (.tableswitch d1 lo hi offs, n, a, b, z) ls st h ce sl k = pI st fun x st => A (z_sw a d1 lo hi offs.toList x.toInt) ls st h ce sl := rfl
theorem zr_lsw {d1 : Int} {ps : Array (Int × Int)} : z_stp l G d MC MS own A T (.lookupswitch d1 ps, n, a, b, z) ls st h ce sl k = pI st fun x st => A (z_lk a d1 ps.toList x.toInt) ls st h ce sl := rfl
theorem zr_get0 {v : Nat} : z_stp l G d MC MS own A T (.getfield v, n, a, b, 0) ls st h ce sl k = pO st fun K i st => K = a ∧ k ls (z_i (hI h a i b) :: st) h ce sl := rfl
theorem zr_get3 {v : Nat} : z_stp l G d MC MS own A T (.getfield v, n, a, b, 3) ls st h ce sl k = pO st fun K i st => K = a ∧ k ls (z_i (hI h a i b) :: st) h ce sl := rfl
theorem zr_get1 {v : Nat} : z_stp l G d MC MS own A T (.getfield v, n, a, b, 1) ls st h ce sl k = pO st fun K i st => K = a ∧ k ls (z_l (hL h a i b) :: st) h ce sl := rfl
theorem zr_get2 {v : Nat} : z_stp l G d MC MS own A T (.getfield v, n, a, b, 2) ls st h ce sl k = pO st fun K i st => K = a ∧ k ls (z_q (hR h a i b) :: st) h ce sl := rfl
theorem zr_put0 {v : Nat} : z_stp l G d MC MS own A T (.putfield v, n, a, b, 0) ls st h ce sl k = pI st fun x st => pO st fun K i st => K = a ∧ k ls st (sI h a i b x) ce sl := rfl
theorem zr_put3 {v : Nat} : z_stp l G d MC MS own A T (.putfield v, n, a, b, 3) ls st h ce sl k = pI st fun x st => pO st fun K i st => K = a ∧ (x = 0 ∨ x = 1) ∧ k ls st (sI h a i b x) ce sl := rfl
theorem zr_put1 {v : Nat} : z_stp l G d MC MS own A T (.putfield v, n, a, b, 1) ls st h ce sl k = pL st fun x st => pO st fun K i st => K = a ∧ k ls st (sL h a i b x) ce sl := rfl
theorem zr_put2 {v : Nat} : z_stp l G d MC MS own A T (.putfield v, n, a, b, 2) ls st h ce sl k = pR st fun x st => pO st fun K i st => K = a ∧ k ls st (sR h a i b x) ce sl := rfl
theorem zr_new {v : Nat} : z_stp l G d MC MS own A T (.new v, n, a, 0, z) ls st h ce sl k = (ce + 1 ≤ MC ∧ sl + kF a ≤ MS ∧ k ls (z_r a (hN h a) :: st) (z_nw h a) (ce + 1) (sl + kF a)) := rfl
theorem zr_newl {v : Nat} : z_stp l G d MC MS own A T (.new v, n, a, 1, z) ls st h ce sl k = (5 ≤ d ∧ z_w st ≤ 6 ∧ ce + 1 ≤ MC ∧ sl + 3 ≤ MS ∧ k ls (z_r a (hN h a) :: st) (z_nw h a) (ce + 1) (sl + 3)) := rfl
theorem zr_newa {t : ArrayType} : z_stp l G d MC MS own A T (.newarray t, n, a, b, z) ls st h ce sl k = pI st fun n st => n = nI (aLen a) ∧ ce + 1 ≤ MC ∧ sl + aLen a ≤ MS ∧ k ls (z_r a (hN h a) :: st) (z_nw h a) (ce + 1) (sl + aLen a) := rfl
theorem zr_alen : z_stp l G d MC MS own A T (.arraylength, n, a, b, z) ls st h ce sl k = pO st fun K i st => K = 400 ∧ i = 0 ∧ k ls (z_i (nI (gL G)) :: st) h ce sl := rfl
theorem zr_iald1 : z_stp l G d MC MS own A T (.iaload, n, a, 1, z) ls st h ce sl k = pI st fun j st => pO st fun K i st => K = 400 ∧ i = 0 ∧ vp_in j (gL G) ∧ k ls (z_i (gV G j.toNatClampNeg) :: st) h ce sl := rfl
theorem zr_iald : z_stp l G d MC MS own A T (.iaload, n, a, 0, z) ls st h ce sl k = pI st fun j st => pO st fun K i st => aCod K = 0 ∧ vp_in j (aLen K) ∧ k ls (z_i (hI h K i j.toNatClampNeg) :: st) h ce sl := rfl
theorem zr_bald : z_stp l G d MC MS own A T (.baload, n, a, b, z) ls st h ce sl k = pI st fun j st => pO st fun K i st => aCod K = 2 ∧ vp_in j (aLen K) ∧ k ls (z_i (hI h K i j.toNatClampNeg) :: st) h ce sl := rfl
theorem zr_lald : z_stp l G d MC MS own A T (.laload, n, a, b, z) ls st h ce sl k = pI st fun j st => pO st fun K i st => aCod K = 1 ∧ vp_in j (aLen K) ∧ k ls (z_l (hL h K i j.toNatClampNeg) :: st) h ce sl := rfl
theorem zr_iast : z_stp l G d MC MS own A T (.iastore, n, a, b, z) ls st h ce sl k = pI st fun x st => pI st fun j st => pO st fun K i st => aCod K = 0 ∧ vp_in j (aLen K) ∧ k ls st (sI h K i j.toNatClampNeg x) ce sl := rfl
theorem zr_bast : z_stp l G d MC MS own A T (.bastore, n, a, b, z) ls st h ce sl k = pI st fun x st => pI st fun j st => pO st fun K i st => aCod K = 2 ∧ vp_in j (aLen K) ∧ (x = 0 ∨ x = 1) ∧ k ls st (sI h K i j.toNatClampNeg x) ce sl := rfl
theorem zr_last : z_stp l G d MC MS own A T (.lastore, n, a, b, z) ls st h ce sl k = pL st fun x st => pI st fun j st => pO st fun K i st => aCod K = 1 ∧ vp_in j (aLen K) ∧ k ls st (sL h K i j.toNatClampNeg x) ce sl := rfl
theorem zr_cast {v : Nat} : z_stp l G d MC MS own A T (.checkcast v, n, a, b, z) ls st h ce sl k = pO st fun K i st => K = a ∧ k ls (z_r K i :: st) h ce sl := rfl
theorem zr_iret : z_stp l G d MC MS own A T (.ireturn, n, a, b, z) ls st h ce sl k = pI st fun x st => st = [] ∧ T (some (z_i x)) h ce sl := rfl
theorem zr_lret : z_stp l G d MC MS own A T (.lreturn, n, a, b, z) ls st h ce sl k = pL st fun x st => st = [] ∧ T (some (z_l x)) h ce sl := rfl
theorem zr_aret : z_stp l G d MC MS own A T (.areturn, n, a, b, z) ls st h ce sl k = pR st fun x st => st = [] ∧ T (some (z_q x)) h ce sl := rfl
theorem zr_ret : z_stp l G d MC MS own A T (.return_, n, a, b, z) ls st h ce sl k = (st = [] ∧ T none h ce sl) := rfl
theorem zr_call0 {v : Nat} : z_stp l G d MC MS own A T (.invokevirtual v, n, a, 0, z) ls st h ce sl k = pA a st [] fun as st => z_w st ≤ 8 ∧ z_CP l G d MC MS own v 0 as h ce sl fun r h ce sl => k ls (r.toList ++ st) h ce sl := rfl
theorem zr_call1 {v : Nat} : z_stp l G d MC MS own A T (.invokestatic v, n, a, 0, z) ls st h ce sl k = pA a st [] fun as st => z_w st ≤ 8 ∧ z_CP l G d MC MS own v 1 as h ce sl fun r h ce sl => k ls (r.toList ++ st) h ce sl := rfl
theorem zr_call2 {v : Nat} : z_stp l G d MC MS own A T (.invokespecial v, n, a, 0, z) ls st h ce sl k = pA a st [] fun as st => z_w st ≤ 8 ∧ z_CP l G d MC MS own v 2 as h ce sl fun r h ce sl => k ls (r.toList ++ st) h ce sl := rfl
theorem zr_obj {v : Nat} : z_stp l G d MC MS own A T (.invokespecial v, n, a, 7, z) ls st h ce sl k = pO st fun _ _ st => 1 ≤ d ∧ z_w st ≤ 8 ∧ k ls st h ce sl := rfl
theorem zr_lsize {v : Nat} : z_stp l G d MC MS own A T (.invokevirtual v, n, a, 1, z) ls st h ce sl k = pO st fun K i st => 1 ≤ d ∧ z_w st ≤ 8 ∧ ce ≤ MC ∧ sl ≤ MS ∧ z_lst K = true ∧ k ls (z_i (nI (hZ h K i)) :: st) h ce sl := rfl
theorem zr_lget {v : Nat} : z_stp l G d MC MS own A T (.invokevirtual v, n, a, 2, z) ls st h ce sl k = pI st fun j st => pO st fun K i st => 4 ≤ d ∧ z_w st ≤ 8 ∧ ce ≤ MC ∧ sl ≤ MS ∧ z_lst K = true ∧ K ≠ 207 ∧ hZ h K i < 100000 ∧ vp_in j (hZ h K i) ∧ k ls (z_r (lT K) j.toNatClampNeg :: st) h ce sl := rfl
theorem zr_lapp {v : Nat} : z_stp l G d MC MS own A T (.invokevirtual v, n, a, 3, z) ls st h ce sl k = pO st fun K' i' st => pO st fun K i st => 8 ≤ d ∧ z_w st ≤ 8 ∧ z_lst K = true ∧ K ≠ 207 ∧ K' = lT K ∧ i' = hZ h K i ∧ hZ h K i < 100000 ∧ ce + z_gc (hZ h K i) ≤ MC ∧ sl + z_gs (hZ h K i) ≤ MS ∧ k ls (z_i 1 :: st) (sZ h K i (hZ h K i + 1)) (ce + z_gc (hZ h K i)) (sl + z_gs (hZ h K i)) := rfl
theorem zr_bget {v : Nat} : z_stp l G d MC MS own A T (.invokevirtual v, n, a, 11, z) ls st h ce sl k = pI st fun j st => pO st fun K i st => 4 ≤ d ∧ z_w st ≤ 8 ∧ ce ≤ MC ∧ sl ≤ MS ∧ K = 207 ∧ hZ h 207 i < 100000 ∧ vp_in j (hZ h 207 i) ∧ k ls (z_i (hI h 207 i j.toNatClampNeg) :: st) h ce sl := rfl
theorem zr_badd {v : Nat} : z_stp l G d MC MS own A T (.invokestatic v, n, a, 10, z) ls st h ce sl k = pI st fun x st => pO st fun K i st => 8 ≤ d ∧ z_w st ≤ 7 ∧ K = 207 ∧ hZ h 207 i < 100000 ∧ ce + 1 + z_gc (hZ h 207 i) ≤ MC ∧ sl + 1 + z_gs (hZ h 207 i) ≤ MS ∧ ∀ nb, k ls (z_i 1 :: st) (sN (sI (sZ h 207 i (hZ h 207 i + 1)) 207 i (hZ h 207 i) x) 1300 nb) (ce + 1 + z_gc (hZ h 207 i)) (sl + 1 + z_gs (hZ h 207 i)) := rfl
theorem zr_acpy {v : Nat} : z_stp l G d MC MS own A T (.invokestatic v, n, a, 6, z) ls st h ce sl k = pI st fun n st => pI st fun dp st => pO st fun K2 i2 st => pI st fun sp st => pO st fun K1 i1 st => 1 ≤ d ∧ z_w st ≤ 8 ∧ K1 = 100 ∧ K2 = 100 ∧ ¬ sp < 0 ∧ ¬ dp < 0 ∧ ¬ n < 0 ∧ sp.toNatClampNeg + n.toNatClampNeg ≤ 60 ∧ dp.toNatClampNeg + n.toNatClampNeg ≤ 60 ∧ k ls st (z_cpy h i1 sp.toNatClampNeg i2 dp.toNatClampNeg n.toNatClampNeg) ce sl := rfl
theorem zr_eI {x : Int32} {f : Int32 → Prop} : eI (some (z_i x)) f = f x := rfl
theorem zr_eL {x : Int64} {f : Int64 → Prop} : eL (some (z_l x)) f = f x := rfl
theorem zr_eR {x : Option (Nat × Nat)} {f : Option (Nat × Nat) → Prop} : eR (some (z_q x)) f = f x := rfl
theorem zr_pI {x : Int32} {f : Int32 → z_S → Prop} : pI (z_i x :: st) f = f x st := rfl
theorem zr_pL {x : Int64} {f : Int64 → z_S → Prop} : pL (z_l x :: st) f = f x st := rfl
theorem zr_pR {x : Option (Nat × Nat)} {f : Option (Nat × Nat) → z_S → Prop} : pR (z_q x :: st) f = f x st := rfl
theorem zr_pO {K i : Nat} {f : Nat → Nat → z_S → Prop} : pO (z_r K i :: st) f = f K i st := rfl
theorem zr_pV {x : z_V} {f : z_V → z_S → Prop} : pV (x :: st) f = f x st := rfl
theorem zr_pA0 {as : List z_V} {f : List z_V → z_S → Prop} : pA 0 st as f = f as st := rfl
theorem zr_pA {x : z_V} {as : List z_V} {f : List z_V → z_S → Prop} : pA (n + 1) (x :: st) as f = pA n st (x :: as) f := rfl
theorem zr_get {q : Nat × z_V} {i : Nat} : z_get (q :: ls) i = (if q.1 = i then some q.2 else z_get ls i) := rfl
theorem zr_put_n {i : Nat} {v : z_V} : z_put [] i v = [(i, v)] := rfl
theorem zr_put {q : Nat × z_V} {i : Nat} {v : z_V} : z_put (q :: ls) i v = (if q.1 = i then (i, v) :: z_rem ls i (z_cat v) else if (z_cat v = 2 ∧ q.1 = i + 1) ∨ (q.1 + 1 = i ∧ z_cat q.2 = 2) then z_put ls i v else q :: z_put ls i v) := rfl
theorem zr_rem_n {i c : Nat} : z_rem [] i c = [] := rfl
theorem zr_rem {q : Nat × z_V} {i c : Nat} : z_rem (q :: ls) i c = (if q.1 = i ∨ (c = 2 ∧ q.1 = i + 1) ∨ (q.1 + 1 = i ∧ z_cat q.2 = 2) then z_rem ls i c else q :: z_rem ls i c) := rfl
theorem zr_cat_i {x : Int32} : z_cat (z_i x) = 1 := rfl
theorem zr_cat_l {x : Int64} : z_cat (z_l x) = 2 := rfl
theorem zr_cat_q {x : Option (Nat × Nat)} : z_cat (z_q x) = 1 := rfl
theorem zr_w_n : z_w [] = 0 := rfl
theorem zr_w {x : z_V} : z_w (x :: st) = z_cat x + z_w st := rfl
theorem zr_cP_eq {x y : Int32} : z_cP .eq x y = (x = y) := rfl
theorem zr_cP_ne {x y : Int32} : z_cP .ne x y = (¬ x = y) := rfl
theorem zr_cP_lt {x y : Int32} : z_cP .lt x y = (x < y) := rfl
theorem zr_cP_ge {x y : Int32} : z_cP .ge x y = (y ≤ x) := rfl
theorem zr_cP_gt {x y : Int32} : z_cP .gt x y = (y < x) := rfl
theorem zr_cP_le {x y : Int32} : z_cP .le x y = (x ≤ y) := rfl
theorem zr_args_n : z_args n [] = [] := rfl
theorem zr_args {x : z_V} : z_args n (x :: st) = (n, x) :: z_args (n + z_cat x) st := rfl
theorem zr_T {rt : Option FieldType} {Q : Option z_V → z_H → Prop} {r : Option z_V} : z_T rt MC MS Q r h ce sl = (ce ≤ MC ∧ sl ≤ MS ∧ z_rt rt r ∧ Q r h) := rfl
theorem zr_rt_i {x : Int32} : z_rt (some .int) (some (z_i x)) = True := rfl
theorem zr_rt_z {x : Int32} : z_rt (some .boolean) (some (z_i x)) = (x = 0 ∨ x = 1) := rfl
theorem zr_rt_l {x : Int64} : z_rt (some .long) (some (z_l x)) = True := rfl
theorem zr_rt_a {x : Option (Nat × Nat)} {c : String} : z_rt (some (.object c)) (some (z_q x)) = True := rfl
theorem zr_rt_n : z_rt none none = True := rfl
theorem zr_tl_s {x : z_V} : (some x : Option z_V).toList ++ st = x :: st := rfl
theorem zr_tl_n : (none : Option z_V).toList ++ st = st := rfl
theorem zr_f0 : (((0 : Fin 4) : Nat)) = 0 := rfl
theorem zr_f1 : (((1 : Fin 4) : Nat)) = 1 := rfl
theorem zr_f2 : (((2 : Fin 4) : Nat)) = 2 := rfl
theorem zr_f3 : (((3 : Fin 4) : Nat)) = 3 := rfl
theorem zr_g0 : (((0 : Fin 2) : Nat)) = 0 := rfl
theorem zr_g1 : (((1 : Fin 2) : Nat)) = 1 := rfl
theorem zr_hIsL {K i k : Nat} {v : Int64} : hI (sL h K i k v) = hI h := rfl
theorem zr_hIsR {K i k : Nat} {v : Option (Nat × Nat)} : hI (sR h K i k v) = hI h := rfl
theorem zr_hIsZ {K i k : Nat} {v : Nat} : hI (sZ h K i v) = hI h := rfl
theorem zr_hIsN {K v : Nat} : hI (sN h K v) = hI h := rfl
theorem zr_hLsI {K i k : Nat} {v : Int32} : hL (sI h K i k v) = hL h := rfl
theorem zr_hLsR {K i k : Nat} {v : Option (Nat × Nat)} : hL (sR h K i k v) = hL h := rfl
theorem zr_hLsZ {K i k : Nat} {v : Nat} : hL (sZ h K i v) = hL h := rfl
theorem zr_hLsN {K v : Nat} : hL (sN h K v) = hL h := rfl
theorem zr_hRsI {K i k : Nat} {v : Int32} : hR (sI h K i k v) = hR h := rfl
theorem zr_hRsL {K i k : Nat} {v : Int64} : hR (sL h K i k v) = hR h := rfl
theorem zr_hRsZ {K i k : Nat} {v : Nat} : hR (sZ h K i v) = hR h := rfl
theorem zr_hRsN {K v : Nat} : hR (sN h K v) = hR h := rfl
theorem zr_hNsI {K i k : Nat} {v : Int32} : hN (sI h K i k v) = hN h := rfl
theorem zr_hNsL {K i k : Nat} {v : Int64} : hN (sL h K i k v) = hN h := rfl
theorem zr_hNsR {K i k : Nat} {v : Option (Nat × Nat)} : hN (sR h K i k v) = hN h := rfl
theorem zr_hNsZ {K i k : Nat} {v : Nat} : hN (sZ h K i v) = hN h := rfl
theorem zr_hZsI {K i k : Nat} {v : Int32} : hZ (sI h K i k v) = hZ h := rfl
theorem zr_hZsL {K i k : Nat} {v : Int64} : hZ (sL h K i k v) = hZ h := rfl
theorem zr_hZsR {K i k : Nat} {v : Option (Nat × Nat)} : hZ (sR h K i k v) = hZ h := rfl
theorem zr_hZsN {K v : Nat} : hZ (sN h K v) = hZ h := rfl
theorem zr_hIsI {K i k K' i' k' : Nat} {v : Int32} : hI (sI h K i k v) K' i' k' = (if K' = K ∧ i' = i ∧ k' = k then v else hI h K' i' k') := rfl
theorem zr_hLsL {K i k K' i' k' : Nat} {v : Int64} : hL (sL h K i k v) K' i' k' = (if K' = K ∧ i' = i ∧ k' = k then v else hL h K' i' k') := rfl
theorem zr_hRsR {K i k K' i' k' : Nat} {v : Option (Nat × Nat)} : hR (sR h K i k v) K' i' k' = (if K' = K ∧ i' = i ∧ k' = k then v else hR h K' i' k') := rfl
theorem zr_hZsZ {K i K' i' v : Nat} : hZ (sZ h K i v) K' i' = (if K' = K ∧ i' = i then v else hZ h K' i') := rfl
theorem zr_hNsN {K v K' : Nat} : hN (sN h K v) K' = (if K' = K then v else hN h K') := rfl
theorem zr_hInw {K K' i' k' : Nat} : hI (z_nw h K) K' i' k' = (if K' = K ∧ i' = hN h K then 0 else hI h K' i' k') := rfl
theorem zr_hLnw {K K' i' k' : Nat} : hL (z_nw h K) K' i' k' = (if K' = K ∧ i' = hN h K then 0 else hL h K' i' k') := rfl
theorem zr_hRnw {K K' i' k' : Nat} : hR (z_nw h K) K' i' k' = (if K' = K ∧ i' = hN h K then none else hR h K' i' k') := rfl
theorem zr_hNnw {K K' : Nat} : hN (z_nw h K) K' = (if K' = K then hN h K + 1 else hN h K') := rfl
theorem zr_hZnw {K K' i' : Nat} : hZ (z_nw h K) K' i' = (if K' = K ∧ i' = hN h K then 0 else hZ h K' i') := rfl
end ZR
