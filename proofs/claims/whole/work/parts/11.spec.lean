/-! the abstract state: the model's part of the heap; helpers -/
abbrev z_M : Type := (Nat → Nat → Int32) × (Nat → Nat → Int64) × (Nat → Int32) × (Nat → Int64)
def mA (S : z_M) : Nat → Nat → Int32 := S.1
def mB (S : z_M) : Nat → Nat → Int64 := S.2.1
def mS (S : z_M) : Nat → Int32 := S.2.2.1
def mT (S : z_M) : Nat → Int64 := S.2.2.2
def uA (S : z_M) (k j : Nat) (v : Int32) : z_M := (z_u2 S.1 k j v, S.2)
def uB (S : z_M) (k j : Nat) (v : Int64) : z_M := (S.1, z_u2 S.2.1 k j v, S.2.2)
def uS (S : z_M) (k : Nat) (v : Int32) : z_M := (S.1, S.2.1, z_u1 S.2.2.1 k v, S.2.2.2)
def uT (S : z_M) (k : Nat) (v : Int64) : z_M := (S.1, S.2.1, S.2.2.1, z_u1 S.2.2.2 k v)
def mv (h : z_H) : z_M := (fun k j => hI h (300 + k) 0 j, fun k j => hL h (300 + k) 0 j, fun k => if k = 0 then 0 else hI h 14 0 k, fun k => hL h 14 0 k)
section MV
variable {S : z_M} {h : z_H} {k j k' j' K i : Nat} {v : Int32} {x : Int64}
theorem mA_mv : mA (mv h) k j = hI h (300 + k) 0 j := rfl
theorem mB_mv : mB (mv h) k j = hL h (300 + k) 0 j := rfl
theorem mT_mv : mT (mv h) k = hL h 14 0 k := rfl
theorem mS_mv : mS (mv h) k = if k = 0 then 0 else hI h 14 0 k := rfl
theorem mA_uA : mA (uA S k j v) k' j' = if k' = k ∧ j' = j then v else mA S k' j' := rfl
theorem mB_uB : mB (uB S k j x) k' j' = if k' = k ∧ j' = j then x else mB S k' j' := rfl
theorem mS_uS : mS (uS S k v) k' = if k' = k then v else mS S k' := rfl
theorem mT_uT : mT (uT S k x) k' = if k' = k then x else mT S k' := rfl
theorem mA_uB : mA (uB S k j x) = mA S := rfl
theorem mA_uS : mA (uS S k v) = mA S := rfl
theorem mA_uT : mA (uT S k x) = mA S := rfl
theorem mB_uA : mB (uA S k j v) = mB S := rfl
theorem mB_uS : mB (uS S k v) = mB S := rfl
theorem mB_uT : mB (uT S k x) = mB S := rfl
theorem mS_uA : mS (uA S k j v) = mS S := rfl
theorem mS_uB : mS (uB S k j x) = mS S := rfl
theorem mS_uT : mS (uT S k x) = mS S := rfl
theorem mT_uA : mT (uA S k j v) = mT S := rfl
theorem mT_uB : mT (uB S k j x) = mT S := rfl
theorem mT_uS : mT (uS S k v) = mT S := rfl
theorem z_M_ext {S S' : z_M} (h1 : ∀ k j, mA S k j = mA S' k j) (h2 : ∀ k j, mB S k j = mB S' k j) (h3 : ∀ k, mS S k = mS S' k) (h4 : ∀ k, mT S k = mT S' k) : S = S' := by
  obtain ⟨a, b, c, d⟩ := S
  obtain ⟨a', b', c', d'⟩ := S'
  have e1 : a = a' := funext fun k => funext fun j => h1 k j
  have e2 : b = b' := funext fun k => funext fun j => h2 k j
  have e3 : c = c' := funext fun k => h3 k
  have e4 : d = d' := funext fun k => h4 k
  rw [e1, e2, e3, e4]
theorem mv_thr : mv (sI h 14 0 0 v) = mv h := by
  refine z_M_ext (fun k j => ?_) (fun k j => rfl) (fun k => ?_) (fun k => rfl)
  · rw [mA_mv, mA_mv, zr_hIsI, if_neg (by omega)]
  · rw [mS_mv, mS_mv, zr_hIsI]
    by_cases e : k = 0
    · rw [if_pos e, if_pos e]
    · rw [if_neg e, if_neg e, if_neg (fun q => e q.2.2)]
theorem mv_sIs (hk : k ≠ 0) : mv (sI h 14 0 k v) = uS (mv h) k v := by
  refine z_M_ext (fun k j => ?_) (fun k j => rfl) (fun k' => ?_) (fun k => rfl)
  · rw [mA_mv, mA_uS, mA_mv, zr_hIsI, if_neg (by omega)]
  · rw [mS_mv, mS_uS, mS_mv, zr_hIsI]
    by_cases e : k' = k
    · subst e
      rw [if_neg hk, if_pos ⟨rfl, rfl, rfl⟩, if_pos rfl]
    · rw [if_neg e, if_neg (fun q => e q.2.2)]
theorem mv_sIa (hK : 300 ≤ K) : mv (sI h K 0 j v) = uA (mv h) (K - 300) j v := by
  refine z_M_ext (fun k' j' => ?_) (fun k j => rfl) (fun k' => ?_) (fun k => rfl)
  · rw [mA_mv, mA_uA, mA_mv, zr_hIsI]
    by_cases e : k' = K - 300 ∧ j' = j
    · rw [if_pos e, if_pos ⟨by omega, rfl, e.2⟩]
    · rw [if_neg e, if_neg (fun q => e ⟨by omega, q.2.2⟩)]
  · rw [mS_mv, mS_uA, mS_mv, zr_hIsI, if_neg (show ¬ (14 = K ∧ 0 = 0 ∧ k' = j) by omega)]
theorem mv_sLs : mv (sL h 14 0 k x) = uT (mv h) k x := by
  refine z_M_ext (fun k j => rfl) (fun k j => ?_) (fun k' => rfl) (fun k' => ?_)
  · rw [mB_mv, mB_uT, mB_mv, zr_hLsL, if_neg (by omega)]
  · rw [mT_mv, mT_uT, mT_mv, zr_hLsL]
    by_cases e : k' = k
    · rw [if_pos e, if_pos ⟨rfl, rfl, e⟩]
    · rw [if_neg e, if_neg (fun q => e q.2.2)]
theorem mv_sLa (hK : 300 ≤ K) : mv (sL h K 0 j x) = uB (mv h) (K - 300) j x := by
  refine z_M_ext (fun k' j' => rfl) (fun k' j' => ?_) (fun k' => rfl) (fun k' => ?_)
  · rw [mB_mv, mB_uB, mB_mv, zr_hLsL]
    by_cases e : k' = K - 300 ∧ j' = j
    · rw [if_pos e, if_pos ⟨by omega, rfl, e.2⟩]
    · rw [if_neg e, if_neg (fun q => e ⟨by omega, q.2.2⟩)]
  · rw [mT_mv, mT_uB, mT_mv, zr_hLsL, if_neg (show ¬ (14 = K ∧ 0 = 0 ∧ k' = j) by omega)]
theorem mv_sIc (hK : K < 300 ∧ K ≠ 14) : mv (sI h K i j v) = mv h := by
  refine z_M_ext (fun k' j' => ?_) (fun k j => rfl) (fun k' => ?_) (fun k => rfl)
  · rw [mA_mv, mA_mv, zr_hIsI, if_neg (show ¬ (300 + k' = K ∧ 0 = i ∧ j' = j) by omega)]
  · rw [mS_mv, mS_mv, zr_hIsI, if_neg (show ¬ (14 = K ∧ 0 = i ∧ k' = j) by omega)]
theorem mv_sLc (hK : K < 300 ∧ K ≠ 14) : mv (sL h K i j x) = mv h := by
  refine z_M_ext (fun k' j' => rfl) (fun k' j' => ?_) (fun k' => rfl) (fun k' => ?_)
  · rw [mB_mv, mB_mv, zr_hLsL, if_neg (show ¬ (300 + k' = K ∧ 0 = i ∧ j' = j) by omega)]
  · rw [mT_mv, mT_mv, zr_hLsL, if_neg (show ¬ (14 = K ∧ 0 = i ∧ k' = j) by omega)]
theorem mv_sR {q : Option (Nat × Nat)} : mv (sR h K i j q) = mv h := rfl
theorem mv_sZ {n : Nat} : mv (sZ h K i n) = mv h := rfl
theorem mv_sN {n : Nat} : mv (sN h K n) = mv h := rfl
theorem mv_nw (hK : K < 300 ∧ K ≠ 14) : mv (z_nw h K) = mv h := by
  refine z_M_ext (fun k' j' => ?_) (fun k' j' => ?_) (fun k' => ?_) (fun k' => ?_)
  · rw [mA_mv, mA_mv, zr_hInw, if_neg (show ¬ (300 + k' = K ∧ 0 = hN h K) by omega)]
  · rw [mB_mv, mB_mv, zr_hLnw, if_neg (show ¬ (300 + k' = K ∧ 0 = hN h K) by omega)]
  · rw [mS_mv, mS_mv, zr_hInw, if_neg (show ¬ (14 = K ∧ 0 = hN h K) by omega)]
  · rw [mT_mv, mT_mv, zr_hLnw, if_neg (show ¬ (14 = K ∧ 0 = hN h K) by omega)]
end MV
/-- the class's part of the heap is as it was -/
def z_sC (h h' : z_H) : Prop := (∀ K, K < 300 → K ≠ 14 → hI h' K = hI h K ∧ hL h' K = hL h K ∧ hR h' K = hR h K) ∧ hZ h' = hZ h ∧ hN h' = hN h
theorem z_sC.rf {h : z_H} : z_sC h h := ⟨fun _ _ _ => ⟨rfl, rfl, rfl⟩, rfl, rfl⟩
theorem z_sC.tr {h h1 h2 : z_H} (a : z_sC h h1) (b : z_sC h1 h2) : z_sC h h2 := ⟨fun K h1 h2 => ⟨(b.1 K h1 h2).1.trans (a.1 K h1 h2).1, (b.1 K h1 h2).2.1.trans (a.1 K h1 h2).2.1, (b.1 K h1 h2).2.2.trans (a.1 K h1 h2).2.2⟩, b.2.1.trans a.2.1, b.2.2.trans a.2.2⟩
theorem z_sC.I {h h1 : z_H} (a : z_sC h h1) {K i j : Nat} {v : Int32} (hK : 300 ≤ K ∨ K = 14) : z_sC h (sI h1 K i j v) := a.tr ⟨fun K' h1 h2 => ⟨by funext i' k'; rw [zr_hIsI, if_neg (by omega)], rfl, rfl⟩, rfl, rfl⟩
theorem z_sC.L {h h1 : z_H} (a : z_sC h h1) {K i j : Nat} {v : Int64} (hK : 300 ≤ K ∨ K = 14) : z_sC h (sL h1 K i j v) := a.tr ⟨fun K' h1 h2 => ⟨rfl, by funext i' k'; rw [zr_hLsL, if_neg (by omega)], rfl⟩, rfl, rfl⟩
/-- where the model's arrays are -/
def mR (k : Nat) : Option (Nat × Nat) := if aLen (300 + k) = 0 then none else some (300 + k, 0)
def z_MR (h : z_H) : Prop := hR h 14 0 = mR
theorem mR_a {k : Nat} (h : aLen (300 + k) ≠ 0) : mR k = some (300 + k, 0) := if_neg h
/-- a truth as the machine has it -/
def b2 (c : Prop) [Decidable c] : Int32 := if c then 1 else 0
theorem b2_0 {c : Prop} [Decidable c] : (b2 c = 0) = ¬ c := by
  unfold b2
  by_cases h : c
  · rw [if_pos h]; exact propext ⟨fun q => absurd q (by decide), fun q => absurd h q⟩
  · rw [if_neg h]; exact propext ⟨fun _ => h, fun _ => rfl⟩
theorem b2_01 {c : Prop} [Decidable c] : (b2 c = 0 ∨ b2 c = 1) = True := by
  unfold b2
  by_cases h : c
  · rw [if_pos h]; exact eq_true (Or.inr rfl)
  · rw [if_neg h]; exact eq_true (Or.inl rfl)
theorem b2_t {c : Prop} [Decidable c] (h : c) : b2 c = 1 := if_pos h
theorem b2_f {c : Prop} [Decidable c] (h : ¬ c) : b2 c = 0 := if_neg h
theorem b2_c {c d : Prop} [Decidable c] [Decidable d] (h : c ↔ d) : b2 c = b2 d := by
  by_cases q : c
  · rw [b2_t q, b2_t (h.mp q)]
  · rw [b2_f q, b2_f (fun z => q (h.mpr z))]
theorem ix_of {x : Int32} {n : Nat} (h : 0 ≤ x.toInt ∧ x.toInt < n) : ∃ j : Nat, j < n ∧ x = nI j := by
  obtain ⟨j, h1, h2⟩ := nI_of (x := x) (fun q => by rw [Int32.lt_iff_toInt_lt] at q; have : (0 : Int32).toInt = 0 := rfl; omega)
  refine ⟨j, ?_, h2⟩
  rw [h2, nI_toInt h1] at h
  omega
theorem i32_pred {n : Nat} (h : n < 2 ^ 31) : (nI n - 1).toInt = (n : Int) - 1 := by
  cases n with
  | zero => rfl
  | succ n =>
    rw [nI_pred, nI_toInt (by omega)]
    omega
/-! calls without an effect -/
theorem cp0 {l : Launch} {G : z_G} {d MC MS : Nat} {own : String} {idx kd : Nat} {as : List z_V} {h : z_H} {ce sl : Nat} {k : Option z_V → z_H → Nat → Nat → Prop} {y : MethodName} {cc : ByteArray} {mL : Nat} {rt : Option FieldType} {v : Option z_V} (hd : 1 ≤ d) (hck : z_ck own idx kd y cc mL rt as.length) (hrc : z_rcv kd y as)
    (hM : z_MT l G (d - 1) y cc mL rt as h 0 0 (fun r h' => r = v ∧ h' = h)) (hc : ce ≤ MC) (hs : sl ≤ MS) (hk : k v h ce sl) : z_CP l G d MC MS own idx kd as h ce sl k :=
  ⟨hd, y, cc, mL, rt, 0, 0, _, hck, hrc, hM, hc, hs, fun r h' q => by rw [q.1, q.2]; exact hk⟩
theorem cpx {l : Launch} {G : z_G} {d MC MS : Nat} {own : String} {idx kd : Nat} {as : List z_V} {h : z_H} {ce sl : Nat} {k : Option z_V → z_H → Nat → Nat → Prop} {y : MethodName} {cc : ByteArray} {mL : Nat} {rt : Option FieldType} {mc ms : Nat} {Q : Option z_V → z_H → Prop} (hd : 1 ≤ d) (hck : z_ck own idx kd y cc mL rt as.length) (hrc : z_rcv kd y as)
    (hM : z_MT l G (d - 1) y cc mL rt as h mc ms Q) (hc : ce + mc ≤ MC) (hs : sl + ms ≤ MS) (hk : ∀ r h', Q r h' → k r h' (ce + mc) (sl + ms)) : z_CP l G d MC MS own idx kd as h ce sl k :=
  ⟨hd, y, cc, mL, rt, mc, ms, Q, hck, hrc, hM, hc, hs, hk⟩
