/-! the abstract state: the model's part of the heap; helpers -/
abbrev z_M : Type := (Nat → Nat → Int32) × (Nat → Nat → Int64) × (Nat → Int32) × (Nat → Int64)
def mA (S : z_M) : Nat → Nat → Int32 := S.1
def mB (S : z_M) : Nat → Nat → Int64 := S.2.1
def mS (S : z_M) : Nat → Int32 := S.2.2.1
def mT (S : z_M) : Nat → Int64 := S.2.2.2
def uA (S : z_M) (k j : Nat) (v : Int32) : z_M := (z_u2 S.1 k j v, S.2)
def uB (S : z_M) (k j : Nat) (v : Int64) : z_M := (S.1, z_u2 S.2.1 k j v, S.2.2)
def uS (S : z_M) (k : Nat) (v : Int32) : z_M := (S.1, S.2.1, z_u1 S.2.2.1 k v, S.2.2.2)
def uT (S : z_M) (k : Nat) (v : Int64) : z_M := (S.1, S.2.1, S.2.2.1, z_u1 S.2.2.2 k v)
def mv (h : z_H) : z_M := (fun k j => hI h (300 + k) 0 j, fun k j => if k = 4 then 0 else hL h (300 + k) 0 j, fun k => if k = 0 then 0 else hI h 14 0 k, fun k => hL h 14 0 k)
section MV
variable {S : z_M} {h : z_H} {k j k' j' K i : Nat} {v : Int32} {x : Int64}
theorem mA_mv : mA (mv h) k j = hI h (300 + k) 0 j := rfl
theorem mB_mv : mB (mv h) k j = if k = 4 then 0 else hL h (300 + k) 0 j := rfl
theorem mT_mv : mT (mv h) k = hL h 14 0 k := rfl
theorem mS_mv : mS (mv h) k = if k = 0 then 0 else hI h 14 0 k := rfl
theorem mA_uA : mA (uA S k j v) k' j' = if k' = k ∧ j' = j then v else mA S k' j' := rfl
theorem mB_uB : mB (uB S k j x) k' j' = if k' = k ∧ j' = j then x else mB S k' j' := rfl
theorem mS_uS : mS (uS S k v) k' = if k' = k then v else mS S k' := rfl
theorem mT_uT : mT (uT S k x) k' = if k' = k then x else mT S k' := rfl
theorem mA_uB : mA (uB S k j x) = mA S := rfl
theorem mA_uS : mA (uS S k v) = mA S := rfl
theorem mA_uT : mA (uT S k x) = mA S := rfl
theorem mB_uA : mB (uA S k j v) = mB S := rfl
theorem mB_uS : mB (uS S k v) = mB S := rfl
theorem mB_uT : mB (uT S k x) = mB S := rfl
theorem mS_uA : mS (uA S k j v) = mS S := rfl
theorem mS_uB : mS (uB S k j x) = mS S := rfl
theorem mS_uT : mS (uT S k x) = mS S := rfl
theorem mT_uA : mT (uA S k j v) = mT S := rfl
theorem mT_uB : mT (uB S k j x) = mT S := rfl
theorem mT_uS : mT (uS S k v) = mT S := rfl
theorem z_M_ext {S S' : z_M} (h1 : ∀ k j, mA S k j = mA S' k j) (h2 : ∀ k j, mB S k j = mB S' k j) (h3 : ∀ k, mS S k = mS S' k) (h4 : ∀ k, mT S k = mT S' k) : S = S' := by
  obtain ⟨a, b, c, d⟩ := S
  obtain ⟨a', b', c', d'⟩ := S'
  have e1 : a = a' := funext fun k => funext fun j => h1 k j
  have e2 : b = b' := funext fun k => funext fun j => h2 k j
  have e3 : c = c' := funext fun k => h3 k
  have e4 : d = d' := funext fun k => h4 k
  rw [e1, e2, e3, e4]
theorem mv_thr : mv (sI h 14 0 0 v) = mv h := by
  refine z_M_ext (fun k j => ?_) (fun k j => rfl) (fun k => ?_) (fun k => rfl)
  · rw [mA_mv, mA_mv, zr_hIsI, if_neg (by omega)]
  · rw [mS_mv, mS_mv, zr_hIsI]
    by_cases e : k = 0
    · rw [if_pos e, if_pos e]
    · rw [if_neg e, if_neg e, if_neg (fun q => e q.2.2)]
theorem mv_sIs (hk : k ≠ 0) : mv (sI h 14 0 k v) = uS (mv h) k v := by
  refine z_M_ext (fun k j => ?_) (fun k j => rfl) (fun k' => ?_) (fun k => rfl)
  · rw [mA_mv, mA_uS, mA_mv, zr_hIsI, if_neg (by omega)]
  · rw [mS_mv, mS_uS, mS_mv, zr_hIsI]
    by_cases e : k' = k
    · subst e
      rw [if_neg hk, if_pos ⟨rfl, rfl, rfl⟩, if_pos rfl]
    · rw [if_neg (show ¬ (14 = 14 ∧ 0 = 0 ∧ k' = k) from fun q => e q.2.2), if_neg e]
theorem mv_sIa (hK : 300 ≤ K) : mv (sI h K 0 j v) = uA (mv h) (K - 300) j v := by
  refine z_M_ext (fun k' j' => ?_) (fun k j => rfl) (fun k' => ?_) (fun k => rfl)
  · rw [mA_mv, mA_uA, mA_mv, zr_hIsI]
    by_cases e : k' = K - 300 ∧ j' = j
    · rw [if_pos e, if_pos ⟨by omega, rfl, e.2⟩]
    · rw [if_neg e, if_neg (fun q => e ⟨by omega, q.2.2⟩)]
  · rw [mS_mv, mS_uA, mS_mv, zr_hIsI, if_neg (show ¬ (14 = K ∧ 0 = 0 ∧ k' = j) by omega)]
theorem mv_sLs : mv (sL h 14 0 k x) = uT (mv h) k x := by
  refine z_M_ext (fun k j => rfl) (fun k j => ?_) (fun k' => rfl) (fun k' => ?_)
  · rw [mB_mv, mB_uT, mB_mv, zr_hLsL, if_neg (show ¬ (300 + k = 14 ∧ 0 = 0 ∧ _) by omega)]
  · rw [mT_mv, mT_uT, mT_mv, zr_hLsL]
    by_cases e : k' = k
    · rw [if_pos e, if_pos ⟨rfl, rfl, e⟩]
    · rw [if_neg e, if_neg (fun q => e q.2.2)]
theorem mv_sLa (hK : 300 ≤ K) (h4 : K ≠ 304) : mv (sL h K 0 j x) = uB (mv h) (K - 300) j x := by
  refine z_M_ext (fun k' j' => rfl) (fun k' j' => ?_) (fun k' => rfl) (fun k' => ?_)
  · rw [mB_mv, mB_uB, mB_mv, zr_hLsL]
    by_cases q : k' = 4
    · rw [if_pos q, if_neg (fun z => h4 (by omega)), if_pos q]
    · rw [if_neg q, if_neg q]
      by_cases e : k' = K - 300 ∧ j' = j
      · rw [if_pos e, if_pos ⟨by omega, rfl, e.2⟩]
      · rw [if_neg e, if_neg (fun q => e ⟨by omega, q.2.2⟩)]
  · rw [mT_mv, mT_uB, mT_mv, zr_hLsL, if_neg (show ¬ (14 = K ∧ 0 = 0 ∧ k' = j) by omega)]
theorem mv_moved : mv (sL h 304 0 j x) = mv h := by
  refine z_M_ext (fun k' j' => rfl) (fun k' j' => ?_) (fun k' => rfl) (fun k' => ?_)
  · rw [mB_mv, mB_mv, zr_hLsL]
    by_cases q : k' = 4
    · rw [if_pos q, if_pos q]
    · rw [if_neg q, if_neg q, if_neg (fun z => q (by omega))]
  · rw [mT_mv, mT_mv, zr_hLsL, if_neg (show ¬ (14 = 304 ∧ 0 = 0 ∧ k' = j) by omega)]
theorem mv_sIc (hK : K < 300 ∧ K ≠ 14) : mv (sI h K i j v) = mv h := by
  refine z_M_ext (fun k' j' => ?_) (fun k j => rfl) (fun k' => ?_) (fun k => rfl)
  · rw [mA_mv, mA_mv, zr_hIsI, if_neg (show ¬ (300 + k' = K ∧ 0 = i ∧ j' = j) by omega)]
  · rw [mS_mv, mS_mv, zr_hIsI, if_neg (show ¬ (14 = K ∧ 0 = i ∧ k' = j) by omega)]
theorem mv_sLc (hK : K < 300 ∧ K ≠ 14) : mv (sL h K i j x) = mv h := by
  refine z_M_ext (fun k' j' => rfl) (fun k' j' => ?_) (fun k' => rfl) (fun k' => ?_)
  · rw [mB_mv, mB_mv, zr_hLsL, if_neg (show ¬ (300 + k' = K ∧ 0 = i ∧ j' = j) by omega)]
  · rw [mT_mv, mT_mv, zr_hLsL, if_neg (show ¬ (14 = K ∧ 0 = i ∧ k' = j) by omega)]
theorem mv_sR {q : Option (Nat × Nat)} : mv (sR h K i j q) = mv h := rfl
theorem mv_sZ {n : Nat} : mv (sZ h K i n) = mv h := rfl
theorem mv_sN {n : Nat} : mv (sN h K n) = mv h := rfl
theorem mv_nw (hK : K < 300 ∧ K ≠ 14) : mv (z_nw h K) = mv h := by
  refine z_M_ext (fun k' j' => ?_) (fun k' j' => ?_) (fun k' => ?_) (fun k' => ?_)
  · rw [mA_mv, mA_mv, zr_hInw, if_neg (show ¬ (300 + k' = K ∧ 0 = hN h K) by omega)]
  · rw [mB_mv, mB_mv, zr_hLnw, if_neg (show ¬ (300 + k' = K ∧ 0 = hN h K) by omega)]
  · rw [mS_mv, mS_mv, zr_hInw, if_neg (show ¬ (14 = K ∧ 0 = hN h K) by omega)]
  · rw [mT_mv, mT_mv, zr_hLnw, if_neg (show ¬ (14 = K ∧ 0 = hN h K) by omega)]
end MV
/-- the class's part of the heap is as it was -/
def z_sC (h h' : z_H) : Prop := (∀ K, K < 300 → K ≠ 14 → hI h' K = hI h K ∧ hL h' K = hL h K ∧ hR h' K = hR h K) ∧ hZ h' = hZ h ∧ hN h' = hN h
theorem z_sC.rf {h : z_H} : z_sC h h := ⟨fun _ _ _ => ⟨rfl, rfl, rfl⟩, rfl, rfl⟩
theorem z_sC.tr {h h1 h2 : z_H} (a : z_sC h h1) (b : z_sC h1 h2) : z_sC h h2 := ⟨fun K h1 h2 => ⟨(b.1 K h1 h2).1.trans (a.1 K h1 h2).1, (b.1 K h1 h2).2.1.trans (a.1 K h1 h2).2.1, (b.1 K h1 h2).2.2.trans (a.1 K h1 h2).2.2⟩, b.2.1.trans a.2.1, b.2.2.trans a.2.2⟩
theorem z_sC.I {h h1 : z_H} (a : z_sC h h1) {K i j : Nat} {v : Int32} (hK : 300 ≤ K ∨ K = 14) : z_sC h (sI h1 K i j v) := a.tr ⟨fun K' h1 h2 => ⟨by funext i' k'; rw [zr_hIsI, if_neg (by omega)], rfl, rfl⟩, rfl, rfl⟩
theorem z_sC.L {h h1 : z_H} (a : z_sC h h1) {K i j : Nat} {v : Int64} (hK : 300 ≤ K ∨ K = 14) : z_sC h (sL h1 K i j v) := a.tr ⟨fun K' h1 h2 => ⟨rfl, by funext i' k'; rw [zr_hLsL, if_neg (by omega)], rfl⟩, rfl, rfl⟩
/-- where the model's arrays are -/
def mR (k : Nat) : Option (Nat × Nat) := if aLen (300 + k) = 0 then none else some (300 + k, 0)
def z_MR (h : z_H) : Prop := hR h 14 0 = mR
theorem mR_a {k : Nat} (h : aLen (300 + k) ≠ 0) : mR k = some (300 + k, 0) := if_neg h
/-- a truth as the machine has it -/
def b2 (c : Prop) [Decidable c] : Int32 := if c then 1 else 0
theorem b2_0 {c : Prop} [Decidable c] : (b2 c = 0) = ¬ c := by
  unfold b2
  by_cases h : c
  · rw [if_pos h]; exact propext ⟨fun q => absurd q (by decide), fun q => absurd h q⟩
  · rw [if_neg h]; exact propext ⟨fun _ => h, fun _ => rfl⟩
theorem b2_01 {c : Prop} [Decidable c] : (b2 c = 0 ∨ b2 c = 1) = True := by
  unfold b2
  by_cases h : c
  · rw [if_pos h]; exact eq_true (Or.inr rfl)
  · rw [if_neg h]; exact eq_true (Or.inl rfl)
theorem b2_t {c : Prop} [Decidable c] (h : c) : b2 c = 1 := if_pos h
theorem b2_f {c : Prop} [Decidable c] (h : ¬ c) : b2 c = 0 := if_neg h
theorem b2_c {c d : Prop} [Decidable c] [Decidable d] (h : c ↔ d) : b2 c = b2 d := by
  by_cases q : c
  · rw [b2_t q, b2_t (h.mp q)]
  · rw [b2_f q, b2_f (fun z => q (h.mpr z))]
theorem ix_of {x : Int32} {n : Nat} (h : 0 ≤ x.toInt ∧ x.toInt < n) : ∃ j : Nat, j < n ∧ x = nI j := by
  obtain ⟨j, h1, h2⟩ := nI_of (x := x) (fun q => by rw [Int32.lt_iff_toInt_lt] at q; have : (0 : Int32).toInt = 0 := rfl; omega)
  refine ⟨j, ?_, h2⟩
  rw [h2, nI_toInt h1] at h
  omega
theorem i32_pred {n : Nat} (h : n < 2 ^ 31) : (nI n - 1).toInt = (n : Int) - 1 := by
  cases n with
  | zero => rfl
  | succ n =>
    rw [nI_pred, nI_toInt (by omega)]
    omega
/-! calls without an effect -/
theorem cp0 {l : Launch} {G : z_G} {d MC MS : Nat} {own : String} {idx kd : Nat} {as : List z_V} {h : z_H} {ce sl : Nat} {k : Option z_V → z_H → Nat → Nat → Prop} {y : MethodName} {cc : ByteArray} {mL : Nat} {rt : Option FieldType} {v : Option z_V} (hd : 1 ≤ d) (hck : z_ck own idx kd y cc mL rt as.length) (hrc : z_rcv kd y as)
    (hM : z_MT l G (d - 1) y cc mL rt as h 0 0 (fun r h' => r = v ∧ h' = h)) (hc : ce ≤ MC) (hs : sl ≤ MS) (hk : k v h ce sl) : z_CP l G d MC MS own idx kd as h ce sl k :=
  ⟨hd, Or.inl ⟨y, cc, mL, rt, 0, 0, _, hck, hrc, hM, hc, hs, fun r h' q => by rw [q.1, q.2]; exact hk⟩⟩
theorem cpx {l : Launch} {G : z_G} {d MC MS : Nat} {own : String} {idx kd : Nat} {as : List z_V} {h : z_H} {ce sl : Nat} {k : Option z_V → z_H → Nat → Nat → Prop} {y : MethodName} {cc : ByteArray} {mL : Nat} {rt : Option FieldType} {mc ms : Nat} {Q : Option z_V → z_H → Prop} (hd : 1 ≤ d) (hck : z_ck own idx kd y cc mL rt as.length) (hrc : z_rcv kd y as)
    (hM : z_MT l G (d - 1) y cc mL rt as h mc ms Q) (hc : ce + mc ≤ MC) (hs : sl + ms ≤ MS) (hk : ∀ r h', Q r h' → k r h' (ce + mc) (sl + ms)) : z_CP l G d MC MS own idx kd as h ce sl k :=
  ⟨hd, Or.inl ⟨y, cc, mL, rt, mc, ms, Q, hck, hrc, hM, hc, hs, hk⟩⟩
/-! the model's fields and arrays, read as the abstract state -/
theorem ma_1 {S : z_M} {h : z_H} (e : mv h = S) (j : Nat) : hI h 301 0 j = mA S 1 j := by rw [← e]; rfl
theorem mx_1 {h : z_H} {j : Nat} {v : Int32} : mv (sI h 301 0 j v) = uA (mv h) 1 j v := mv_sIa (by decide)
theorem ma_2 {S : z_M} {h : z_H} (e : mv h = S) (j : Nat) : hI h 302 0 j = mA S 2 j := by rw [← e]; rfl
theorem mx_2 {h : z_H} {j : Nat} {v : Int32} : mv (sI h 302 0 j v) = uA (mv h) 2 j v := mv_sIa (by decide)
theorem mb_3 {S : z_M} {h : z_H} (e : mv h = S) (j : Nat) : hL h 303 0 j = mB S 3 j := by rw [← e]; rfl
theorem my_3 {h : z_H} {j : Nat} {v : Int64} : mv (sL h 303 0 j v) = uB (mv h) 3 j v := mv_sLa (by decide) (by decide)
theorem ms_5 {S : z_M} {h : z_H} (e : mv h = S) : hI h 14 0 5 = mS S 5 := by rw [← e]; rfl
theorem mw_5 {h : z_H} {v : Int32} : mv (sI h 14 0 5 v) = uS (mv h) 5 v := mv_sIs (by decide)
theorem ms_6 {S : z_M} {h : z_H} (e : mv h = S) : hI h 14 0 6 = mS S 6 := by rw [← e]; rfl
theorem mw_6 {h : z_H} {v : Int32} : mv (sI h 14 0 6 v) = uS (mv h) 6 v := mv_sIs (by decide)
theorem ms_7 {S : z_M} {h : z_H} (e : mv h = S) : hI h 14 0 7 = mS S 7 := by rw [← e]; rfl
theorem mw_7 {h : z_H} {v : Int32} : mv (sI h 14 0 7 v) = uS (mv h) 7 v := mv_sIs (by decide)
theorem ms_8 {S : z_M} {h : z_H} (e : mv h = S) : hI h 14 0 8 = mS S 8 := by rw [← e]; rfl
theorem mw_8 {h : z_H} {v : Int32} : mv (sI h 14 0 8 v) = uS (mv h) 8 v := mv_sIs (by decide)
theorem ms_9 {S : z_M} {h : z_H} (e : mv h = S) : hI h 14 0 9 = mS S 9 := by rw [← e]; rfl
theorem mw_9 {h : z_H} {v : Int32} : mv (sI h 14 0 9 v) = uS (mv h) 9 v := mv_sIs (by decide)
theorem ms_10 {S : z_M} {h : z_H} (e : mv h = S) : hI h 14 0 10 = mS S 10 := by rw [← e]; rfl
theorem mw_10 {h : z_H} {v : Int32} : mv (sI h 14 0 10 v) = uS (mv h) 10 v := mv_sIs (by decide)
theorem ms_11 {S : z_M} {h : z_H} (e : mv h = S) : hI h 14 0 11 = mS S 11 := by rw [← e]; rfl
theorem mw_11 {h : z_H} {v : Int32} : mv (sI h 14 0 11 v) = uS (mv h) 11 v := mv_sIs (by decide)
theorem ms_12 {S : z_M} {h : z_H} (e : mv h = S) : hI h 14 0 12 = mS S 12 := by rw [← e]; rfl
theorem mw_12 {h : z_H} {v : Int32} : mv (sI h 14 0 12 v) = uS (mv h) 12 v := mv_sIs (by decide)
theorem ms_13 {S : z_M} {h : z_H} (e : mv h = S) : hI h 14 0 13 = mS S 13 := by rw [← e]; rfl
theorem mw_13 {h : z_H} {v : Int32} : mv (sI h 14 0 13 v) = uS (mv h) 13 v := mv_sIs (by decide)
theorem ms_14 {S : z_M} {h : z_H} (e : mv h = S) : hI h 14 0 14 = mS S 14 := by rw [← e]; rfl
theorem mw_14 {h : z_H} {v : Int32} : mv (sI h 14 0 14 v) = uS (mv h) 14 v := mv_sIs (by decide)
theorem ms_15 {S : z_M} {h : z_H} (e : mv h = S) : hI h 14 0 15 = mS S 15 := by rw [← e]; rfl
theorem mw_15 {h : z_H} {v : Int32} : mv (sI h 14 0 15 v) = uS (mv h) 15 v := mv_sIs (by decide)
theorem ms_16 {S : z_M} {h : z_H} (e : mv h = S) : hI h 14 0 16 = mS S 16 := by rw [← e]; rfl
theorem mw_16 {h : z_H} {v : Int32} : mv (sI h 14 0 16 v) = uS (mv h) 16 v := mv_sIs (by decide)
theorem ms_17 {S : z_M} {h : z_H} (e : mv h = S) : hI h 14 0 17 = mS S 17 := by rw [← e]; rfl
theorem mw_17 {h : z_H} {v : Int32} : mv (sI h 14 0 17 v) = uS (mv h) 17 v := mv_sIs (by decide)
theorem ms_18 {S : z_M} {h : z_H} (e : mv h = S) : hI h 14 0 18 = mS S 18 := by rw [← e]; rfl
theorem mw_18 {h : z_H} {v : Int32} : mv (sI h 14 0 18 v) = uS (mv h) 18 v := mv_sIs (by decide)
theorem ms_19 {S : z_M} {h : z_H} (e : mv h = S) : hI h 14 0 19 = mS S 19 := by rw [← e]; rfl
theorem mw_19 {h : z_H} {v : Int32} : mv (sI h 14 0 19 v) = uS (mv h) 19 v := mv_sIs (by decide)
theorem ms_20 {S : z_M} {h : z_H} (e : mv h = S) : hI h 14 0 20 = mS S 20 := by rw [← e]; rfl
theorem mw_20 {h : z_H} {v : Int32} : mv (sI h 14 0 20 v) = uS (mv h) 20 v := mv_sIs (by decide)
theorem ms_21 {S : z_M} {h : z_H} (e : mv h = S) : hI h 14 0 21 = mS S 21 := by rw [← e]; rfl
theorem mw_21 {h : z_H} {v : Int32} : mv (sI h 14 0 21 v) = uS (mv h) 21 v := mv_sIs (by decide)
theorem ma_22 {S : z_M} {h : z_H} (e : mv h = S) (j : Nat) : hI h 322 0 j = mA S 22 j := by rw [← e]; rfl
theorem mx_22 {h : z_H} {j : Nat} {v : Int32} : mv (sI h 322 0 j v) = uA (mv h) 22 j v := mv_sIa (by decide)
theorem ma_23 {S : z_M} {h : z_H} (e : mv h = S) (j : Nat) : hI h 323 0 j = mA S 23 j := by rw [← e]; rfl
theorem mx_23 {h : z_H} {j : Nat} {v : Int32} : mv (sI h 323 0 j v) = uA (mv h) 23 j v := mv_sIa (by decide)
theorem ma_24 {S : z_M} {h : z_H} (e : mv h = S) (j : Nat) : hI h 324 0 j = mA S 24 j := by rw [← e]; rfl
theorem mx_24 {h : z_H} {j : Nat} {v : Int32} : mv (sI h 324 0 j v) = uA (mv h) 24 j v := mv_sIa (by decide)
theorem mb_25 {S : z_M} {h : z_H} (e : mv h = S) (j : Nat) : hL h 325 0 j = mB S 25 j := by rw [← e]; rfl
theorem my_25 {h : z_H} {j : Nat} {v : Int64} : mv (sL h 325 0 j v) = uB (mv h) 25 j v := mv_sLa (by decide) (by decide)
theorem mb_26 {S : z_M} {h : z_H} (e : mv h = S) (j : Nat) : hL h 326 0 j = mB S 26 j := by rw [← e]; rfl
theorem my_26 {h : z_H} {j : Nat} {v : Int64} : mv (sL h 326 0 j v) = uB (mv h) 26 j v := mv_sLa (by decide) (by decide)
theorem mb_27 {S : z_M} {h : z_H} (e : mv h = S) (j : Nat) : hL h 327 0 j = mB S 27 j := by rw [← e]; rfl
theorem my_27 {h : z_H} {j : Nat} {v : Int64} : mv (sL h 327 0 j v) = uB (mv h) 27 j v := mv_sLa (by decide) (by decide)
theorem ma_28 {S : z_M} {h : z_H} (e : mv h = S) (j : Nat) : hI h 328 0 j = mA S 28 j := by rw [← e]; rfl
theorem mx_28 {h : z_H} {j : Nat} {v : Int32} : mv (sI h 328 0 j v) = uA (mv h) 28 j v := mv_sIa (by decide)
theorem ma_29 {S : z_M} {h : z_H} (e : mv h = S) (j : Nat) : hI h 329 0 j = mA S 29 j := by rw [← e]; rfl
theorem mx_29 {h : z_H} {j : Nat} {v : Int32} : mv (sI h 329 0 j v) = uA (mv h) 29 j v := mv_sIa (by decide)
theorem ma_30 {S : z_M} {h : z_H} (e : mv h = S) (j : Nat) : hI h 330 0 j = mA S 30 j := by rw [← e]; rfl
theorem mx_30 {h : z_H} {j : Nat} {v : Int32} : mv (sI h 330 0 j v) = uA (mv h) 30 j v := mv_sIa (by decide)
theorem ma_31 {S : z_M} {h : z_H} (e : mv h = S) (j : Nat) : hI h 331 0 j = mA S 31 j := by rw [← e]; rfl
theorem mx_31 {h : z_H} {j : Nat} {v : Int32} : mv (sI h 331 0 j v) = uA (mv h) 31 j v := mv_sIa (by decide)
theorem ma_32 {S : z_M} {h : z_H} (e : mv h = S) (j : Nat) : hI h 332 0 j = mA S 32 j := by rw [← e]; rfl
theorem mx_32 {h : z_H} {j : Nat} {v : Int32} : mv (sI h 332 0 j v) = uA (mv h) 32 j v := mv_sIa (by decide)
theorem ma_33 {S : z_M} {h : z_H} (e : mv h = S) (j : Nat) : hI h 333 0 j = mA S 33 j := by rw [← e]; rfl
theorem mx_33 {h : z_H} {j : Nat} {v : Int32} : mv (sI h 333 0 j v) = uA (mv h) 33 j v := mv_sIa (by decide)
theorem ma_34 {S : z_M} {h : z_H} (e : mv h = S) (j : Nat) : hI h 334 0 j = mA S 34 j := by rw [← e]; rfl
theorem mx_34 {h : z_H} {j : Nat} {v : Int32} : mv (sI h 334 0 j v) = uA (mv h) 34 j v := mv_sIa (by decide)
theorem mb_35 {S : z_M} {h : z_H} (e : mv h = S) (j : Nat) : hL h 335 0 j = mB S 35 j := by rw [← e]; rfl
theorem my_35 {h : z_H} {j : Nat} {v : Int64} : mv (sL h 335 0 j v) = uB (mv h) 35 j v := mv_sLa (by decide) (by decide)
theorem mb_36 {S : z_M} {h : z_H} (e : mv h = S) (j : Nat) : hL h 336 0 j = mB S 36 j := by rw [← e]; rfl
theorem my_36 {h : z_H} {j : Nat} {v : Int64} : mv (sL h 336 0 j v) = uB (mv h) 36 j v := mv_sLa (by decide) (by decide)
theorem ma_37 {S : z_M} {h : z_H} (e : mv h = S) (j : Nat) : hI h 337 0 j = mA S 37 j := by rw [← e]; rfl
theorem mx_37 {h : z_H} {j : Nat} {v : Int32} : mv (sI h 337 0 j v) = uA (mv h) 37 j v := mv_sIa (by decide)
theorem ma_38 {S : z_M} {h : z_H} (e : mv h = S) (j : Nat) : hI h 338 0 j = mA S 38 j := by rw [← e]; rfl
theorem mx_38 {h : z_H} {j : Nat} {v : Int32} : mv (sI h 338 0 j v) = uA (mv h) 38 j v := mv_sIa (by decide)
theorem ma_39 {S : z_M} {h : z_H} (e : mv h = S) (j : Nat) : hI h 339 0 j = mA S 39 j := by rw [← e]; rfl
theorem mx_39 {h : z_H} {j : Nat} {v : Int32} : mv (sI h 339 0 j v) = uA (mv h) 39 j v := mv_sIa (by decide)
theorem ma_40 {S : z_M} {h : z_H} (e : mv h = S) (j : Nat) : hI h 340 0 j = mA S 40 j := by rw [← e]; rfl
theorem mx_40 {h : z_H} {j : Nat} {v : Int32} : mv (sI h 340 0 j v) = uA (mv h) 40 j v := mv_sIa (by decide)
theorem ma_41 {S : z_M} {h : z_H} (e : mv h = S) (j : Nat) : hI h 341 0 j = mA S 41 j := by rw [← e]; rfl
theorem mx_41 {h : z_H} {j : Nat} {v : Int32} : mv (sI h 341 0 j v) = uA (mv h) 41 j v := mv_sIa (by decide)
theorem ma_42 {S : z_M} {h : z_H} (e : mv h = S) (j : Nat) : hI h 342 0 j = mA S 42 j := by rw [← e]; rfl
theorem mx_42 {h : z_H} {j : Nat} {v : Int32} : mv (sI h 342 0 j v) = uA (mv h) 42 j v := mv_sIa (by decide)
theorem ma_43 {S : z_M} {h : z_H} (e : mv h = S) (j : Nat) : hI h 343 0 j = mA S 43 j := by rw [← e]; rfl
theorem mx_43 {h : z_H} {j : Nat} {v : Int32} : mv (sI h 343 0 j v) = uA (mv h) 43 j v := mv_sIa (by decide)
theorem ma_44 {S : z_M} {h : z_H} (e : mv h = S) (j : Nat) : hI h 344 0 j = mA S 44 j := by rw [← e]; rfl
theorem mx_44 {h : z_H} {j : Nat} {v : Int32} : mv (sI h 344 0 j v) = uA (mv h) 44 j v := mv_sIa (by decide)
theorem ma_45 {S : z_M} {h : z_H} (e : mv h = S) (j : Nat) : hI h 345 0 j = mA S 45 j := by rw [← e]; rfl
theorem mx_45 {h : z_H} {j : Nat} {v : Int32} : mv (sI h 345 0 j v) = uA (mv h) 45 j v := mv_sIa (by decide)
theorem ma_46 {S : z_M} {h : z_H} (e : mv h = S) (j : Nat) : hI h 346 0 j = mA S 46 j := by rw [← e]; rfl
theorem mx_46 {h : z_H} {j : Nat} {v : Int32} : mv (sI h 346 0 j v) = uA (mv h) 46 j v := mv_sIa (by decide)
theorem mb_47 {S : z_M} {h : z_H} (e : mv h = S) (j : Nat) : hL h 347 0 j = mB S 47 j := by rw [← e]; rfl
theorem my_47 {h : z_H} {j : Nat} {v : Int64} : mv (sL h 347 0 j v) = uB (mv h) 47 j v := mv_sLa (by decide) (by decide)
theorem ma_48 {S : z_M} {h : z_H} (e : mv h = S) (j : Nat) : hI h 348 0 j = mA S 48 j := by rw [← e]; rfl
theorem mx_48 {h : z_H} {j : Nat} {v : Int32} : mv (sI h 348 0 j v) = uA (mv h) 48 j v := mv_sIa (by decide)
theorem ma_49 {S : z_M} {h : z_H} (e : mv h = S) (j : Nat) : hI h 349 0 j = mA S 49 j := by rw [← e]; rfl
theorem mx_49 {h : z_H} {j : Nat} {v : Int32} : mv (sI h 349 0 j v) = uA (mv h) 49 j v := mv_sIa (by decide)
theorem ma_50 {S : z_M} {h : z_H} (e : mv h = S) (j : Nat) : hI h 350 0 j = mA S 50 j := by rw [← e]; rfl
theorem mx_50 {h : z_H} {j : Nat} {v : Int32} : mv (sI h 350 0 j v) = uA (mv h) 50 j v := mv_sIa (by decide)
theorem ma_51 {S : z_M} {h : z_H} (e : mv h = S) (j : Nat) : hI h 351 0 j = mA S 51 j := by rw [← e]; rfl
theorem mx_51 {h : z_H} {j : Nat} {v : Int32} : mv (sI h 351 0 j v) = uA (mv h) 51 j v := mv_sIa (by decide)
theorem ma_52 {S : z_M} {h : z_H} (e : mv h = S) (j : Nat) : hI h 352 0 j = mA S 52 j := by rw [← e]; rfl
theorem mx_52 {h : z_H} {j : Nat} {v : Int32} : mv (sI h 352 0 j v) = uA (mv h) 52 j v := mv_sIa (by decide)
theorem ma_53 {S : z_M} {h : z_H} (e : mv h = S) (j : Nat) : hI h 353 0 j = mA S 53 j := by rw [← e]; rfl
theorem mx_53 {h : z_H} {j : Nat} {v : Int32} : mv (sI h 353 0 j v) = uA (mv h) 53 j v := mv_sIa (by decide)
theorem mb_54 {S : z_M} {h : z_H} (e : mv h = S) (j : Nat) : hL h 354 0 j = mB S 54 j := by rw [← e]; rfl
theorem my_54 {h : z_H} {j : Nat} {v : Int64} : mv (sL h 354 0 j v) = uB (mv h) 54 j v := mv_sLa (by decide) (by decide)
theorem ma_55 {S : z_M} {h : z_H} (e : mv h = S) (j : Nat) : hI h 355 0 j = mA S 55 j := by rw [← e]; rfl
theorem mx_55 {h : z_H} {j : Nat} {v : Int32} : mv (sI h 355 0 j v) = uA (mv h) 55 j v := mv_sIa (by decide)
theorem ma_56 {S : z_M} {h : z_H} (e : mv h = S) (j : Nat) : hI h 356 0 j = mA S 56 j := by rw [← e]; rfl
theorem mx_56 {h : z_H} {j : Nat} {v : Int32} : mv (sI h 356 0 j v) = uA (mv h) 56 j v := mv_sIa (by decide)
theorem ma_57 {S : z_M} {h : z_H} (e : mv h = S) (j : Nat) : hI h 357 0 j = mA S 57 j := by rw [← e]; rfl
theorem mx_57 {h : z_H} {j : Nat} {v : Int32} : mv (sI h 357 0 j v) = uA (mv h) 57 j v := mv_sIa (by decide)
theorem ma_58 {S : z_M} {h : z_H} (e : mv h = S) (j : Nat) : hI h 358 0 j = mA S 58 j := by rw [← e]; rfl
theorem mx_58 {h : z_H} {j : Nat} {v : Int32} : mv (sI h 358 0 j v) = uA (mv h) 58 j v := mv_sIa (by decide)
theorem mb_59 {S : z_M} {h : z_H} (e : mv h = S) (j : Nat) : hL h 359 0 j = mB S 59 j := by rw [← e]; rfl
theorem my_59 {h : z_H} {j : Nat} {v : Int64} : mv (sL h 359 0 j v) = uB (mv h) 59 j v := mv_sLa (by decide) (by decide)
theorem ma_60 {S : z_M} {h : z_H} (e : mv h = S) (j : Nat) : hI h 360 0 j = mA S 60 j := by rw [← e]; rfl
theorem mx_60 {h : z_H} {j : Nat} {v : Int32} : mv (sI h 360 0 j v) = uA (mv h) 60 j v := mv_sIa (by decide)
theorem ma_61 {S : z_M} {h : z_H} (e : mv h = S) (j : Nat) : hI h 361 0 j = mA S 61 j := by rw [← e]; rfl
theorem mx_61 {h : z_H} {j : Nat} {v : Int32} : mv (sI h 361 0 j v) = uA (mv h) 61 j v := mv_sIa (by decide)
theorem ms_62 {S : z_M} {h : z_H} (e : mv h = S) : hI h 14 0 62 = mS S 62 := by rw [← e]; rfl
theorem mw_62 {h : z_H} {v : Int32} : mv (sI h 14 0 62 v) = uS (mv h) 62 v := mv_sIs (by decide)
theorem mt_63 {S : z_M} {h : z_H} (e : mv h = S) : hL h 14 0 63 = mT S 63 := by rw [← e]; rfl
theorem mt_64 {S : z_M} {h : z_H} (e : mv h = S) : hL h 14 0 64 = mT S 64 := by rw [← e]; rfl
theorem mt_65 {S : z_M} {h : z_H} (e : mv h = S) : hL h 14 0 65 = mT S 65 := by rw [← e]; rfl
theorem mt_66 {S : z_M} {h : z_H} (e : mv h = S) : hL h 14 0 66 = mT S 66 := by rw [← e]; rfl
theorem mR_1 : mR 1 = some (301, 0) := rfl
theorem aLen_301 : aLen 301 = 4 := rfl
theorem aCod_301 : aCod 301 = 0 := rfl
theorem mR_2 : mR 2 = some (302, 0) := rfl
theorem aLen_302 : aLen 302 = 4 := rfl
theorem aCod_302 : aCod 302 = 0 := rfl
theorem mR_3 : mR 3 = some (303, 0) := rfl
theorem aLen_303 : aLen 303 = 240 := rfl
theorem aCod_303 : aCod 303 = 1 := rfl
theorem mR_4 : mR 4 = some (304, 0) := rfl
theorem aLen_304 : aLen 304 = 60 := rfl
theorem aCod_304 : aCod 304 = 1 := rfl
theorem mR_22 : mR 22 = some (322, 0) := rfl
theorem aLen_322 : aLen 322 = 6 := rfl
theorem aCod_322 : aCod 322 = 0 := rfl
theorem mR_23 : mR 23 = some (323, 0) := rfl
theorem aLen_323 : aLen 323 = 6 := rfl
theorem aCod_323 : aCod 323 = 0 := rfl
theorem mR_24 : mR 24 = some (324, 0) := rfl
theorem aLen_324 : aLen 324 = 6 := rfl
theorem aCod_324 : aCod 324 = 0 := rfl
theorem mR_25 : mR 25 = some (325, 0) := rfl
theorem aLen_325 : aLen 325 = 6 := rfl
theorem aCod_325 : aCod 325 = 1 := rfl
theorem mR_26 : mR 26 = some (326, 0) := rfl
theorem aLen_326 : aLen 326 = 6 := rfl
theorem aCod_326 : aCod 326 = 1 := rfl
theorem mR_27 : mR 27 = some (327, 0) := rfl
theorem aLen_327 : aLen 327 = 24 := rfl
theorem aCod_327 : aCod 327 = 1 := rfl
theorem mR_28 : mR 28 = some (328, 0) := rfl
theorem aLen_328 : aLen 328 = 24 := rfl
theorem aCod_328 : aCod 328 = 0 := rfl
theorem mR_29 : mR 29 = some (329, 0) := rfl
theorem aLen_329 : aLen 329 = 24 := rfl
theorem aCod_329 : aCod 329 = 0 := rfl
theorem mR_30 : mR 30 = some (330, 0) := rfl
theorem aLen_330 : aLen 330 = 200 := rfl
theorem aCod_330 : aCod 330 = 0 := rfl
theorem mR_31 : mR 31 = some (331, 0) := rfl
theorem aLen_331 : aLen 331 = 200 := rfl
theorem aCod_331 : aCod 331 = 0 := rfl
theorem mR_32 : mR 32 = some (332, 0) := rfl
theorem aLen_332 : aLen 332 = 200 := rfl
theorem aCod_332 : aCod 332 = 0 := rfl
theorem mR_33 : mR 33 = some (333, 0) := rfl
theorem aLen_333 : aLen 333 = 200 := rfl
theorem aCod_333 : aCod 333 = 0 := rfl
theorem mR_34 : mR 34 = some (334, 0) := rfl
theorem aLen_334 : aLen 334 = 200 := rfl
theorem aCod_334 : aCod 334 = 0 := rfl
theorem mR_35 : mR 35 = some (335, 0) := rfl
theorem aLen_335 : aLen 335 = 200 := rfl
theorem aCod_335 : aCod 335 = 1 := rfl
theorem mR_36 : mR 36 = some (336, 0) := rfl
theorem aLen_336 : aLen 336 = 200 := rfl
theorem aCod_336 : aCod 336 = 1 := rfl
theorem mR_37 : mR 37 = some (337, 0) := rfl
theorem aLen_337 : aLen 337 = 300 := rfl
theorem aCod_337 : aCod 337 = 0 := rfl
theorem mR_38 : mR 38 = some (338, 0) := rfl
theorem aLen_338 : aLen 338 = 300 := rfl
theorem aCod_338 : aCod 338 = 0 := rfl
theorem mR_39 : mR 39 = some (339, 0) := rfl
theorem aLen_339 : aLen 339 = 300 := rfl
theorem aCod_339 : aCod 339 = 0 := rfl
theorem mR_40 : mR 40 = some (340, 0) := rfl
theorem aLen_340 : aLen 340 = 300 := rfl
theorem aCod_340 : aCod 340 = 0 := rfl
theorem mR_41 : mR 41 = some (341, 0) := rfl
theorem aLen_341 : aLen 341 = 300 := rfl
theorem aCod_341 : aCod 341 = 0 := rfl
theorem mR_42 : mR 42 = some (342, 0) := rfl
theorem aLen_342 : aLen 342 = 300 := rfl
theorem aCod_342 : aCod 342 = 0 := rfl
theorem mR_43 : mR 43 = some (343, 0) := rfl
theorem aLen_343 : aLen 343 = 300 := rfl
theorem aCod_343 : aCod 343 = 0 := rfl
theorem mR_44 : mR 44 = some (344, 0) := rfl
theorem aLen_344 : aLen 344 = 300 := rfl
theorem aCod_344 : aCod 344 = 0 := rfl
theorem mR_45 : mR 45 = some (345, 0) := rfl
theorem aLen_345 : aLen 345 = 300 := rfl
theorem aCod_345 : aCod 345 = 0 := rfl
theorem mR_46 : mR 46 = some (346, 0) := rfl
theorem aLen_346 : aLen 346 = 300 := rfl
theorem aCod_346 : aCod 346 = 0 := rfl
theorem mR_47 : mR 47 = some (347, 0) := rfl
theorem aLen_347 : aLen 347 = 300 := rfl
theorem aCod_347 : aCod 347 = 1 := rfl
theorem mR_48 : mR 48 = some (348, 0) := rfl
theorem aLen_348 : aLen 348 = 300 := rfl
theorem aCod_348 : aCod 348 = 2 := rfl
theorem mR_49 : mR 49 = some (349, 0) := rfl
theorem aLen_349 : aLen 349 = 2000 := rfl
theorem aCod_349 : aCod 349 = 0 := rfl
theorem mR_50 : mR 50 = some (350, 0) := rfl
theorem aLen_350 : aLen 350 = 2000 := rfl
theorem aCod_350 : aCod 350 = 0 := rfl
theorem mR_51 : mR 51 = some (351, 0) := rfl
theorem aLen_351 : aLen 351 = 2000 := rfl
theorem aCod_351 : aCod 351 = 0 := rfl
theorem mR_52 : mR 52 = some (352, 0) := rfl
theorem aLen_352 : aLen 352 = 2000 := rfl
theorem aCod_352 : aCod 352 = 0 := rfl
theorem mR_53 : mR 53 = some (353, 0) := rfl
theorem aLen_353 : aLen 353 = 2000 := rfl
theorem aCod_353 : aCod 353 = 0 := rfl
theorem mR_54 : mR 54 = some (354, 0) := rfl
theorem aLen_354 : aLen 354 = 2000 := rfl
theorem aCod_354 : aCod 354 = 1 := rfl
theorem mR_55 : mR 55 = some (355, 0) := rfl
theorem aLen_355 : aLen 355 = 2000 := rfl
theorem aCod_355 : aCod 355 = 0 := rfl
theorem mR_56 : mR 56 = some (356, 0) := rfl
theorem aLen_356 : aLen 356 = 2000 := rfl
theorem aCod_356 : aCod 356 = 0 := rfl
theorem mR_57 : mR 57 = some (357, 0) := rfl
theorem aLen_357 : aLen 357 = 20 := rfl
theorem aCod_357 : aCod 357 = 0 := rfl
theorem mR_58 : mR 58 = some (358, 0) := rfl
theorem aLen_358 : aLen 358 = 640 := rfl
theorem aCod_358 : aCod 358 = 0 := rfl
theorem mR_59 : mR 59 = some (359, 0) := rfl
theorem aLen_359 : aLen 359 = 20 := rfl
theorem aCod_359 : aCod 359 = 1 := rfl
theorem mR_60 : mR 60 = some (360, 0) := rfl
theorem aLen_360 : aLen 360 = 2000 := rfl
theorem aCod_360 : aCod 360 = 0 := rfl
theorem mR_61 : mR 61 = some (361, 0) := rfl
theorem aLen_361 : aLen 361 = 2000 := rfl
theorem aCod_361 : aCod 361 = 0 := rfl
theorem aLen_100 : aLen 100 = 60 := rfl
theorem aCod_100 : aCod 100 = 1 := rfl
theorem aLen_101 : aLen 101 = 600 := rfl
theorem aCod_101 : aCod 101 = 0 := rfl
theorem aLen_102 : aLen 102 = 600 := rfl
theorem aCod_102 : aCod 102 = 0 := rfl
theorem aLen_103 : aLen 103 = 32 := rfl
theorem aCod_103 : aCod 103 = 0 := rfl
theorem z_MR.I {h : z_H} {K i j : Nat} {v : Int32} (a : z_MR h) : z_MR (sI h K i j v) := a
theorem z_MR.L {h : z_H} {K i j : Nat} {v : Int64} (a : z_MR h) : z_MR (sL h K i j v) := a
/-- how a model's method ends -/
def Qi (h : z_H) (p : Int32 × z_M) : Option z_V → z_H → Prop := fun r h' => r = some (z_i p.1) ∧ mv h' = p.2 ∧ z_sC h h' ∧ z_MR h'
def Ql (h : z_H) (p : Int64 × z_M) : Option z_V → z_H → Prop := fun r h' => r = some (z_l p.1) ∧ mv h' = p.2 ∧ z_sC h h' ∧ z_MR h'
def Qv (h : z_H) (S : z_M) : Option z_V → z_H → Prop := fun r h' => r = none ∧ mv h' = S ∧ z_sC h h' ∧ z_MR h'
theorem qi {h h' : z_H} {S' : z_M} {x : Int32} {p : Int32 × z_M} (e : p = (x, S')) (hm : mv h' = S') (hc : z_sC h h') (hr : z_MR h') : Qi h p (some (z_i x)) h' := by
  rw [e]
  exact ⟨rfl, hm, hc, hr⟩
theorem ql {h h' : z_H} {S' : z_M} {x : Int64} {p : Int64 × z_M} (e : p = (x, S')) (hm : mv h' = S') (hc : z_sC h h') (hr : z_MR h') : Ql h p (some (z_l x)) h' := by
  rw [e]
  exact ⟨rfl, hm, hc, hr⟩
theorem qv {h h' : z_H} {S : z_M} (hm : mv h' = S) (hc : z_sC h h') (hr : z_MR h') : Qv h S none h' := ⟨rfl, hm, hc, hr⟩
