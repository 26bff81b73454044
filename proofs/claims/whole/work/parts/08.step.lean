section ZL
variable {p : Program} {l : Launch} {e : Env} {R : Room} {s : State} {m : MethodId} {args : Array Value} {below : List Frame} {meth : Method} {c : Code} {G : z_G} {ad0 : Nat → Nat → Nat} {h0 : z_H} {nL : Nat} {Qs : State → Prop} {y : MethodName} {cc : ByteArray} {d MC MS : Nat}
variable {pc : Nat} {ls : z_L} {st : z_S} {h : z_H} {ce sl : Nat}
/-! lists and copies -/
end ZL
theorem z_decl {K f : Nat} (h1 : z_obj K = true) (h2 : f < kF K) (h : (kT K f).2.2.2 = true) : (kT K f).1 = kO K := by
  have h3 : ∀ K, K < 15 → 2 ≤ K → ∀ f, f < kF K → (kT K f).1 = kO K := by decide +kernel
  simp only [z_obj, Bool.and_eq_true, decide_eq_true_eq] at h1
  exact h3 K (by omega) h1.1 f h2
section ZT
variable {p : Program} {l : Launch} {e : Env} {R : Room} {s : State} {m : MethodId} {args : Array Value} {below : List Frame} {meth : Method} {c : Code} {G : z_G} {ad0 : Nat → Nat → Nat} {h0 : z_H} {nL : Nat} {Qs : State → Prop} {y : MethodName} {cc : ByteArray} {d MC MS : Nat}
variable {pc : Nat} {ls : z_L} {st : z_S} {h : z_H} {ce sl : Nat}
theorem pA_e {n : Nat} {st acc : List z_V} {f : List z_V → z_S → Prop} (h : pA n st acc f) : ∃ as r, as.reverse ++ r = st ∧ f (as ++ acc) r := by
  induction n generalizing st acc with
  | zero => exact ⟨[], st, rfl, h⟩
  | succ n ih =>
    cases st with
    | nil => exact h.elim
    | cons v r =>
      obtain ⟨as, q, e1, e2⟩ := ih (show pA n r (v :: acc) f from h)
      exact ⟨as ++ [v], q, by simp [← e1], by simpa using e2⟩
/-- the method's ends -/
def z_RT (A : Nat → z_K) (T : Option z_V → z_H → Nat → Nat → Prop) (cc : ByteArray) : Prop :=
  (∀ pc ls h ce sl x, decode cc pc = .ok (.ireturn, 1) → T (some (z_i x)) h ce sl → A pc ls [z_i x] h ce sl) ∧ (∀ pc ls h ce sl x, decode cc pc = .ok (.lreturn, 1) → T (some (z_l x)) h ce sl → A pc ls [z_l x] h ce sl) ∧
  (∀ pc ls h ce sl x, decode cc pc = .ok (.areturn, 1) → T (some (z_q x)) h ce sl → A pc ls [z_q x] h ce sl) ∧ (∀ pc ls h ce sl, decode cc pc = .ok (.return_, 1) → T none h ce sl → A pc ls [] h ce sl)
set_option maxHeartbeats 4000000 in
set_option maxRecDepth 100000 in
theorem z_step (C : z_Cx p R s m args meth c G y cc nL d MC MS) {T : Option z_V → z_H → Nat → Nat → Prop} (hT : z_RT (z_At p l e R s m args below meth c G ad0 h0 nL Qs) T cc) {e1 : z_E} (hd : decode cc pc = .ok (e1.1, z_dl e1)) {yk : Nat} {ini : Bool} (hyk : y.cls = kO yk) (hini : ini = true → y.name = "<init>") (hex : z_exB yk ini cc nL pc e1 = true) {k : z_K} (hk : ∀ ls st h ce sl, k ls st h ce sl → z_At p l e R s m args below meth c G ad0 h0 nL Qs (pc + e1.2.1) ls st h ce sl)
    (hst : z_stp l G d MC MS y.cls (z_At p l e R s m args below meth c G ad0 h0 nL Qs) T e1 ls st h ce sl k) : z_At p l e R s m args below meth c G ad0 h0 nL Qs pc ls st h ce sl := by
  obtain ⟨i, n, a, b, z⟩ := e1
  cases i with
  | aconst_null =>
    have hn : n = 1 := eq_of_beq hex
    subst hn
    exact zs_aconst_null C hd (hk _ _ _ _ _ hst)
  | iconst v =>
    have hn : n = 1 := eq_of_beq hex
    subst hn
    exact zs_iconst C hd (hk _ _ _ _ _ hst)
  | lconst v =>
    have hn : n = 1 := eq_of_beq hex
    subst hn
    exact zs_lconst C hd (hk _ _ _ _ _ hst)
  | bipush v =>
    simp only [z_exB, Bool.and_eq_true, decide_eq_true_eq, beq_iff_eq] at hex
    obtain ⟨hn, h1⟩ := hex
    subst hn
    exact zs_bipush C hd (by rw [h1]; exact hk _ _ _ _ _ hst)
  | sipush v =>
    simp only [z_exB, Bool.and_eq_true, decide_eq_true_eq, beq_iff_eq] at hex
    obtain ⟨hn, h1⟩ := hex
    subst hn
    exact zs_sipush C hd (by rw [h1]; exact hk _ _ _ _ _ hst)
  | ldc v =>
    simp [z_exB] at hex
  | ldc2_w v =>
    simp only [z_exB, Bool.and_eq_true, decide_eq_true_eq, beq_iff_eq] at hex
    obtain ⟨hn, h1⟩ := hex
    subst hn
    exact zs_ldc2_w C hd (by rw [hyk]; exact z_Lk_ok h1) (hk _ _ _ _ _ hst)
  | iload v =>
    have hn : n = 2 := eq_of_beq hex
    subst hn
    obtain ⟨x, hg, h1⟩ := eI_e hst
    exact zs_iload C hd hg (hk _ _ _ _ _ h1)
  | iload_n v =>
    have hn : n = 1 := eq_of_beq hex
    subst hn
    obtain ⟨x, hg, h1⟩ := eI_e hst
    exact zs_iload_n C hd hg (hk _ _ _ _ _ h1)
  | lload v =>
    have hn : n = 2 := eq_of_beq hex
    subst hn
    obtain ⟨x, hg, h1⟩ := eL_e hst
    exact zs_lload C hd hg (hk _ _ _ _ _ h1)
  | lload_n v =>
    have hn : n = 1 := eq_of_beq hex
    subst hn
    obtain ⟨x, hg, h1⟩ := eL_e hst
    exact zs_lload_n C hd hg (hk _ _ _ _ _ h1)
  | aload v =>
    have hn : n = 2 := eq_of_beq hex
    subst hn
    obtain ⟨x, hg, h1⟩ := eR_e hst
    exact zs_aload C hd hg (hk _ _ _ _ _ h1)
  | aload_n v =>
    have hn : n = 1 := eq_of_beq hex
    subst hn
    obtain ⟨x, hg, h1⟩ := eR_e hst
    exact zs_aload_n C hd hg (hk _ _ _ _ _ h1)
  | istore v =>
    simp only [z_exB, Bool.and_eq_true, decide_eq_true_eq, beq_iff_eq] at hex
    obtain ⟨hn, h1⟩ := hex
    subst hn
    obtain ⟨x, r, rfl, h2⟩ := pI_e hst
    exact zs_istore C hd h1 (hk _ _ _ _ _ h2)
  | istore_n v =>
    simp only [z_exB, Bool.and_eq_true, decide_eq_true_eq, beq_iff_eq] at hex
    obtain ⟨hn, h1⟩ := hex
    subst hn
    obtain ⟨x, r, rfl, h2⟩ := pI_e hst
    exact zs_istore_n C hd h1 (hk _ _ _ _ _ h2)
  | lstore v =>
    simp only [z_exB, Bool.and_eq_true, decide_eq_true_eq, beq_iff_eq] at hex
    obtain ⟨hn, h1⟩ := hex
    subst hn
    obtain ⟨x, r, rfl, h2⟩ := pL_e hst
    exact zs_lstore C hd h1 (hk _ _ _ _ _ h2)
  | lstore_n v =>
    simp only [z_exB, Bool.and_eq_true, decide_eq_true_eq, beq_iff_eq] at hex
    obtain ⟨hn, h1⟩ := hex
    subst hn
    obtain ⟨x, r, rfl, h2⟩ := pL_e hst
    exact zs_lstore_n C hd h1 (hk _ _ _ _ _ h2)
  | astore v =>
    simp only [z_exB, Bool.and_eq_true, decide_eq_true_eq, beq_iff_eq] at hex
    obtain ⟨hn, h1⟩ := hex
    subst hn
    obtain ⟨x, r, rfl, h2⟩ := pR_e hst
    exact zs_astore C hd h1 (hk _ _ _ _ _ h2)
  | astore_n v =>
    simp only [z_exB, Bool.and_eq_true, decide_eq_true_eq, beq_iff_eq] at hex
    obtain ⟨hn, h1⟩ := hex
    subst hn
    obtain ⟨x, r, rfl, h2⟩ := pR_e hst
    exact zs_astore_n C hd h1 (hk _ _ _ _ _ h2)
  | iinc v q =>
    simp only [z_exB, Bool.and_eq_true, decide_eq_true_eq, beq_iff_eq] at hex
    obtain ⟨hn, h1⟩ := hex
    subst hn
    obtain ⟨x, hg, h2⟩ := eI_e hst
    exact zs_iinc C hd h1 hg (hk _ _ _ _ _ h2)
  | dup =>
    have hn : n = 1 := eq_of_beq hex
    subst hn
    obtain ⟨x, r, rfl, h1, h2⟩ := pV_e hst
    exact zs_dup C hd h1 (hk _ _ _ _ _ h2)
  | pop =>
    have hn : n = 1 := eq_of_beq hex
    subst hn
    obtain ⟨x, r, rfl, h1, h2⟩ := pV_e hst
    exact zs_pop C hd h1 (hk _ _ _ _ _ h2)
  | dup2 =>
    have hn : n = 1 := eq_of_beq hex
    subst hn
    obtain ⟨x, r, rfl, h1⟩ := pV_e hst
    obtain ⟨x2, r2, rfl, h2, h3, h4⟩ := pV_e h1
    exact zs_dup2 C hd h2 h3 (hk _ _ _ _ _ h4)
  | iadd =>
    have hn : n = 1 := eq_of_beq hex
    subst hn
    obtain ⟨v, r, rfl, h1⟩ := pI_e hst
    obtain ⟨x, r2, rfl, h2⟩ := pI_e h1
    exact zs_iadd C hd (hk _ _ _ _ _ h2)
  | isub =>
    have hn : n = 1 := eq_of_beq hex
    subst hn
    obtain ⟨v, r, rfl, h1⟩ := pI_e hst
    obtain ⟨x, r2, rfl, h2⟩ := pI_e h1
    exact zs_isub C hd (hk _ _ _ _ _ h2)
  | imul =>
    have hn : n = 1 := eq_of_beq hex
    subst hn
    obtain ⟨v, r, rfl, h1⟩ := pI_e hst
    obtain ⟨x, r2, rfl, h2⟩ := pI_e h1
    exact zs_imul C hd (hk _ _ _ _ _ h2)
  | iand =>
    have hn : n = 1 := eq_of_beq hex
    subst hn
    obtain ⟨v, r, rfl, h1⟩ := pI_e hst
    obtain ⟨x, r2, rfl, h2⟩ := pI_e h1
    exact zs_iand C hd (hk _ _ _ _ _ h2)
  | iushr =>
    have hn : n = 1 := eq_of_beq hex
    subst hn
    obtain ⟨v, r, rfl, h1⟩ := pI_e hst
    obtain ⟨x, r2, rfl, h2⟩ := pI_e h1
    exact zs_iushr C hd (hk _ _ _ _ _ h2)
  | ladd =>
    have hn : n = 1 := eq_of_beq hex
    subst hn
    obtain ⟨v, r, rfl, h1⟩ := pL_e hst
    obtain ⟨x, r2, rfl, h2⟩ := pL_e h1
    exact zs_ladd C hd (hk _ _ _ _ _ h2)
  | lsub =>
    have hn : n = 1 := eq_of_beq hex
    subst hn
    obtain ⟨v, r, rfl, h1⟩ := pL_e hst
    obtain ⟨x, r2, rfl, h2⟩ := pL_e h1
    exact zs_lsub C hd (hk _ _ _ _ _ h2)
  | lmul =>
    have hn : n = 1 := eq_of_beq hex
    subst hn
    obtain ⟨v, r, rfl, h1⟩ := pL_e hst
    obtain ⟨x, r2, rfl, h2⟩ := pL_e h1
    exact zs_lmul C hd (hk _ _ _ _ _ h2)
  | land =>
    have hn : n = 1 := eq_of_beq hex
    subst hn
    obtain ⟨v, r, rfl, h1⟩ := pL_e hst
    obtain ⟨x, r2, rfl, h2⟩ := pL_e h1
    exact zs_land C hd (hk _ _ _ _ _ h2)
  | lor =>
    have hn : n = 1 := eq_of_beq hex
    subst hn
    obtain ⟨v, r, rfl, h1⟩ := pL_e hst
    obtain ⟨x, r2, rfl, h2⟩ := pL_e h1
    exact zs_lor C hd (hk _ _ _ _ _ h2)
  | lcmp =>
    have hn : n = 1 := eq_of_beq hex
    subst hn
    obtain ⟨v, r, rfl, h1⟩ := pL_e hst
    obtain ⟨x, r2, rfl, h2⟩ := pL_e h1
    exact zs_lcmp C hd (hk _ _ _ _ _ h2)
  | ldiv =>
    have hn : n = 1 := eq_of_beq hex
    subst hn
    obtain ⟨v, r, rfl, h1⟩ := pL_e hst
    obtain ⟨x, r2, rfl, h2, h3⟩ := pL_e h1
    exact zs_ldiv C hd h2 (hk _ _ _ _ _ h3)
  | lrem =>
    have hn : n = 1 := eq_of_beq hex
    subst hn
    obtain ⟨v, r, rfl, h1⟩ := pL_e hst
    obtain ⟨x, r2, rfl, h2, h3⟩ := pL_e h1
    exact zs_lrem C hd h2 (hk _ _ _ _ _ h3)
  | lshl =>
    have hn : n = 1 := eq_of_beq hex
    subst hn
    obtain ⟨v, r, rfl, h1⟩ := pI_e hst
    obtain ⟨x, r2, rfl, h2⟩ := pL_e h1
    exact zs_lshl C hd (hk _ _ _ _ _ h2)
  | ineg =>
    have hn : n = 1 := eq_of_beq hex
    subst hn
    obtain ⟨x, r, rfl, h1⟩ := pI_e hst
    exact zs_ineg C hd (hk _ _ _ _ _ h1)
  | lneg =>
    have hn : n = 1 := eq_of_beq hex
    subst hn
    obtain ⟨x, r, rfl, h1⟩ := pL_e hst
    exact zs_lneg C hd (hk _ _ _ _ _ h1)
  | i2l =>
    have hn : n = 1 := eq_of_beq hex
    subst hn
    obtain ⟨x, r, rfl, h1⟩ := pI_e hst
    exact zs_i2l C hd (hk _ _ _ _ _ h1)
  | l2i =>
    have hn : n = 1 := eq_of_beq hex
    subst hn
    obtain ⟨x, r, rfl, h1⟩ := pL_e hst
    exact zs_l2i C hd (hk _ _ _ _ _ h1)
  | i2b =>
    have hn : n = 1 := eq_of_beq hex
    subst hn
    obtain ⟨x, r, rfl, h1⟩ := pI_e hst
    exact zs_i2b C hd (hk _ _ _ _ _ h1)
  | i2s =>
    have hn : n = 1 := eq_of_beq hex
    subst hn
    obtain ⟨x, r, rfl, h1⟩ := pI_e hst
    exact zs_i2s C hd (hk _ _ _ _ _ h1)
  | if_icmp cd off =>
    simp only [z_exB, Bool.and_eq_true, decide_eq_true_eq, beq_iff_eq] at hex
    obtain ⟨hn, h1⟩ := hex
    subst hn
    obtain ⟨v, r, rfl, h2⟩ := pI_e hst
    obtain ⟨x, r2, rfl, h3, h4⟩ := pI_e h2
    exact zs_if_icmp C hd h1 h3 (fun q => hk _ _ _ _ _ (h4 q))
  | ifCond cd off =>
    simp only [z_exB, Bool.and_eq_true, decide_eq_true_eq, beq_iff_eq] at hex
    obtain ⟨hn, h1⟩ := hex
    subst hn
    obtain ⟨x, r2, rfl, h3, h4⟩ := pI_e hst
    exact zs_ifCond C hd h1 h3 (fun q => hk _ _ _ _ _ (h4 q))
  | ifnull off =>
    simp only [z_exB, Bool.and_eq_true, decide_eq_true_eq, beq_iff_eq] at hex
    obtain ⟨hn, h1⟩ := hex
    subst hn
    obtain ⟨x, r2, rfl, h3, h4⟩ := pR_e hst
    exact zs_ifnull C hd h1 h3 (fun q hq => hk _ _ _ _ _ (h4 q hq))
  | ifnonnull off =>
    simp only [z_exB, Bool.and_eq_true, decide_eq_true_eq, beq_iff_eq] at hex
    obtain ⟨hn, h1⟩ := hex
    subst hn
    obtain ⟨x, r2, rfl, h3, h4⟩ := pR_e hst
    exact zs_ifnonnull C hd h1 (fun q => hk _ _ _ _ _ (h3 q)) h4
  | goto off =>
    simp only [z_exB, Bool.and_eq_true, decide_eq_true_eq, beq_iff_eq] at hex
    exact zs_goto C (by rw [← hex.1]; exact hd) hex.2 hst
  | tableswitch dflt lo hi offs =>
    simp only [z_exB, Bool.and_eq_true, decide_eq_true_eq, beq_iff_eq] at hex
    obtain ⟨⟨⟨hn, h1⟩, h2⟩, h3⟩ := hex
    subst hn
    obtain ⟨x, r2, rfl, h4⟩ := pI_e hst
    exact zs_tableswitch C hd h1 (fun o ho => of_decide_eq_true (List.all_eq_true.mp h2 o ho)) h3 h4
  | lookupswitch dflt ps =>
    simp only [z_exB, Bool.and_eq_true, decide_eq_true_eq, beq_iff_eq] at hex
    obtain ⟨⟨⟨hn, h1⟩, h2⟩, h3⟩ := hex
    subst hn
    obtain ⟨x, r2, rfl, h4⟩ := pI_e hst
    refine zs_lookupswitch C hd h3 (fun v => ?_) h4
    have h2' : ∀ o ∈ ps.toList, 0 ≤ (a : Int) + o.2 := fun o ho => of_decide_eq_true (List.all_eq_true.mp h2 o ho)
    clear hd h2 h3 h4 hst
    generalize ps.toList = L at h2'
    induction L with
    | nil => exact h1
    | cons q L ih =>
      rw [show q = (q.1, q.2) from rfl, Op.lookupswitch.offset_cons]
      split
      · exact h2' q List.mem_cons_self
      · exact ih (fun o ho => h2' o (List.mem_cons_of_mem _ ho))
  | getfield v =>
    simp only [z_exB, Bool.and_eq_true, decide_eq_true_eq, beq_iff_eq] at hex
    obtain ⟨⟨⟨⟨hn, h1⟩, h2⟩, h3⟩, h4⟩ := hex
    subst hn
    have hlt := z_fc4 a (z_obj_no h1).2.2.1 b h2
    have hfv : ∀ j, z_fv h a j b = (match z_fc (kY a b) with | 1 => z_l (hL h a j b) | 2 => z_q (hR h a j b) | _ => z_i (hI h a j b)) := fun j => rfl
    generalize z_fc (kY a b) = q at h3 hlt hfv
    subst h3
    rcases q with _ | _ | _ | _ | q
    · have hst : pO st (fun K' i st => K' = a ∧ k ls (z_i (hI h a i b) :: st) h ce sl) := hst
      obtain ⟨K, j, r, rfl, rfl, h5⟩ := pO_e hst
      exact zs_getfield C hd h1 h2 (by rw [hyk]; exact z_Fk_ok h4) (by rw [hfv j]; exact hk _ _ _ _ _ h5)
    · have hst : pO st (fun K' i st => K' = a ∧ k ls (z_l (hL h a i b) :: st) h ce sl) := hst
      obtain ⟨K, j, r, rfl, rfl, h5⟩ := pO_e hst
      exact zs_getfield C hd h1 h2 (by rw [hyk]; exact z_Fk_ok h4) (by rw [hfv j]; exact hk _ _ _ _ _ h5)
    · have hst : pO st (fun K' i st => K' = a ∧ k ls (z_q (hR h a i b) :: st) h ce sl) := hst
      obtain ⟨K, j, r, rfl, rfl, h5⟩ := pO_e hst
      exact zs_getfield C hd h1 h2 (by rw [hyk]; exact z_Fk_ok h4) (by rw [hfv j]; exact hk _ _ _ _ _ h5)
    · have hst : pO st (fun K' i st => K' = a ∧ k ls (z_i (hI h a i b) :: st) h ce sl) := hst
      obtain ⟨K, j, r, rfl, rfl, h5⟩ := pO_e hst
      exact zs_getfield C hd h1 h2 (by rw [hyk]; exact z_Fk_ok h4) (by rw [hfv j]; exact hk _ _ _ _ _ h5)
    · omega
  | putfield v =>
    simp only [z_exB, Bool.and_eq_true, decide_eq_true_eq, beq_iff_eq] at hex
    obtain ⟨⟨⟨⟨⟨hn, h1⟩, h2⟩, h3⟩, h4⟩, h6⟩ := hex
    subst hn
    have hlt := z_fc4 a (z_obj_no h1).2.2.1 b h2
    have hfin : (kT a b).2.2.2 = true → y.name = "<init>" ∧ (kT a b).1 = y.cls := by
      intro q
      rw [q] at h6
      simp only [Bool.not_true, Bool.false_or, Bool.and_eq_true, beq_iff_eq] at h6
      refine ⟨hini h6.1, ?_⟩
      rw [hyk, h6.2]
      exact z_decl h1 h2 q
    generalize hq : z_fc (kY a b) = q at h3 hlt
    subst h3
    rcases q with _ | _ | _ | _ | q
    · obtain ⟨x, r0, rfl, h5⟩ := pI_e hst
      obtain ⟨K, j, r, rfl, rfl, h7⟩ := pO_e h5
      exact zs_putI C hd h1 h2 (by rw [hyk]; exact z_Fk_ok h4) hfin (Or.inl (by revert hq; cases kY K b <;> intro hq <;> first | rfl | (exact absurd hq (by simp [z_fc])))) (hk _ _ _ _ _ h7)
    · obtain ⟨x, r0, rfl, h5⟩ := pL_e hst
      obtain ⟨K, j, r, rfl, rfl, h7⟩ := pO_e h5
      exact zs_putL C hd h1 h2 (by rw [hyk]; exact z_Fk_ok h4) hfin (by revert hq; cases kY K b <;> intro hq <;> first | rfl | (exact absurd hq (by simp [z_fc]))) (hk _ _ _ _ _ h7)
    · obtain ⟨x, r0, rfl, h5⟩ := pR_e hst
      obtain ⟨K, j, r, rfl, rfl, h7⟩ := pO_e h5
      exact zs_putR C hd h1 h2 (by rw [hyk]; exact z_Fk_ok h4) hfin hq (hk _ _ _ _ _ h7)
    · obtain ⟨x, r0, rfl, h5⟩ := pI_e hst
      obtain ⟨K, j, r, rfl, rfl, hx, h7⟩ := pO_e h5
      exact zs_putI C hd h1 h2 (by rw [hyk]; exact z_Fk_ok h4) hfin (Or.inr ⟨by revert hq; cases kY K b <;> intro hq <;> first | rfl | (exact absurd hq (by simp [z_fc])), hx⟩) (hk _ _ _ _ _ h7)
    · omega
  | new v =>
    rcases b with _ | _ | b
    · simp only [z_exB, Bool.and_eq_true, decide_eq_true_eq, beq_iff_eq] at hex
      obtain ⟨⟨hn, h1⟩, h2⟩ := hex
      subst hn
      obtain ⟨g1, g2, g3⟩ := hst
      exact zs_new C hd h1 (by rw [hyk]; exact z_Nk_ok h2) (z_new_ok h1).1 (z_new_ok h1).2 g1 g2 (hk _ _ _ _ _ g3)
    · simp only [z_exB, Bool.and_eq_true, decide_eq_true_eq, beq_iff_eq] at hex
      obtain ⟨⟨⟨⟨⟨hn, h1⟩, h2⟩, h3⟩, h4⟩, h5⟩ := hex
      subst hn
      obtain ⟨g1, g2, g3, g4, g5⟩ := hst
      exact zs_lnew C hd (z_at_e h3) (z_at_e h4) h1 (by rw [hyk]; exact z_Pk_ok h2) (by rw [hyk]; exact z_Pk_ok h5) g1 g2 g3 g4 (hk _ _ _ _ _ g5)
    · exact (hst : False).elim
  | newarray t =>
    simp only [z_exB, Bool.and_eq_true, decide_eq_true_eq, beq_iff_eq] at hex
    obtain ⟨⟨hn, h1⟩, h2⟩ := hex
    subst hn
    obtain ⟨x, r, rfl, g1, g2, g3, g4⟩ := pI_e hst
    exact zs_newarray C hd h1 h2 (by rw [h2]; exact z_arrc_ok _) g1 g2 g3 (hk _ _ _ _ _ g4)
  | arraylength =>
    have hn : n = 1 := eq_of_beq hex
    subst hn
    delta z_stp at hst
    dsimp only at hst
    obtain ⟨K, j, r, rfl, rfl, rfl, h1⟩ := pO_e hst
    exact zs_slen C hd (hk _ _ _ _ _ h1)
  | iaload =>
    have hn : n = 1 := eq_of_beq hex
    subst hn
    rcases b with _ | _ | b
    · obtain ⟨x, r, rfl, h1⟩ := pI_e hst
      obtain ⟨K, j, r2, rfl, h2, h3, h4⟩ := pO_e h1
      exact zs_iaload C hd h2 h3 (hk _ _ _ _ _ h4)
    · obtain ⟨x, r, rfl, h1⟩ := pI_e hst
      obtain ⟨K, j, r2, rfl, rfl, rfl, h3, h4⟩ := pO_e h1
      exact zs_sld C hd h3 (hk _ _ _ _ _ h4)
    · obtain ⟨x, r, rfl, h1⟩ := pI_e hst
      obtain ⟨K, j, r2, rfl, h2, h3, h4⟩ := pO_e h1
      exact zs_iaload C hd h2 h3 (hk _ _ _ _ _ h4)
  | baload =>
    have hn : n = 1 := eq_of_beq hex
    subst hn
    obtain ⟨x, r, rfl, h1⟩ := pI_e hst
    obtain ⟨K, j, r2, rfl, h2, h3, h4⟩ := pO_e h1
    exact zs_baload C hd h2 h3 (hk _ _ _ _ _ h4)
  | laload =>
    have hn : n = 1 := eq_of_beq hex
    subst hn
    obtain ⟨x, r, rfl, h1⟩ := pI_e hst
    obtain ⟨K, j, r2, rfl, h2, h3, h4⟩ := pO_e h1
    exact zs_laload C hd h2 h3 (hk _ _ _ _ _ h4)
  | iastore =>
    have hn : n = 1 := eq_of_beq hex
    subst hn
    obtain ⟨x, r, rfl, h1⟩ := pI_e hst
    obtain ⟨j, r1, rfl, h2⟩ := pI_e h1
    obtain ⟨K, q, r2, rfl, h3, h4, h5⟩ := pO_e h2
    exact zs_iastore C hd h3 h4 (hk _ _ _ _ _ h5)
  | bastore =>
    have hn : n = 1 := eq_of_beq hex
    subst hn
    obtain ⟨x, r, rfl, h1⟩ := pI_e hst
    obtain ⟨j, r1, rfl, h2⟩ := pI_e h1
    obtain ⟨K, q, r2, rfl, h3, h4, h5, h6⟩ := pO_e h2
    exact zs_bastore C hd h3 h4 h5 (hk _ _ _ _ _ h6)
  | lastore =>
    have hn : n = 1 := eq_of_beq hex
    subst hn
    obtain ⟨x, r, rfl, h1⟩ := pL_e hst
    obtain ⟨j, r1, rfl, h2⟩ := pI_e h1
    obtain ⟨K, q, r2, rfl, h3, h4, h5⟩ := pO_e h2
    exact zs_lastore C hd h3 h4 (hk _ _ _ _ _ h5)
  | checkcast v =>
    simp only [z_exB, Bool.and_eq_true, decide_eq_true_eq, beq_iff_eq] at hex
    obtain ⟨⟨hn, h1⟩, h2⟩ := hex
    subst hn
    delta z_stp at hst
    dsimp only at hst
    obtain ⟨K, j, r2, rfl, rfl, h4⟩ := pO_e hst
    exact zs_checkcast C hd h1 (by rw [hyk]; exact z_Nk_ok h2) (hk _ _ _ _ _ h4)
  | ireturn =>
    have hn : n = 1 := eq_of_beq hex
    subst hn
    obtain ⟨x, r, rfl, rfl, h1⟩ := pI_e hst
    exact hT.1 _ _ _ _ _ _ hd h1
  | lreturn =>
    have hn : n = 1 := eq_of_beq hex
    subst hn
    obtain ⟨x, r, rfl, rfl, h1⟩ := pL_e hst
    exact hT.2.1 _ _ _ _ _ _ hd h1
  | areturn =>
    have hn : n = 1 := eq_of_beq hex
    subst hn
    obtain ⟨x, r, rfl, rfl, h1⟩ := pR_e hst
    exact hT.2.2.1 _ _ _ _ _ _ hd h1
  | return_ =>
    have hn : n = 1 := eq_of_beq hex
    subst hn
    obtain ⟨rfl, h1⟩ := hst
    exact hT.2.2.2 _ _ _ _ _ hd h1
  | invokevirtual v =>
    rcases b with _ | _ | _ | _ | _ | _ | _ | _ | _ | _ | _ | _ | b
    · have hn : n = 3 := eq_of_beq hex
      subst hn
      obtain ⟨as, r, rfl, h1, h2⟩ := pA_e hst
      rw [List.append_nil] at h2
      exact zs_callV C hd h1 (z_CP_mono (fun _ _ _ _ q => hk _ _ _ _ _ q) h2)
    · simp only [z_exB, Bool.and_eq_true, decide_eq_true_eq, beq_iff_eq] at hex
      obtain ⟨hn, h1⟩ := hex
      subst hn
      have hst : pO st (fun K i st => 1 ≤ d ∧ z_w st ≤ 8 ∧ ce ≤ MC ∧ sl ≤ MS ∧ z_lst K = true ∧ k ls (z_i (nI (hZ h K i)) :: st) h ce sl) := hst
      obtain ⟨K, j, r2, rfl, g1, g2, g3, g4, g5, g6⟩ := pO_e hst
      exact zs_lsize C hd g5 (by rw [hyk]; exact z_Pk_ok h1) g1 g2 g3 g4 (hk _ _ _ _ _ g6)
    · simp only [z_exB, Bool.and_eq_true, decide_eq_true_eq, beq_iff_eq] at hex
      obtain ⟨hn, h1⟩ := hex
      subst hn
      obtain ⟨x, r, rfl, h2⟩ := pI_e hst
      obtain ⟨K, j, r2, rfl, g1, g2, g3, g4, g5, g6, g7, g8, g9⟩ := pO_e h2
      exact zs_lget C hd g5 g6 (by rw [hyk]; exact z_Pk_ok h1) g1 g2 g3 g4 g7 g8 (hk _ _ _ _ _ g9)
    · simp only [z_exB, Bool.and_eq_true, decide_eq_true_eq, beq_iff_eq] at hex
      obtain ⟨hn, h1⟩ := hex
      subst hn
      have hst : pO st (fun K' i' st => pO st fun K i st => 8 ≤ d ∧ z_w st ≤ 8 ∧ z_lst K = true ∧ K ≠ 207 ∧ K' = lT K ∧ i' = hZ h K i ∧ hZ h K i < 100000 ∧ ce + z_gc (hZ h K i) ≤ MC ∧ sl + z_gs (hZ h K i) ≤ MS ∧ k ls (z_i 1 :: st) (sZ h K i (hZ h K i + 1)) (ce + z_gc (hZ h K i)) (sl + z_gs (hZ h K i))) := hst
      obtain ⟨K', j', r, rfl, h2⟩ := pO_e hst
      obtain ⟨K, j, r2, rfl, g1, g2, g3, g4, g5, g6, g7, g8, g9, g10⟩ := pO_e h2
      subst g5
      subst g6
      exact zs_lapp C hd g3 g4 (by rw [hyk]; exact z_Pk_ok h1) g1 g2 g7 g8 g9 (hk _ _ _ _ _ g10)
    · exact (hst : False).elim
    · exact (hst : False).elim
    · exact (hst : False).elim
    · exact (hst : False).elim
    · exact (hst : False).elim
    · exact (hst : False).elim
    · exact (hst : False).elim
    · simp only [z_exB, Bool.and_eq_true, decide_eq_true_eq, beq_iff_eq] at hex
      obtain ⟨⟨⟨⟨⟨hn, h1⟩, h2⟩, h3⟩, h4⟩, h5⟩ := hex
      subst hn
      obtain ⟨x, r, rfl, h6⟩ := pI_e hst
      obtain ⟨K, j, r2, rfl, g1, g2, g3, g4, rfl, g5, g6, g7⟩ := pO_e h6
      exact zs_bget C hd (z_at_e h2) (z_at_e h4) (by rw [hyk]; exact z_Pk_ok h1) (by rw [hyk]; exact z_Pk_ok h3) (by rw [hyk]; exact z_Pk_ok h5) g1 g2 g3 g4 g5 g6 (hk _ _ _ _ _ g7)
    · exact (hst : False).elim
  | invokestatic v =>
    rcases b with _ | _ | _ | _ | _ | _ | _ | _ | _ | _ | _ | b
    · have hn : n = 3 := eq_of_beq hex
      subst hn
      obtain ⟨as, r, rfl, h1, h2⟩ := pA_e hst
      rw [List.append_nil] at h2
      exact zs_callS C hd h1 (z_CP_mono (fun _ _ _ _ q => hk _ _ _ _ _ q) h2)
    · exact (hst : False).elim
    · exact (hst : False).elim
    · exact (hst : False).elim
    · exact (hst : False).elim
    · exact (hst : False).elim
    · simp only [z_exB, Bool.and_eq_true, decide_eq_true_eq, beq_iff_eq] at hex
      obtain ⟨hn, h1⟩ := hex
      subst hn
      obtain ⟨x, r, rfl, h2⟩ := pI_e hst
      obtain ⟨x2, r2, rfl, h3⟩ := pI_e h2
      obtain ⟨K2, j2, r3, rfl, h4⟩ := pO_e h3
      obtain ⟨x3, r4, rfl, h5⟩ := pI_e h4
      obtain ⟨K1, j1, r5, rfl, g1, g2, rfl, rfl, g5, g6, g7, g8, g9, g10⟩ := pO_e h5
      exact zs_acopy C hd (by rw [hyk]; exact z_Pk_ok h1) g1 g2 g5 g6 g7 g8 g9 (hk _ _ _ _ _ g10)
    · exact (hst : False).elim
    · exact (hst : False).elim
    · exact (hst : False).elim
    · simp only [z_exB, Bool.and_eq_true, decide_eq_true_eq, beq_iff_eq] at hex
      obtain ⟨⟨⟨hn, h1⟩, h2⟩, h3⟩ := hex
      subst hn
      obtain ⟨x, r, rfl, h4⟩ := pI_e hst
      obtain ⟨K, j, r2, rfl, g1, g2, rfl, g4, g5, g6, g7⟩ := pO_e h4
      exact zs_badd C hd (z_at_e h2) (by rw [hyk]; exact z_Pk_ok h1) (by rw [hyk]; exact z_Pk_ok h3) g1 g2 g4 g5 g6 (fun nb => hk _ _ _ _ _ (g7 nb))
    · exact (hst : False).elim
  | invokespecial v =>
    rcases b with _ | _ | _ | _ | _ | _ | _ | _ | b
    · have hn : n = 3 := eq_of_beq hex
      subst hn
      obtain ⟨as, r, rfl, h1, h2⟩ := pA_e hst
      rw [List.append_nil] at h2
      exact zs_callI C hd h1 (z_CP_mono (fun _ _ _ _ q => hk _ _ _ _ _ q) h2)
    · exact (hst : False).elim
    · exact (hst : False).elim
    · exact (hst : False).elim
    · exact (hst : False).elim
    · exact (hst : False).elim
    · exact (hst : False).elim
    · simp only [z_exB, Bool.and_eq_true, decide_eq_true_eq, beq_iff_eq] at hex
      obtain ⟨hn, h1⟩ := hex
      subst hn
      have hst : pO st (fun _ _ st => 1 ≤ d ∧ z_w st ≤ 8 ∧ k ls st h ce sl) := hst
      obtain ⟨K, j, r2, rfl, g1, g2, g3⟩ := pO_e hst
      exact zs_objInit C hd (by rw [hyk]; exact z_Pk_ok h1) z_obj_ok.1 z_obj_ok.2 g1 g2 (hk _ _ _ _ _ g3)
    · exact (hst : False).elim
  | _ => exact (hst : False).elim
/-- A STRETCH: what it asks is enough -/
theorem z_blk (C : z_Cx p R s m args meth c G y cc nL d MC MS) {T : Option z_V → z_H → Nat → Nat → Prop} (hT : z_RT (z_At p l e R s m args below meth c G ad0 h0 nL Qs) T cc) {yk : Nat} {ini : Bool} (hyk : y.cls = kO yk) (hini : ini = true → y.name = "<init>") : ∀ (es : List z_E) (pc ep : Nat), z_chk yk ini cc nL pc es ep = true → ∀ ls st h ce sl, z_wp l G d MC MS y.cls (z_At p l e R s m args below meth c G ad0 h0 nL Qs) T ep es ls st h ce sl → z_At p l e R s m args below meth c G ad0 h0 nL Qs pc ls st h ce sl := by
  intro es
  induction es with
  | nil =>
    intro pc ep hc ls st h ce sl hw
    have : pc = ep := eq_of_beq hc
    subst this
    exact hw
  | cons e1 r ih =>
    intro pc ep hc ls st h ce sl hw
    unfold z_chk at hc
    simp only [Bool.and_eq_true] at hc
    obtain ⟨⟨h1, h2⟩, h3⟩ := hc
    exact z_step C hT (z_at_e h1) hyk hini h2 (fun ls st h ce sl q => ih _ _ h3 ls st h ce sl q) hw
end ZT
