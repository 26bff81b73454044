/-! Integers -/
section JI
variable (l : Launch) (G : z_G) (d : Nat)
theorem z_Kint {G : z_G} {U : State} (h : z_KN G U) : u_Kn U RJ6 TJ6 1 (gC G 0) (gI G 0) := h.1.1 0 (RJ6, TJ6, 1) rfl
theorem jd_iinit (hd : 2 ≤ d) {a : Nat} {v w : Int32} (ha : gB G ≤ a) : z_RM l G d yJ6_init_d00df cJ6_init_d00df 2 none [.ref a, .int v] 0 0 (fun _ H => t_OB a (gC G 0) 1 (gI G 0) H (fun _ => .int w)) (fun H r H' => r = none ∧ t_OB a (gC G 0) 1 (gI G 0) H' (fun _ => .int v) ∧ H'.size = H.size ∧ ∀ q, q ≠ a → H'[q]? = H[q]?) := by
  refine zj_meth (by decide) (Nat.le_of_ble_eq_true rfl) (fun p e s m below meth c la C hlk hr hold hP hl => ?_)
  have hl : lv_has la 2 [(0, .ref a), (1, .int v)] := hl
  have hts := C.2.2.2.2.2.1
  refine lv_aload_n C.1 C.2.1 dJ6_init_d00df_0 rfl (lv_at hl 0 rfl) ?_
  refine zj_callI (a := a) (av := []) C lk_J6_202 (jd_num l G (d - 1) (by omega)) (by omega) hold (fun _ _ => trivial) hl.1 (rest := []) (Nat.le_of_ble_eq_true rfl) dJ6_init_d00df_1 (Nat.le_refl _) (Nat.le_refl _) (fun _ h => by cases h) rfl (fun r H1 locs1 hq hl0 => ?_)
  obtain ⟨rfl, rfl⟩ := hq
  refine lv_aload_n C.1 C.2.1 dJ6_init_d00df_4 rfl (lv_at hl 0 rfl) ?_
  refine lv_iload_n C.1 C.2.1 dJ6_init_d00df_5 rfl (lv_at hl 1 rfl) ?_
  obtain ⟨cell, q1, q2, q3, q4⟩ := hP
  obtain ⟨hS, hfc, kC, hkC, hkind⟩ := z_Kint C.2.2.2.2.2.2.1
  obtain ⟨cf, kf, fi, f', hi', hsl⟩ := hS 0 (by decide)
  have hst := (u_facts hfc hkC (u_lays hts inzJ6 (by decide)) hi').1
  have hlay : (Cond.laysFinal RJ6 (TJ6 0).1 (TJ6 0).2.1 (TJ6 0).2.2.1).before [Value.ref a, Value.int v].toArray s = true := hts _ (inzJ6 _ (u_in_lay (k := 0) (by decide)))
  have hcf : m.cls = cf := by
    obtain ⟨_, _, c', _, _, _, -, -, hf', -, -, -, hown2, -⟩ := Cond.laysFinal_spec hlay
    have e1 : c' = cf := by have := hi'.symm.trans hf'; simp at this; exact this.1.symm
    rw [← e1]; exact Option.some.inj (C.2.2.2.1.symm.trans hown2)
  have h6 := u_fits (v := .int v) hfc hkC hkind (Or.inr hlay) hi' (tyJ6_ok 0 (by decide)) rfl rfl
  refine W.putFinK C.1 C.2.1 C.2.2.2.1 (hts _ jf_J6_205) hi' hst hcf C.2.2.2.2.1 (by rw [q2]; exact h6) q1 q3 (by rw [hsl]; exact k2_hasslot (q4 0 (by decide))) rfl rfl dJ6_init_d00df_6 fun H2 e1 e2 e3 => ?_
  rw [hsl] at e1
  refine W.eq (g2 := F0 m 9 la []) rfl ?_
  refine zj_vret C hlk hr dJ6_init_d00df_9 (z_mem_locs hl0 ha) (Nat.le_refl _) (Nat.le_refl _) ⟨rfl, ?_, e2, e3⟩
  refine t_OB.to (V := updV (fun _ => Value.int w) 0 (.int v)) ⟨_, e1, q2, q3, t_set q4 (fun x y hx hy hne => by omega) (by decide) _⟩ (fun j hj => ?_)
  have : j = 0 := by omega
  subst this
  rfl
/-- a boxed int: one of the cache, or made -/
def z_bq (G : z_G) (H : Heap) (a : Nat) (v : Int32) : Prop := (∃ k : Nat, k < 256 ∧ a = gX G k ∧ v = vb_c k) ∨ t_OB a (gC G 0) 1 (gI G 0) H (fun _ => .int v)
theorem jd_valueOf (hd : 3 ≤ d) {v : Int32} : z_RM l G d yJ6_valueOf_2dffe cJ6_valueOf_2dffe 1 (some (.object "java/lang/Integer")) [.int v] 1 1 (fun _ _ => True)
    (fun H r H' => (∃ k : Nat, k < 256 ∧ r = some (.ref (gX G k)) ∧ v = vb_c k ∧ H' = H) ∨ (r = some (.ref H.size) ∧ t_OB H.size (gC G 0) 1 (gI G 0) H' (fun _ => .int v) ∧ H'.size = H.size + 1 ∧ ∀ q, q < H.size → H'[q]? = H[q]?)) := by
  refine zj_meth (by decide) (Nat.le_of_ble_eq_true rfl) (fun p e s m below meth c la C hlk hr hold _ hl => ?_)
  have hl : lv_has la 1 [(0, .int v)] := hl
  have hts := C.2.2.2.2.2.1
  have hKN := C.2.2.2.2.2.2.1
  have hl0 : ∀ x ∈ ([] : List Loc), gB G ≤ x.base := fun _ h => by cases h
  have new : W p l e (z_rm d 1 1) s m [Value.int v].toArray below meth c s.heap [] 0 0 (MQ below (z_QM G (fun H r H' => (∃ k : Nat, k < 256 ∧ r = some (.ref (gX G k)) ∧ v = vb_c k ∧ H' = H) ∨ (r = some (.ref H.size) ∧ t_OB H.size (gC G 0) 1 (gI G 0) H' (fun _ => .int v) ∧ H'.size = H.size + 1 ∧ ∀ q, q < H.size → H'[q]? = H[q]?))) [Value.int v].toArray s 1 1 (z_A G)) (F0 m 23 la []) := by
    have hKn := z_Kint hKN
    refine W.newcK C.1 C.2.1 C.2.2.2.1 (hts _ jc_J6_1) (hts _ jn_int) (hts _ cq_J6_valueOf_2dffe.2.1) rfl dJ6_valueOf_2dffe_23 (Nat.le_refl _) (Nat.le_refl _) hKn.2.1 rfl fun H1 kC hkC e1 z1 o1 => ?_
    refine W.eq (g2 := F0 m 26 la [.ref s.heap.size]) rfl ?_
    have hob : t_OB s.heap.size (gC G 0) 1 (gI G 0) H1 (fun _ => .int 0) := (u_born tyJ6 hts inzJ6 hKn hkC e1 tyJ6_ok).to (fun j hj => rfl)
    have hold1 : z_OLD G s H1 := hold.kept (by omega) (fun q hq => o1 q (Nat.lt_of_lt_of_le hq hold.1))
    refine lv_dup C.1 C.2.1 dJ6_valueOf_2dffe_26 rfl ?_
    refine lv_iload_n C.1 C.2.1 dJ6_valueOf_2dffe_27 rfl (lv_at hl 0 rfl) ?_
    refine zj_callI (a := s.heap.size) (av := [.int v]) C lk_J6_199 (jd_iinit l G (d - 1) (by omega) (v := v) (w := 0) hold.1) (by omega) hold1 (fun _ _ => hob) hl.1 (rest := [.ref s.heap.size]) (Nat.le_of_ble_eq_true rfl) dJ6_valueOf_2dffe_28 (Nat.le_refl _) (Nat.le_refl _) hl0 rfl (fun r H2 locs2 hq hl0 => ?_)
    obtain ⟨rfl, g1, g2, g3⟩ := hq
    exact zj_aret C hlk hr (Or.inl ⟨_, rfl⟩) (Or.inr ⟨_, rfl⟩) dJ6_valueOf_2dffe_31 hl0 (Nat.le_refl _) (Nat.le_refl _) (Or.inr ⟨rfl, g1, g2.trans z1, fun q hq => (g3 q (Nat.ne_of_lt hq)).trans (o1 q hq)⟩)
  refine lv_iload_n C.1 C.2.1 dJ6_valueOf_2dffe_0 rfl (lv_at hl 0 rfl) ?_
  refine lv_bipush (v := -128) C.1 C.2.1 dJ6_valueOf_2dffe_1 (by decide) ?_
  refine lv_icmp_lt (tgt := 23) C.1 C.2.1 dJ6_valueOf_2dffe_3 (by decide) (fun _ => new) (fun h1 => ?_)
  refine lv_iload_n C.1 C.2.1 dJ6_valueOf_2dffe_6 rfl (lv_at hl 0 rfl) ?_
  obtain ⟨-, -, hhigh, hC, tc, hcache, hT⟩ := hold.2.2.2
  obtain ⟨cf, kf, fi, fd, as, cell, e1, e2, e3, e4, e5, e6, e7, e8⟩ := hhigh
  refine W.gets C.1 C.2.1 C.2.2.2.1 (hts _ jf_J6_191) e1 e2 e3 e4 e5 (fun q => by rw [q] at e6; cases e6) e7 rfl dJ6_valueOf_2dffe_7 ?_
  refine W.eq (g2 := F0 m 10 la [.int 127, .int v]) rfl ?_
  refine lv_icmp_gt (tgt := 23) C.1 C.2.1 dJ6_valueOf_2dffe_10 (by decide) (fun _ => new) (fun h2 => ?_)
  obtain ⟨k, hk, hk1, hk2⟩ := bx_small h1 h2
  obtain ⟨cf', kf', fi', fd', as', cell', e1', e2', e3', e4', e5', e6', e7', e8'⟩ := hcache
  refine W.gets C.1 C.2.1 C.2.2.2.1 (hts _ jf_J6_195) e1' e2' e3' e4' e5' (fun q => by rw [q] at e6'; cases e6') e7' rfl dJ6_valueOf_2dffe_13 ?_
  refine W.eq (g2 := F0 m 16 la [.ref tc]) rfl ?_
  refine lv_iload_n C.1 C.2.1 dJ6_valueOf_2dffe_16 rfl (lv_at hl 0 rfl) ?_
  refine lv_sipush (v := 128) C.1 C.2.1 dJ6_valueOf_2dffe_17 (by decide) ?_
  refine lv_iadd C.1 C.2.1 dJ6_valueOf_2dffe_20 ?_
  rw [hk1]
  obtain ⟨ct, t1, t2, t3, t4, t5, t6, t7⟩ := hT
  have ecl : (nI k).toNatClampNeg = k := nI_clamp (by omega)
  refine W.aald C.1 C.2.1 t1 t2 rfl t3 (fun q => q.elim (nI_pos (by omega)) (fun q => by rw [ecl] at q; omega)) (v := .ref (gX G k)) (by rw [ecl]; exact t6 k hk) rfl rfl dJ6_valueOf_2dffe_21 ?_
  refine W.eq (g2 := F0 m 22 la [.ref (gX G k)]) rfl ?_
  exact zj_aret C hlk hr (Or.inl ⟨_, rfl⟩) (Or.inr ⟨_, rfl⟩) dJ6_valueOf_2dffe_22 hl0 (Nat.zero_le _) (Nat.zero_le _) (Or.inl ⟨k, hk, rfl, hk2, rfl⟩)
theorem jd_intValue {a : Nat} {v : Int32} : z_RM l G d yJ6_intValue_8abf5 cJ6_intValue_8abf5 1 (some .int) [.ref a] 0 0 (fun _ H => z_bq G H a v) (fun H r H' => r = some (.int v) ∧ H' = H) := by
  refine zj_meth (by decide) (Nat.le_of_ble_eq_true rfl) (fun p e s m below meth c la C hlk hr hold hP hl => ?_)
  have hl : lv_has la 1 [(0, .ref a)] := hl
  have hts := C.2.2.2.2.2.1
  refine lv_aload_n C.1 C.2.1 dJ6_intValue_8abf5_0 rfl (lv_at hl 0 rfl) ?_
  obtain ⟨hS, hfc, kC, hkC, hkind⟩ := z_Kint C.2.2.2.2.2.2.1
  obtain ⟨cf, kf, fi, f', hi', hsl⟩ := hS 0 (by decide)
  have hst := (u_facts hfc hkC (u_lays hts inzJ6 (by decide)) hi').1
  rcases hP with ⟨k, hk, rfl, rfl⟩ | ⟨cell, q1, q2, q3, q4⟩
  · obtain ⟨cf2, k2, i2, f2, cell, g1, g2, g3, g4, g5, g6⟩ := hold.2.2.2.2.2.2.1.2 k hk
    refine W.getf C.1 C.2.1 C.2.2.2.1 (hts _ jf_J6_205) g1 g2 g3 g4 g5 rfl rfl dJ6_intValue_8abf5_1 ?_
    exact zj_iret C hlk hr dJ6_intValue_8abf5_4 (fun _ h => by cases h) (Nat.le_refl _) (Nat.le_refl _) ⟨rfl, rfl⟩
  · refine W.getf C.1 C.2.1 C.2.2.2.1 (hts _ jf_J6_205) hi' hst q1 (by rw [q3]; exact fun h => by cases h) (v := .int v) (by rw [hsl]; exact q4 0 (by decide)) rfl rfl dJ6_intValue_8abf5_1 ?_
    exact zj_iret C hlk hr dJ6_intValue_8abf5_4 (fun _ h => by cases h) (Nat.le_refl _) (Nat.le_refl _) ⟨rfl, rfl⟩
end JI
