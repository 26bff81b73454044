/-! the list prims of the small machine -/
theorem z_LE_kept {G : z_G} {ad ad' : Nat → Nat → Nat} {h h' : z_H} {H H' : Heap} {K i j a : Nat} (hl : z_LE G ad h H K i j a) (eI : hI h' K i j = hI h K i j) (hn : hN h' = hN h) (e1 : ∀ b, b < hN h 1300 → ad' 1300 b = ad 1300 b ∧ H'[ad 1300 b]? = H[ad 1300 b]?) (e2 : ∀ K' i', K' < 1000 → ad' K' i' = ad K' i') : z_LE G ad' h' H' K i j a := by
  refine ⟨fun q => ?_, fun q => ?_⟩
  · rw [eI]
    rcases hl.1 q with g | ⟨b, b1, b2, cell, c1, c2, c3, c4⟩
    · exact Or.inl g
    · exact Or.inr ⟨b, by rw [hn]; exact b1, by rw [(e1 b b1).1]; exact b2, cell, by rw [b2, (e1 b b1).2, ← b2]; exact c1, c2, c3, c4⟩
  · obtain ⟨g1, g2⟩ := hl.2 q
    exact ⟨by rw [e2 _ _ (z_obj_no z_lT_cst.1).2.2.2.2]; exact g1, by rw [hn]; exact g2⟩
theorem z_HR.apw {G : z_G} {ad : Nat → Nat → Nat} {h h' : z_H} {U : State} {H H' : Heap} {K n x : Nat} {el : Nat → Nat} {m : Int32} (hH : z_HR G ad h U H) (hK : z_lst K = true) (hi : n < hN h K)
    (hn : hN h' = hN h) (hz : hZ h' = z_u2 (hZ h) K n (hZ h K n + 1)) (f1 : ∀ K' i' k, ¬ (K' = K ∧ i' = n) → hI h' K' i' k = hI h K' i' k) (f1' : ∀ k, k ≠ hZ h K n → hI h' K n k = hI h K n k) (f2 : hL h' = hL h) (f3 : hR h' = hR h)
    (g3 : ∀ j : Nat, j < hZ h K n → z_LE G ad h H K n j (el j)) (hx : z_LE G ad h' H K n (hZ h K n) x)
    (had : z_ad G (ad K n) (ad (K + 1000) n) (hZ h K n) x el (updV (z_LV G ad h K n m) 0 (.int (m + 1))) H H') : ∃ ad' : Nat → Nat → Nat, z_HR G ad' h' U H' ∧ z_EX h ad h' ad' := by
  obtain ⟨e', a1, a2, a3, a4, a5⟩ := had
  have hno := z_lst_no hK
  have he : e' = H.size ∨ (hZ h K n ≠ 0 ∧ e' = ad (K + 1000) n) := by
    by_cases q : z_cap (hZ h K n) = hZ h K n
    · rw [if_pos q] at a1
      exact Or.inl a1
    · rw [if_neg q] at a1
      exact Or.inr ⟨fun z => q (by rw [z]; rfl), a1⟩
  have hl : z_live h K n := z_live_of hno.2.2.1 hno.2.2.2.1 hi
  have hlt := hH.2.2.1 K n hl
  have zz : hZ h' K n = hZ h K n + 1 := by rw [hz]; exact if_pos ⟨rfl, rfl⟩
  have adn : ∀ K' i', ¬ (K' = K + 1000 ∧ i' = n) → z_u2 ad (K + 1000) n e' K' i' = ad K' i' := fun K' i' q => if_neg q
  have ads : z_u2 ad (K + 1000) n e' (K + 1000) n = e' := if_pos ⟨rfl, rfl⟩
  have kb : ∀ b, b < hN h 1300 → z_u2 ad (K + 1000) n e' 1300 b = ad 1300 b ∧ H'[ad 1300 b]? = H[ad 1300 b]? := by
    intro b hb
    have hlb : z_live h 1300 b := Or.inr (Or.inr ⟨rfl, hb⟩)
    refine ⟨adn _ _ (fun z => by omega), a5 _ (hH.2.2.1 _ _ hlb).2 (fun z => ?_) (fun z => ?_)⟩
    · have := hH.2.2.2.1 _ _ _ _ hlb hl z
      omega
    · rcases he with rfl | ⟨hz0, rfl⟩
      · have := (hH.2.2.1 _ _ hlb).2
        omega
      · have := hH.2.2.2.1 _ _ _ _ hlb (Or.inr (Or.inl ⟨by omega, by omega, by simpa using hi, by simpa using hz0⟩)) z
        omega
  refine ⟨_, hH.app (e' := e') (h' := h') hK hi he (by omega) ((Array.getElem?_eq_some_iff.mp a3).1) a5 hn hz f1 f2 f3 ⟨m + 1, z_u1 el (hZ h K n) x, ?_, fun _ => ?_, fun j hj => ?_⟩⟩
  · rw [adn _ _ (fun z => by omega)]
    refine a4.to (fun j hj => ?_)
    rcases (show j = 0 ∨ j = 1 ∨ j = 2 by omega) with rfl | rfl | rfl
    · rfl
    · show Value.ref e' = Value.ref _
      rw [zz, if_neg (by omega), ads]
    · show Value.int _ = Value.int _
      rw [zz]
  · rw [ads, zz]
    exact a3
  · rw [zz] at hj
    by_cases q : j = hZ h K n
    · subst q
      rw [show z_u1 el (hZ h K n) x (hZ h K n) = x from if_pos rfl]
      exact z_LE_kept (h := h') hx rfl rfl (fun b hb => kb b (by rw [hn] at hb; exact hb)) (fun K' i' q => adn _ _ (fun z => by omega))
    · rw [show z_u1 el (hZ h K n) x j = el j from if_neg q]
      exact z_LE_kept (g3 j (by omega)) (f1' j q) hn kb (fun K' i' q => adn _ _ (fun z => by omega))
section ZL
variable {p : Program} {l : Launch} {e : Env} {R : Room} {s : State} {m : MethodId} {args : Array Value} {below : List Frame} {meth : Method} {c : Code} {G : z_G} {ad0 : Nat → Nat → Nat} {h0 : z_H} {nL : Nat} {Qs : State → Prop} {y : MethodName} {cc : ByteArray} {d MC MS : Nat}
variable {pc : Nat} {ls : z_L} {st : z_S} {h : z_H} {ce sl : Nat}
theorem zs_lsize (C : z_Cx p R s m args meth c G y cc nL d MC MS) {i K n : Nat} (hd : decode cc pc = .ok (.invokevirtual i, 3)) (hK : z_lst K = true) (h1 : Cond.methodLink y.cls i yJx4a65c_size_8abf5 ∈ z_tbl) (hd1 : 1 ≤ d) (hw : z_w st ≤ 8) (hc : ce ≤ MC) (hs : sl ≤ MS)
    (k : z_At p l e R s m args below meth c G ad0 h0 nL Qs (pc + 3) ls (z_i (nI (hZ h K n)) :: st) h ce sl) : z_At p l e R s m args below meth c G ad0 h0 nL Qs pc ls (z_r K n :: st) h ce sl := by
  intro ad H locs la hH hE hO hl0 hl
  have hi := hO.top
  obtain ⟨m', el, g1, g2, g3⟩ := (hH.2.2.2.2.1 K n hi.2 hi.1).2.2 hK
  refine zj_callV (a := ad K n) (av := []) C ⟨cq_Jx4a65c_size_8abf5, h1⟩ (jd_size l G (d - 1) (a := ad K n) (V := z_LV G ad h K n m') rfl) hd1 hH.1 (fun _ _ => g1) (z_lrecv C.2.2.2.2.2.2.1 g1) hl.1 (rest := st.map (z_val ad)) (by rw [z_w_eq]; exact hw) hd hc hs hl0 rfl (fun r H' locs' hq hl0 => ?_)
  obtain ⟨rfl, rfl⟩ := hq
  exact k ad H' locs' la hH hE (hO.pop.push trivial) hl0 hl
theorem zs_lget (C : z_Cx p R s m args meth c G y cc nL d MC MS) {i K n : Nat} {j : Int32} (hd : decode cc pc = .ok (.invokevirtual i, 3)) (hK : z_lst K = true) (h7 : K ≠ 207) (h1 : Cond.methodLink y.cls i yJx4a65c_get_915e3 ∈ z_tbl) (hd1 : 4 ≤ d) (hw : z_w st ≤ 8) (hc : ce ≤ MC) (hs : sl ≤ MS) (hz : hZ h K n < 100000) (hj : vp_in j (hZ h K n))
    (k : z_At p l e R s m args below meth c G ad0 h0 nL Qs (pc + 3) ls (z_r (lT K) j.toNatClampNeg :: st) h ce sl) : z_At p l e R s m args below meth c G ad0 h0 nL Qs pc ls (z_i j :: z_r K n :: st) h ce sl := by
  intro ad H locs la hH hE hO hl0 hl
  have hi := hO.pop.top
  obtain ⟨m', el, g1, g2, g3⟩ := (hH.2.2.2.2.1 K n hi.2 hi.1).2.2 hK
  have hjl : j.toNatClampNeg < hZ h K n := Nat.lt_of_not_le (fun q => hj (Or.inr q))
  have hz0 : hZ h K n ≠ 0 := by omega
  have hf : (fun q => if q < hZ h K n then Value.ref (el q) else .null) j.toNatClampNeg = .ref (el j.toNatClampNeg) := if_pos hjl
  refine zj_callV (a := ad K n) (av := [.int j]) C ⟨cq_Jx4a65c_get_915e3, h1⟩ (jd_get l G (d - 1) (by omega) (a := ad K n) (V := z_LV G ad h K n m') (ea := ad (K + 1000) n) (cp := z_cap (hZ h K n)) (f := fun q => if q < hZ h K n then .ref (el q) else .null) (j := j) (congrArg Value.ref (if_neg hz0)) rfl (by omega) hj (z_cap_le _) (Or.inr ⟨_, hf⟩)) (by omega) hH.1 (fun _ _ => ⟨g1, g2 hz0⟩) (z_lrecv C.2.2.2.2.2.2.1 g1) hl.1 (rest := st.map (z_val ad)) (by rw [z_w_eq]; exact hw) hd hc hs hl0 rfl (fun r H' locs' hq hl0 => ?_)
  obtain ⟨rfl, rfl⟩ := hq
  obtain ⟨q1, q2⟩ := (g3 _ hjl).2 h7
  have hk := k ad H' locs' la hH hE (hO.pop.pop.push ⟨q2, (z_obj_no z_lT_cst.1).2.2.2.2⟩) hl0 hl
  rw [if_pos hjl, q1]
  exact hk
theorem zs_bget (C : z_Cx p R s m args meth c G y cc nL d MC MS) {i i2 i3 n : Nat} {j : Int32} (hd : decode cc pc = .ok (.invokevirtual i, 3)) (hd2 : decode cc (pc + 3) = .ok (.checkcast i2, 3)) (hd3 : decode cc (pc + 6) = .ok (.invokevirtual i3, 3)) (h1 : Cond.methodLink y.cls i yJx4a65c_get_915e3 ∈ z_tbl) (h2 : Cond.classLink y.cls i2 RJ6 ∈ z_tbl) (h3 : Cond.methodLink y.cls i3 yJ6_intValue_8abf5 ∈ z_tbl) (hd1 : 4 ≤ d) (hw : z_w st ≤ 8) (hc : ce ≤ MC) (hs : sl ≤ MS) (hz : hZ h 207 n < 100000) (hj : vp_in j (hZ h 207 n))
    (k : z_At p l e R s m args below meth c G ad0 h0 nL Qs (pc + 9) ls (z_i (hI h 207 n j.toNatClampNeg) :: st) h ce sl) : z_At p l e R s m args below meth c G ad0 h0 nL Qs pc ls (z_i j :: z_r 207 n :: st) h ce sl := by
  intro ad H locs la hH hE hO hl0 hl
  have hi := hO.pop.top
  have hKN := C.2.2.2.2.2.2.1
  obtain ⟨m', el, g1, g2, g3⟩ := (hH.2.2.2.2.1 207 n hi.2 hi.1).2.2 (by decide)
  have hjl : j.toNatClampNeg < hZ h 207 n := Nat.lt_of_not_le (fun q => hj (Or.inr q))
  have hz0 : hZ h 207 n ≠ 0 := by omega
  have hf : (fun q => if q < hZ h 207 n then Value.ref (el q) else .null) j.toNatClampNeg = .ref (el j.toNatClampNeg) := if_pos hjl
  refine zj_callV (a := ad 207 n) (av := [.int j]) C ⟨cq_Jx4a65c_get_915e3, h1⟩ (jd_get l G (d - 1) (by omega) (a := ad 207 n) (V := z_LV G ad h 207 n m') (ea := ad 1207 n) (cp := z_cap (hZ h 207 n)) (f := fun q => if q < hZ h 207 n then .ref (el q) else .null) (j := j) (congrArg Value.ref (if_neg hz0)) rfl (by omega) hj (z_cap_le _) (Or.inr ⟨_, hf⟩)) (by omega) hH.1 (fun _ _ => ⟨g1, g2 hz0⟩) (z_lrecv hKN g1) hl.1 (rest := st.map (z_val ad)) (by rw [z_w_eq]; exact hw) hd hc hs hl0 rfl (fun r H' locs' hq hl0 => ?_)
  obtain ⟨rfl, rfl⟩ := hq
  rw [if_pos hjl]
  obtain ⟨q1, q2, cell, q3⟩ := z_any_box hKN hH ((g3 _ hjl).1 rfl)
  refine va_castS C.1 C.2.1 C.2.2.2.1 (C.2.2.2.2.2.1 _ h2) (z_Kint hKN).2 ⟨cell, q3⟩ hd2 ?_
  refine zj_callV (a := el j.toNatClampNeg) (av := []) C ⟨cq_J6_intValue_8abf5, h3⟩ (jd_intValue l G (d - 1)) (by omega) hH.1 (fun _ _ => q2) ⟨cell, q3⟩ hl.1 (rest := st.map (z_val ad)) (by rw [z_w_eq]; exact hw) hd3 hc hs hl0 rfl (fun r H' locs' hq hl0 => ?_)
  obtain ⟨rfl, rfl⟩ := hq
  exact k ad H' locs' la hH hE (hO.pop.pop.push trivial) hl0 hl
theorem zs_lnew (C : z_Cx p R s m args meth c G y cc nL d MC MS) {i j K : Nat} (hd : decode cc pc = .ok (.new i, 3)) (hd2 : decode cc (pc + 3) = .ok (.dup, 1)) (hd3 : decode cc (pc + 4) = .ok (.invokespecial j, 3)) (hK : z_lst K = true) (h1 : Cond.classLink y.cls i RJx4a65c ∈ z_tbl) (h2 : Cond.methodLink y.cls j yJx4a65c_init_da8c8 ∈ z_tbl) (hd5 : 5 ≤ d) (hw : z_w st ≤ 6) (hc : ce + 1 ≤ MC) (hs : sl + 3 ≤ MS)
    (k : z_At p l e R s m args below meth c G ad0 h0 nL Qs (pc + 7) ls (z_r K (hN h K) :: st) (z_nw h K) (ce + 1) (sl + 3)) : z_At p l e R s m args below meth c G ad0 h0 nL Qs pc ls st h ce sl := by
  intro ad H locs la hH hE hO hl0 hl
  have hts := C.2.2.2.2.2.1
  have hKN := C.2.2.2.2.2.2.1
  have hKn : u_Kn s RJx4a65c TJx4a65c 3 (gC G 1) (gI G 1) := hKN.1.1 1 (RJx4a65c, TJx4a65c, 3) rfl
  have hno := z_lst_no hK
  refine W.newcK C.1 C.2.1 C.2.2.2.1 (hts _ h1) (hts _ jn_list) (hts _ cq_Jx4a65c_init_da8c8.2.1) rfl hd (by rw [C.2.2.2.2.2.2.2.2.2.1]; exact hc) (by rw [C.2.2.2.2.2.2.2.2.2.2]; exact hs) hKn.2.1 rfl fun H1 kC hkC e1 z1 o1 => ?_
  refine W.eq (g2 := F0 m (pc + 3) la (.ref H.size :: st.map (z_val ad))) rfl ?_
  have hob : t_OB H.size (gC G 1) 3 (gI G 1) H1 (fun j => defaultValue (tyJx4a65c j)) := u_born tyJx4a65c hts inzJL hKn hkC e1 tyJx4a65c_ok
  have hold1 : z_OLD G s H1 := hH.1.kept (by omega) (fun q hq => o1 q (Nat.lt_of_lt_of_le hq hH.1.1))
  refine lv_dup C.1 C.2.1 hd2 rfl ?_
  refine zj_callI (a := H.size) (av := []) C ⟨cq_Jx4a65c_init_da8c8, h2⟩ (jd_linit l G (d - 1) (by omega) (V := fun j => defaultValue (tyJx4a65c j)) hH.1.1) (by omega) hold1 (fun _ _ => hob) hl.1 (rest := .ref H.size :: st.map (z_val ad)) (by rw [List.map_cons, List.sum_cons, z_w_eq]; show 1 + z_w st ≤ 8; omega) hd3 hc hs hl0 rfl (fun r H2 locs2 hq hl0 => ?_)
  obtain ⟨rfl, g1, g2, g3⟩ := hq
  have ads : z_u2 ad K (hN h K) H.size K (hN h K) = H.size := if_pos ⟨rfl, rfl⟩
  have hzz : hZ (z_nw h K) K (hN h K) = 0 := if_pos ⟨rfl, rfl⟩
  obtain ⟨hH', hE'⟩ := hH.new (H' := H2) hno.2.2.1 hno.2.2.2.1 (g2.trans z1) (fun q hq => (g3 q (Nat.ne_of_lt hq)).trans (o1 q hq)) ⟨fun q => (by rw [hno.1] at q; cases q), fun q => absurd hno.2.1 q, fun _ => ⟨0, fun _ => 0, (by
    rw [ads]
    refine g1.to (fun j hj => ?_)
    rcases (show j = 0 ∨ j = 1 ∨ j = 2 by omega) with rfl | rfl | rfl
    · rfl
    · show Value.ref (gE G) = Value.ref _
      rw [if_pos hzz]
    · show Value.int 0 = Value.int _
      rw [hzz]
      rfl), fun q => absurd hzz q, fun j hj => (by omega)⟩⟩
  have hO' : z_OK (z_nw h K) ls (z_r K (hN h K) :: st) := (hO.mono hE'.1).push ⟨by show hN h K < z_u1 h.1 K (h.1 K + 1) K; unfold z_u1; rw [if_pos rfl]; exact Nat.lt_succ_self _, hno.2.2.1⟩
  have hk := k _ H2 locs2 la hH' (hE.tr hE') hO' hl0 (by rw [z_lm_ex hE' hO]; exact hl)
  rw [List.map_cons, z_sm_ex hE' hO] at hk
  have e : z_val (z_u2 ad K (hN h K) H.size) (z_r K (hN h K)) = Value.ref H.size := congrArg Value.ref ads
  rw [e] at hk
  exact hk
theorem zs_lapp (C : z_Cx p R s m args meth c G y cc nL d MC MS) {i K n : Nat} (hd : decode cc pc = .ok (.invokevirtual i, 3)) (hK : z_lst K = true) (h7 : K ≠ 207) (h1 : Cond.methodLink y.cls i z_yAdd ∈ z_tbl) (hd1 : 8 ≤ d) (hw : z_w st ≤ 8) (hz : hZ h K n < 100000) (hc : ce + z_gc (hZ h K n) ≤ MC) (hs : sl + z_gs (hZ h K n) ≤ MS)
    (k : z_At p l e R s m args below meth c G ad0 h0 nL Qs (pc + 3) ls (z_i 1 :: st) (sZ h K n (hZ h K n + 1)) (ce + z_gc (hZ h K n)) (sl + z_gs (hZ h K n))) : z_At p l e R s m args below meth c G ad0 h0 nL Qs pc ls (z_r (lT K) (hZ h K n) :: z_r K n :: st) h ce sl := by
  intro ad H locs la hH hE hO hl0 hl
  have hi := hO.pop.top
  have hx := hO.top
  have hKN := C.2.2.2.2.2.2.1
  have hno := z_lst_no hK
  obtain ⟨m', el, g1, g2, g3⟩ := (hH.2.2.2.2.1 K n hi.2 hi.1).2.2 hK
  have hlv : z_live h K n := z_live_of hno.2.2.1 hno.2.2.2.1 hi.1
  have hea : hZ h K n ≠ 0 → gB G ≤ ad (K + 1000) n ∧ ad (K + 1000) n ≠ ad K n := by
    intro hz0
    have hle : z_live h (K + 1000) n := Or.inr (Or.inl ⟨by omega, by omega, by simpa using hi.1, by simpa using hz0⟩)
    refine ⟨(hH.2.2.1 _ _ hle).1, fun z => ?_⟩
    have := hH.2.2.2.1 _ _ _ _ hle hlv z
    omega
  refine zj_callV (a := ad K n) (av := [.ref (ad (lT K) (hZ h K n))]) C ⟨cq_Jx4a65c_add_9ea2d, h1⟩ (jd_add l G (d - 1) (by omega) (a := ad K n) (V := z_LV G ad h K n m') (ea := ad (K + 1000) n) (z := hZ h K n) (x := ad (lT K) (hZ h K n)) (el := el) (mo := m') (by omega) rfl rfl rfl (hH.2.2.1 _ _ hlv).1 hea) (by omega) hH.1 (fun _ hal => ⟨g1, g2, (z_els_of hKN hH g3).moved hal, (z_any_obj hKN hH z_lT_cst.1 z_lT_cst.2 hx.1).moved hal⟩) (z_lrecv hKN g1) hl.1 (rest := st.map (z_val ad)) (by rw [z_w_eq]; exact hw) hd hc hs hl0 rfl (fun r H' locs' hq hl0 => ?_)
  obtain ⟨rfl, had⟩ := hq
  obtain ⟨ad', hH', hE'⟩ := hH.apw (h' := sZ h K n (hZ h K n + 1)) hK hi.1 rfl rfl (fun _ _ _ _ => rfl) (fun _ _ => rfl) rfl rfl g3 ⟨fun q => absurd q h7, fun _ => ⟨rfl, hx.1⟩⟩ had
  have hk := k ad' H' locs' la hH' (hE.tr hE') ((hO.pop.pop.mono hE'.1).push trivial) hl0 (by rw [z_lm_ex hE' hO]; exact hl)
  rw [List.map_cons, z_sm_ex hE' hO.pop.pop] at hk
  exact hk
theorem zs_badd (C : z_Cx p R s m args meth c G y cc nL d MC MS) {i i2 n : Nat} {x : Int32} (hd : decode cc pc = .ok (.invokestatic i, 3)) (hd2 : decode cc (pc + 3) = .ok (.invokevirtual i2, 3)) (h1 : Cond.methodLink y.cls i yJ6_valueOf_2dffe ∈ z_tbl) (h2 : Cond.methodLink y.cls i2 z_yAdd ∈ z_tbl) (hd1 : 8 ≤ d) (hw : z_w st ≤ 7) (hz : hZ h 207 n < 100000) (hc : ce + 1 + z_gc (hZ h 207 n) ≤ MC) (hs : sl + 1 + z_gs (hZ h 207 n) ≤ MS)
    (k : ∀ nb, z_At p l e R s m args below meth c G ad0 h0 nL Qs (pc + 6) ls (z_i 1 :: st) (sN (sI (sZ h 207 n (hZ h 207 n + 1)) 207 n (hZ h 207 n) x) 1300 nb) (ce + 1 + z_gc (hZ h 207 n)) (sl + 1 + z_gs (hZ h 207 n))) : z_At p l e R s m args below meth c G ad0 h0 nL Qs pc ls (z_i x :: z_r 207 n :: st) h ce sl := by
  intro ad H locs la hH hE hO hl0 hl
  have hi := hO.pop.top
  have hKN := C.2.2.2.2.2.2.1
  have hK : z_lst 207 = true := by decide
  -- behind valueOf: a world h1 that has the box
  have core : ∀ (ad1 : Nat → Nat → Nat) (h1 : z_H) (H1 : Heap) (a nb : Nat) (locs1 : List Loc), z_HR G ad1 h1 s H1 → z_EX h ad h1 ad1 → h1 = sN h 1300 nb → z_box G ad1 h1 H1 a x → (∀ x ∈ locs1, gB G ≤ x.base) → W p l e R s m args below meth c H1 locs1 (ce + 1) (sl + 1) Qs (F0 m (pc + 3) la (.ref a :: .ref (ad 207 n) :: st.map (z_val ad))) := by
    intro ad1 h1 H1 a nb locs1 hH1 hE1 hh hb hl1
    have e207 : hN h1 207 = hN h 207 := by rw [hh]; rfl
    have hi1 : n < hN h1 207 := by rw [e207]; exact hi.1
    have had1 : ad1 207 n = ad 207 n := hE1.2 207 n (by decide) hi.1
    have ez : hZ h1 207 n = hZ h 207 n := by rw [hh]; rfl
    obtain ⟨m', el, g1, g2, g3⟩ := (hH1.2.2.2.2.1 207 n (by decide) hi1).2.2 hK
    have hlv : z_live h1 207 n := z_live_of (by decide) (by decide) hi1
    have hea : hZ h1 207 n ≠ 0 → gB G ≤ ad1 1207 n ∧ ad1 1207 n ≠ ad1 207 n := by
      intro hz0
      have hle : z_live h1 1207 n := Or.inr (Or.inl ⟨by omega, by omega, hi1, hz0⟩)
      refine ⟨(hH1.2.2.1 _ _ hle).1, fun z => ?_⟩
      have := hH1.2.2.2.1 _ _ _ _ hle hlv z
      omega
    rw [← had1]
    have hbb := z_any_box hKN hH1 hb
    refine zj_callV (a := ad1 207 n) (av := [.ref a]) C ⟨cq_Jx4a65c_add_9ea2d, h2⟩ (jd_add l G (d - 1) (by omega) (a := ad1 207 n) (V := z_LV G ad1 h1 207 n m') (ea := ad1 1207 n) (z := hZ h1 207 n) (x := a) (el := el) (mo := m') (by omega) rfl rfl rfl (hH1.2.2.1 _ _ hlv).1 hea) (by omega) hH1.1 (fun _ hal => ⟨g1, g2, (z_els_of hKN hH1 g3).moved hal, hbb.1.moved hal⟩) (z_lrecv hKN g1) hl.1 (rest := st.map (z_val ad)) (by rw [z_w_eq]; omega) hd2 (by rw [ez]; exact hc) (by rw [ez]; exact hs) hl1 rfl (fun r H' locs' hq hl0 => ?_)
    obtain ⟨rfl, had⟩ := hq
    have ht : hI (sI (sZ h1 207 n (hZ h1 207 n + 1)) 207 n (hZ h1 207 n) x) 207 n (hZ h1 207 n) = x := if_pos ⟨rfl, rfl, rfl⟩
    obtain ⟨ad', hH', hE'⟩ := hH1.apw (h' := sI (sZ h1 207 n (hZ h1 207 n + 1)) 207 n (hZ h1 207 n) x) hK hi1 rfl rfl (fun _ _ _ q => if_neg (fun z => q ⟨z.1, z.2.1⟩)) (fun _ q => if_neg (fun z => q z.2.2)) rfl rfl g3 ⟨fun _ => (by rw [ht]; exact hb), fun q => absurd rfl q⟩ had
    have e4 : sI (sZ h1 207 n (hZ h1 207 n + 1)) 207 n (hZ h1 207 n) x = sN (sI (sZ h 207 n (hZ h 207 n + 1)) 207 n (hZ h 207 n) x) 1300 nb := by rw [ez, hh]; rfl
    have hE2 := hE1.tr hE'
    rw [e4] at hH' hE2
    have hk := k nb ad' H' locs' la hH' (hE.tr hE2) ((hO.pop.pop.mono hE2.1).push trivial) hl0 (by rw [z_lm_ex hE2 hO]; exact hl)
    rw [List.map_cons, z_sm_ex hE2 hO.pop.pop, ← ez] at hk
    exact hk
  refine zj_callS (av := [.int x]) C ⟨cq_J6_valueOf_2dffe, h1⟩ (jd_valueOf l G (d - 1) (by omega)) (by omega) hH.1 (fun _ _ => trivial) hl.1 (rest := .ref (ad 207 n) :: st.map (z_val ad)) (by rw [List.map_cons, List.sum_cons, z_w_eq]; show 1 + z_w st ≤ 8; omega) hd (by omega) (by omega) hl0 rfl (fun r H' locs' hq hl0 => ?_)
  rcases hq with ⟨q, hq, rfl, hv, rfl⟩ | ⟨rfl, b1, b2, b3⟩
  · have e1 : h = sN h 1300 (hN h 1300) := by
      unfold sN
      have : z_u1 h.1 1300 (hN h 1300) = h.1 := by
        funext K'
        unfold z_u1
        split
        · subst_vars; rfl
        · rfl
      rw [this]
    exact core ad h H' _ _ locs' hH z_EX.rf e1 (Or.inl ⟨q, hq, rfl, hv⟩) hl0
  · obtain ⟨hH1, hE1⟩ := hH.box b2 b3
    refine core _ _ H' H.size _ locs' hH1 hE1 rfl (Or.inr ⟨hN h 1300, ?_, (if_pos ⟨rfl, rfl⟩ : z_u2 ad 1300 (hN h 1300) H.size 1300 (hN h 1300) = H.size).symm, b1⟩) hl0
    show hN h 1300 < z_u1 h.1 1300 (hN h 1300 + 1) 1300
    unfold z_u1
    rw [if_pos rfl]
    exact Nat.lt_succ_self _
theorem zs_acopy (C : z_Cx p R s m args meth c G y cc nL d MC MS) {i i1 i2 : Nat} {sp dp n : Int32} (hd : decode cc pc = .ok (.invokestatic i, 3)) (h1 : Cond.methodLink y.cls i z_yCpy ∈ z_tbl) (hd1 : 1 ≤ d) (hw : z_w st ≤ 8) (g1 : ¬ sp < 0) (g2 : ¬ dp < 0) (g3 : ¬ n < 0) (g4 : sp.toNatClampNeg + n.toNatClampNeg ≤ 60) (g5 : dp.toNatClampNeg + n.toNatClampNeg ≤ 60)
    (k : z_At p l e R s m args below meth c G ad0 h0 nL Qs (pc + 3) ls st (z_cpy h i1 sp.toNatClampNeg i2 dp.toNatClampNeg n.toNatClampNeg) ce sl) : z_At p l e R s m args below meth c G ad0 h0 nL Qs pc ls (z_i n :: z_i dp :: z_r 100 i2 :: z_i sp :: z_r 100 i1 :: st) h ce sl := by
  intro ad H locs la hH hE hO hl0 hl
  have hi2 := hO.pop.pop.top
  have hi1 := hO.pop.pop.pop.pop.top
  have hKN := C.2.2.2.2.2.2.1
  have c1 := (hH.2.2.2.2.1 100 i1 hi1.2 hi1.1).2.1 (by decide)
  have c2 := (hH.2.2.2.2.1 100 i2 hi2.2 hi2.1).2.1 (by decide)
  have hlv := hH.2.2.1 100 i2 (z_live_of (by decide) (by decide) hi2.1)
  refine zj_cpy C h1 (a0 := ad 100 i1) (a := ad 100 i2) (cA := gA G 1) (n0 := 60) (n1 := 60) (f := aVal h 100 i1) (g := aVal h 100 i2) (ty := .long) ((z_arrT hKN (z_aCod3 100)).1) c1 c2 g1 g2 g3 g4 g5 (fun T kd dc _ _ _ vm' _ j _ => ⟨rfl, trivial⟩) hd1 hl.1 (rest := st.map (z_val ad)) (by rw [z_w_eq]; exact hw) hd hlv.1 hl0 (fun H' locs' a1 a2 a3 hl0 => ?_)
  have hn : hN (z_cpy h i1 sp.toNatClampNeg i2 dp.toNatClampNeg n.toNatClampNeg) = hN h := rfl
  refine k ad H' locs' la (hH.set (K := 100) (i := i2) (by decide) (by decide) hi2.1 a2 a3 rfl rfl (fun _ _ _ _ => rfl) (fun K' i' k' q => if_neg (fun z => q ⟨z.1, z.2.1⟩)) (fun _ _ _ _ => rfl) ⟨fun q => absurd q (by decide), fun _ => ?_, fun q => absurd q (by decide)⟩ (fun k q hq => hH.2.2.2.2.2 100 i2 k q (by decide) hi2.1 hq)) ⟨hE.1, hE.2⟩ hO.pop.pop.pop.pop.pop hl0 hl
  rw [a1]
  congr 2
  funext j
  show va_cpy _ _ _ _ _ j = Value.long (if (100 : Nat) = 100 ∧ i2 = i2 ∧ dp.toNatClampNeg ≤ j ∧ j < dp.toNatClampNeg + n.toNatClampNeg then h.2.2.1 100 i1 (sp.toNatClampNeg + (j - dp.toNatClampNeg)) else h.2.2.1 100 i2 j)
  unfold va_cpy
  by_cases q : dp.toNatClampNeg ≤ j ∧ j < dp.toNatClampNeg + n.toNatClampNeg
  · rw [if_pos q, if_pos ⟨rfl, rfl, q.1, q.2⟩]
    rfl
  · rw [if_neg q, if_neg (fun z => q ⟨z.2.2.1, z.2.2.2⟩)]
    rfl
end ZL
