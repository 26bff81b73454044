/-! the small machine against the machine: calls -/
theorem z_good {y : MethodName} {cc : ByteArray} {mL : Nat} {rt : Option FieldType} (h : Cond.code y cc mL rt ∈ z_tbl) : GoodIn z_tbl (Cond.code y cc mL rt :: z_tbl) := fun w hw => by
  have hw' : w ∈ z_tbl := by
    rcases List.mem_cons.mp hw with rfl | hw
    · exact h
    · exact hw
  exact ⟨hw', good_of_word (List.mem_filter.mp hw').2⟩
theorem z_CP_mono {l : Launch} {G : z_G} {d MC MS : Nat} {own : String} {idx kd : Nat} {as : List z_V} {h : z_H} {ce sl : Nat} {k k' : Option z_V → z_H → Nat → Nat → Prop} (hk : ∀ r h ce sl, k r h ce sl → k' r h ce sl) (hc : z_CP l G d MC MS own idx kd as h ce sl k) : z_CP l G d MC MS own idx kd as h ce sl k' := by
  obtain ⟨hd, ⟨y', cc', mL, rt, mc, ms, Q, q1, q2, q3, q4, q5, q6⟩ | ⟨q1, q2, q3, c, q4, q5⟩⟩ := hc
  · exact ⟨hd, Or.inl ⟨y', cc', mL, rt, mc, ms, Q, q1, q2, q3, q4, q5, fun r h' hq => hk _ _ _ _ (q6 r h' hq)⟩⟩
  · refine ⟨hd, Or.inr ⟨q1, q2, q3, c, q4, ?_⟩⟩
    split at q5
    · exact hk _ _ _ _ q5
    · exact hk _ _ _ _ q5
    · exact hk _ _ _ _ q5
    · exact hk _ _ _ _ q5
    · exact q5.elim
section ZQ
variable {p : Program} {l : Launch} {e : Env} {R : Room} {s : State} {m : MethodId} {args : Array Value} {below : List Frame} {meth : Method} {c : Code} {G : z_G} {ad0 : Nat → Nat → Nat} {h0 : z_H} {nL : Nat} {Qs : State → Prop} {y : MethodName} {cc : ByteArray} {d MC MS : Nat}
variable {pc : Nat} {ls : z_L} {st : z_S} {h : z_H} {ce sl : Nat}
/-- the callee's start: any heap that is this world's -/
def z_Pm (G : z_G) (ad : Nat → Nat → Nat) (as : List z_V) (h : z_H) : Array Value → State → Prop := fun v U => v = (as.map (z_val ad)).toArray ∧ z_RP G ad h U ∧ ∀ x ∈ as, z_ok h x
theorem z_blind {ad : Nat → Nat → Nat} {as : List z_V} {h : z_H} : FrameBlind (z_Pm G ad as h) := fun a U g mk ⟨q1, ⟨q2, q3⟩, q4⟩ => ⟨q1, ⟨q2.moved (U := U.calling g mk a) (Vm.Alike.refl U.vm), q3.moved (U := U.calling g mk a) (Vm.Alike.refl U.vm)⟩, q4⟩
theorem z_pre {ad : Nat → Nat → Nat} {as : List z_V} {h : z_H} {H : Heap} (C : z_Cx p R s m args meth c G y cc nL d MC MS) (hH : z_HR G ad h s H) (ha : ∀ x ∈ as, z_ok h x) : ∀ U : State, U.heap = H → s.WarmedH U.vm → z_Pm G ad as h (as.map (z_val ad)).toArray U :=
  fun U hU hW => ⟨rfl, ⟨C.2.2.2.2.2.2.1.moved hW.alike, by rw [hU]; exact hH.moved hW.alike⟩, ha⟩
theorem z_callB {y' : MethodName} {cc' : ByteArray} {mL : Nat} {rt : Option FieldType} {idx kd n mc ms : Nat} (C : z_Cx p R s m args meth c G y cc nL d MC MS) (hd : 1 ≤ d) (hck : z_ck y.cls idx kd y' cc' mL rt n) :
    CallB R s args y.cls idx y' cc' mL rt (Cond.code y' cc' mL rt :: z_tbl) (z_rm (d - 1) mc ms) mc ms (if kd = 1 then n else n - 1) := by
  obtain ⟨⟨k1, k2, k456, k7, -⟩, k3⟩ := hck
  have hts := C.2.2.2.2.2.1
  have h1 := C.2.2.2.2.2.2.2.1
  have h2 := C.2.2.2.2.2.2.2.2.1
  refine callB_of _ hts (z_good k1) rfl rfl rfl (hts _ k2) (hts _ k3) k456 ⟨?_, ?_⟩
  · show d - 1 + 1 ≤ R.frames
    omega
  · show 8 + (mL + 11) + 40 * (d - 1) ≤ R.locals
    omega
/-- behind a call -/
theorem z_after {ad : Nat → Nat → Nat} {H : Heap} {locs : List Loc} {la : Array Slot} {stk : List Value} {mc ms : Nat} {Q : Option z_V → z_H → Prop} {Qa : State → Outcome → State → Prop} (hE : z_EX h0 ad0 h ad) (hO : z_OK h ls st) (hl0 : ∀ x ∈ locs, gB G ≤ x.base) (hl : lv_has la nL (z_lm ad ls))
    (hQa : ∀ st₀ o t, Qa st₀ o t → ∃ (ad' : Nat → Nat → Nat) (r : Option z_V) (h' : z_H), o = .returned (r.map (z_val ad')) ∧ z_RP G ad' h' t ∧ z_EX h ad h' ad' ∧ (∀ x, r = some x → z_ok h' x) ∧ Q r h')
    (hrun : va_Run p l e R s m args below meth c H locs ce sl mc ms (F0 m pc la stk) (st.map (z_val ad)) Qa (z_A G))
    (k : ∀ r h', Q r h' → z_At p l e R s m args below meth c G ad0 h0 nL Qs (pc + 3) ls (r.toList ++ st) h' (ce + mc) (sl + ms)) : W p l e R s m args below meth c H locs ce sl Qs (F0 m pc la stk) := by
  intro T hT X
  obtain ⟨v, st₀, t, T', L, g0, X', hL, e1, e2, hq, hgo⟩ := hrun T hT X
  obtain ⟨ad', r, h', hv, hRP, hE', hok, hQ⟩ := hQa _ _ _ hq
  cases hv
  have hal : t.vm.Alike s.vm := by rw [← e2]; exact X'.warmed.alike.symm
  have hO' : z_OK h' ls (r.toList ++ st) := by
    refine ⟨fun q hq => (hO.1 q hq).mono hE'.1, fun v hv => ?_⟩
    rcases List.mem_append.mp hv with hv | hv
    · cases r with
      | none => cases hv
      | some x =>
        have : v = x := by simpa using hv
        rw [this]
        exact hok x rfl
    · exact (hO.2 v hv).mono hE'.1
  have hW := k r h' hQ ad' T'.heap (locs ++ L) la (by rw [e1]; exact hRP.2.moved hal) (hE.tr hE') hO' (fun x hx => by
    rcases List.mem_append.mp hx with hx | hx
    · exact hl0 x hx
    · exact hL x hx) (by rw [z_lm_ex hE' hO]; exact hl)
  rw [List.map_append, z_sm_ex hE' hO] at hW
  obtain ⟨t2, a1, b1⟩ := hW T' rfl X'
  refine ⟨t2, hgo t2 ?_, b1⟩
  have e : (r.map (z_val ad')).toList = r.toList.map (z_val ad') := by cases r <;> rfl
  rw [e]
  exact a1
theorem zs_callV (C : z_Cx p R s m args meth c G y cc nL d MC MS) {idx : Nat} {as : List z_V} (hd : decode cc pc = .ok (.invokevirtual idx, 3)) (hw : z_w st ≤ 8)
    (hcp : z_CP l G d MC MS y.cls idx 0 as h ce sl fun r h ce sl => z_At p l e R s m args below meth c G ad0 h0 nL Qs (pc + 3) ls (r.toList ++ st) h ce sl) : z_At p l e R s m args below meth c G ad0 h0 nL Qs pc ls (as.reverse ++ st) h ce sl := by
  intro ad H locs la hH hE hO hl0 hl
  obtain ⟨hd1, ⟨y', cc', mL, rt, mc, ms, Q, hck, hrc, hMT, hmc, hms, hk⟩ | ⟨hkd, -⟩⟩ := hcp
  rotate_left
  · exact absurd hkd (by decide)
  rcases as with _ | ⟨v, as⟩
  · exact hrc.elim
  rcases v with x | x | _ | q
  · exact hrc.elim
  · exact hrc.elim
  · exact hrc.elim
  obtain ⟨hK, hR⟩ := hrc
  have hO1 : z_OK h ls st := ⟨hO.1, fun v hv => hO.2 v (List.mem_append_right _ hv)⟩
  have ha : ∀ x ∈ (z_q (some q) :: as), z_ok h x := fun x hx => hO.2 x (List.mem_append_left _ (List.mem_reverse.mpr hx))
  have hi := ha _ List.mem_cons_self
  obtain ⟨cell, q1, q2, q3, q4⟩ := (hH.2.2.2.2.1 q.1 q.2 hi.2 hi.1).1 hK
  have hKn := C.2.2.2.2.2.2.1.1.1 q.1 _ (z_cl hK)
  have cb := z_callB (mc := mc) (ms := ms) C hd1 hck
  obtain ⟨k9, k10⟩ := hck.1.2.2.2.2
  have hts := C.2.2.2.2.2.1
  have hrun := va_runV (C := y'.cls) (b := ad q.1 q.2) (As := as.map (z_val ad)) (rest := st.map (z_val ad)) (g := F0 m pc la ((((z_q (some q)) :: as).reverse ++ st).map (z_val ad))) (H := H) (locs := locs) (cells := ce) (slots := sl) (below := below) (meth := meth) (e := e)
    (show CallFix p m c cc nL s args z_tbl y.cls from ⟨C.1, C.2.1, C.2.2.1, C.2.2.2.1, hts⟩) (hMT ad) (show CallW R s args y.cls y'.cls idx y' cc' mL rt _ _ mc ms as.length from ⟨by simpa using cb, hts _ k9, hts _ k10⟩)
    ⟨z_blind, ⟨cell, q1, by rw [q3]; rfl, by rw [q2, ← hR]; exact hKn.2.1⟩, z_pre C hH ha⟩ rfl (by simp) hl.1 (by simp [z_val]) (by rw [z_w_eq]; show 2 * 0 + z_w st ≤ 8; omega) hd ⟨by rw [C.2.2.2.2.2.2.2.2.2.1]; exact hmc, by rw [C.2.2.2.2.2.2.2.2.2.2]; exact hms⟩
  exact z_after hE hO1 hl0 hl (fun _ _ _ q => q) hrun hk
theorem zs_callS (C : z_Cx p R s m args meth c G y cc nL d MC MS) {idx : Nat} {as : List z_V} (hd : decode cc pc = .ok (.invokestatic idx, 3)) (hw : z_w st ≤ 8)
    (hcp : z_CP l G d MC MS y.cls idx 1 as h ce sl fun r h ce sl => z_At p l e R s m args below meth c G ad0 h0 nL Qs (pc + 3) ls (r.toList ++ st) h ce sl) : z_At p l e R s m args below meth c G ad0 h0 nL Qs pc ls (as.reverse ++ st) h ce sl := by
  intro ad H locs la hH hE hO hl0 hl
  have hts := C.2.2.2.2.2.1
  have hlo := C.2.2.2.2.2.2.2.2.1
  have hfr := C.2.2.2.2.2.2.2.1
  obtain ⟨hd1, ⟨y', cc', mL, rt, mc, ms, Q, hck, hrc, hMT, hmc, hms, hk⟩ | ⟨-, hmc, hms, q, hlk, hm⟩⟩ := hcp
  rotate_left
  · have hO1 : z_OK h ls st := ⟨hO.1, fun v hv => hO.2 v (List.mem_append_right _ hv)⟩
    have hR1 : ce ≤ R.cells := by rw [C.2.2.2.2.2.2.2.2.2.1]; exact hmc
    have hR2 : sl ≤ R.slots := by rw [C.2.2.2.2.2.2.2.2.2.2]; exact hms
    have hsz : c.maxLocals = la.size := by rw [C.2.2.1, hl.1]
    split at hm
    · exact va_mmax (rest := st.map (z_val ad)) C.1 C.2.1 hsz C.2.2.2.1 (hts _ hlk) (hts _ jq_J9_max_7cf53.1) (hts _ jq_ini) (hts _ jq_J9_max_7cf53.2) (by omega) (by rw [z_w_eq]; omega) hR1 hR2 hd (hm ad H locs la hH hE (hO1.push trivial) hl0 hl)
    · exact va_mmin (rest := st.map (z_val ad)) C.1 C.2.1 hsz C.2.2.2.1 (hts _ hlk) (hts _ jq_J9_min_7cf53.1) (hts _ jq_ini) (hts _ jq_J9_min_7cf53.2) (by omega) (by rw [z_w_eq]; omega) hR1 hR2 hd (hm ad H locs la hH hE (hO1.push trivial) hl0 hl)
    · exact va_mmax_long (rest := st.map (z_val ad)) C.1 C.2.1 hsz C.2.2.2.1 (hts _ hlk) (hts _ jq_J9_max_f86c9.1) (hts _ jq_ini) (hts _ jq_J9_max_f86c9.2) (by omega) (by rw [z_w_eq]; omega) hR1 hR2 hd (hm ad H locs la hH hE (hO1.push trivial) hl0 hl)
    · exact va_mmin_long (rest := st.map (z_val ad)) C.1 C.2.1 hsz C.2.2.2.1 (hts _ hlk) (hts _ jq_J9_min_f86c9.1) (hts _ jq_ini) (hts _ jq_J9_min_f86c9.2) (by omega) (by rw [z_w_eq]; omega) hR1 hR2 hd (hm ad H locs la hH hE (hO1.push trivial) hl0 hl)
    · exact hm.elim
  have hO1 : z_OK h ls st := ⟨hO.1, fun v hv => hO.2 v (List.mem_append_right _ hv)⟩
  have ha : ∀ x ∈ as, z_ok h x := fun x hx => hO.2 x (List.mem_append_left _ (List.mem_reverse.mpr hx))
  have cb := z_callB (mc := mc) (ms := ms) C hd1 hck
  have k9 := hck.1.2.2.2.2
  have hts := C.2.2.2.2.2.1
  have hrun := va_runS (As := as.map (z_val ad)) (rest := st.map (z_val ad)) (g := F0 m pc la ((as.reverse ++ st).map (z_val ad))) (H := H) (locs := locs) (cells := ce) (slots := sl) (below := below) (meth := meth) (e := e)
    (show CallFix p m c cc nL s args z_tbl y.cls from ⟨C.1, C.2.1, C.2.2.1, C.2.2.2.1, hts⟩) (hMT ad) (n := as.length) ⟨by simpa using cb, hts _ k9⟩
    ⟨z_blind, z_pre C hH ha⟩ rfl (by simp) hl.1 (by simp) (by rw [z_w_eq]; show 2 * 0 + z_w st ≤ 8; omega) hd ⟨by rw [C.2.2.2.2.2.2.2.2.2.1]; exact hmc, by rw [C.2.2.2.2.2.2.2.2.2.2]; exact hms⟩
  exact z_after hE hO1 hl0 hl (fun _ _ _ q => q) hrun hk
theorem zs_callI (C : z_Cx p R s m args meth c G y cc nL d MC MS) {idx : Nat} {as : List z_V} (hd : decode cc pc = .ok (.invokespecial idx, 3)) (hw : z_w st ≤ 8)
    (hcp : z_CP l G d MC MS y.cls idx 2 as h ce sl fun r h ce sl => z_At p l e R s m args below meth c G ad0 h0 nL Qs (pc + 3) ls (r.toList ++ st) h ce sl) : z_At p l e R s m args below meth c G ad0 h0 nL Qs pc ls (as.reverse ++ st) h ce sl := by
  intro ad H locs la hH hE hO hl0 hl
  obtain ⟨hd1, ⟨y', cc', mL, rt, mc, ms, Q, hck, hrc, hMT, hmc, hms, hk⟩ | ⟨hkd, -⟩⟩ := hcp
  rotate_left
  · exact absurd hkd (by decide)
  rcases as with _ | ⟨v, as⟩
  · exact hrc.elim
  rcases v with x | x | _ | q
  · exact hrc.elim
  · exact hrc.elim
  · exact hrc.elim
  have hO1 : z_OK h ls st := ⟨hO.1, fun v hv => hO.2 v (List.mem_append_right _ hv)⟩
  have ha : ∀ x ∈ (z_q (some q) :: as), z_ok h x := fun x hx => hO.2 x (List.mem_append_left _ (List.mem_reverse.mpr hx))
  have cb := z_callB (mc := mc) (ms := ms) C hd1 hck
  obtain ⟨k9, k10, k11⟩ := hck.1.2.2.2.2
  subst k11
  have hts := C.2.2.2.2.2.1
  have hrun := va_runI (b := ad q.1 q.2) (As := as.map (z_val ad)) (rest := st.map (z_val ad)) (g := F0 m pc la ((((z_q (some q)) :: as).reverse ++ st).map (z_val ad))) (H := H) (locs := locs) (cells := ce) (slots := sl) (below := below) (meth := meth) (e := e)
    (show CallFix p m c cc nL s args z_tbl y.cls from ⟨C.1, C.2.1, C.2.2.1, C.2.2.2.1, hts⟩) (hMT ad) (n := as.length) ⟨by simpa using cb, k10, hts _ k9⟩
    ⟨z_blind, z_pre C hH ha⟩ rfl (by simp) hl.1 (by simp [z_val]) (by rw [z_w_eq]; show 2 * 0 + z_w st ≤ 8; omega) hd ⟨by rw [C.2.2.2.2.2.2.2.2.2.1]; exact hmc, by rw [C.2.2.2.2.2.2.2.2.2.2]; exact hms⟩
  exact z_after hE hO1 hl0 hl (fun _ _ _ q => q) hrun hk
end ZQ
