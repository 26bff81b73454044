/-! raw contracts of the JDK's methods: over the heap itself -/
section ZJ
variable {p : Program} {l : Launch} {e : Env} {R : Room} {s : State} {m : MethodId} {args : Array Value} {below : List Frame} {meth : Method} {c : Code} {G : z_G} {nL : Nat} {Qs : State → Prop} {y : MethodName} {cc : ByteArray} {d MC MS : Nat}
variable {pc : Nat} {H : Heap} {locs : List Loc} {la : Array Slot} {rest : List Value} {ce sl : Nat}
def z_QM (G : z_G) (Rr : Heap → Option Value → Heap → Prop) : Array Value → State → Outcome → State → Prop := fun _ st o t => ∃ r : Option Value, o = .returned r ∧ z_KN G t ∧ Rr st.heap r t.heap
def z_RM (l : Launch) (G : z_G) (d : Nat) (y : MethodName) (cc : ByteArray) (mL : Nat) (rt : Option FieldType) (av : List Value) (mc ms : Nat) (P : Vm → Heap → Prop) (Rr : Heap → Option Value → Heap → Prop) : Prop :=
  Met l y (Cond.code y cc mL rt :: z_tbl) (z_rm d mc ms) (fun v U => v = av.toArray ∧ z_KN G U ∧ z_OLD G U U.heap ∧ P U.vm U.heap) (z_QM G Rr) mc ms (z_A G)
theorem zj_blind {av : List Value} {P : Vm → Heap → Prop} : FrameBlind (fun v U => v = av.toArray ∧ z_KN G U ∧ z_OLD G U U.heap ∧ P U.vm U.heap) := fun a U g mk ⟨q1, q2, q3, q4⟩ => ⟨q1, q2.moved (U := U.calling g mk a) (Vm.Alike.refl U.vm), q3.moved (U := U.calling g mk a) (Vm.Alike.refl U.vm), q4⟩
theorem zj_pre {av : List Value} {P : Vm → Heap → Prop} (C : z_Cx p R s m args meth c G y cc nL d MC MS) (hold : z_OLD G s H) (hP : ∀ vm, s.vm.Alike vm → P vm H) : ∀ U : State, U.heap = H → s.WarmedH U.vm → av.toArray = av.toArray ∧ z_KN G U ∧ z_OLD G U U.heap ∧ P U.vm U.heap :=
  fun U hU hW => ⟨rfl, C.2.2.2.2.2.2.1.moved hW.alike, by rw [hU]; exact hold.moved hW.alike, by rw [hU]; exact hP _ hW.alike⟩
/-- behind a raw call -/
theorem zj_after {stk : List Value} {mc ms : Nat} {Rr : Heap → Option Value → Heap → Prop} {Qa : State → Outcome → State → Prop} (hl0 : ∀ x ∈ locs, gB G ≤ x.base) (hQa : ∀ st₀ o t, Qa st₀ o t → ∃ r : Option Value, o = .returned r ∧ z_KN G t ∧ Rr st₀.heap r t.heap)
    (hrun : va_Run p l e R s m args below meth c H locs ce sl mc ms (F0 m pc la stk) rest Qa (z_A G))
    (kk : ∀ (r : Option Value) (H' : Heap) (locs' : List Loc), Rr H r H' → (∀ x ∈ locs', gB G ≤ x.base) → W p l e R s m args below meth c H' locs' (ce + mc) (sl + ms) Qs (F0 m (pc + 3) la (r.toList ++ rest))) : W p l e R s m args below meth c H locs ce sl Qs (F0 m pc la stk) := by
  intro T hT X
  obtain ⟨v, st₀, t, T', L, g0, X', hL, e1, e2, hq, hgo⟩ := hrun T hT X
  obtain ⟨r, hv, -, hR⟩ := hQa _ _ _ hq
  cases hv
  rw [g0] at hR
  obtain ⟨t2, a1, b1⟩ := kk v T'.heap (locs ++ L) (by rw [e1]; exact hR) (fun x hx => by
    rcases List.mem_append.mp hx with hx | hx
    · exact hl0 x hx
    · exact hL x hx) T' rfl X'
  exact ⟨t2, hgo t2 a1, b1⟩
theorem zj_callS (C : z_Cx p R s m args meth c G y cc nL d MC MS) {y' : MethodName} {cc' : ByteArray} {mL' idx mc ms : Nat} {rt' : Option FieldType} {av : List Value} {P : Vm → Heap → Prop} {Rr : Heap → Option Value → Heap → Prop} (hck : z_ck y.cls idx 1 y' cc' mL' rt' av.length) (hM : z_RM l G (d - 1) y' cc' mL' rt' av mc ms P Rr) (hd1 : 1 ≤ d) (hold : z_OLD G s H) (hP : ∀ vm, s.vm.Alike vm → P vm H)
    (hl : la.size = nL) (hw : (rest.map fun v => v.category).sum ≤ 8) (hd : decode cc pc = .ok (.invokestatic idx, 3)) (hc : ce + mc ≤ MC) (hs : sl + ms ≤ MS) (hl0 : ∀ x ∈ locs, gB G ≤ x.base) {stk : List Value} (hstk : stk = av.reverse ++ rest)
    (kk : ∀ (r : Option Value) (H' : Heap) (locs' : List Loc), Rr H r H' → (∀ x ∈ locs', gB G ≤ x.base) → W p l e R s m args below meth c H' locs' (ce + mc) (sl + ms) Qs (F0 m (pc + 3) la (r.toList ++ rest))) : W p l e R s m args below meth c H locs ce sl Qs (F0 m pc la stk) := by
  have cb := z_callB (mc := mc) (ms := ms) C hd1 hck
  have hts := C.2.2.2.2.2.1
  have hrun := va_runS (As := av) (rest := rest) (g := F0 m pc la stk) (H := H) (locs := locs) (cells := ce) (slots := sl) (below := below) (meth := meth) (e := e)
    (show CallFix p m c cc nL s args z_tbl y.cls from ⟨C.1, C.2.1, C.2.2.1, C.2.2.2.1, hts⟩) hM (n := av.length) ⟨by simpa using cb, hts _ hck.1.2.2.2.2⟩
    ⟨zj_blind, zj_pre C hold hP⟩ rfl rfl hl hstk (by show 2 * 0 + _ ≤ 8; omega) hd ⟨by rw [C.2.2.2.2.2.2.2.2.2.1]; exact hc, by rw [C.2.2.2.2.2.2.2.2.2.2]; exact hs⟩
  exact zj_after hl0 (fun _ _ _ q => q) hrun kk
theorem zj_callV (C : z_Cx p R s m args meth c G y cc nL d MC MS) {y' : MethodName} {cc' : ByteArray} {mL' idx mc ms a : Nat} {rt' : Option FieldType} {av : List Value} {P : Vm → Heap → Prop} {Rr : Heap → Option Value → Heap → Prop} (hck : z_ck y.cls idx 0 y' cc' mL' rt' (av.length + 1)) (hM : z_RM l G (d - 1) y' cc' mL' rt' (.ref a :: av) mc ms P Rr) (hd1 : 1 ≤ d) (hold : z_OLD G s H) (hP : ∀ vm, s.vm.Alike vm → P vm H)
    (hrc : ∃ cell : Cell, H[a]? = some cell ∧ cell.vm.isStatics = false ∧ s.vm.findClass y'.cls = some cell.cls) (hl : la.size = nL) (hw : (rest.map fun v => v.category).sum ≤ 8) (hd : decode cc pc = .ok (.invokevirtual idx, 3)) (hc : ce + mc ≤ MC) (hs : sl + ms ≤ MS) (hl0 : ∀ x ∈ locs, gB G ≤ x.base) {stk : List Value} (hstk : stk = av.reverse ++ .ref a :: rest)
    (kk : ∀ (r : Option Value) (H' : Heap) (locs' : List Loc), Rr H r H' → (∀ x ∈ locs', gB G ≤ x.base) → W p l e R s m args below meth c H' locs' (ce + mc) (sl + ms) Qs (F0 m (pc + 3) la (r.toList ++ rest))) : W p l e R s m args below meth c H locs ce sl Qs (F0 m pc la stk) := by
  have cb := z_callB (mc := mc) (ms := ms) C hd1 hck
  have hts := C.2.2.2.2.2.1
  obtain ⟨k9, k10⟩ := hck.1.2.2.2.2
  have hrun := va_runV (C := y'.cls) (b := a) (As := av) (rest := rest) (g := F0 m pc la stk) (H := H) (locs := locs) (cells := ce) (slots := sl) (below := below) (meth := meth) (e := e)
    (show CallFix p m c cc nL s args z_tbl y.cls from ⟨C.1, C.2.1, C.2.2.1, C.2.2.2.1, hts⟩) hM (show CallW R s args y.cls y'.cls idx y' cc' mL' rt' _ _ mc ms av.length from ⟨by simpa using cb, hts _ k9, hts _ k10⟩)
    ⟨zj_blind, hrc, zj_pre C hold hP⟩ rfl rfl hl hstk (by show 2 * 0 + _ ≤ 8; omega) hd ⟨by rw [C.2.2.2.2.2.2.2.2.2.1]; exact hc, by rw [C.2.2.2.2.2.2.2.2.2.2]; exact hs⟩
  exact zj_after hl0 (fun _ _ _ q => q) hrun kk
theorem zj_callI (C : z_Cx p R s m args meth c G y cc nL d MC MS) {y' : MethodName} {cc' : ByteArray} {mL' idx mc ms a : Nat} {rt' : Option FieldType} {av : List Value} {P : Vm → Heap → Prop} {Rr : Heap → Option Value → Heap → Prop} (hck : z_ck y.cls idx 2 y' cc' mL' rt' (av.length + 1)) (hM : z_RM l G (d - 1) y' cc' mL' rt' (.ref a :: av) mc ms P Rr) (hd1 : 1 ≤ d) (hold : z_OLD G s H) (hP : ∀ vm, s.vm.Alike vm → P vm H)
    (hl : la.size = nL) (hw : (rest.map fun v => v.category).sum ≤ 8) (hd : decode cc pc = .ok (.invokespecial idx, 3)) (hc : ce + mc ≤ MC) (hs : sl + ms ≤ MS) (hl0 : ∀ x ∈ locs, gB G ≤ x.base) {stk : List Value} (hstk : stk = av.reverse ++ .ref a :: rest)
    (kk : ∀ (r : Option Value) (H' : Heap) (locs' : List Loc), Rr H r H' → (∀ x ∈ locs', gB G ≤ x.base) → W p l e R s m args below meth c H' locs' (ce + mc) (sl + ms) Qs (F0 m (pc + 3) la (r.toList ++ rest))) : W p l e R s m args below meth c H locs ce sl Qs (F0 m pc la stk) := by
  have cb := z_callB (mc := mc) (ms := ms) C hd1 hck
  have hts := C.2.2.2.2.2.1
  obtain ⟨k9, k10, k11⟩ := hck.1.2.2.2.2
  subst k11
  have hrun := va_runI (b := a) (As := av) (rest := rest) (g := F0 m pc la stk) (H := H) (locs := locs) (cells := ce) (slots := sl) (below := below) (meth := meth) (e := e)
    (show CallFix p m c cc nL s args z_tbl y.cls from ⟨C.1, C.2.1, C.2.2.1, C.2.2.2.1, hts⟩) hM (n := av.length) ⟨by simpa using cb, k10, hts _ k9⟩
    ⟨zj_blind, zj_pre C hold hP⟩ rfl rfl hl hstk (by show 2 * 0 + _ ≤ 8; omega) hd ⟨by rw [C.2.2.2.2.2.2.2.2.2.1]; exact hc, by rw [C.2.2.2.2.2.2.2.2.2.2]; exact hs⟩
  exact zj_after hl0 (fun _ _ _ q => q) hrun kk
/-- a raw method by its walk -/
theorem zj_meth {mL : Nat} {rt : Option FieldType} {av : List Value} {mc ms : Nat} {P : Vm → Heap → Prop} {Rr : Heap → Option Value → Heap → Prop} (hy : plainName y.cls = true) (hw : (lg_sl av).length ≤ mL)
    (H0 : ∀ (p : Program) (e : Env) (s : State) (m : MethodId) (below : List Frame) (meth : Method) (c : Code) (la : Array Slot), z_Cx p (z_rm d mc ms) s m av.toArray meth c G y cc mL d mc ms → meth.locks = false → meth.sig.returnType = rt → z_OLD G s s.heap → P s.vm s.heap → lv_has la mL (lv_args 0 av) →
      W p l e (z_rm d mc ms) s m av.toArray below meth c s.heap [] 0 0 (MQ below (z_QM G Rr) av.toArray s mc ms (z_A G)) (F0 m 0 la [])) : z_RM l G d y cc mL rt av mc ms P Rr := by
  refine Met.ofW (cc := cc) (maxL := mL) (ret := rt) hy rfl ?_
  intro p e s m args below meth c s₁ B hml hv
  obtain ⟨rfl, hKN, hold, hP⟩ := hv
  have hts := atoms_spec (ws := Cond.code y cc mL rt :: z_tbl) B.pre
  rw [lg_entry_eq]
  exact H0 p e s m below meth c _ ⟨B.exec, B.bytes, hml, findClass_of_methodNamed B.named, (name_of_methodNamed B.named B.method).1, fun w hw => hts w (List.mem_cons_of_mem _ hw), hKN, rfl, Nat.le_refl _, rfl, rfl⟩ B.notSynchronized B.returns hold hP (lv_entry av hw)
/-- its ends -/
theorem zj_iret (C : z_Cx p R s m args meth c G y cc nL d MC MS) {Rr : Heap → Option Value → Heap → Prop} {x : Int32} (hlk : meth.locks = false) (hr : meth.sig.returnType = some .int) (hd : decode cc pc = .ok (.ireturn, 1)) (hl0 : ∀ x ∈ locs, gB G ≤ x.base) (hc : ce ≤ MC) (hs : sl ≤ MS) (hq : Rr s.heap (some (.int x)) H) : W p l e R s m args below meth c H locs ce sl (MQ below (z_QM G Rr) args s MC MS (z_A G)) (F0 m pc la [.int x]) := by
  refine W.widen hc hs ?_
  exact W.iret C.1 C.2.1 hr (fun t ht hW => ⟨_, rfl, C.2.2.2.2.2.2.1.moved hW.alike, by rw [ht]; exact hq⟩) hl0 hd hlk
theorem zj_zret (C : z_Cx p R s m args meth c G y cc nL d MC MS) {Rr : Heap → Option Value → Heap → Prop} (hlk : meth.locks = false) (hr : meth.sig.returnType = some .boolean) (hd : decode cc pc = .ok (.ireturn, 1)) (hl0 : ∀ x ∈ locs, gB G ≤ x.base) (hc : ce ≤ MC) (hs : sl ≤ MS) (hq : Rr s.heap (some (.int 1)) H) : W p l e R s m args below meth c H locs ce sl (MQ below (z_QM G Rr) args s MC MS (z_A G)) (F0 m pc la [.int 1]) := by
  refine W.widen hc hs ?_
  exact W.zret C.1 C.2.1 hr rfl (fun t ht hW => ⟨_, rfl, C.2.2.2.2.2.2.1.moved hW.alike, by rw [ht]; exact hq⟩) hl0 hd hlk
theorem zj_vret (C : z_Cx p R s m args meth c G y cc nL d MC MS) {Rr : Heap → Option Value → Heap → Prop} (hlk : meth.locks = false) (hr : meth.sig.returnType = none) (hd : decode cc pc = .ok (.return_, 1)) (hl0 : ∀ x ∈ locs, gB G ≤ x.base) (hc : ce ≤ MC) (hs : sl ≤ MS) (hq : Rr s.heap none H) : W p l e R s m args below meth c H locs ce sl (MQ below (z_QM G Rr) args s MC MS (z_A G)) (F0 m pc la []) := by
  refine W.widen hc hs ?_
  exact W.vret C.1 C.2.1 hr (fun t ht hW => ⟨_, rfl, C.2.2.2.2.2.2.1.moved hW.alike, by rw [ht]; exact hq⟩) hl0 hd hlk
theorem zj_aret (C : z_Cx p R s m args meth c G y cc nL d MC MS) {Rr : Heap → Option Value → Heap → Prop} {rt : FieldType} {v : Value} (hlk : meth.locks = false) (hr : meth.sig.returnType = some rt) (hrt : (∃ n, rt = .object n) ∨ ∃ t, rt = .array t) (hv : v = .null ∨ ∃ a, v = .ref a) (hd : decode cc pc = .ok (.areturn, 1)) (hl0 : ∀ x ∈ locs, gB G ≤ x.base) (hc : ce ≤ MC) (hs : sl ≤ MS) (hq : Rr s.heap (some v) H) : W p l e R s m args below meth c H locs ce sl (MQ below (z_QM G Rr) args s MC MS (z_A G)) (F0 m pc la [v]) := by
  refine W.widen hc hs ?_
  exact W.aret C.1 C.2.1 hr hrt hv (fun t ht hW => ⟨_, rfl, C.2.2.2.2.2.2.1.moved hW.alike, by rw [ht]; exact hq⟩) hl0 hd hlk
/-- a list object's fields -/
theorem zj_get (C : z_Cx p R s m args meth c G y cc nL d MC MS) {a k idx : Nat} {ref : String} {V : Nat → Value} (ht : t_OB a (gC G 1) 3 (gI G 1) H V) (hk : k < 3) (hlk : Cond.fieldLink y.cls idx ref (TJx4a65c k).2.1 (TJx4a65c k).2.2.1 ∈ z_tbl) (hsame : ∀ x, s.fieldFound? (TJx4a65c k).1 (TJx4a65c k).2.1 (TJx4a65c k).2.2.1 = some x → s.fieldFound? ref (TJx4a65c k).2.1 (TJx4a65c k).2.2.1 = some x) (hd : decode cc pc = .ok (.getfield idx, 3))
    (kk : W p l e R s m args below meth c H locs ce sl Qs (F0 m (pc + 3) la (V k :: rest))) : W p l e R s m args below meth c H locs ce sl Qs (F0 m pc la (.ref a :: rest)) := by
  have hts := C.2.2.2.2.2.1
  obtain ⟨cell, q1, q2, q3, q4⟩ := ht
  obtain ⟨hS, hfc, kC, hkC, hkind⟩ := C.2.2.2.2.2.2.1.1.1 1 (RJx4a65c, TJx4a65c, 3) rfl
  obtain ⟨cf, kf, fi, f', hi', hsl⟩ := hS k hk
  refine W.getf C.1 C.2.1 C.2.2.2.1 (hts _ hlk) (hsame _ hi') (u_facts hfc hkC (u_lays hts inzJL hk) hi').1 q1 (by rw [q3]; exact fun h => by cases h) (v := V k) ?_ rfl rfl hd kk
  rw [hsl]
  exact q4 k hk
theorem zj_put (C : z_Cx p R s m args meth c G y cc nL d MC MS) {a k idx : Nat} {ref : String} {V : Nat → Value} {v : Value} (ht : t_OB a (gC G 1) 3 (gI G 1) H V) (hk : k < 3) (hlk : Cond.fieldLink y.cls idx ref (TJx4a65c k).2.1 (TJx4a65c k).2.2.1 ∈ z_tbl) (hsame : ∀ x, s.fieldFound? (TJx4a65c k).1 (TJx4a65c k).2.1 (TJx4a65c k).2.2.1 = some x → s.fieldFound? ref (TJx4a65c k).2.1 (TJx4a65c k).2.2.1 = some x) (hfit : narrow (tyJx4a65c k) v = v ∧ fits (tyJx4a65c k) v = true) (hd : decode cc pc = .ok (.putfield idx, 3))
    (ha : gB G ≤ a) (hl0 : ∀ x ∈ locs, gB G ≤ x.base)
    (kk : ∀ (H' : Heap) (locs' : List Loc), t_OB a (gC G 1) 3 (gI G 1) H' (updV V k v) → H'.size = H.size → (∀ q, q ≠ a → H'[q]? = H[q]?) → (∀ x ∈ locs', gB G ≤ x.base) → W p l e R s m args below meth c H' locs' ce sl Qs (F0 m (pc + 3) la rest)) : W p l e R s m args below meth c H locs ce sl Qs (F0 m pc la (v :: .ref a :: rest)) := by
  have hts := C.2.2.2.2.2.1
  obtain ⟨cell, q1, q2, q3, q4⟩ := ht
  have hKn := C.2.2.2.2.2.2.1.1
  have hcl : vwCl[1]? = some (RJx4a65c, TJx4a65c, 3) := rfl
  obtain ⟨hS, hfc, kC, hkC, hkind⟩ := hKn.1 1 _ hcl
  obtain ⟨cf, kf, fi, f', hi', hsl⟩ := hS k hk
  have hap := va_apart (own := y.cls) hts inzJL tyJx4a65c tyJx4a65c_ok nmJx4a65c hKn hcl
  have hst := (u_facts hfc hkC (u_lays hts inzJL hk) hi').1
  have hlay := hts _ (inzJL _ (u_in_lay hk))
  unfold u_lay at hlay
  have hnf : ¬ (TJx4a65c k).2.2.2 = true := by
    rcases (show k = 0 ∨ k = 1 ∨ k = 2 by omega) with rfl | rfl | rfl <;> decide
  rw [if_neg hnf] at hlay
  have h6 := u_store hfc hkC hkind hlay hi' (tyJx4a65c_ok k hk) hfit.1 hfit.2
  refine W.putK C.1 C.2.1 (f := f') ⟨C.2.2.2.1, hts _ hlk, ⟨_, _, _, hsame _ hi'⟩, hst⟩ (by rw [q2]; exact h6) q1 q3 (by rw [hsl]; exact k2_hasslot (q4 k hk)) rfl rfl hd fun H' e1 e2 e3 => ?_
  rw [hsl] at e1
  exact kk H' _ ⟨_, e1, q2, q3, t_set q4 hap hk _⟩ e2 e3 (z_mem_locs hl0 ha)
/-- a stretch of one array into another (or itself) -/
theorem zj_cpy (C : z_Cx p R s m args meth c G y cc nL d MC MS) {idx : Nat} (hlk : Cond.methodLink y.cls idx arraycopyName ∈ z_tbl) {a0 a : Nat} {cA : ClassId} {n0 n1 : Nat} {f g : Nat → Value} {ty : FieldType} (hA : ArrOfT s cA ty) (h0 : H[a0]? = some (arrV cA n0 f)) (h1 : H[a]? = some (arrV cA n1 g)) {sp dp n : Int32} (g1 : ¬ sp < 0) (g2 : ¬ dp < 0) (g3 : ¬ n < 0) (g4 : sp.toNatClampNeg + n.toNatClampNeg ≤ n0) (g5 : dp.toNatClampNeg + n.toNatClampNeg ≤ n1)
    (hv : ∀ (T : State) (kd : Class) (dComp : ClassId), T.heap = H → s.vm.classes[cA]? = some kd → kd.kind = .array dComp ty → ∀ vm', s.vm.Alike vm' → ∀ i, i < n.toNatClampNeg → fits ty (f (sp.toNatClampNeg + i)) = true ∧ (T.setVm vm').takes dComp (f (sp.toNatClampNeg + i)))
    (hd1 : 1 ≤ d) (hl : la.size = nL) (hw : (rest.map fun v => v.category).sum ≤ 8) (hd : decode cc pc = .ok (.invokestatic idx, 3)) (ha : gB G ≤ a) (hl0 : ∀ x ∈ locs, gB G ≤ x.base)
    (kk : ∀ (H' : Heap) (locs' : List Loc), H'[a]? = some (arrV cA n1 (va_cpy f g sp.toNatClampNeg dp.toNatClampNeg n.toNatClampNeg)) → H'.size = H.size → (∀ q, q ≠ a → H'[q]? = H[q]?) → (∀ x ∈ locs', gB G ≤ x.base) → W p l e R s m args below meth c H' locs' ce sl Qs (F0 m (pc + 3) la rest)) : W p l e R s m args below meth c H locs ce sl Qs (F0 m pc la (.int n :: .int dp :: .ref a :: .int sp :: .ref a0 :: rest)) := by
  have hts := C.2.2.2.2.2.1
  have nn : ∀ z : Int32, ¬ z < 0 → z.toInt = (z.toNatClampNeg : Int) := by
    intro z hz
    have hz0 : (0 : Int) ≤ z.toInt := by
      have := Int32.not_lt.mp hz
      simpa using Int32.le_iff_toInt_le.mp this
    show z.toInt = ((z.toInt.toNat : Nat) : Int)
    omega
  intro T hT X
  obtain ⟨-, k0, hk0, cm0, hkk0⟩ := hA n0 f
  have hfr := C.2.2.2.2.2.2.2.1
  have hlo := C.2.2.2.2.2.2.2.2.1
  have hnw : nativeFrameWords "java/lang/System" "arraycopy" 5 ≤ 21 := by decide
  obtain ⟨vm', X', step⟩ := X.arraycopy C.1 C.2.2.2.1 (hts _ hlk) (hts _ jw_cpyN) (hts _ jw_cpyS) (hts _ jw_cpyI) (src := a0) (dst := a) (cs := arrV cA n0 f) (cd := arrV cA n1 g) (srcPos := sp) (destPos := dp) (n := n) (by rw [hT]; exact h0) (by rw [hT]; exact h1)
    (fun _ h => by cases h) (fun _ h => by cases h) (fun h => by cases h) (fun h => by cases h) hk0 hk0 hkk0 hkk0 (by simp) g1 g2 g3
    (by rw [nn sp g1, nn n g3, arrV_size]; omega) (by rw [nn dp g2, nn n g3, arrV_size]; omega)
    (fun vm₁ hal i hi => by
      have e : (arrV cA n0 f).slots.getD (sp.toNatClampNeg + i) .null = f (sp.toNatClampNeg + i) := by
        rw [Array.getD_eq_getD_getElem?, arrV_read _ _ (by omega)]
        rfl
      rw [e]
      exact hv T k0 cm0 hT hk0 hkk0 vm₁ hal i hi)
    (g := F0 m pc la (.int n :: .int dp :: .ref a :: .int sp :: .ref a0 :: rest)) rfl (by rw [C.2.2.1]; exact hl) (rest := rest) rfl (by rw [C.2.1]; exact hd) (by omega) (by show 2 * 0 + _ + _ ≤ _; omega)
  have e1 : copied (arrV cA n0 f) (arrV cA n1 g) sp dp n = arrV cA n1 (va_cpy f g sp.toNatClampNeg dp.toNatClampNeg n.toNatClampNeg) := va_copied (fun z => z) cA cA f g g4
  rw [e1] at X' step
  have hlt : a < H.size := (Array.getElem?_eq_some_iff.mp h1).1
  have hheap : ((T.setVm vm').setCell a (arrV cA n1 (va_cpy f g sp.toNatClampNeg dp.toNatClampNeg n.toNatClampNeg))).heap = H.setIfInBounds a (arrV cA n1 (va_cpy f g sp.toNatClampNeg dp.toNatClampNeg n.toNatClampNeg)) := by rw [← hT]; rfl
  obtain ⟨t, a1, b1⟩ := kk _ _ (show (H.setIfInBounds a _)[a]? = some _ by simp [Array.getElem?_setIfInBounds, hlt]) (by simp) (fun q hq => by simp [Array.getElem?_setIfInBounds, Ne.symm hq]) (fun x hx => by
    rcases List.mem_append.mp hx with hx | hx
    · exact hl0 x hx
    · obtain ⟨z, -, hz⟩ := List.mem_map.mp hx
      rw [← hz]
      exact ha) _ hheap X'
  exact ⟨t, step t a1, b1⟩
end ZJ
