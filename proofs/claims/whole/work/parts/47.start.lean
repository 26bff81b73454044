/-! the claim: the kit's skeleton, and the beginning of the law -/
/-! THE CLAIM OUT OF ONE WALK OF THE LAW'S BODY. Your part is whole_start (and what it stands on); all else here is the same for every law, but numbers. -/
def R_law : String := "CityBankLaw"
def lw_P (b : Addr) (xs : List Int32) (args : Array Value) (s : State) : Prop := args = #[.ref b] ∧ s.IntsAt b xs ∧ xs.length ≤ 4608 ∧ (Jvm.Cond.and given_1 narrow_1).before args s = true
def lw_Q (_ : Array Value) (s : State) (o : Outcome) (t : State) : Prop := o = .returned (some (.int 1)) ∧ Framed s o t [] 600000 7302250
def lw_Z (below : List Frame) (a : Array Value) (s : State) : State → Prop := fun t => ∃ o, t.status = .running ∧ Ended t below o ∧ lw_Q a s o t
/-- the law's own end, with 1 on the stack, nothing written that was there before, its room as the claim has it -/
theorem lw_ret {p : Program} {l : Launch} {e : Env} {s : State} {m : MethodId} {below : List Frame} {meth : Method} {c : Code} {b : Nat} (hx : p.tables.exec = Jvm.exec) (hb : c.code = code) (hr : meth.sig.returnType = ret) (hlocks : meth.locks = false) {pc : Nat} {H : Heap} {ls : Array Slot} (hdg : decode code pc = .ok (.ireturn, 1)) : W p l e room_1 s m #[Value.ref b] below meth c H [] 600000 7302250 (lw_Z below #[Value.ref b] s) (F0 m pc ls [.int 1]) := by
  intro T hT X
  obtain ⟨fs, hret, hrun, hended, hW, hframe⟩ := X.leave (v := some (.int 1)) (hlocks := hlocks) (fun h => by rw [hr] at h; cases h)
  have hmeth' : T.vm.method? m = some meth := X.method'
  refine ⟨T.setFrames fs, ?_, .returned (some (.int 1)), hrun, hended, rfl, ⟨_, rfl⟩, hW, hframe⟩
  jvm_step X.here [X.here.top, hx, hb, hdg, hmeth', hr, ret, narrow_b1]
  (try refine ⟨rfl, ?_⟩); (try refine ⟨rfl, ?_⟩)
  first | (intro acts; rw [hret _ acts rfl rfl rfl]) | rw [hret _ _ rfl rfl rfl]
  exact Steps.refl _
/-- what holds at the law's entry: the machine, the code, the tables' words (any of lw_tbl by 'hts w (by decide +kernel)'), the script of L ints xs at the cell b, what the Statement gives of the start (any of its parts by flat_of_before) -/
def lw_At (p : Program) (s : State) (m : MethodId) (meth : Method) (c : Code) (b L : Nat) (xs : Nat → Int32) : Prop :=
  p.tables.exec = Jvm.exec ∧ c.code = code ∧ meth.sig.returnType = ret ∧ c.maxLocals = 4 ∧ s.vm.findClass R_law = some m.cls ∧ (∀ w ∈ lw_tbl, w.before #[Value.ref b] s = true) ∧ va_X b L xs s s.heap ∧ b < s.heap.size ∧ meth.locks = false ∧ (Jvm.Cond.and given_1 narrow_1).before #[Value.ref b] s = true
-- ===== YOUR PART BEGINS =====
/-- YOUR PART: from the entry, for every script of at most 4608 ints, the law comes to its end with true -/
theorem whole_start {p : Program} {e : Env} {s : State} {m : MethodId} {below : List Frame} {meth : Method} {c : Code} (l : Launch) {b L : Nat} {xs : Nat → Int32} (hL : L ≤ 4608) (C0 : lw_At p s m meth c b L xs) : W p l e room_1 s m #[Value.ref b] below meth c s.heap [] 0 0 (lw_Z below #[Value.ref b] s) (entryFrame m ([Value.ref b] : List Value).toArray 4) := by
  obtain ⟨hx, hb, hr, hml, hown, hts, hX, hbl, hlocks, hgv⟩ := id C0
  have hA : ∀ a : Nat, a < s.heap.size → ¬ (fun q : Nat => s.heap.size ≤ q) a := fun a h q => Nat.not_le.mpr h q
  have hs := flat_of_before _ hgv
  obtain ⟨c0, i0, k0⟩ := u_known (C := RJ6) (T := TJ6) (N := 1) (n := 1) hts inJ6 (hts (.instantiable RJ6 1) (by decide +kernel))
  obtain ⟨c1, i1, k1⟩ := u_known (C := RJx4a65c) (T := TJx4a65c) (N := 3) (n := 3) hts inJx4a65c (hts (.instantiable RJx4a65c 3) (by decide +kernel))
  obtain ⟨c2, i2, k2⟩ := u_known (C := RX0) (T := TX0) (N := 7) (n := 7) hts inX0 (hts (.instantiable RX0 7) (by decide +kernel))
  obtain ⟨c3, i3, k3⟩ := u_known (C := RX1) (T := TX1) (N := 5) (n := 5) hts inX1 (hts (.instantiable RX1 5) (by decide +kernel))
  obtain ⟨c4, i4, k4⟩ := u_known (C := RX2) (T := TX2) (N := 6) (n := 6) hts inX2 (hts (.instantiable RX2 6) (by decide +kernel))
  obtain ⟨c5, i5, k5⟩ := u_known (C := RX3) (T := TX3) (N := 5) (n := 5) hts inX3 (hts (.instantiable RX3 5) (by decide +kernel))
  obtain ⟨c6, i6, k6⟩ := u_known (C := RX4) (T := TX4) (N := 6) (n := 6) hts inX4 (hts (.instantiable RX4 6) (by decide +kernel))
  obtain ⟨c7, i7, k7⟩ := u_known (C := RX5) (T := TX5) (N := 2) (n := 2) hts inX5 (hts (.instantiable RX5 2) (by decide +kernel))
  obtain ⟨c8, i8, k8⟩ := u_known (C := RX6) (T := TX6) (N := 12) (n := 12) hts inX6 (hts (.instantiable RX6 12) (by decide +kernel))
  obtain ⟨c9, i9, k9⟩ := u_known (C := RX7) (T := TX7) (N := 7) (n := 7) hts inX7 (hts (.instantiable RX7 7) (by decide +kernel))
  obtain ⟨c10, i10, k10⟩ := u_known (C := RX8) (T := TX8) (N := 4) (n := 4) hts inX8 (hts (.instantiable RX8 4) (by decide +kernel))
  obtain ⟨c11, i11, k11⟩ := u_known (C := RX9) (T := TX9) (N := 8) (n := 8) hts inX9 (hts (.instantiable RX9 8) (by decide +kernel))
  obtain ⟨c12, i12, k12⟩ := u_known (C := RX10) (T := TX10) (N := 4) (n := 4) hts inX10 (hts (.instantiable RX10 4) (by decide +kernel))
  obtain ⟨c13, i13, k13⟩ := u_known (C := RX11) (T := TX11) (N := 13) (n := 13) hts inX11 (hts (.instantiable RX11 13) (by decide +kernel))
  obtain ⟨c14, i14, k14⟩ := u_known (C := RX12) (T := TX12) (N := 67) (n := 67) hts inX12 (hts (.instantiable RX12 67) (by decide +kernel))
  obtain ⟨dC, dI, hKc⟩ : ∃ (dC : Nat → ClassId) (dI : Nat → Nat → Nat), ∀ (k : Nat) (q : vw_C), vwCl[k]? = some q → u_Kn s q.1 q.2.1 q.2.2 (dC k) (dI k) := by
    refine ⟨fun k => match k with | 0 => c0 | 1 => c1 | 2 => c2 | 3 => c3 | 4 => c4 | 5 => c5 | 6 => c6 | 7 => c7 | 8 => c8 | 9 => c9 | 10 => c10 | 11 => c11 | 12 => c12 | 13 => c13 | _ => c14, fun k => match k with | 0 => i0 | 1 => i1 | 2 => i2 | 3 => i3 | 4 => i4 | 5 => i5 | 6 => i6 | 7 => i7 | 8 => i8 | 9 => i9 | 10 => i10 | 11 => i11 | 12 => i12 | 13 => i13 | _ => i14, ?_⟩
    intro k q hq
    match k, hq with
    | 0, hq => cases hq; exact k0
    | 1, hq => cases hq; exact k1
    | 2, hq => cases hq; exact k2
    | 3, hq => cases hq; exact k3
    | 4, hq => cases hq; exact k4
    | 5, hq => cases hq; exact k5
    | 6, hq => cases hq; exact k6
    | 7, hq => cases hq; exact k7
    | 8, hq => cases hq; exact k8
    | 9, hq => cases hq; exact k9
    | 10, hq => cases hq; exact k10
    | 11, hq => cases hq; exact k11
    | 12, hq => cases hq; exact k12
    | 13, hq => cases hq; exact k13
    | 14, hq => cases hq; exact k14
    | k + 15, hq => simp [vwCl] at hq
  obtain ⟨aI, bI, pI1, uI, vI, wI⟩ := Cond.arrayClass_spec (hts (.arrayClass .int) (by decide +kernel))
  obtain ⟨aL, bL, pL1, uL, vL, wL⟩ := Cond.arrayClass_spec (hts (.arrayClass .long) (by decide +kernel))
  obtain ⟨aB, bB, pB1, uB, vB, wB⟩ := Cond.arrayClass_spec (hts (.arrayClass .boolean) (by decide +kernel))
  obtain ⟨pO1, aO, bO, uO, -, vO, wO, yO⟩ := Cond.arrayOver_spec (hts (.arrayOver (.object "java/lang/Object")) (by decide +kernel))
  have hK : va_K (dC, dI) vwCl [(aI, .int), (aL, .long), (aB, .boolean), (aO, .object "java/lang/Object")] s := by
    refine ⟨hKc, fun k q h => ?_⟩
    match k, h with
    | 0, h => cases h; exact ⟨fun n z => ⟨fun k h => (by cases h), bI, vI, pI1, wI⟩, uI⟩
    | 1, h => cases h; exact ⟨fun n z => ⟨fun k h => (by cases h), bL, vL, pL1, wL⟩, uL⟩
    | 2, h => cases h; exact ⟨fun n z => ⟨fun k h => (by cases h), bB, vB, pB1, wB⟩, uB⟩
    | 3, h => cases h; exact ⟨fun n z => ⟨fun k h => (by cases h), bO, vO, pO1, wO⟩, bO, pO1, vO, wO, uO, yO⟩
    | k + 4, h => simp at h
  have hMi := va_Mi.of (hs (Cond.isRef (.mirror "[Ljava/lang/Object;")) (by decide +kernel))
  have hDc : va_Dc s := va_Dc.of (hts (.declares ⟨"java/lang/Object", "getClass", "()Ljava/lang/Class;"⟩) (by decide +kernel))
  have hAO : va_AO "java/lang/Object" s := va_AO.of (hts (.arrayOver (.object "java/lang/Object")) (by decide +kernel))
  have hcm : ∀ C ∈ z_cst, Cond.castable C "java/lang/Object" ∈ lw_tbl := by decide +kernel
  have hca : ∀ C ∈ z_cst, va_Nw (.castable C "java/lang/Object") s := fun C hC => va_any rfl (hts _ (hcm C hC))
  obtain ⟨tE, eE, hTE⟩ := va_Tof (tm := .static "java/util/ArrayList" "DEFAULTCAPACITY_EMPTY_ELEMENTDATA" "[Ljava/lang/Object;") (ty := .object "java/lang/Object") (N := 0) (f := fun _ => Value.null) (A := fun q : Nat => s.heap.size ≤ q) (by decide) (hs (Cond.arrayOf (.static "java/util/ArrayList" "DEFAULTCAPACITY_EMPTY_ELEMENTDATA" "[Ljava/lang/Object;") (.object "java/lang/Object")) (by decide +kernel)) (va_eqt (z := Int32.ofNat 0) (hs (Cond.eq (.length (.static "java/util/ArrayList" "DEFAULTCAPACITY_EMPTY_ELEMENTDATA" "[Ljava/lang/Object;")) (.int 0)) (by decide +kernel))) (fun j hj => absurd hj (by omega)) hA
  have hZE := va_Zof (A := fun q : Nat => s.heap.size ≤ q) (hts (.laysStatic "java/util/ArrayList" "DEFAULTCAPACITY_EMPTY_ELEMENTDATA" "[Ljava/lang/Object;") (by decide +kernel)) (hts (.initialized "java/util/ArrayList") (by decide +kernel)) eE hA
  have hZH := va_Zof (A := fun q : Nat => s.heap.size ≤ q) (hts (.laysStatic "java/lang/Integer$IntegerCache" "high" "I") (by decide +kernel)) (hts (.initialized "java/lang/Integer$IntegerCache") (by decide +kernel)) (va_eqi (z := 127) (hs (Cond.eq (.static "java/lang/Integer$IntegerCache" "high" "I") (.int 127)) (by decide +kernel))) hA
  have hlen := va_eqt (z := Int32.ofNat 256) (hs (Cond.eq (.length (.static "java/lang/Integer$IntegerCache" "cache" "[Ljava/lang/Integer;")) (.int 256)) (by decide +kernel))
  obtain ⟨gx, hC, hel⟩ := vb_Cof (A := fun q : Nat => s.heap.size ≤ q) (st := .static "java/lang/Integer$IntegerCache" "cache" "[Ljava/lang/Integer;") rfl hlen (hs (Cond.all (.static "java/lang/Integer$IntegerCache" "cache" "[Ljava/lang/Integer;") (.and (.exactly (.elem (.static "java/lang/Integer$IntegerCache" "cache" "[Ljava/lang/Integer;") (.index 0)) "java/lang/Integer") (.eq (.field (.elem (.static "java/lang/Integer$IntegerCache" "cache" "[Ljava/lang/Integer;") (.index 0)) "java/lang/Integer" "value" "I") (.sub (.index 0) (.int 128))))) (by decide +kernel)) hA
  obtain ⟨tc, eC, hTC⟩ := va_Tof (tm := .static "java/lang/Integer$IntegerCache" "cache" "[Ljava/lang/Integer;") (ty := .object "java/lang/Integer") (N := 256) (f := fun k => Value.ref (gx k)) (A := fun q : Nat => s.heap.size ≤ q) (by decide) (hs (Cond.arrayOf (.static "java/lang/Integer$IntegerCache" "cache" "[Ljava/lang/Integer;") (.object "java/lang/Integer")) (by decide +kernel)) hlen hel hA
  have hZC := va_Zof (A := fun q : Nat => s.heap.size ≤ q) (hts (.laysStatic "java/lang/Integer$IntegerCache" "cache" "[Ljava/lang/Integer;") (by decide +kernel)) (hts (.initialized "java/lang/Integer$IntegerCache") (by decide +kernel)) eC hA
  obtain ⟨G, hG⟩ : ∃ G : z_G, G = (s.heap.size, dC, dI, (fun c => match c with | 0 => aI | 1 => aL | 2 => aB | _ => aO), tE, gx, b, L, xs) := ⟨_, rfl⟩
  have hKN : z_KN G s := by rw [hG]; exact ⟨hK, hMi, hDc, hAO, hca⟩
  have hOLD : z_OLD G s s.heap := by rw [hG]; exact ⟨Nat.le_refl _, hbl, hX, hZE, hTE, hZH, hC, tc, hZC, hTC⟩
  have gb : gB G = s.heap.size := by rw [hG]; rfl
  have gs : gS G = b := by rw [hG]; rfl
  have gl : gL G = L := by rw [hG]; rfl
  obtain ⟨ad, had⟩ : ∃ ad : Nat → Nat → Nat, ∀ K i, ad K i = b := ⟨fun _ _ => b, fun _ _ => rfl⟩
  have nl : ∀ K i, ¬ z_live h00 K i := fun K i q => by
    rcases q with ⟨q1, q2, q3⟩ | ⟨q1, q2, q3, q4⟩ | ⟨q1, q2⟩
    · rw [h0_N q2] at q3
      omega
    · rw [h0_N (by omega)] at q3
      omega
    · rw [h0_N (by omega)] at q2
      omega
  have k400 : ∀ K i, i < hN h00 K → K = 400 := fun K i q => by
    by_cases z : K = 400
    · exact z
    · rw [h0_N z] at q
      omega
  have hHR : z_HR G ad h00 s s.heap := by
    refine ⟨hOLD, by rw [had, gs], fun K i q => absurd q (nl K i), fun K i K' i' q => absurd q (nl K i), fun K i q1 q2 => ?_, fun K i k q q1 q2 q3 => by cases q3⟩
    rw [k400 K i q2]
    exact ⟨fun z => absurd z (by decide), fun z => absurd rfl z, fun z => absurd z (by decide)⟩
  have C : z_Cx p room_1 s m #[Value.ref b] meth c G ⟨RL, meth.name, "([I)Z"⟩ code 4 15 600000 7302250 := ⟨hx, hb, hml, hown, rfl, fun w hw => hts w (List.mem_filter.mp hw).1, hKN, rfl, by decide, rfl, rfl⟩
  have hRT : z_RT (z_At p l e room_1 s m #[Value.ref b] below meth c G ad h00 4 (lw_Z below #[Value.ref b] s)) z_LT code := by
    refine ⟨fun pc ls h ce sl x hd hq => ?_, fun pc ls h ce sl x hd hq => ?_, fun pc ls h ce sl x hd hq => ?_, fun pc ls h ce sl hd hq => ?_⟩
    · obtain ⟨q1, q2, q3⟩ := hq
      cases q3
      intro ad2 H locs la hH hE hO hl0 hl
      refine W.widen q1 q2 ?_
      refine va_forget (fun q hq => by rw [← gb]; exact hl0 q hq) ?_
      exact lw_ret hx hb hr hlocks hd
    · exact absurd hq.2.2 (by intro z; cases z)
    · exact absurd hq.2.2 (by intro z; cases z)
    · exact absurd hq.2.2 (by intro z; cases z)
  have hst : LawSt l G (z_At p l e room_1 s m #[Value.ref b] below meth c G ad h00 4 (lw_Z below #[Value.ref b] s)) := z_blk C hRT (yk := 16) (ini := false) rfl (fun q => absurd q (by decide))
  have hrun := law_run hst (by rw [gl]; exact hL)
  have hl := lv_entry ([Value.ref b]) (n := 4) (Nat.le_of_ble_eq_true rfl)
  rw [lg_entry_eq]
  refine hrun ad s.heap [] _ hHR z_EX.rf ⟨fun q hq => ?_, fun v hv => by cases hv⟩ (fun x hx => by cases hx) ?_
  · cases List.mem_singleton.mp hq
    exact ⟨by decide, by decide⟩
  · have e1 : z_lm ad [(0, z_r 400 0)] = lv_args 0 [Value.ref b] := by
      show [(0, Value.ref (ad 400 0))] = _
      rw [had]
      rfl
    rw [e1]
    exact hl
-- ===== YOUR PART ENDS =====
set_option maxHeartbeats 4000000 in
theorem lw_walk (l : Launch) (b : Addr) (xs : List Int32) : MetFree l x (headSpec (Jvm.Cond.code x code maxLocals ret :: tables_1) room_1) (lw_P b xs) (fun _ _ _ _ _ => True) lw_Q := by
  refine MetFree.of_bodyS (code := code) (maxLocals := maxLocals) (ret := ret) (by decide) ?_ ?_
  · intro args s m h hn
    obtain ⟨meth, c, h1, h2, h3, h4, h5, h6, -, -⟩ := Cond.code_spec hn (atoms_spec (ws := Jvm.Cond.code x code maxLocals ret :: tables_1) h _ List.mem_cons_self)
    exact ⟨meth, c, h1, h2, h3, h4, h5, h6⟩
  · intro p e s m args below meth c s₁ B hml0 hP _
    obtain ⟨rfl, hx, hbd, hgv⟩ := hP
    obtain ⟨scr, harrAt, hlist, hof, hsmall⟩ := hx
    obtain ⟨hcb, hkn, -, -⟩ := State.arrayAt?_spec harrAt
    have hown : s.vm.findClass R_law = some m.cls := findClass_of_methodNamed B.named
    have hts0 : ∀ c ∈ (Jvm.Cond.code x code maxLocals ret :: tables_1), c.before #[Value.ref b] s = true := atoms_spec (ws := Jvm.Cond.code x code maxLocals ret :: tables_1) B.pre
    have hts : ∀ w ∈ lw_tbl, w.before #[Value.ref b] s = true := k2_hts_sels lw_privs (fun w hw => hts0 w (List.mem_cons_of_mem _ hw)) lw_privs_ok
    have hml : c.maxLocals = 4 := B.maxLocals_eq (hts0 _ List.mem_cons_self)
    have X₀ : Stand p l e room_1 s m #[Value.ref b] below meth c s₁ [] 0 0 := Stand.of_body B
    have hh0 : s₁.heap = s.heap := by rw [B.state]; rfl
    have hsz : scr.slots.size = xs.length := by rw [← Array.length_toList, hlist, List.length_map]
    have hval : ∀ j : Nat, j < xs.length → scr.slots[j]? = some (.int (xs.getD j 0)) := fun j hj => by
      rw [← Array.getElem?_toList, hlist]
      simp [hj]
    have hbl : b < s.heap.size := (Array.getElem?_eq_some_iff.mp hcb).1
    have hX : va_X b xs.length (fun j => xs.getD j 0) s s.heap := ⟨scr, hcb, hof, hkn, hsz, hval⟩
    have K : W p l e room_1 s m #[Value.ref b] below meth c s₁.heap [] 0 0 (lw_Z below #[Value.ref b] s) (entryFrame m ([Value.ref b] : List Value).toArray 4) := by
      rw [hh0]
      exact whole_start l hbd ⟨B.exec, B.bytes, B.returns, hml, hown, hts, hX, hbl, B.notSynchronized, hgv⟩
    obtain ⟨t, a1, o, b1, b2, b3⟩ := K s₁ rfl X₀
    exact ⟨t, o, a1, b1, b2, b3⟩
theorem lw_pre_spec {args : Array Value} {s : State} (h : (Jvm.Cond.and given_1 narrow_1).before args s = true) (hr : rest_1_c.before args s = true) : ∃ (b : Addr) (xs : List Int32), lw_P b xs args s := by
  have hs := flat_of_before _ h
  have hq := flat_of_before _ hr
  have hc : (Cond.count 1).before args s = true := hs _ (by decide +kernel)
  have harr : (Cond.arrayOf (.arg 0) .int).before args s = true := hs _ (by decide +kernel)
  have hle : (Cond.le (.length (.arg 0)) (.int 4608)).before args s = true := hs _ (by decide +kernel)
  have hlen : (Cond.isInt (.length (.arg 0))).before args s = true := hq _ (by decide +kernel)
  have hall : (Cond.all (.arg 0) (.isInt (.elem (.arg 0) (.index 0)))).before args s = true := hq _ (by decide +kernel)
  obtain ⟨b, xs, hb, hx⟩ := State.ints_of_pre rfl harr hlen hall
  have hsm : xs.length < 2 ^ 31 := hx.choose_spec.2.2.2
  have hev : (Term.length (.arg 0)).eval args s none [] s = some (.int xs.length.toInt32) := hx.length_eval hb
  have hv := Cond.le_ints hev (show (Term.int 4608).eval args s none [] s = some (.int 4608) from rfl)
  have hd : xs.length.toInt32 ≤ 4608 := by
    simpa [Cond.before, Cond.holds, hv] using hle
  have hN : xs.length ≤ 4608 := (Int32.ofNat_le_ofNat hsm (by decide)).mp (show Int32.ofNat xs.length ≤ Int32.ofNat 4608 from hd)
  exact ⟨b, xs, Cond.one_arg hc (show args[0]? = some (.ref b) from hb), hx, hN, h⟩
theorem lw_comes (l : Launch) : Comes l x (Jvm.Cond.code x code maxLocals ret :: tables_1) room_1 (fun tb e args s => Calls_1 tb e args s ∧ rest_1 tb e args s ∧ Pre_1 tb e args s)
    (fun _ _ args s o t => lw_Q args s o t) := by
  intro p e ha hc hk s m args below hf hfit hheap happ hpre
  obtain ⟨b, xs, hP⟩ := lw_pre_spec hpre.2.2 hpre.2.1
  obtain ⟨k, o, h1, h2, h3, hQ⟩ := lw_walk l b xs p e ha hc hk s m args below hf ((Spec.applies_iff_loose hf).mp happ).1 hP trivial
  exact ⟨k, o, h1, h2, h3, hQ⟩
theorem lw_frame {s t : State} {o : Outcome} {args : Array Value} (h : Framed s o t [] 600000 7302250) :
    Framed s o t (fieldLocs frame_1_writes args s ++ arrayLocs frame_1_arrays args s ++ staticLocs frame_1_statics s) 600000 7302250 := h
theorem lw_limb (L : Cond) (hL : ∀ (args : Array Value) (s t : State), L.after args s (.returned (some (.int 1))) t = true) :
    ArmFor flags0 classFile x code maxLocals ret World_1 tables_1 room_1 Calls_1 rest_1 Pre_1
      (fun tb e a s o t => postC L tb e a s o t ∧ Framed s o t (fieldLocs frame_1_writes a s ++ arrayLocs frame_1_arrays a s ++ staticLocs frame_1_statics s) 600000 7302250) := by
  intro l _ _ _ p e ha hc hk s m args below hf hfit hheap happ hpre
  obtain ⟨k, o, h1, h2, h3, rfl, hF⟩ := lw_comes l p e ha hc hk s m args below hf hfit hheap happ hpre
  exact ⟨k, _, h1, h2, h3, hL args s _, lw_frame hF⟩
theorem i_vc : Claimed_1_1 ∧ Claimed_1_2 := ⟨lw_limb limb_1_1 (fun args s t => by simp [limb_1_1, Cond.after, Cond.holds, Cond.value]), lw_limb limb_1_2 (fun args s t => Cond.after_iff.mpr (by
  first | (rw [show limb_1_2 = Cond.eq .result (.int 1) from rfl, Cond.eq_ints (x := 1) (y := 1) rfl rfl]; simp; done) | (simp [limb_1_2, Cond.value, Term.eval]; done)))⟩
