/-! how the world is kept: a cell is changed, a cell is made -/
theorem z_OLD.kept {G : z_G} {U : State} {H H1 : Heap} (h : z_OLD G U H) (hs : H.size ≤ H1.size) (hq : ∀ q : Nat, q < gB G → H1[q]? = H[q]?) : z_OLD G U H1 := by
  obtain ⟨h0, h1, h2, a, b, c, d, tc, e, f⟩ := h
  have hk : ∀ a : Nat, a < H.size → ¬ z_A G a → H1[a]? = H[a]? := fun a _ h => hq a (Nat.lt_of_not_le h)
  exact ⟨Nat.le_trans h0 hs, h1, h2.kept (hq _ h1), a.kept hk, b.kept hk, c.kept hk, d.kept hk, tc, e.kept hk, f.kept hk⟩
theorem z_OLD.moved {G : z_G} {u U : State} {H : Heap} (hvm : u.vm.Alike U.vm) (h : z_OLD G u H) : z_OLD G U H := by
  obtain ⟨h0, h1, h2, a, b, c, d, tc, e, f⟩ := h
  exact ⟨h0, h1, h2.moved hvm, a.moved hvm, b.moved hvm, c.moved hvm, d.moved hvm, tc, e.moved hvm, f.moved hvm⟩
theorem z_Mi_moved {C : String} {mi : Nat} {u U : State} (hvm : u.vm.Alike U.vm) (h : va_Mi C mi u) : va_Mi C mi U := by
  first
    | exact h.moved hvm
    | exact va_Mi.moved hvm h
theorem z_Nc_moved {C T : String} {u U : State} (hvm : u.vm.Alike U.vm) (h : va_Nw (.castable C T) u) : va_Nw (.castable C T) U := va_tabs rfl (rfl : (u.setVm U.vm).vm = U.vm) (by rw [Cond.castable_setVm hvm]; exact h)
theorem z_KN.moved {G : z_G} {u U : State} (hvm : u.vm.Alike U.vm) (h : z_KN G u) : z_KN G U := by
  obtain ⟨h1, ⟨mi, h2⟩, h3, h4, h5⟩ := h
  exact ⟨h1.moved hvm, ⟨mi, z_Mi_moved hvm h2⟩, h3.moved hvm, h4.moved hvm, fun C hC => z_Nc_moved hvm (h5 C hC)⟩
theorem z_HR.moved {G : z_G} {ad : Nat → Nat → Nat} {h : z_H} {u U : State} {H : Heap} (hvm : u.vm.Alike U.vm) (hH : z_HR G ad h u H) : z_HR G ad h U H := ⟨hH.1.moved hvm, hH.2⟩
theorem z_EX.rf {h : z_H} {ad : Nat → Nat → Nat} : z_EX h ad h ad := ⟨fun _ => Nat.le_refl _, fun _ _ _ _ => rfl⟩
theorem z_EX.tr {h0 h1 h2 : z_H} {a0 a1 a2 : Nat → Nat → Nat} (h : z_EX h0 a0 h1 a1) (g : z_EX h1 a1 h2 a2) : z_EX h0 a0 h2 a2 :=
  ⟨fun K => Nat.le_trans (h.1 K) (g.1 K), fun K i hK hi => (g.2 K i hK (Nat.lt_of_lt_of_le hi (h.1 K))).trans (h.2 K i hK hi)⟩
theorem z_ok.mono {h h' : z_H} {v : z_V} (hn : ∀ K, hN h K ≤ hN h' K) (hv : z_ok h v) : z_ok h' v := by
  rcases v with x | x | _ | q
  · trivial
  · trivial
  · trivial
  · exact ⟨Nat.lt_of_lt_of_le hv.1 (hn _), hv.2⟩
theorem z_val_ex {h0 h : z_H} {a0 a : Nat → Nat → Nat} {v : z_V} (hE : z_EX h0 a0 h a) (hv : z_ok h0 v) : z_val a v = z_val a0 v := by
  rcases v with x | x | _ | q
  · rfl
  · rfl
  · rfl
  · show Value.ref (a q.1 q.2) = Value.ref (a0 q.1 q.2)
    rw [hE.2 q.1 q.2 hv.2 hv.1]
def z_OK (h : z_H) (ls : z_L) (st : z_S) : Prop := (∀ q ∈ ls, z_ok h q.2) ∧ ∀ v ∈ st, z_ok h v
theorem z_OK.pop {h : z_H} {ls : z_L} {v : z_V} {st : z_S} (hO : z_OK h ls (v :: st)) : z_OK h ls st := ⟨hO.1, fun w hw => hO.2 w (List.mem_cons_of_mem _ hw)⟩
theorem z_OK.top {h : z_H} {ls : z_L} {v : z_V} {st : z_S} (hO : z_OK h ls (v :: st)) : z_ok h v := hO.2 v List.mem_cons_self
theorem z_OK.push {h : z_H} {ls : z_L} {v : z_V} {st : z_S} (hO : z_OK h ls st) (hv : z_ok h v) : z_OK h ls (v :: st) := ⟨hO.1, fun w hw => by
  rcases List.mem_cons.mp hw with rfl | hw
  · exact hv
  · exact hO.2 w hw⟩
theorem z_OK.put {h : z_H} {ls : z_L} {st : z_S} (hO : z_OK h ls st) (i : Nat) {v : z_V} (hv : z_ok h v) : z_OK h (z_put ls i v) st := ⟨fun q hq => by
  rcases z_put_mem hq with rfl | ⟨hq, -⟩
  · exact hv
  · exact hO.1 q hq, hO.2⟩
theorem z_OK.get {h : z_H} {ls : z_L} {st : z_S} (hO : z_OK h ls st) {i : Nat} {v : z_V} (hg : z_get ls i = some v) : z_ok h v := hO.1 (i, v) (z_get_mem hg)
theorem z_OK.mono {h h' : z_H} {ls : z_L} {st : z_S} (hn : ∀ K, hN h K ≤ hN h' K) (hO : z_OK h ls st) : z_OK h' ls st := ⟨fun q hq => (hO.1 q hq).mono hn, fun v hv => (hO.2 v hv).mono hn⟩
def z_lm (ad : Nat → Nat → Nat) (ls : z_L) : List (Nat × Value) := ls.map (fun q => (q.1, z_val ad q.2))
theorem z_lm_ex {h0 h : z_H} {a0 a : Nat → Nat → Nat} {ls : z_L} {st : z_S} (hE : z_EX h0 a0 h a) (hO : z_OK h0 ls st) : z_lm a ls = z_lm a0 ls := by
  unfold z_lm
  exact List.map_congr_left (fun q hq => by rw [z_val_ex hE (hO.1 q hq)])
theorem z_sm_ex {h0 h : z_H} {a0 a : Nat → Nat → Nat} {ls : z_L} {st : z_S} (hE : z_EX h0 a0 h a) (hO : z_OK h0 ls st) : st.map (z_val a) = st.map (z_val a0) := List.map_congr_left (fun v hv => z_val_ex hE (hO.2 v hv))
theorem z_lm_at {ad : Nat → Nat → Nat} {la : Array Slot} {nL : Nat} {ls : z_L} (h : lv_has la nL (z_lm ad ls)) {i : Nat} {v : z_V} (hg : z_get ls i = some v) : la[i]? = some (.val (z_val ad v)) :=
  h.2.2 (i, z_val ad v) (List.mem_map.mpr ⟨(i, v), z_get_mem hg, rfl⟩)
/-- a list of locals that is held, and fewer -/
theorem z_lm_sub {ad : Nat → Nat → Nat} {la : Array Slot} {nL : Nat} {l : List (Nat × Value)} {ls : z_L} (h : lv_has la nL l) (hs : ∀ q ∈ ls, (q.1, z_val ad q.2) ∈ l) : lv_has la nL (z_lm ad ls) := ⟨h.1, h.2.1, fun q hq => by
  obtain ⟨x, hx, rfl⟩ := List.mem_map.mp hq
  exact h.2.2 _ (hs x hx)⟩
theorem z_fv_same {h h' : z_H} {K i : Nat} (e1 : ∀ k, hI h' K i k = hI h K i k) (e2 : ∀ k, hL h' K i k = hL h K i k) (e3 : ∀ k, hR h' K i k = hR h K i k) (k : Nat) : z_fv h' K i k = z_fv h K i k := by
  unfold z_fv
  rw [e1, e2, e3]
theorem z_aVal_same {h h' : z_H} {K i : Nat} (e1 : ∀ k, hI h' K i k = hI h K i k) (e2 : ∀ k, hL h' K i k = hL h K i k) : aVal h' K i = aVal h K i := by
  funext j
  unfold aVal
  rw [e1, e2]
/-- a cell that wasn't touched -/
theorem z_cell_kept {G : z_G} {ad ad' : Nat → Nat → Nat} {h h' : z_H} {H H' : Heap} {K i : Nat} (hc : z_cell G ad h H K i) (e0 : ad' K i = ad K i) (e1 : H'[ad K i]? = H[ad K i]?) (e2 : z_lst K = true → hZ h K i ≠ 0 → ad' (K + 1000) i = ad (K + 1000) i ∧ H'[ad (K + 1000) i]? = H[ad (K + 1000) i]?)
    (e3 : ∀ b, b < hN h 1300 → ad' 1300 b = ad 1300 b ∧ H'[ad 1300 b]? = H[ad 1300 b]?) (e4 : ∀ K i, K < 1000 → i < hN h K → ad' K i = ad K i) (hn : ∀ K, hN h K ≤ hN h' K) (hz : hZ h' K i = hZ h K i)
    (f1 : ∀ k, hI h' K i k = hI h K i k) (f2 : ∀ k, hL h' K i k = hL h K i k) (f3 : ∀ k, hR h' K i k = hR h K i k) (hr : ∀ k q, hR h K i k = some q → q.2 < hN h q.1 ∧ q.1 < 1000) : z_cell G ad' h' H' K i := by
  obtain ⟨c1, c2, c3⟩ := hc
  refine ⟨fun hK => ?_, fun hK => ?_, fun hK => ?_⟩
  · rw [e0]
    refine ((c1 hK).kept e1).to (fun k _ => ?_)
    rw [z_fv_same f1 f2 f3]
    unfold z_fv
    split
    · rfl
    · cases hq : hR h K i k with
      | none => rfl
      | some q =>
        show Value.ref (ad q.1 q.2) = Value.ref (ad' q.1 q.2)
        rw [e4 q.1 q.2 (hr k q hq).2 (hr k q hq).1]
    · rfl
  · rw [e0, e1, z_aVal_same f1 f2]
    exact c2 hK
  · obtain ⟨m, el, g1, g2, g3⟩ := c3 hK
    refine ⟨m, el, ?_, ?_, ?_⟩
    · rw [e0]
      refine (g1.kept e1).to (fun k _ => ?_)
      unfold z_LV
      split
      · rfl
      · rw [hz]
        by_cases hzz : hZ h K i = 0
        · rw [if_pos hzz, if_pos hzz]
        · rw [if_neg hzz, if_neg hzz, (e2 hK hzz).1]
      · rw [hz]
    · intro hne
      rw [hz] at hne ⊢
      rw [(e2 hK hne).1, (e2 hK hne).2]
      exact g2 hne
    · intro j hj
      rw [hz] at hj
      obtain ⟨k1, k2⟩ := g3 j hj
      refine ⟨fun hK2 => ?_, fun hK2 => ?_⟩
      · rw [f1]
        rcases k1 hK2 with q | ⟨b, q1, q2, q3⟩
        · exact Or.inl q
        · refine Or.inr ⟨b, Nat.lt_of_lt_of_le q1 (hn _), by rw [(e3 b q1).1]; exact q2, q3.kept ?_⟩
          rw [q2]
          exact (e3 b q1).2
      · obtain ⟨q1, q2⟩ := k2 hK2
        refine ⟨?_, Nat.lt_of_lt_of_le q2 (hn _)⟩
        rw [e4 (lT K) j ?_ q2]
        · exact q1
        · unfold lT
          split <;> decide
theorem z_live_of {h : z_H} {K i : Nat} (hK : K < 1000) (h4 : K ≠ 400) (hi : i < hN h K) : z_live h K i := Or.inl ⟨hK, h4, hi⟩
/-- one cell of the world has changed -/
theorem z_HR.set {G : z_G} {ad : Nat → Nat → Nat} {h h' : z_H} {U : State} {H H' : Heap} (hH : z_HR G ad h U H) {K i : Nat} (hK : K < 1000) (h4 : K ≠ 400) (hi : i < hN h K) (hsz : H'.size = H.size) (ho : ∀ q : Nat, q ≠ ad K i → H'[q]? = H[q]?)
    (hn : hN h' = hN h) (hz : hZ h' = hZ h) (f1 : ∀ K' i' k, ¬ (K' = K ∧ i' = i) → hI h' K' i' k = hI h K' i' k) (f2 : ∀ K' i' k, ¬ (K' = K ∧ i' = i) → hL h' K' i' k = hL h K' i' k) (f3 : ∀ K' i' k, ¬ (K' = K ∧ i' = i) → hR h' K' i' k = hR h K' i' k)
    (hown : z_cell G ad h' H' K i) (href : ∀ k q, hR h' K i k = some q → q.2 < hN h q.1 ∧ q.1 < 1000) : z_HR G ad h' U H' := by
  obtain ⟨o1, o2, o3, o4, o5, o6⟩ := hH
  have hl : z_live h K i := z_live_of hK h4 hi
  have lv : ∀ K i, z_live h' K i → z_live h K i := fun K i q => by unfold z_live at q ⊢; rw [hn, hz] at q; exact q
  have ne : ∀ K' i', z_live h K' i' → ¬ (K' = K ∧ i' = i) → ad K' i' ≠ ad K i := fun K' i' q hne e => hne (o4 K' i' K i q hl e)
  refine ⟨o1.kept (Nat.le_of_eq hsz.symm) (fun q hq => ho q (fun e => ?_)), o2, fun K i q => by rw [hsz]; exact o3 K i (lv K i q), fun K i K' i' q q' e => o4 K i K' i' (lv K i q) (lv K' i' q') e, fun K' i' hK' hi' => ?_, fun K' i' k q hK' hi' hq => ?_⟩
  · have := (o3 K i hl).1
    omega
  · rw [hn] at hi'
    by_cases hs : K' = K ∧ i' = i
    · rw [hs.1, hs.2]
      exact hown
    · by_cases h4' : K' = 400
      · subst h4'
        refine ⟨fun q => ?_, fun q => ?_, fun q => ?_⟩
        · exact absurd q (by decide)
        · exact absurd rfl q
        · exact absurd q (by decide)
      · have hl' : z_live h K' i' := z_live_of hK' h4' hi'
        refine z_cell_kept (o5 K' i' hK' hi') rfl (ho _ (ne K' i' hl' hs)) (fun hls hzz => ⟨rfl, ho _ (ne _ _ (Or.inr (Or.inl ?_)) (fun q => ?_))⟩) (fun b hb => ⟨rfl, ho _ (ne _ _ (Or.inr (Or.inr ⟨rfl, hb⟩)) (fun q => by omega))⟩) (fun _ _ _ _ => rfl) (fun _ => by rw [hn]; exact Nat.le_refl _) (by rw [hz]) (fun k => f1 _ _ _ hs) (fun k => f2 _ _ _ hs) (fun k => f3 _ _ _ hs) (fun k q hq => o6 _ _ _ _ hK' hi' hq)
        · simp only [z_lst, Bool.and_eq_true, decide_eq_true_eq] at hls
          exact ⟨by omega, by omega, by simpa using hi', by simpa using hzz⟩
        · omega
  · rw [hn] at hi' ⊢
    by_cases hs : K' = K ∧ i' = i
    · rw [hs.1, hs.2] at hq
      exact href k q hq
    · rw [f3 _ _ _ hs] at hq
      exact o6 _ _ _ _ hK' hi' hq
/-- a cell of kind K is made at the heap's end -/
theorem z_HR.new {G : z_G} {ad : Nat → Nat → Nat} {h : z_H} {U : State} {H H' : Heap} (hH : z_HR G ad h U H) {K : Nat} (hK : K < 1000) (h4 : K ≠ 400) (hsz : H'.size = H.size + 1) (ho : ∀ q : Nat, q < H.size → H'[q]? = H[q]?)
    (hown : z_cell G (z_u2 ad K (hN h K) H.size) (z_nw h K) H' K (hN h K)) : z_HR G (z_u2 ad K (hN h K) H.size) (z_nw h K) U H' ∧ z_EX h ad (z_nw h K) (z_u2 ad K (hN h K) H.size) := by
  obtain ⟨o1, o2, o3, o4, o5, o6⟩ := hH
  have hnn : ∀ K', hN (z_nw h K) K' = if K' = K then hN h K + 1 else hN h K' := fun K' => rfl
  have hzn : ∀ A i', hZ (z_nw h K) A i' = if A = K ∧ i' = hN h K then 0 else hZ h A i' := fun A i' => rfl
  have hn : ∀ K', hN h K' ≤ hN (z_nw h K) K' := fun K' => by
    rw [hnn]
    split
    · subst_vars; omega
    · exact Nat.le_refl _
  have lv : ∀ K' i', z_live (z_nw h K) K' i' → (K' = K ∧ i' = hN h K) ∨ (z_live h K' i' ∧ ¬ (K' = K ∧ i' = hN h K)) := by
    intro K' i' q
    rcases q with ⟨q1, q2, q3⟩ | ⟨q1, q2, q3, q4⟩ | ⟨q1, q2⟩
    · rw [hnn] at q3
      by_cases e : K' = K
      · rw [if_pos e] at q3
        subst e
        by_cases e2 : i' = hN h K'
        · exact Or.inl ⟨rfl, e2⟩
        · exact Or.inr ⟨Or.inl ⟨q1, q2, by omega⟩, fun z => e2 z.2⟩
      · rw [if_neg e] at q3
        exact Or.inr ⟨Or.inl ⟨q1, q2, q3⟩, fun z => e z.1⟩
    · refine Or.inr ⟨Or.inr (Or.inl ⟨q1, q2, ?_⟩), fun z => by omega⟩
      rw [hzn] at q4
      by_cases e : K' - 1000 = K ∧ i' = hN h K
      · rw [if_pos e] at q4
        exact absurd rfl q4
      · rw [if_neg e] at q4
        refine ⟨?_, q4⟩
        rw [hnn] at q3
        by_cases e1 : K' - 1000 = K
        · rw [if_pos e1] at q3
          have : ¬ i' = hN h K := fun z => e ⟨e1, z⟩
          rw [e1]
          omega
        · rw [if_neg e1] at q3
          exact q3
    · refine Or.inr ⟨Or.inr (Or.inr ⟨q1, ?_⟩), fun z => by omega⟩
      rw [hnn, if_neg (by omega)] at q2
      exact q2
  have adn : ∀ K' i', ¬ (K' = K ∧ i' = hN h K) → z_u2 ad K (hN h K) H.size K' i' = ad K' i' := fun K' i' q => if_neg q
  have ads : z_u2 ad K (hN h K) H.size K (hN h K) = H.size := if_pos ⟨rfl, rfl⟩
  have ad4 : ∀ K' i', i' < hN h K' → z_u2 ad K (hN h K) H.size K' i' = ad K' i' := fun K' i' q => adn K' i' (fun z => by rw [z.1, z.2] at q; omega)
  have hfr : ∀ {α : Type} (f : Nat → Nat → Nat → α) (K' i' k : Nat) (d : α), ¬ (K' = K ∧ i' = hN h K) → (if K' = K ∧ i' = h.1 K then d else f K' i' k) = f K' i' k := fun f K' i' k d q => if_neg q
  refine ⟨⟨o1.kept (by omega) (fun q hq => ho q (Nat.lt_of_lt_of_le hq o1.1)), by rw [adn _ _ (fun z => h4 z.1.symm)]; exact o2, fun K' i' q => ?_, fun K1 i1 K2 i2 q1 q2 e => ?_, fun K' i' hK' hi' => ?_, fun K' i' k q hK' hi' hq => ?_⟩, hn, fun K' i' _ hi' => ad4 K' i' hi'⟩
  · rcases lv K' i' q with ⟨rfl, rfl⟩ | ⟨q, q'⟩
    · rw [ads]
      exact ⟨o1.1, by omega⟩
    · rw [adn _ _ q']
      have := o3 K' i' q
      exact ⟨this.1, by omega⟩
  · rcases lv K1 i1 q1 with ⟨e1, e2⟩ | ⟨r1, r1'⟩ <;> rcases lv K2 i2 q2 with ⟨e3, e4⟩ | ⟨r2, r2'⟩
    · exact ⟨e1.trans e3.symm, e2.trans e4.symm⟩
    · rw [e1, e2, ads, adn _ _ r2'] at e
      have := (o3 K2 i2 r2).2
      omega
    · rw [e3, e4, ads, adn _ _ r1'] at e
      have := (o3 K1 i1 r1).2
      omega
    · rw [adn _ _ r1', adn _ _ r2'] at e
      exact o4 K1 i1 K2 i2 r1 r2 e
  · by_cases hs : K' = K ∧ i' = hN h K
    · rw [hs.1, hs.2]
      exact hown
    · have hi : i' < hN h K' := by
        rw [hnn] at hi'
        by_cases e1 : K' = K
        · rw [if_pos e1] at hi'
          have : ¬ i' = hN h K := fun z => hs ⟨e1, z⟩
          rw [e1]; omega
        · rw [if_neg e1] at hi'
          exact hi'
      by_cases h4' : K' = 400
      · subst h4'
        exact ⟨fun q => absurd q (by decide), fun q => absurd rfl q, fun q => absurd q (by decide)⟩
      · have hl' := z_live_of hK' h4' hi
        have hlt := (o3 K' i' hl').2
        refine z_cell_kept (o5 K' i' hK' hi) (adn _ _ hs) (ho _ hlt) (fun hls hzz => ?_) (fun b hb => ?_) (fun K2 i2 _ q => ad4 K2 i2 q) hn (if_neg hs) (fun k => hfr _ _ _ _ _ hs) (fun k => hfr _ _ _ _ _ hs) (fun k => hfr _ _ _ _ _ hs) (fun k q hq => o6 _ _ _ _ hK' hi hq)
        · simp only [z_lst, Bool.and_eq_true, decide_eq_true_eq] at hls
          refine ⟨adn _ _ (fun z => by omega), ho _ (o3 (K' + 1000) i' (Or.inr (Or.inl ⟨by omega, by omega, by simpa using hi, by simpa using hzz⟩))).2⟩
        · exact ⟨adn _ _ (fun z => by omega), ho _ (o3 1300 b (Or.inr (Or.inr ⟨rfl, hb⟩))).2⟩
  · have hR' : hR (z_nw h K) K' i' k = if K' = K ∧ i' = hN h K then none else hR h K' i' k := rfl
    rw [hR'] at hq
    by_cases hs : K' = K ∧ i' = hN h K
    · rw [if_pos hs] at hq
      cases hq
    · rw [if_neg hs] at hq
      have hi : i' < hN h K' := by
        rw [hnn] at hi'
        by_cases e1 : K' = K
        · rw [if_pos e1] at hi'
          have : ¬ i' = hN h K := fun z => hs ⟨e1, z⟩
          rw [e1]; omega
        · rw [if_neg e1] at hi'
          exact hi'
      have := o6 _ _ _ _ hK' hi hq
      exact ⟨Nat.lt_of_lt_of_le this.1 (hn _), this.2⟩
