/-! lists in the small machine -/
theorem z_lst_no {K : Nat} (h : z_lst K = true) : z_obj K = false ∧ aLen K = 0 ∧ K < 1000 ∧ K ≠ 400 ∧ 200 ≤ K ∧ K ≤ 207 := by
  have h2 : 200 ≤ K ∧ K ≤ 207 := by simpa [z_lst] using h
  rcases (show K = 200 ∨ K = 201 ∨ K = 202 ∨ K = 203 ∨ K = 204 ∨ K = 205 ∨ K = 206 ∨ K = 207 by omega) with rfl | rfl | rfl | rfl | rfl | rfl | rfl | rfl <;> decide
theorem z_lT_cst {K : Nat} : z_obj (lT K) = true ∧ kR (lT K) ∈ z_cst := by
  unfold lT
  split <;> decide
theorem z_any_of {vm : Vm} {s : State} {H : Heap} {q : Nat} {C : String} {cell : Cell} (hvm : s.vm = vm) (hc : va_Nw (.castable C "java/lang/Object") s) (h1 : H[q]? = some cell) (h2 : cell.vm.isStatics = false) (h3 : s.vm.findClass C = some cell.cls) : z_any vm H q := by
  subst hvm
  obtain ⟨c0, t0, f1, f2, f3⟩ := Cond.castable_spec (va_Nw.use (A := #[]) rfl hc)
  cases h3.symm.trans f1
  obtain ⟨kC, hkC, -⟩ := Vm.findClass_spec h3
  exact ⟨cell, h1, h2, ⟨kC, hkC⟩, fun comp hcomp => by cases hcomp.symm.trans f2; exact f3⟩
theorem z_any_obj {G : z_G} {ad : Nat → Nat → Nat} {h : z_H} {s : State} {H : Heap} (hKN : z_KN G s) (hH : z_HR G ad h s H) {K i : Nat} (hK : z_obj K = true) (hc : kR K ∈ z_cst) (hi : i < hN h K) : z_any s.vm H (ad K i) := by
  obtain ⟨cell, q1, q2, q3, -⟩ := (hH.2.2.2.2.1 K i (z_obj_no hK).2.2.2.2 hi).1 hK
  exact z_any_of rfl (hKN.2.2.2.2 _ hc) q1 (by rw [q3]; rfl) (by rw [q2]; exact (hKN.1.1 K _ (z_cl hK)).2.1)
theorem z_any_box {G : z_G} {ad : Nat → Nat → Nat} {h : z_H} {s : State} {H : Heap} (hKN : z_KN G s) (hH : z_HR G ad h s H) {a : Nat} {v : Int32} (hb : z_box G ad h H a v) : z_any s.vm H a ∧ z_bq G H a v ∧ ∃ cell : Cell, H[a]? = some cell ∧ cell.vm.isStatics = false ∧ s.vm.findClass RJ6 = some cell.cls := by
  rcases hb with ⟨k, hk, rfl, rfl⟩ | ⟨b, hb, rfl, hob⟩
  · obtain ⟨cell, g1, g2, g3, -⟩ := hH.1.2.2.2.2.2.2.1.1 k hk
    exact ⟨z_any_of rfl (hKN.2.2.2.2 RJ6 (by decide)) g1 g2 g3, Or.inl ⟨k, hk, rfl, rfl⟩, cell, g1, g2, g3⟩
  · have hob' := hob
    obtain ⟨cell, q1, q2, q3, -⟩ := hob
    have hf : s.vm.findClass RJ6 = some cell.cls := by rw [q2]; exact (z_Kint hKN).2.1
    exact ⟨z_any_of rfl (hKN.2.2.2.2 RJ6 (by decide)) q1 (by rw [q3]; rfl) hf, Or.inr hob', cell, q1, by rw [q3]; rfl, hf⟩
theorem z_els_of {G : z_G} {ad : Nat → Nat → Nat} {h : z_H} {s : State} {H : Heap} (hKN : z_KN G s) (hH : z_HR G ad h s H) {K n : Nat} {el : Nat → Nat} (g3 : ∀ j : Nat, j < hZ h K n → z_LE G ad h H K n j (el j)) : z_els s.vm H (hZ h K n) (z_el el (hZ h K n)) := by
  intro j hj
  refine Or.inr ⟨el j, if_pos hj, ?_⟩
  by_cases h7 : K = 207
  · exact (z_any_box hKN hH ((g3 j hj).1 h7)).1
  · obtain ⟨q1, q2⟩ := (g3 j hj).2 h7
    rw [q1]
    exact z_any_obj hKN hH z_lT_cst.1 z_lT_cst.2 q2
/-- a list has one element more; its array may be a new one -/
theorem z_HR.app {G : z_G} {ad : Nat → Nat → Nat} {h h' : z_H} {U : State} {H H' : Heap} (hH : z_HR G ad h U H) {K n e' : Nat} (hK : z_lst K = true) (hi : n < hN h K) (he : e' = H.size ∨ (hZ h K n ≠ 0 ∧ e' = ad (K + 1000) n)) (hsz : H.size ≤ H'.size) (he' : e' < H'.size) (ho : ∀ q, q < H.size → q ≠ ad K n → q ≠ e' → H'[q]? = H[q]?)
    (hn : hN h' = hN h) (hz : hZ h' = z_u2 (hZ h) K n (hZ h K n + 1)) (f1 : ∀ K' i' k, ¬ (K' = K ∧ i' = n) → hI h' K' i' k = hI h K' i' k) (f2 : hL h' = hL h) (f3 : hR h' = hR h)
    (hown : z_LR G (z_u2 ad (K + 1000) n e') h' H' K n) : z_HR G (z_u2 ad (K + 1000) n e') h' U H' ∧ z_EX h ad h' (z_u2 ad (K + 1000) n e') := by
  obtain ⟨o1, o2, o3, o4, o5, o6⟩ := hH
  have hno := z_lst_no hK
  have hl : z_live h K n := z_live_of hno.2.2.1 hno.2.2.2.1 hi
  have zn : ∀ K' i', ¬ (K' = K ∧ i' = n) → hZ h' K' i' = hZ h K' i' := fun K' i' q => by rw [hz]; exact if_neg q
  have adn : ∀ K' i', ¬ (K' = K + 1000 ∧ i' = n) → z_u2 ad (K + 1000) n e' K' i' = ad K' i' := fun K' i' q => if_neg q
  have ads : z_u2 ad (K + 1000) n e' (K + 1000) n = e' := if_pos ⟨rfl, rfl⟩
  have hae : ad K n ≠ e' := by
    rcases he with rfl | ⟨hz0, rfl⟩
    · exact Nat.ne_of_lt (o3 K n hl).2
    · intro q
      have := o4 _ _ _ _ hl (Or.inr (Or.inl ⟨by omega, by omega, by simpa using hi, by simpa using hz0⟩)) q
      omega
  have lv : ∀ K' i', z_live h' K' i' → (K' = K + 1000 ∧ i' = n) ∨ (z_live h K' i' ∧ ¬ (K' = K + 1000 ∧ i' = n)) := by
    intro K' i' q
    by_cases e : K' = K + 1000 ∧ i' = n
    · exact Or.inl e
    · refine Or.inr ⟨?_, e⟩
      rcases q with ⟨q1, q2, q3⟩ | ⟨q1, q2, q3, q4⟩ | ⟨q1, q2⟩
      · rw [hn] at q3
        exact Or.inl ⟨q1, q2, q3⟩
      · rw [hn] at q3
        rw [zn _ _ (fun z => e ⟨by omega, z.2⟩)] at q4
        exact Or.inr (Or.inl ⟨q1, q2, q3, q4⟩)
      · rw [hn] at q2
        exact Or.inr (Or.inr ⟨q1, q2⟩)
  have eb : gB G ≤ e' := by
    rcases he with rfl | ⟨hz0, rfl⟩
    · exact o1.1
    · exact (o3 (K + 1000) n (Or.inr (Or.inl ⟨by omega, by omega, by simpa using hi, by simpa using hz0⟩))).1
  have ene : ∀ K' i', z_live h K' i' → ¬ (K' = K + 1000 ∧ i' = n) → ad K' i' ≠ e' := by
    intro K' i' q hne z
    rcases he with rfl | ⟨hz0, rfl⟩
    · have := (o3 K' i' q).2
      omega
    · exact hne (o4 _ _ _ _ q (Or.inr (Or.inl ⟨by omega, by omega, by simpa using hi, by simpa using hz0⟩)) z)
  have kp : ∀ K' i', z_live h K' i' → ¬ (K' = K + 1000 ∧ i' = n) → ¬ (K' = K ∧ i' = n) → H'[ad K' i']? = H[ad K' i']? := fun K' i' q n1 n2 => ho _ (o3 K' i' q).2 (fun z => n2 (o4 _ _ _ _ q hl z)) (ene K' i' q n1)
  refine ⟨⟨o1.kept hsz (fun q hq => ho q (by have := o1.1; omega) (fun z => by have := (o3 K n hl).1; omega) (fun z => by omega)), by rw [adn _ _ (fun z => by omega)]; exact o2, fun K' i' q => ?_, fun K1 i1 K2 i2 q1 q2 e => ?_, fun K' i' hK' hi' => ?_, fun K' i' k q hK' hi' hq => ?_⟩, fun K' => by rw [hn]; exact Nat.le_refl _, fun K' i' hK' _ => adn _ _ (fun z => by omega)⟩
  · rcases lv K' i' q with ⟨rfl, rfl⟩ | ⟨q, q'⟩
    · rw [ads]
      exact ⟨eb, he'⟩
    · rw [adn _ _ q']
      have := o3 K' i' q
      exact ⟨this.1, by omega⟩
  · rcases lv K1 i1 q1 with ⟨e1, e2⟩ | ⟨r1, r1'⟩ <;> rcases lv K2 i2 q2 with ⟨e3, e4⟩ | ⟨r2, r2'⟩
    · exact ⟨e1.trans e3.symm, e2.trans e4.symm⟩
    · rw [e1, e2, ads, adn _ _ r2'] at e
      exact absurd e.symm (ene K2 i2 r2 r2')
    · rw [e3, e4, ads, adn _ _ r1'] at e
      exact absurd e (ene K1 i1 r1 r1')
    · rw [adn _ _ r1', adn _ _ r2'] at e
      exact o4 K1 i1 K2 i2 r1 r2 e
  · rw [hn] at hi'
    by_cases hs : K' = K ∧ i' = n
    · rw [hs.1, hs.2]
      exact ⟨fun q => (by rw [hno.1] at q; cases q), fun q => absurd hno.2.1 q, fun _ => hown⟩
    · by_cases h4' : K' = 400
      · subst h4'
        exact ⟨fun q => absurd q (by decide), fun q => absurd rfl q, fun q => absurd q (by decide)⟩
      · have hl' := z_live_of hK' h4' hi'
        refine z_cell_kept (o5 K' i' hK' hi') (adn _ _ (fun z => by omega)) (kp K' i' hl' (fun z => by omega) hs) (fun hls hzz => ?_) (fun b hb => ?_) (fun K2 i2 q _ => adn _ _ (fun z => by omega)) (fun K' => by rw [hn]; exact Nat.le_refl _) (zn _ _ hs) (fun k => f1 _ _ _ hs) (fun k => by rw [f2]) (fun k => by rw [f3]) (fun k q hq => o6 _ _ _ _ hK' hi' hq)
        · have hls' := (z_lst_no hls).2.2.2.2
          have hq : ¬ (K' + 1000 = K + 1000 ∧ i' = n) := fun z => hs ⟨by omega, z.2⟩
          exact ⟨adn _ _ hq, kp _ _ (Or.inr (Or.inl ⟨by omega, by omega, by simpa using hi', by simpa using hzz⟩)) hq (fun z => by omega)⟩
        · exact ⟨adn _ _ (fun z => by omega), kp _ _ (Or.inr (Or.inr ⟨rfl, hb⟩)) (fun z => by omega) (fun z => by omega)⟩
  · rw [hn] at hi' ⊢
    rw [f3] at hq
    exact o6 _ _ _ _ hK' hi' hq
/-- a boxed int is made at the heap's end -/
theorem z_HR.box {G : z_G} {ad : Nat → Nat → Nat} {h : z_H} {U : State} {H H' : Heap} (hH : z_HR G ad h U H) (hsz : H'.size = H.size + 1) (ho : ∀ q : Nat, q < H.size → H'[q]? = H[q]?) : z_HR G (z_u2 ad 1300 (hN h 1300) H.size) (sN h 1300 (hN h 1300 + 1)) U H' ∧ z_EX h ad (sN h 1300 (hN h 1300 + 1)) (z_u2 ad 1300 (hN h 1300) H.size) := by
  obtain ⟨o1, o2, o3, o4, o5, o6⟩ := hH
  have hnn : ∀ K', hN (sN h 1300 (hN h 1300 + 1)) K' = if K' = 1300 then hN h 1300 + 1 else hN h K' := fun K' => rfl
  have hn : ∀ K', hN h K' ≤ hN (sN h 1300 (hN h 1300 + 1)) K' := fun K' => by
    rw [hnn]
    split
    · subst_vars; omega
    · exact Nat.le_refl _
  have adn : ∀ K' i', ¬ (K' = 1300 ∧ i' = hN h 1300) → z_u2 ad 1300 (hN h 1300) H.size K' i' = ad K' i' := fun K' i' q => if_neg q
  have ads : z_u2 ad 1300 (hN h 1300) H.size 1300 (hN h 1300) = H.size := if_pos ⟨rfl, rfl⟩
  have lv : ∀ K' i', z_live (sN h 1300 (hN h 1300 + 1)) K' i' → (K' = 1300 ∧ i' = hN h 1300) ∨ (z_live h K' i' ∧ ¬ (K' = 1300 ∧ i' = hN h 1300)) := by
    intro K' i' q
    rcases q with ⟨q1, q2, q3⟩ | ⟨q1, q2, q3, q4⟩ | ⟨q1, q2⟩
    · rw [hnn, if_neg (by omega)] at q3
      exact Or.inr ⟨Or.inl ⟨q1, q2, q3⟩, fun z => by omega⟩
    · rw [hnn, if_neg (by omega)] at q3
      exact Or.inr ⟨Or.inr (Or.inl ⟨q1, q2, q3, q4⟩), fun z => by omega⟩
    · subst q1
      rw [hnn, if_pos rfl] at q2
      by_cases e : i' = hN h 1300
      · exact Or.inl ⟨rfl, e⟩
      · exact Or.inr ⟨Or.inr (Or.inr ⟨rfl, by omega⟩), fun z => e z.2⟩
  refine ⟨⟨o1.kept (by omega) (fun q hq => ho q (Nat.lt_of_lt_of_le hq o1.1)), by rw [adn _ _ (fun z => by omega)]; exact o2, fun K' i' q => ?_, fun K1 i1 K2 i2 q1 q2 e => ?_, fun K' i' hK' hi' => ?_, fun K' i' k q hK' hi' hq => ?_⟩, hn, fun K' i' hK' _ => adn _ _ (fun z => by omega)⟩
  · rcases lv K' i' q with ⟨rfl, rfl⟩ | ⟨q, q'⟩
    · rw [ads]
      exact ⟨o1.1, by omega⟩
    · rw [adn _ _ q']
      have := o3 K' i' q
      exact ⟨this.1, by omega⟩
  · rcases lv K1 i1 q1 with ⟨e1, e2⟩ | ⟨r1, r1'⟩ <;> rcases lv K2 i2 q2 with ⟨e3, e4⟩ | ⟨r2, r2'⟩
    · exact ⟨e1.trans e3.symm, e2.trans e4.symm⟩
    · rw [e1, e2, ads, adn _ _ r2'] at e
      have := (o3 K2 i2 r2).2
      omega
    · rw [e3, e4, ads, adn _ _ r1'] at e
      have := (o3 K1 i1 r1).2
      omega
    · rw [adn _ _ r1', adn _ _ r2'] at e
      exact o4 K1 i1 K2 i2 r1 r2 e
  · rw [hnn, if_neg (by omega)] at hi'
    by_cases h4' : K' = 400
    · subst h4'
      exact ⟨fun q => absurd q (by decide), fun q => absurd rfl q, fun q => absurd q (by decide)⟩
    · have hl' := z_live_of hK' h4' hi'
      refine z_cell_kept (o5 K' i' hK' hi') (adn _ _ (fun z => by omega)) (ho _ (o3 K' i' hl').2) (fun hls hzz => ?_) (fun b hb => ?_) (fun K2 i2 q _ => adn _ _ (fun z => by omega)) hn rfl (fun k => rfl) (fun k => rfl) (fun k => rfl) (fun k q hq => o6 _ _ _ _ hK' hi' hq)
      · have hls' := (z_lst_no hls).2.2.2.2
        exact ⟨adn _ _ (fun z => by omega), ho _ (o3 (K' + 1000) i' (Or.inr (Or.inl ⟨by omega, by omega, by simpa using hi', by simpa using hzz⟩))).2⟩
      · exact ⟨adn _ _ (fun z => by omega), ho _ (o3 1300 b (Or.inr (Or.inr ⟨rfl, hb⟩))).2⟩
  · rw [hnn, if_neg (by omega)] at hi'
    have := o6 _ _ _ _ hK' hi' hq
    exact ⟨Nat.lt_of_lt_of_le this.1 (hn _), this.2⟩
