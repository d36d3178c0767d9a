/-! a text that is read is a formula -/
theorem dg_le {v : Int} (v0 : 0 ≤ v) : (v < 10 → ((dgT v).length : Int) ≤ 1) ∧ (v < 100 → ((dgT v).length : Int) ≤ 2) ∧ (v < 1000 → ((dgT v).length : Int) ≤ 3) := by
  have h4 := @dgT_l v
  unfold dgT
  refine ⟨fun h => ?_, fun h => ?_, fun h => ?_⟩
  · rw [if_neg (by omega), if_neg (by omega), if_neg (by omega)]
    exact Int.le_refl 1
  · rw [if_neg (by omega), if_neg (by omega)]
    by_cases c : 10 ≤ v
    · rw [if_pos c]; exact Int.le_refl 2
    · rw [if_neg c]; exact (by decide : (1 : Int) ≤ 2)
  · rw [if_neg (by omega)]
    by_cases c : 10 ≤ v
    · rw [if_pos c]
      by_cases d : 100 ≤ v
      · rw [if_pos d]; exact Int.le_refl 3
      · rw [if_neg d]; exact (by decide : (2 : Int) ≤ 3)
    · rw [if_neg c, if_neg (by omega)]; exact (by decide : (1 : Int) ≤ 3)
theorem nmP_n {X rF cF : Int → Int} {L rN cN a : Int} (hr : ∀ i, 0 ≤ i → i < rN → 0 ≤ rF i ∧ rF i < 12) (hc : ∀ i, 0 ≤ i → i < cN → 0 ≤ cF i ∧ cF i < 12) (h : (nmP X L rF rN cF cN a).2 ≠ -1) : 0 ≤ (nmP X L rF rN cF cN a).2 ∧ (nmP X L rF rN cF cN a).2 < 144 := by
  unfold nmP at h ⊢
  by_cases c1 : 65 ≤ ch X L a ∧ ch X L a < 65 + cN
  · rw [if_pos c1] at h ⊢
    by_cases c2 : 49 ≤ ch X L (a + 1) ∧ ch X L (a + 1) ≤ 57 ∧ ch X L (a + 1) - 49 < rN
    · rw [if_pos c2]
      have q1 := hr (ch X L (a + 1) - 49) (by omega) (by omega)
      have q2 := hc (ch X L a - 65) (by omega) (by omega)
      show 0 ≤ 12 * rF (ch X L (a + 1) - 49) + cF (ch X L a - 65) ∧ 12 * rF (ch X L (a + 1) - 49) + cF (ch X L a - 65) < 144
      omega
    · rw [if_neg c2] at h
      exact absurd rfl h
  · rw [if_neg c1] at h
    exact absurd rfl h
def fcOk (L a : Int) (q : Int × Int × Int × Int) : Prop := ((q.2.1 = 0 ∧ (0 ≤ q.2.2.1 ∧ q.2.2.1 ≤ 9999) ∧ q.2.2.2 = 0) ∨ (q.2.1 = 1 ∧ (0 ≤ q.2.2.1 ∧ q.2.2.1 < 144) ∧ q.2.2.2 = q.2.2.1) ∨ (q.2.1 = 2 ∧ (0 ≤ q.2.2.1 ∧ q.2.2.1 < 144) ∧ 0 ≤ q.2.2.2 ∧ q.2.2.2 < 144)) ∧ a + faW q.2.1 q.2.2.1 ≤ q.1 ∧ q.1 ≤ L
theorem nmD_s {X : Int → Int} {L : Int} {k : Nat} {a v : Int} : nmD X L (k + 1) a v = if 48 ≤ ch X L a ∧ ch X L a ≤ 57 then nmD X L k (a + 1) (10 * v + ch X L a - 48) else (a, v) := rfl
theorem fc_num {X : Int → Int} {L a : Int} (h : 48 ≤ ch X L a ∧ ch X L a ≤ 57) : fcOk L a ((nmD X L 4 a 0).1, 0, (nmD X L 4 a 0).2, 0) := by
  have key : ∀ b v : Int, b ≤ L → 0 ≤ v → v ≤ 9999 → a + ((dgT v).length : Int) ≤ b → fcOk L a (b, 0, v, 0) := fun b v h1 h2 h3 h4 => ⟨Or.inl ⟨rfl, ⟨h2, h3⟩, rfl⟩, h4, h1⟩
  have p0 := ch_in (X := X) (L := L) (i := a) (by omega)
  rw [nmD_s, if_pos h, nmD_s]
  by_cases h1 : 48 ≤ ch X L (a + 1) ∧ ch X L (a + 1) ≤ 57
  · have p1 := ch_in (X := X) (L := L) (i := a + 1) (by omega)
    rw [if_pos h1, nmD_s]
    by_cases h2 : 48 ≤ ch X L (a + 1 + 1) ∧ ch X L (a + 1 + 1) ≤ 57
    · have p2 := ch_in (X := X) (L := L) (i := a + 1 + 1) (by omega)
      rw [if_pos h2, nmD_s]
      by_cases h3 : 48 ≤ ch X L (a + 1 + 1 + 1) ∧ ch X L (a + 1 + 1 + 1) ≤ 57
      · have p3 := ch_in (X := X) (L := L) (i := a + 1 + 1 + 1) (by omega)
        rw [if_pos h3]
        refine key (a + 1 + 1 + 1 + 1) (10 * (10 * (10 * (10 * 0 + ch X L a - 48) + ch X L (a + 1) - 48) + ch X L (a + 1 + 1) - 48) + ch X L (a + 1 + 1 + 1) - 48) (by omega) (by omega) (by omega) ?_
        have := (@dgT_l (10 * (10 * (10 * (10 * 0 + ch X L a - 48) + ch X L (a + 1) - 48) + ch X L (a + 1 + 1) - 48) + ch X L (a + 1 + 1 + 1) - 48)).2
        omega
      · rw [if_neg h3]
        refine key (a + 1 + 1 + 1) (10 * (10 * (10 * 0 + ch X L a - 48) + ch X L (a + 1) - 48) + ch X L (a + 1 + 1) - 48) (by omega) (by omega) (by omega) ?_
        have := (dg_le (v := 10 * (10 * (10 * 0 + ch X L a - 48) + ch X L (a + 1) - 48) + ch X L (a + 1 + 1) - 48) (by omega)).2.2 (by omega)
        omega
    · rw [if_neg h2]
      refine key (a + 1 + 1) (10 * (10 * 0 + ch X L a - 48) + ch X L (a + 1) - 48) (by omega) (by omega) (by omega) ?_
      have := (dg_le (v := 10 * (10 * 0 + ch X L a - 48) + ch X L (a + 1) - 48) (by omega)).2.1 (by omega)
      omega
  · rw [if_neg h1]
    refine key (a + 1) (10 * 0 + ch X L a - 48) (by omega) (by omega) (by omega) ?_
    have := (dg_le (v := 10 * 0 + ch X L a - 48) (by omega)).1 (by omega)
    omega
theorem fac_ok {X rF cF : Int → Int} {L rN cN a : Int} (ha : 0 ≤ a) (hr : ∀ i, 0 ≤ i → i < rN → 0 ≤ rF i ∧ rF i < 12) (hc : ∀ i, 0 ≤ i → i < cN → 0 ≤ cF i ∧ cF i < 12) (h : (facP X L rF rN cF cN a).2.1 ≠ -1) : fcOk L a (facP X L rF rN cF cN a) := by
  unfold facP at h ⊢
  by_cases c0 : 48 ≤ ch X L a ∧ ch X L a ≤ 57
  · rw [if_pos c0]
    exact fc_num c0
  · rw [if_neg c0] at h ⊢
    by_cases c1 : ch X L a = 83
    · rw [if_pos c1] at h ⊢
      unfold sumP at h ⊢
      by_cases c2 : ch X L (a + 1) = 40
      · rw [if_pos c2] at h ⊢
        by_cases c3 : (nmP X L rF rN cF cN (a + 2)).2 = -1
        · rw [if_pos c3] at h
          exact absurd rfl h
        · rw [if_neg c3] at h ⊢
          by_cases c4 : ch X L (a + 4) = 58
          · rw [if_pos c4] at h ⊢
            by_cases c5 : (nmP X L rF rN cF cN (a + 5)).2 = -1
            · rw [if_pos c5] at h
              exact absurd rfl h
            · rw [if_neg c5] at h ⊢
              by_cases c6 : ch X L (a + 7) = 41
              · rw [if_pos c6]
                have q := ch_in (X := X) (L := L) (i := a + 7) (by omega)
                have n1 := nmP_n hr hc c3
                have n2 := nmP_n hr hc c5
                refine ⟨Or.inr (Or.inr ⟨rfl, n1, n2⟩), Int.le_refl _, ?_⟩
                show a + 8 ≤ L
                omega
              · rw [if_neg c6] at h
                exact absurd rfl h
          · rw [if_neg c4] at h
            exact absurd rfl h
      · rw [if_neg c2] at h
        exact absurd rfl h
    · rw [if_neg c1] at h ⊢
      unfold celP at h ⊢
      by_cases c3 : (nmP X L rF rN cF cN a).2 = -1
      · rw [if_pos c3] at h
        exact absurd rfl h
      · rw [if_neg c3]
        have n1 := nmP_n hr hc c3
        have n2 := (@nmP_b X rF cF L rN cN a).2.2 c3
        refine ⟨Or.inr (Or.inl ⟨rfl, n1, rfl⟩), ?_, ?_⟩
        · show a + 2 ≤ (nmP X L rF rN cF cN a).1
          omega
        · show (nmP X L rF rN cF cN a).1 ≤ L
          omega
theorem prs_ok {fac : Int → Int × Int × Int × Int} {X : Int → Int} {L : Int} (hf : ∀ a, 0 ≤ a → (fac a).2.1 ≠ -1 → fcOk L a (fac a)) (h0 : ∀ a, 0 ≤ a → 0 ≤ (fac a).1) (n : Nat) : ∀ sg a : Int, isOp sg → 0 ≤ a → (prs9 fac X L n sg a).1 = -1 → (prs9 fac X L n sg a).2 ≠ [] ∧ (∀ y ∈ (prs9 fac X L n sg a).2, faOk y) ∧ flW (prs9 fac X L n sg a).2 ≤ L - a := by
  induction n with
  | zero =>
    intro sg a _ ha h
    have h' : a = -1 := h
    omega
  | succ n ih =>
    intro sg a hs ha h
    have g0 := h0 a ha
    simp only [prs9] at h ⊢
    by_cases c1 : (fac a).2.1 = -1
    · rw [if_pos c1] at h
      have h' : (fac a).1 = -1 := h
      omega
    · rw [if_neg c1] at h ⊢
      have hk := hf a ha c1
      by_cases c2 : isOp (ch X L (fac a).1)
      · rw [if_pos c2] at h ⊢
        have h' := ih (ch X L (fac a).1) ((fac a).1 + 1) c2 (by omega) h
        obtain ⟨i1, i2, i3⟩ := h'
        refine ⟨List.cons_ne_nil _ _, fun y hy => ?_, ?_⟩
        · rcases List.mem_cons.mp hy with e | e
          · rw [e]; exact ⟨hs, hk.1⟩
          · exact i2 y e
        · obtain ⟨z, l, hz⟩ : ∃ z l, (prs9 fac X L n (ch X L (fac a).1) ((fac a).1 + 1)).2 = z :: l := by
            cases hq : (prs9 fac X L n (ch X L (fac a).1) ((fac a).1 + 1)).2 with
            | nil => exact absurd hq i1
            | cons z l => exact ⟨z, l, rfl⟩
          show flW ((sg, (fac a).2.1, (fac a).2.2.1, (fac a).2.2.2) :: (prs9 fac X L n (ch X L (fac a).1) ((fac a).1 + 1)).2) ≤ L - a
          rw [hz] at i3 ⊢
          show faW (fac a).2.1 (fac a).2.2.1 + 1 + flW (z :: l) ≤ L - a
          have := hk.2.1
          omega
      · rw [if_neg c2] at h ⊢
        refine ⟨List.cons_ne_nil _ _, fun y hy => ?_, ?_⟩
        · rcases List.mem_cons.mp hy with e | e
          · rw [e]; exact ⟨hs, hk.1⟩
          · cases e
        · show faW (fac a).2.1 (fac a).2.2.1 ≤ L - a
          have := hk.2
          omega
theorem fl_ok {X : Int → Int} {L : Int} {S : Int → Int} {r : Int} (hX : txW X L) (h : (flS X L S r).1 = -1) : flOk (flS X L S r).2 ∧ ∀ y l, (flS X L S r).2 = y :: l → y.1 = 43 := by
  have hL := hX.1
  unfold flS at h ⊢
  have q := prs_ok (X := X) (L := L) (fac := facP X L (rwF S r 0 (-1)) (rwN S r 0 (-1)) (rwF S r 1 (-1)) (rwN S r 1 (-1))) (fun a a0 a1 => fac_ok a0 (fun i i0 i1 => rwF_b i0 i1) (fun i i0 i1 => rwF_b i0 i1) a1) (fun a a0 => facP_0 a0) 13 43 0 (Or.inl rfl) (by omega) h
  refine ⟨⟨q.1, q.2.1, by have := q.2.2; omega⟩, fun y l e => ?_⟩
  obtain ⟨y', l', e1, e2⟩ := prs_hd (fun a a0 => facP_0 a0) (by omega) h
  rw [e1] at e
  cases e
  exact e2
