/-! lines in order: by place, then by number -/
def lnLt (pl : Int → Int) (x y : Int) : Prop := pl x < pl y ∨ (pl x = pl y ∧ x < y)
theorem lnLt_irr {pl : Int → Int} {x : Int} : ¬ lnLt pl x x := by unfold lnLt; omega
theorem lnLt_asy {pl : Int → Int} {x y : Int} (h : lnLt pl x y) : ¬ lnLt pl y x := by unfold lnLt at *; omega
/-- f lists, in order, the numbers below m that are shown; there are n -/
def En (pl : Int → Int) (sh : Int → Prop) (m : Int) (f : Int → Int) (n : Int) : Prop :=
  0 ≤ n ∧ n ≤ m ∧ (∀ i j, 0 ≤ i → i < j → j < n → lnLt pl (f i) (f j)) ∧ (∀ i, 0 ≤ i → i < n → 0 ≤ f i ∧ f i < m ∧ sh (f i)) ∧ ∀ x, 0 ≤ x → x < m → sh x → ∃ i, 0 ≤ i ∧ i < n ∧ f i = x
theorem En.zero {pl : Int → Int} {sh : Int → Prop} {f : Int → Int} : En pl sh 0 f 0 := ⟨by omega, by omega, by intros; omega, by intros; omega, by intros; omega⟩
theorem En.skip {pl : Int → Int} {sh : Int → Prop} {m n : Int} {f : Int → Int} (h : En pl sh m f n) (hs : ¬ sh m) : En pl sh (m + 1) f n := by
  obtain ⟨h1, h2, h3, h4, h5⟩ := h
  refine ⟨h1, by omega, h3, fun i hi hj => ?_, fun x hx hy hz => ?_⟩
  · have := h4 i hi hj
    exact ⟨this.1, by omega, this.2.2⟩
  · by_cases e : x = m
    · subst e
      exact absurd hz hs
    · exact h5 x hx (by omega) hz
theorem En.ins {pl : Int → Int} {sh : Int → Prop} {m n k : Int} {f g : Int → Int} (h : En pl sh m f n) (hm : 0 ≤ m) (hs : sh m) (hk : 0 ≤ k) (hkn : k ≤ n) (hlo : k = 0 ∨ pl (f (k - 1)) ≤ pl m) (hhi : ∀ j, k ≤ j → j < n → pl m < pl (f j))
    (g1 : ∀ j, 0 ≤ j → j < k → g j = f j) (g2 : g k = m) (g3 : ∀ j, k < j → j ≤ n → g j = f (j - 1)) : En pl sh (m + 1) g (n + 1) := by
  obtain ⟨h1, h2, h3, h4, h5⟩ := h
  have hlow : ∀ j, 0 ≤ j → j < k → lnLt pl (f j) m := by
    intro j hj hjk
    have hb := (h4 j hj (by omega)).2.1
    rcases hlo with hlo | hlo
    · omega
    · by_cases e : j = k - 1
      · subst e
        unfold lnLt
        omega
      · have := h3 j (k - 1) hj (by omega) (by omega)
        unfold lnLt at *
        omega
  have hhi2 : ∀ j, k ≤ j → j < n → lnLt pl m (f j) := fun j h1 h2 => Or.inl (hhi j h1 h2)
  refine ⟨by omega, by omega, fun i j hi hij hj => ?_, fun i hi hj => ?_, fun x hx hy hz => ?_⟩
  · rcases (by omega : i < k ∨ i = k ∨ k < i) with a | a | a
    · rw [g1 i hi a]
      rcases (by omega : j < k ∨ j = k ∨ k < j) with b | b | b
      · rw [g1 j (by omega) b]; exact h3 i j hi hij (by omega)
      · subst b; rw [g2]; exact hlow i hi a
      · rw [g3 j b (by omega)]
        exact h3 i (j - 1) hi (by omega) (by omega)
    · subst a
      rw [g2, g3 j hij (by omega)]
      exact hhi2 (j - 1) (by omega) (by omega)
    · rw [g3 i a (by omega), g3 j (by omega) (by omega)]
      exact h3 (i - 1) (j - 1) (by omega) (by omega) (by omega)
  · rcases (by omega : i < k ∨ i = k ∨ k < i) with a | a | a
    · rw [g1 i hi a]
      have := h4 i hi (by omega)
      exact ⟨this.1, by omega, this.2.2⟩
    · subst a; rw [g2]; exact ⟨hm, by omega, hs⟩
    · rw [g3 i a (by omega)]
      have := h4 (i - 1) (by omega) (by omega)
      exact ⟨this.1, by omega, this.2.2⟩
  · by_cases e : x = m
    · exact ⟨k, hk, by omega, by rw [g2, e]⟩
    · obtain ⟨i, a, b, c⟩ := h5 x hx (by omega) hz
      by_cases ik : i < k
      · exact ⟨i, a, by omega, by rw [g1 i a ik]; exact c⟩
      · exact ⟨i + 1, by omega, by omega, by rw [g3 (i + 1) (by omega) (by omega), show i + 1 - 1 = i by omega]; exact c⟩
/-- there is one -/
theorem En.ex (pl : Int → Int) (sh : Int → Prop) (m : Nat) : ∃ f n, En pl sh m f n := by
  induction m with
  | zero => exact ⟨fun _ => 0, 0, En.zero⟩
  | succ m ih =>
    obtain ⟨f, n, h⟩ := ih
    by_cases hs : sh m
    · -- the place where m goes
      have hk : ∃ k, 0 ≤ k ∧ k ≤ n ∧ (k = 0 ∨ pl (f (k - 1)) ≤ pl m) ∧ ∀ j, k ≤ j → j < n → pl m < pl (f j) := by
        have key : ∀ d : Nat, (d : Int) ≤ n → (∀ j, n - d ≤ j → j < n → pl m < pl (f j)) → ∃ k, 0 ≤ k ∧ k ≤ n ∧ (k = 0 ∨ pl (f (k - 1)) ≤ pl m) ∧ ∀ j, k ≤ j → j < n → pl m < pl (f j) := by
          intro d
          obtain ⟨e, he⟩ : ∃ e : Nat, e = (n - d).toNat := ⟨_, rfl⟩
          induction e generalizing d with
          | zero =>
            intro hd hj
            exact ⟨n - d, by omega, by omega, Or.inl (by omega), hj⟩
          | succ e ih2 =>
            intro hd hj
            by_cases hc : pl (f (n - d - 1)) ≤ pl m
            · exact ⟨n - d, by omega, by omega, Or.inr hc, hj⟩
            · refine ih2 (d + 1) (by omega) (by omega) (fun j h1 h2 => ?_)
              by_cases e2 : j = n - d - 1
              · subst e2; omega
              · exact hj j (by omega) h2
        exact key 0 (by have := h.1; omega) (fun j h1 h2 => by omega)
      obtain ⟨k, k1, k2, k3, k4⟩ := hk
      refine ⟨fun j => if j < k then f j else if j = k then m else f (j - 1), n + 1, ?_⟩
      exact En.ins h (by omega) hs k1 k2 k3 k4 (fun j _ hj => by simp [hj]) (by simp) (fun j h1 h2 => by rw [if_neg (by omega), if_neg (by omega)])
    · exact ⟨f, n, En.skip h hs⟩
/-- and only one -/
theorem En.uniq {pl : Int → Int} {sh : Int → Prop} {m n n' : Int} {f f' : Int → Int} (h : En pl sh m f n) (h' : (∀ i j, 0 ≤ i → i < j → j < n' → lnLt pl (f' i) (f' j)) ∧ (∀ i, 0 ≤ i → i < n' → 0 ≤ f' i ∧ f' i < m ∧ sh (f' i)) ∧ (∀ x, 0 ≤ x → x < m → sh x → ∃ i, 0 ≤ i ∧ i < n' ∧ f' i = x) ∧ 0 ≤ n') : n' = n ∧ ∀ i, 0 ≤ i → i < n → f' i = f i := by
  obtain ⟨h1, h2, h3, h4, h5⟩ := h
  obtain ⟨g3, g4, g5, g1⟩ := h'
  have key : ∀ i : Nat, ((i : Int) < n → (i : Int) < n' ∧ f' i = f i) ∧ ((i : Int) < n' → (i : Int) < n) := by
    intro i
    induction i using Nat.strongRecOn with
    | ind i ih =>
    have e1 : (i : Int) < n → ∃ j, (i : Int) ≤ j ∧ j < n' ∧ f' j = f i := by
      intro hi
      obtain ⟨a1, a2, a3⟩ := h4 i (by omega) hi
      obtain ⟨j, b1, b2, b3⟩ := g5 (f i) a1 a2 a3
      refine ⟨j, ?_, b2, b3⟩
      rcases Int.lt_or_le j i with q | q
      · exfalso
        obtain ⟨jn, hjn⟩ : ∃ jn : Nat, j = jn := ⟨j.toNat, by omega⟩
        subst hjn
        have hv := ((ih jn (by omega)).1 (by omega)).2
        have hl := h3 jn i (by omega) q hi
        rw [← hv, b3] at hl
        exact lnLt_irr hl
      · exact q
    have e2 : (i : Int) < n' → ∃ j, (i : Int) ≤ j ∧ j < n ∧ f j = f' i := by
      intro hi
      obtain ⟨a1, a2, a3⟩ := g4 i (by omega) hi
      obtain ⟨j, b1, b2, b3⟩ := h5 (f' i) a1 a2 a3
      refine ⟨j, ?_, b2, b3⟩
      rcases Int.lt_or_le j i with q | q
      · exfalso
        obtain ⟨jn, hjn⟩ : ∃ jn : Nat, j = jn := ⟨j.toNat, by omega⟩
        subst hjn
        have hv := (ih jn (by omega)).1 (by omega)
        have hl := g3 jn i (by omega) q hi
        rw [hv.2, b3] at hl
        exact lnLt_irr hl
      · exact q
    refine ⟨fun hi => ?_, fun hi => ?_⟩
    · obtain ⟨j, a1, a2, a3⟩ := e1 hi
      refine ⟨by omega, ?_⟩
      obtain ⟨j2, b1, b2, b3⟩ := e2 (by omega)
      by_cases ej : j = i
      · subst ej; exact a3
      · by_cases ej2 : j2 = i
        · subst ej2; exact b3.symm
        · have l1 := g3 i j (by omega) (by omega) a2
          have l2 := h3 i j2 (by omega) (by omega) b2
          rw [a3] at l1
          rw [b3] at l2
          exact absurd l2 (lnLt_asy l1)
    · obtain ⟨j, a1, a2, a3⟩ := e2 hi
      omega
  have hn : n' = n := by
    rcases (by omega : n' < n ∨ n' = n ∨ n < n') with q | q | q
    · have := ((key n'.toNat).1 (by omega)).1
      omega
    · exact q
    · have := (key n.toNat).2 (by omega)
      omega
  refine ⟨hn, fun i hi hj => ?_⟩
  obtain ⟨w, hw⟩ : ∃ w : Nat, i = w := ⟨i.toNat, by omega⟩
  subst hw
  exact ((key w).1 hj).2
theorem En.uniq2 {pl : Int → Int} {sh : Int → Prop} {m n n' : Int} {f f' : Int → Int} (h : En pl sh m f n) (h' : En pl sh m f' n') : n' = n ∧ ∀ i, 0 ≤ i → i < n → f' i = f i := En.uniq h ⟨h'.2.2.1, h'.2.2.2.1, h'.2.2.2.2, h'.1⟩
theorem En.congr {pl pl' : Int → Int} {sh sh' : Int → Prop} {m n : Int} {f : Int → Int} (h : En pl sh m f n) (hp : ∀ x, 0 ≤ x → x < m → pl' x = pl x) (hs : ∀ x, 0 ≤ x → x < m → (sh' x ↔ sh x)) : En pl' sh' m f n := by
  obtain ⟨h1, h2, h3, h4, h5⟩ := h
  refine ⟨h1, h2, fun i j hi hij hj => ?_, fun i hi hj => ?_, fun x hx hy hz => h5 x hx hy ((hs x hx hy).mp hz)⟩
  · have a := h4 i hi (by omega)
    have b := h4 j (by omega) hj
    have := h3 i j hi hij hj
    unfold lnLt at *
    rw [hp _ a.1 a.2.1, hp _ b.1 b.2.1]
    exact this
  · have a := h4 i hi hj
    exact ⟨a.1, a.2.1, (hs _ a.1 a.2.1).mpr a.2.2⟩
