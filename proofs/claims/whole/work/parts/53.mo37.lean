theorem tks_1 {x : Int × Int × Int × Int} : tks [x] = facT x.2.1 x.2.2.1 x.2.2.2 := rfl
theorem tks_2 {x y : Int × Int × Int × Int} {l : List (Int × Int × Int × Int)} : tks (x :: y :: l) = facT x.2.1 x.2.2.1 x.2.2.2 ++ opT y.1 :: tks (y :: l) := rfl
/-- the signs from a place on -/
def tkA (S : Int → Int) (id : Int) (k : Nat) (t : List Int) : Prop := ∀ (i : Nat) (v : Int), t[i]? = some v → S (3 + 32 * id + (8 + ((k + i : Nat) : Int))) = v
theorem tkA.app {S : Int → Int} {id : Int} {k : Nat} {a b : List Int} (h : tkA S id k (a ++ b)) : tkA S id k a ∧ tkA S id (k + a.length) b := by
  refine ⟨fun i v hv => h i v ?_, fun i v hv => ?_⟩
  · have hl : i < a.length := (List.getElem?_eq_some_iff.mp hv).1
    rw [List.getElem?_append_left hl]; exact hv
  · have := h (a.length + i) v (by rw [List.getElem?_append_right (by omega)]; rw [show a.length + i - a.length = i by omega]; exact hv)
    rw [← this, Nat.add_assoc]
theorem tkA.hd {S : Int → Int} {id : Int} {k : Nat} {v : Int} {t : List Int} (h : tkA S id k (v :: t)) : S (3 + 32 * id + (8 + (k : Int))) = v ∧ tkA S id (k + 1) t := by
  refine ⟨?_, fun i w hw => ?_⟩
  · have := h 0 v rfl
    exact this
  · have := h (i + 1) w hw
    rw [← this, show k + 1 + i = k + (i + 1) by omega]
theorem flW_p {x : Int × Int × Int × Int} {l : List (Int × Int × Int × Int)} : faW x.2.1 x.2.2.1 ≤ flW (x :: l) := by
  induction l generalizing x with
  | nil => exact Int.le_refl _
  | cons y l ih =>
    have := ih (x := y)
    show _ ≤ faW x.2.1 x.2.2.1 + 1 + flW (y :: l)
    have q : 0 ≤ faW y.2.1 y.2.2.1 := by
      unfold faW
      have := dgT_l (v := y.2.2.1)
      split
      · omega
      · split <;> omega
    omega
theorem fac_w {k f s : Int} : ((facT k f s).length : Int) ≤ faW k f := by
  unfold facT faW
  have := dgT_l (v := f)
  split
  · simp only [List.length_cons, List.length_nil]; omega
  · split <;> simp only [List.length_cons, List.length_nil] <;> omega
theorem tks_w {l : List (Int × Int × Int × Int)} : ((tks l).length : Int) ≤ flW l := by
  induction l with
  | nil => exact Int.le_refl _
  | cons x l ih =>
    cases l with
    | nil => exact fac_w
    | cons y l =>
      rw [tks_2, List.length_append, List.length_cons]
      show _ ≤ faW x.2.1 x.2.2.1 + 1 + flW (y :: l)
      have := fac_w (k := x.2.1) (f := x.2.2.1) (s := x.2.2.2)
      omega
/-- where a sum begins, two cells follow -/
theorem tks_4 {l : List (Int × Int × Int × Int)} (h : ∀ x ∈ l, faOk x) : ∀ i : Nat, (tks l)[i]? = some (-4) → ∃ a b, (tks l)[i + 1]? = some a ∧ (tks l)[i + 2]? = some b ∧ 10000 ≤ a ∧ 10000 ≤ b := by
  have fac : ∀ (x : Int × Int × Int × Int) (rest : List Int) (i : Nat), faOk x → (facT x.2.1 x.2.2.1 x.2.2.2 ++ rest)[i]? = some (-4) → i < (facT x.2.1 x.2.2.1 x.2.2.2).length → ∃ a b, (facT x.2.1 x.2.2.1 x.2.2.2 ++ rest)[i + 1]? = some a ∧ (facT x.2.1 x.2.2.1 x.2.2.2 ++ rest)[i + 2]? = some b ∧ 10000 ≤ a ∧ 10000 ≤ b := by
    intro x rest i hx hi hl
    obtain ⟨-, hx⟩ := hx
    unfold facT at hi hl ⊢
    rcases hx with ⟨e, q, -⟩ | ⟨e, q, -⟩ | ⟨e, q, q2⟩
    · rw [if_pos e] at hi hl
      have : i = 0 := by simp only [List.length_cons, List.length_nil] at hl; omega
      subst this
      simp at hi
      omega
    · rw [if_neg (by omega), if_pos e] at hi hl
      have : i = 0 := by simp only [List.length_cons, List.length_nil] at hl; omega
      subst this
      simp at hi
      omega
    · rw [if_neg (by omega), if_neg (by omega)] at hi hl ⊢
      simp only [List.length_cons, List.length_nil] at hl
      rcases (by omega : i = 0 ∨ i = 1 ∨ i = 2) with e | e | e
      · subst e
        exact ⟨_, _, rfl, rfl, by omega, by omega⟩
      · subst e
        simp at hi
        omega
      · subst e
        simp at hi
        omega
  induction l with
  | nil => intro i hi; simp [tks] at hi
  | cons x l ih =>
    intro i hi
    have hx := h x List.mem_cons_self
    cases l with
    | nil =>
      rw [tks_1] at hi ⊢
      have hl : i < (facT x.2.1 x.2.2.1 x.2.2.2).length := (List.getElem?_eq_some_iff.mp hi).1
      have := fac x [] i hx (by rw [List.append_nil]; exact hi) hl
      rw [List.append_nil] at this
      exact this
    | cons y l =>
      rw [tks_2] at hi ⊢
      by_cases hl : i < (facT x.2.1 x.2.2.1 x.2.2.2).length
      · exact fac x _ i hx hi hl
      · rw [List.getElem?_append_right (by omega)] at hi
        obtain ⟨w, hw⟩ : ∃ w, i = (facT x.2.1 x.2.2.1 x.2.2.2).length + w := ⟨i - (facT x.2.1 x.2.2.1 x.2.2.2).length, by omega⟩
        subst hw
        rw [show (facT x.2.1 x.2.2.1 x.2.2.2).length + w - (facT x.2.1 x.2.2.1 x.2.2.2).length = w by omega] at hi
        cases w with
        | zero =>
          have hi2 : opT y.1 = -4 := by simpa using hi
          unfold opT at hi2
          split at hi2
          · omega
          · split at hi2 <;> omega
        | succ w =>
          have hi2 : (tks (y :: l))[w]? = some (-4) := by simpa using hi
          obtain ⟨a, b, h1, h2, h3, h4⟩ := ih (fun z hz => h z (List.mem_cons_of_mem _ hz)) w hi2
          refine ⟨a, b, ?_, ?_, h3, h4⟩
          · rw [List.getElem?_append_right (by omega), show (facT x.2.1 x.2.2.1 x.2.2.2).length + (w + 1) + 1 - (facT x.2.1 x.2.2.1 x.2.2.2).length = w + 1 + 1 by omega]
            exact h1
          · rw [List.getElem?_append_right (by omega), show (facT x.2.1 x.2.2.1 x.2.2.2).length + (w + 1) + 2 - (facT x.2.1 x.2.2.1 x.2.2.2).length = w + 2 + 1 by omega]
            exact h2
theorem fmlAt.sg {S : Int → Int} {id : Int} {fl : List (Int × Int × Int × Int)} (h : fmlAt S id fl) : sgOk S id := by
  obtain ⟨h1, h2, h3, h4, h5⟩ := h
  have hw := tks_w (l := fl)
  refine ⟨by omega, by omega, fun k k0 k1 hk => ?_⟩
  obtain ⟨i, hi⟩ : ∃ i : Nat, k = i := ⟨k.toNat, by omega⟩
  subst hi
  have hil : i < (tks fl).length := by omega
  have hg := List.getElem?_eq_getElem hil
  have := h2 i _ hg
  rw [hk] at this
  rw [← this] at hg
  obtain ⟨a, b, e1, e2, a1, b1⟩ := tks_4 h4 i hg
  have f1 := h2 _ _ e1
  have f2 := h2 _ _ e2
  have l2 := (List.getElem?_eq_some_iff.mp e2).1
  refine ⟨?_, ?_, by omega⟩
  · rw [show 8 + (i : Int) + 1 = 8 + ((i + 1 : Nat) : Int) by omega, f1]; exact a1
  · rw [show 8 + (i : Int) + 2 = 8 + ((i + 2 : Nat) : Int) by omega, f2]; exact b1
