/-- the records with one more -/
def pEnd (P : Int → Int) (np : Int) (S : Int → Int) : Int → Int :=
  if np = 4 then fun j => if 13959 ≤ j ∧ j < 18612 then S (j - 13959) else if 0 ≤ j ∧ j < 13959 then P (j + 4653) else P j
  else fun j => if 4653 * np ≤ j ∧ j < 4653 * np + 4653 then S (j - 4653 * np) else P j
def nEnd (np : Int) : Int := if np = 4 then 4 else np + 1
theorem endI_2 {I : gI} {mo : Nat} : endI I mo (mo + 2) = pEnd (I (mo + 2)) (I mo 3) (I (mo + 3)) := by
  unfold endI pEnd
  split
  · funext j
    rw [uI_a (by omega)]
    unfold cpI
    by_cases e : 13959 ≤ j ∧ j < 18612
    · rw [if_pos ⟨rfl, e.1, by omega⟩, if_pos e, if_neg (by omega)]
      congr 1
      omega
    · rw [if_neg (fun h => e ⟨h.2.1, by omega⟩), if_neg e]
      by_cases e2 : 0 ≤ j ∧ j < 13959
      · rw [if_pos ⟨rfl, e2.1, by omega⟩, if_pos e2]
        congr 1
        omega
      · rw [if_neg (fun h => e2 ⟨h.2.1, by omega⟩), if_neg e2]
  · funext j
    rw [uI_a (by omega)]
    unfold cpI
    by_cases e : 4653 * I mo 3 ≤ j ∧ j < 4653 * I mo 3 + 4653
    · rw [if_pos ⟨rfl, e.1, e.2⟩, if_pos e]
      congr 1
      omega
    · rw [if_neg (fun h => e h.2), if_neg e]
theorem endI_3 {I : gI} {mo : Nat} : endI I mo mo 3 = nEnd (I mo 3) := by
  unfold endI nEnd
  split
  · rw [uI_s]
  · rw [uI_s]
theorem endI_o {I : gI} {mo b : Nat} {j : Int} (h : b ≠ mo + 2) (h2 : b ≠ mo ∨ j ≠ 3) : endI I mo b j = I b j := by
  unfold endI
  split
  · rcases h2 with h2 | h2
    · rw [uI_a h2, cpI_b h, cpI_b h]
    · rw [uI_k h2, cpI_b h, cpI_b h]
  · rcases h2 with h2 | h2
    · rw [uI_a h2, cpI_b h]
    · rw [uI_k h2, cpI_b h]
/-- what a public method of the model leaves -/
def mOut (T : gT) (I : gI) (J : gJ) (O : gO) (mo : Nat) (ans thr : Int) (S P : Int → Int) (np : Int) (X : Int → Int) (nt : Int) : gP := fun v T' I' J' O' =>
  v = some (VI ans) ∧ T' = T ∧ O' = O ∧ (∀ b, b < mo ∨ mo + 20 < b → ∀ j, I' b j = I b j ∧ J' b j = J b j) ∧ I' mo 6 = thr ∧ (∀ j, 0 ≤ j → j < 4653 → I' (mo + 1) j = S j) ∧ (∀ j, 0 ≤ j → j < 18612 → I' (mo + 2) j = P j) ∧ I' mo 3 = np ∧ (∀ j, I' (mo + 4) j = X j) ∧ I' mo 5 = nt
/-- .. that fails, or only tells -/
abbrev mSay (T : gT) (I : gI) (J : gJ) (O : gO) (mo : Nat) (ans thr : Int) : gP := mOut T I J O mo ans thr (I (mo + 1)) (I (mo + 2)) (I mo 3) (I (mo + 4)) (I mo 5)
/-- .. that changes the row s, a record kept -/
abbrev mDo (T : gT) (I : gI) (J : gJ) (O : gO) (mo : Nat) (ans : Int) (S : Int → Int) : gP := mOut T I J O mo ans 0 S (pEnd (I (mo + 2)) (I mo 3) (I (mo + 1))) (nEnd (I mo 3)) (I (mo + 4)) (I mo 5)
theorem mSay_i {T : gT} {I I' : gI} {J J' : gJ} {O : gO} {mo : Nat} {ans thr : Int} (h1 : ∀ b, b < mo ∨ mo + 20 < b → ∀ j, I' b j = I b j ∧ J' b j = J b j) (h2 : ∀ j, I' (mo + 1) j = I (mo + 1) j) (h3 : ∀ j, I' (mo + 2) j = I (mo + 2) j) (h4 : ∀ j, I' (mo + 4) j = I (mo + 4) j) (h5 : I' mo 3 = I mo 3) (h6 : I' mo 5 = I mo 5) : mSay T I J O mo ans thr (some (VI ans)) T (uI I' mo 6 thr) J' O :=
  ⟨rfl, rfl, rfl, fun b hb j => by rw [uI_a (by omega)]; exact h1 b hb j, uI_s, fun j _ _ => by rw [uI_a (by omega)]; exact h2 j, fun j _ _ => by rw [uI_a (by omega)]; exact h3 j, by rw [uI_k (by omega)]; exact h5, fun j => by rw [uI_a (by omega)]; exact h4 j, by rw [uI_k (by omega)]; exact h6⟩
/-- behind 'hold', a change of the row s that looks at it alone, and 'ends' -/
theorem mDo_i {T : gT} {I I1 I2 : gI} {J : gJ} {O : gO} {mo : Nat} {ans : Int} {S : Int → Int} (h1 : ∀ b, b < mo ∨ mo + 20 < b → ∀ j, I1 b j = I b j) (h2 : ∀ j, I1 (mo + 1) j = I (mo + 1) j) (h3 : ∀ j, I1 (mo + 2) j = I (mo + 2) j) (h4 : ∀ j, I1 (mo + 4) j = I (mo + 4) j) (h5 : I1 mo 3 = I mo 3) (h6 : I1 mo 5 = I mo 5)
    (k1 : ∀ b, b ≠ mo + 1 → (b < mo + 5 ∨ mo + 20 < b) → ∀ j, (b ≠ mo ∨ j = 3 ∨ j = 5) → I2 b j = (cpI I1 (mo + 3) (mo + 1) 0 0 4653) b j) (k2 : ∀ j, 0 ≤ j → j < 4653 → I2 (mo + 1) j = S j) : mDo T I J O mo ans S (some (VI ans)) T (uI (endI I2 mo) mo 6 0) J O := by
  have e3 : I2 mo 3 = I mo 3 := by rw [k1 mo (by omega) (by omega) 3 (by omega), cpI_b (by omega)]; exact h5
  refine ⟨rfl, rfl, rfl, fun b hb j => ⟨?_, rfl⟩, uI_s, fun j a1 a2 => ?_, fun j a1 a2 => ?_, ?_, fun j => ?_, ?_⟩
  · rw [uI_a (by omega), endI_o (by omega) (by omega), k1 b (by omega) (by omega) j (by omega), cpI_b (by omega)]
    exact h1 b hb j
  · rw [uI_a (by omega), endI_o (by omega) (by omega)]
    exact k2 j a1 a2
  · rw [uI_a (by omega), endI_2, e3]
    have ea : ∀ i, 0 ≤ i → i < 4653 → I2 (mo + 3) i = I (mo + 1) i := fun i b1 b2 => by
      rw [k1 _ (by omega) (by omega) i (by omega), cpI_i (by omega) (by omega), show i - 0 + 0 = i by omega]
      exact h2 i
    have eb : ∀ i, I2 (mo + 2) i = I (mo + 2) i := fun i => by rw [k1 _ (by omega) (by omega) i (by omega), cpI_b (by omega)]; exact h3 i
    unfold pEnd
    split
    · by_cases e : 13959 ≤ j ∧ j < 18612
      · simp only [if_pos e]; exact ea _ (by omega) (by omega)
      · simp only [if_neg e, eb]
    · by_cases e : 4653 * I mo 3 ≤ j ∧ j < 4653 * I mo 3 + 4653
      · simp only [if_pos e]; exact ea _ (by omega) (by omega)
      · simp only [if_neg e, eb]
  · rw [uI_k (by omega), endI_3, e3]
  · rw [uI_a (by omega), endI_o (by omega) (by omega), k1 _ (by omega) (by omega) j (by omega), cpI_b (by omega)]
    exact h4 j
  · rw [uI_k (by omega), endI_o (by omega) (Or.inr (by omega)), k1 _ (by omega) (by omega) 5 (by omega), cpI_b (by omega)]
    exact h6
