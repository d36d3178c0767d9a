/-- the signs of a factor -/
def facT (k f s : Int) : List Int := if k = 0 then [f] else if k = 1 then [10000 + f] else [-4, 10000 + f, 10000 + s]
/-- a list written into a row from a place on -/
def wrL (I : gI) (a : Nat) : Int → List Int → gI
  | _, [] => I
  | k, v :: l => uI (wrL I a (k + 1) l) a k v
theorem nmP_b {X rF cF : Int → Int} {L rN cN a : Int} : a ≤ (nmP X L rF rN cF cN a).1 ∧ (nmP X L rF rN cF cN a).1 ≤ a + 2 ∧ ((nmP X L rF rN cF cN a).2 ≠ -1 → (nmP X L rF rN cF cN a).1 = a + 2 ∧ a + 2 ≤ L) := by
  unfold nmP
  split
  · next h =>
    split
    · next h2 =>
      have := ch_in (X := X) (L := L) (i := a + 1) (by omega)
      simp only
      exact ⟨by omega, by omega, fun _ => ⟨rfl, by omega⟩⟩
    · exact ⟨by simp only; omega, by simp only; omega, fun h => absurd rfl h⟩
  · exact ⟨by simp only; omega, by simp only; omega, fun h => absurd rfl h⟩
theorem nmI_o {I : gI} {mo b : Nat} {j : Int} (h : b ≠ mo + 8) (h2 : b ≠ mo ∨ (j ≠ 13 ∧ j ≠ 14)) : nmI I mo b j = I b j := by
  unfold nmI
  split
  · rcases h2 with h2 | h2
    · rw [uI_a h2]
    · rw [uI_k h2.2]
  · rcases h2 with h2 | h2
    · rw [uI_a h2, uI_a h2, uI_a h]
    · rw [uI_k h2.2, uI_k h2.1, uI_a h]
theorem nmI_14 {I : gI} {mo : Nat} : nmI I mo mo 14 = (nmP (I (mo + 4)) (I mo 5) (I (mo + 5)) (I mo 9) (I (mo + 6)) (I mo 10) (I mo 14)).1 := by
  unfold nmI
  split <;> rw [uI_s]
theorem nmI_13 {I : gI} {mo : Nat} : nmI I mo mo 13 = if (nmP (I (mo + 4)) (I mo 5) (I (mo + 5)) (I mo 9) (I (mo + 6)) (I mo 10) (I mo 14)).2 = -1 then I mo 13 else I mo 13 + 1 := by
  unfold nmI
  split
  · rw [uI_k (by omega)]
  · rw [uI_k (by omega), uI_s]
theorem nmD_b {X : Int → Int} {L : Int} (k : Nat) (a v : Int) (hv : 0 ≤ v) (hv2 : v ≤ 999999) (ha : a ≤ L) (hk : k ≤ 4) : a ≤ (nmD X L k a v).1 ∧ (nmD X L k a v).1 ≤ L := by
  induction k generalizing a v with
  | zero => exact ⟨Int.le_refl _, ha⟩
  | succ k ih =>
    unfold nmD
    split
    · next h =>
      have := ch_in (X := X) (L := L) (i := a) (by omega)
      have h5 : ∀ v', (a + 1 ≤ (nmD X L k (a + 1) v').1 ∧ (nmD X L k (a + 1) v').1 ≤ L) ∨ ¬ (0 ≤ v' ∧ v' ≤ 999999) := fun v' => by
        by_cases e : 0 ≤ v' ∧ v' ≤ 999999
        · exact Or.inl (ih (a + 1) v' e.1 e.2 (by omega) (by omega))
        · exact Or.inr e
      sorry
    · exact ⟨Int.le_refl _, ha⟩
