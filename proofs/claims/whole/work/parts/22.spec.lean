/-! the same, said of the row s alone -/
def sU (S : Int → Int) (k x : Int) : Int → Int := fun j => if j = k then x else S j
def rowI (I : gI) (a : Nat) (S : Int → Int) : gI := fun b j => if b = a then S j else I b j
theorem rowI_s {I : gI} {a : Nat} {S : Int → Int} : rowI I a S a = S := by funext j; simp [rowI]
theorem rowI_o {I : gI} {a b : Nat} {S : Int → Int} (h : b ≠ a) : rowI I a S b = I b := by funext j; simp [rowI, h]
theorem rowI_id {I : gI} {a : Nat} : rowI I a (I a) = I := by
  funext b j
  unfold rowI
  by_cases e : b = a
  · rw [if_pos e, e]
  · rw [if_neg e]
theorem uI_row {I : gI} {a : Nat} {k x : Int} : uI I a k x = rowI I a (sU (I a) k x) := by
  funext b j
  unfold uI rowI sU
  by_cases e : b = a
  · subst e
    by_cases e2 : j = k
    · rw [if_pos ⟨rfl, e2⟩, if_pos rfl, if_pos e2]
    · rw [if_neg (fun h => e2 h.2), if_pos rfl, if_neg e2]
  · rw [if_neg (fun h => e h.1), if_neg e]
theorem uI_rowI {I : gI} {a : Nat} {S : Int → Int} {k x : Int} : uI (rowI I a S) a k x = rowI I a (sU S k x) := by
  funext b j
  unfold uI rowI sU
  by_cases e : b = a
  · subst e
    by_cases e2 : j = k
    · rw [if_pos ⟨rfl, e2⟩, if_pos rfl, if_pos e2]
    · rw [if_neg (fun h => e2 h.2), if_pos rfl, if_pos rfl, if_neg e2]
  · rw [if_neg (fun h => e h.1), if_neg e, if_neg e]
theorem sU_s {S : Int → Int} {k x : Int} : sU S k x k = x := by simp [sU]
theorem sU_o {S : Int → Int} {k j x : Int} (h : j ≠ k) : sU S k x j = S j := by simp [sU, h]
abbrev opS (S : Int → Int) (id w : Int) : Int := S (3 + 32 * id + w)
abbrev ofS (S : Int → Int) (r w : Int) : Int := S (3843 + 270 * r + w)
abbrev lnS (S : Int → Int) (r kd l w : Int) : Int := S (3843 + 270 * r + 6 + 5 * (12 * kd + l) + w)
def carS (S : Int → Int) (r id : Int) : Int → Int :=
  if opS S id 0 = 4 then
    let c := 3843 + 270 * r + (126 + 12 * opS S id 3 + opS S id 4)
    if S c = -1 ∨ later (opS S id 1) (id / 40) (opS S (S c) 1) (S c / 40) then sU S c id else S
  else
    let a := 3843 + 270 * r + 6 + 5 * (12 * opS S id 2 + opS S id 3)
    if opS S id 0 = 3 then sU S (a + 4) 1
    else
      let S1 := if opS S id 0 = 1 then sU S (a + 3) 1 else S
      if later (opS S id 1) (id / 40) (S (a + 1)) (S (a + 2)) then sU (sU (sU S1 a (opS S id 4)) (a + 1) (opS S id 1)) (a + 2) (id / 40) else S1
theorem carI_row {I : gI} {mo : Nat} {r id : Int} : carI I mo r id = rowI I (mo + 1) (carS (I (mo + 1)) r id) := by
  unfold carI carS
  simp only [opS]
  split
  · split
    · exact uI_row
    · exact rowI_id.symm
  · split
    · exact uI_row
    · split
      · split
        · rw [uI_row (I := I), uI_rowI, uI_rowI, uI_rowI]
        · rw [uI_row (I := I), uI_rowI, uI_rowI]
      · split
        · exact uI_row
        · exact rowI_id.symm
def mk0S (S : Int → Int) (r num col l pl : Int) : Int → Int :=
  sU (sU (sU (sU (sU (sU (sU S (3843 + 270 * r + 0) (S (3843 + 270 * r + 0) + 1)) (3 + 32 * (40 * r + S r)) num) (3 + 32 * (40 * r + S r) + 1) (S (3843 + 270 * r + 0) + 1)) (3 + 32 * (40 * r + S r) + 2) col) (3 + 32 * (40 * r + S r) + 3) l) (3 + 32 * (40 * r + S r) + 4) pl) r (S r + 1)
def mksS (S : Int → Int) (r num col l pl : Int) : Int → Int := carS (mk0S S r num col l pl) r (40 * r + S r)
theorem mksI_row {I : gI} {mo : Nat} {r num col l pl : Int} : mksI I mo r num col l pl = rowI I (mo + 1) (mksS (I (mo + 1)) r num col l pl) := by
  unfold mksI mksS
  rw [carI_row]
  have e : mk0I I mo r num col l pl = rowI I (mo + 1) (mk0S (I (mo + 1)) r num col l pl) := by
    unfold mk0I mk0S
    rw [uI_row (I := I), uI_rowI, uI_rowI, uI_rowI, uI_rowI, uI_rowI, uI_rowI]
  rw [e, rowI_s]
  funext b j
  unfold rowI
  by_cases h : b = mo + 1
  · rw [if_pos h, if_pos h]
  · rw [if_neg h, if_neg h, if_neg h]
/-- the lines that are shown, in order -/
noncomputable def lnF (pl : Int → Int) (sh : Int → Prop) : Int → Int := Classical.choose (En.ex pl sh 12)
noncomputable def lnN (pl : Int → Int) (sh : Int → Prop) : Int := Classical.choose (Classical.choose_spec (En.ex pl sh 12))
theorem lnE (pl : Int → Int) (sh : Int → Prop) : En pl sh 12 (lnF pl sh) (lnN pl sh) := Classical.choose_spec (Classical.choose_spec (En.ex pl sh 12))
abbrev plS (S : Int → Int) (r kd : Int) : Int → Int := fun l => S (3843 + 270 * r + 6 + 5 * (12 * kd + l))
abbrev shS (S : Int → Int) (r kd w : Int) : Int → Prop := fun l => (S (3843 + 270 * r + 6 + 5 * (12 * kd + l) + 3) = 1 ∧ S (3843 + 270 * r + 6 + 5 * (12 * kd + l) + 4) = 0) ∧ l ≠ w
noncomputable def rwF (S : Int → Int) (r kd w : Int) : Int → Int := lnF (plS S r kd) (shS S r kd w)
noncomputable def rwN (S : Int → Int) (r kd w : Int) : Int := lnN (plS S r kd) (shS S r kd w)
theorem rwE (S : Int → Int) (r kd w : Int) : En (plS S r kd) (shS S r kd w) 12 (rwF S r kd w) (rwN S r kd w) := lnE _ _
theorem rw_eq {S : Int → Int} {r kd w n : Int} {f : Int → Int} (h : En (plS S r kd) (shS S r kd w) 12 f n) : n = rwN S r kd w ∧ ∀ i, 0 ≤ i → i < n → f i = rwF S r kd w i := by
  have := En.uniq2 (rwE S r kd w) h
  exact ⟨this.1, fun i h1 h2 => this.2 i h1 (by omega)⟩
/-- the position of a line among those shown -/
noncomputable def rwP (S : Int → Int) (r kd l : Int) : Int := Classical.epsilon (fun k => idxOf (rwF S r kd (-1)) (rwN S r kd (-1)) l k)
theorem idxOf_u {f : Int → Int} {n l k k' : Int} (h : idxOf f n l k) (h' : idxOf f n l k') : k = k' := by
  rcases h with ⟨a, b⟩ | ⟨a, b, c, d⟩ <;> rcases h' with ⟨a', b'⟩ | ⟨a', b', c', d'⟩
  · omega
  · exact absurd c' (b k' a' b')
  · exact absurd c (b' k a b)
  · rcases (by omega : k < k' ∨ k = k' ∨ k' < k) with q | q | q
    · exact absurd c (d' k a q)
    · exact q
    · exact absurd c' (d k' a' q)
theorem idxOf_c {f g : Int → Int} {n l k : Int} (h : idxOf f n l k) (e : ∀ i, 0 ≤ i → i < n → f i = g i) : idxOf g n l k := by
  rcases h with ⟨a, b⟩ | ⟨a, b, c, d⟩
  · exact Or.inl ⟨a, fun i h1 h2 => by rw [← e i h1 h2]; exact b i h1 h2⟩
  · exact Or.inr ⟨a, b, by rw [← e k a b]; exact c, fun i h1 h2 => by rw [← e i h1 (by omega)]; exact d i h1 h2⟩
theorem rwP_eq {S : Int → Int} {r kd l k : Int} (h : idxOf (rwF S r kd (-1)) (rwN S r kd (-1)) l k) : k = rwP S r kd l := idxOf_u h (Classical.epsilon_spec (p := fun k => idxOf (rwF S r kd (-1)) (rwN S r kd (-1)) l k) ⟨k, h⟩)
