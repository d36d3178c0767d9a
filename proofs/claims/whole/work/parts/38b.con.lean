theorem klX10_245 : Cond.constantLong RX10 245 ((18539 : Int64)) ∈ gtb := mt2 (List.mem_of_getElem? (i := 103) (by decide +kernel)) rfl
theorem klX10_327 : Cond.constantLong RX10 327 ((31 : Int64)) ∈ gtb := mt2 (List.mem_of_getElem? (i := 107) (by decide +kernel)) rfl
theorem klX1_34 : Cond.constantLong RX1 34 ((-1 : Int64)) ∈ gtb := mt3 (List.mem_of_getElem? (i := 11) (by decide +kernel)) rfl
theorem klX0_194 : Cond.constantLong RX0 194 ((-1000000000 : Int64)) ∈ gtb := mt3 (List.mem_of_getElem? (i := 32) (by decide +kernel)) rfl
theorem klX0_196 : Cond.constantLong RX0 196 ((1000000000 : Int64)) ∈ gtb := mt3 (List.mem_of_getElem? (i := 33) (by decide +kernel)) rfl
theorem klJ13_314 : Cond.constantLong RJ13 314 ((6148914691236517205 : Int64)) ∈ gtb := mt4 (List.mem_of_getElem? (i := 199) (by decide +kernel)) rfl
theorem klJ13_316 : Cond.constantLong RJ13 316 ((3689348814741910323 : Int64)) ∈ gtb := mt4 (List.mem_of_getElem? (i := 200) (by decide +kernel)) rfl
theorem klJ13_318 : Cond.constantLong RJ13 318 ((1085102592571150095 : Int64)) ∈ gtb := mt4 (List.mem_of_getElem? (i := 201) (by decide +kernel)) rfl
theorem klX11_233 : Cond.constantLong RX11 233 ((-1000000000 : Int64)) ∈ gtb := mt6 (List.mem_of_getElem? (i := 227) (by decide +kernel)) rfl
theorem klX11_235 : Cond.constantLong RX11 235 ((1000000000 : Int64)) ∈ gtb := mt6 (List.mem_of_getElem? (i := 228) (by decide +kernel)) rfl
theorem klX11_305 : Cond.constantLong RX11 305 ((18539 : Int64)) ∈ gtb := mt7 (List.mem_of_getElem? (i := 85) (by decide +kernel)) rfl
theorem klX11_293 : Cond.constantLong RX11 293 ((31 : Int64)) ∈ gtb := mt7 (List.mem_of_getElem? (i := 94) (by decide +kernel)) rfl
/-- the locals that arguments lay, a long in two -/
def lsl (as : List Value) : List (Option Value) := as.flatMap fun v => if v.category = 2 then [some v, none] else [some v]
theorem lsl_l (as : List Value) : (lsl as).length = (lg_sl as).length := by
  induction as with
  | nil => rfl
  | cons a t ih =>
    simp only [lsl, lg_sl, List.flatMap_cons, List.length_append] at ih ⊢
    split <;> simp only [List.length_cons, List.length_nil] <;> omega
theorem lv_args2 (as : List Value) : ∀ (b i : Nat) (v : Value), (lsl as)[i]? = some (some v) → (b + i, v) ∈ lv_args b as := by
  induction as with
  | nil => intro b i v hv; cases hv
  | cons a t ih =>
    intro b i v hv
    by_cases ha : a.category = 2
    · have e : lsl (a :: t) = some a :: none :: lsl t := by simp only [lsl, List.flatMap_cons, if_pos ha]; rfl
      rw [e] at hv
      rw [lv_args, if_pos ha]
      match i, hv with
      | 0, hv => cases hv; exact List.mem_cons_self
      | 1, hv => cases hv
      | i + 2, hv =>
        have := ih (b + 2) i v hv
        rw [show b + (i + 2) = b + 2 + i by omega]
        exact List.mem_cons_of_mem _ this
    · have e : lsl (a :: t) = some a :: lsl t := by simp only [lsl, List.flatMap_cons, if_neg ha]; rfl
      rw [e] at hv
      rw [lv_args, if_neg ha]
      match i, hv with
      | 0, hv => cases hv; exact List.mem_cons_self
      | i + 1, hv =>
        have := ih (b + 1) i v hv
        rw [show b + (i + 1) = b + 1 + i by omega]
        exact List.mem_cons_of_mem _ this
theorem gEnL {as : List Value} {maxL : Nat} {Ls : List (Option Value)} (hl : Ls.length = maxL) (ha : (lsl as).length ≤ maxL) (hL : Ls = lsl as ++ List.replicate (maxL - (lsl as).length) none) : gEn as maxL Ls := by
  refine ⟨by rw [← lsl_l]; exact ha, Nat.le_of_eq hl, fun i v hv => ?_⟩
  rw [hL] at hv
  rcases Nat.lt_or_ge i (lsl as).length with q | q
  · rw [List.getElem?_append_left q] at hv
    have := lv_args2 as 0 i v hv
    rwa [Nat.zero_add] at this
  · rw [List.getElem?_append_right q] at hv
    have := List.mem_of_getElem? hv
    rw [List.mem_replicate] at this
    cases this.2
