/-! the class's objects and the row s -/
abbrev lA (r kd l : Int) : Int := 3843 + 270 * r + 6 + 5 * (12 * kd + l)
theorem sU_c {S : Int → Int} {k x j : Int} : sU S k x j = if j = k then x else S j := rfl
theorem carS_lo {S : Int → Int} {r id j : Int} (hk : opS S id 0 ≠ 4) (hj : j < lA r (opS S id 2) (opS S id 3) ∨ lA r (opS S id 2) (opS S id 3) + 4 < j) : carS S r id j = S j := by
  unfold carS
  rw [if_neg hk]
  simp only [lA, opS] at *
  by_cases q3 : S (3 + 32 * id + 0) = 3
  · rw [if_pos q3, sU_o (by omega)]
  · rw [if_neg q3]
    have e1 : (if S (3 + 32 * id + 0) = 1 then sU S (3843 + 270 * r + 6 + 5 * (12 * S (3 + 32 * id + 2) + S (3 + 32 * id + 3)) + 3) 1 else S) j = S j := by
      split
      · rw [sU_o (by omega)]
      · rfl
    split
    · rw [sU_o (by omega), sU_o (by omega), sU_o (by omega)]; exact e1
    · exact e1
/-- what carrying an operation out does to a line -/
theorem carS_ln {S : Int → Int} {r id kd l : Int} (v : opV S id) (hk : opS S id 0 ≠ 4) (l0 : 0 ≤ l) (l1 : l < 12) (k0 : 0 ≤ kd) (k1 : kd ≤ 1) :
    carS S r id (lA r kd l) = (if (kd = opS S id 2 ∧ l = opS S id 3) ∧ opS S id 0 ≠ 3 ∧ later (opS S id 1) (id / 40) (S (lA r kd l + 1)) (S (lA r kd l + 2)) then opS S id 4 else S (lA r kd l)) ∧
    carS S r id (lA r kd l + 1) = (if (kd = opS S id 2 ∧ l = opS S id 3) ∧ opS S id 0 ≠ 3 ∧ later (opS S id 1) (id / 40) (S (lA r kd l + 1)) (S (lA r kd l + 2)) then opS S id 1 else S (lA r kd l + 1)) ∧
    carS S r id (lA r kd l + 2) = (if (kd = opS S id 2 ∧ l = opS S id 3) ∧ opS S id 0 ≠ 3 ∧ later (opS S id 1) (id / 40) (S (lA r kd l + 1)) (S (lA r kd l + 2)) then id / 40 else S (lA r kd l + 2)) ∧
    carS S r id (lA r kd l + 3) = (if (kd = opS S id 2 ∧ l = opS S id 3) ∧ opS S id 0 = 1 then 1 else S (lA r kd l + 3)) ∧
    carS S r id (lA r kd l + 4) = (if (kd = opS S id 2 ∧ l = opS S id 3) ∧ opS S id 0 = 3 then 1 else S (lA r kd l + 4)) := by
  obtain ⟨v1, v2, -, v4⟩ := v
  have v4 := v4 hk
  by_cases e : kd = opS S id 2 ∧ l = opS S id 3
  · unfold carS
    rw [if_neg hk]
    simp only [opS, lA] at *
    obtain ⟨e1, e2⟩ := e
    rw [← e1, ← e2]
    by_cases q3 : S (3 + 32 * id + 0) = 3
    · rw [if_pos q3]
      (try unfold sU)
      refine ⟨?_, ?_, ?_, ?_, ?_⟩
      · rw [if_neg (by omega), if_neg (fun z => z.2.1 q3)]
      · rw [if_neg (by omega), if_neg (fun z => z.2.1 q3)]
      · rw [if_neg (by omega), if_neg (fun z => z.2.1 q3)]
      · rw [if_neg (by omega), if_neg (by omega)]
      · rw [if_pos (by omega), if_pos ⟨⟨rfl, rfl⟩, q3⟩]
    · rw [if_neg q3]
      by_cases ql : later (S (3 + 32 * id + 1)) (id / 40) (S (3843 + 270 * r + 6 + 5 * (12 * kd + l) + 1)) (S (3843 + 270 * r + 6 + 5 * (12 * kd + l) + 2))
      · rw [if_pos ql]
        by_cases q1 : S (3 + 32 * id + 0) = 1
        · rw [if_pos q1]
          (try unfold sU)
          refine ⟨?_, ?_, ?_, ?_, ?_⟩
          · rw [if_neg (by omega), if_neg (by omega), if_pos (by omega), if_pos ⟨⟨rfl, rfl⟩, q3, ql⟩]
          · rw [if_neg (by omega), if_pos (by omega), if_pos ⟨⟨rfl, rfl⟩, q3, ql⟩]
          · rw [if_pos (by omega), if_pos ⟨⟨rfl, rfl⟩, q3, ql⟩]
          · rw [if_neg (by omega), if_neg (by omega), if_neg (by omega), if_pos (by omega), if_pos ⟨⟨rfl, rfl⟩, q1⟩]
          · rw [if_neg (by omega), if_neg (by omega), if_neg (by omega), if_neg (by omega), if_neg (by omega)]
        · rw [if_neg q1]
          (try unfold sU)
          refine ⟨?_, ?_, ?_, ?_, ?_⟩
          · rw [if_neg (by omega), if_neg (by omega), if_pos (by omega), if_pos ⟨⟨rfl, rfl⟩, q3, ql⟩]
          · rw [if_neg (by omega), if_pos (by omega), if_pos ⟨⟨rfl, rfl⟩, q3, ql⟩]
          · rw [if_pos (by omega), if_pos ⟨⟨rfl, rfl⟩, q3, ql⟩]
          · rw [if_neg (by omega), if_neg (by omega), if_neg (by omega), if_neg (fun z => q1 z.2)]
          · rw [if_neg (by omega), if_neg (by omega), if_neg (by omega), if_neg (by omega)]
      · rw [if_neg ql]
        by_cases q1 : S (3 + 32 * id + 0) = 1
        · rw [if_pos q1]
          (try unfold sU)
          refine ⟨?_, ?_, ?_, ?_, ?_⟩
          · rw [if_neg (by omega), if_neg (fun z => ql z.2.2)]
          · rw [if_neg (by omega), if_neg (fun z => ql z.2.2)]
          · rw [if_neg (by omega), if_neg (fun z => ql z.2.2)]
          · rw [if_pos (by omega), if_pos ⟨⟨rfl, rfl⟩, q1⟩]
          · rw [if_neg (by omega), if_neg (by omega)]
        · rw [if_neg q1]
          refine ⟨?_, ?_, ?_, ?_, ?_⟩
          · rw [if_neg (fun z => ql z.2.2)]
          · rw [if_neg (fun z => ql z.2.2)]
          · rw [if_neg (fun z => ql z.2.2)]
          · rw [if_neg (fun z => q1 z.2)]
          · rw [if_neg (by omega)]
  · have e9 : 12 * kd + l ≠ 12 * opS S id 2 + opS S id 3 := fun z => e (by omega)
    refine ⟨?_, ?_, ?_, ?_, ?_⟩ <;> rw [carS_lo hk (by simp only [lA]; omega), if_neg (fun z => e z.1)]
theorem carS_w {S : Int → Int} {r id j : Int} (hk : opS S id 0 = 4) : carS S r id j = if j = 3843 + 270 * r + (126 + 12 * opS S id 3 + opS S id 4) ∧ (S j = -1 ∨ later (opS S id 1) (id / 40) (opS S (S j) 1) (S j / 40)) then id else S j := by
  unfold carS
  rw [if_pos hk]
  simp only [opS]
  by_cases q : S (3843 + 270 * r + (126 + 12 * S (3 + 32 * id + 3) + S (3 + 32 * id + 4))) = -1 ∨ later (S (3 + 32 * id + 1)) (id / 40) (S (3 + 32 * S (3843 + 270 * r + (126 + 12 * S (3 + 32 * id + 3) + S (3 + 32 * id + 4))) + 1)) (S (3843 + 270 * r + (126 + 12 * S (3 + 32 * id + 3) + S (3 + 32 * id + 4))) / 40)
  · rw [if_pos q]
    by_cases e : j = 3843 + 270 * r + (126 + 12 * S (3 + 32 * id + 3) + S (3 + 32 * id + 4))
    · rw [← e] at q ⊢
      rw [sU_s, if_pos ⟨rfl, q⟩]
    · rw [sU_o e, if_neg (fun z => e z.1)]
  · rw [if_neg q]
    by_cases e : j = 3843 + 270 * r + (126 + 12 * S (3 + 32 * id + 3) + S (3 + 32 * id + 4))
    · rw [← e] at q ⊢
      rw [if_neg (fun z => q z.2)]
    · rw [if_neg (fun z => e z.1)]
def cIx (r f : Int) : Int := if f = r then r else 3843 + 270 * r + (1 + f)
/-- a replica carries an operation out -/
def cR0 (S : Int → Int) (r id : Int) : Int → Int := sU (sU S (cIx r (id / 40)) (S (cIx r (id / 40)) + 1)) (3843 + 270 * r) (max (S (3843 + 270 * r)) (S (3 + 32 * id + 1)))
def cR (S : Int → Int) (r id : Int) : Int → Int := carS (cR0 S r id) r id
theorem cIx_b {r f : Int} (r0 : 0 ≤ r) (r1 : r ≤ 2) (f0 : 0 ≤ f) (f1 : f ≤ 2) : (cIx r f = r ∧ f = r) ∨ (3843 + 270 * r < cIx r f ∧ cIx r f < 3843 + 270 * r + 4 ∧ f ≠ r ∧ cIx r f = 3843 + 270 * r + (1 + f)) := by
  unfold cIx
  split
  · next h => exact Or.inl ⟨rfl, h⟩
  · next h => exact Or.inr ⟨by omega, by omega, h, rfl⟩
theorem cR0_o {S : Int → Int} {r id j : Int} (h : j ≠ 3843 + 270 * r) (h2 : j ≠ cIx r (id / 40)) : cR0 S r id j = S j := by
  unfold cR0
  rw [sU_o h, sU_o h2]
theorem cR0_op {S : Int → Int} {r id : Int} (r0 : 0 ≤ r) (r1 : r ≤ 2) (i0 : 0 ≤ id) (i1 : id < 120) {j : Int} (h : 3 ≤ j) (h2 : j < 3843) : cR0 S r id j = S j := by
  have := cIx_b r0 r1 (f := id / 40) (by omega) (by omega)
  exact cR0_o (by omega) (by omega)
theorem cR0_hi {S : Int → Int} {r id : Int} (r0 : 0 ≤ r) (r1 : r ≤ 2) (i0 : 0 ≤ id) (i1 : id < 120) {j : Int} (h : 3843 + 270 * r + 4 ≤ j) : cR0 S r id j = S j := by
  have := cIx_b r0 r1 (f := id / 40) (by omega) (by omega)
  exact cR0_o (by omega) (by omega)
theorem cR0_v {S : Int → Int} {r id : Int} (r0 : 0 ≤ r) (r1 : r ≤ 2) (i0 : 0 ≤ id) (i1 : id < 120) (v : opV S id) : opV (cR0 S r id) id := by
  unfold opV at *
  simp only [opS] at *
  rw [cR0_op r0 r1 i0 i1 (by omega) (by omega), cR0_op r0 r1 i0 i1 (by omega) (by omega), cR0_op r0 r1 i0 i1 (by omega) (by omega), cR0_op r0 r1 i0 i1 (by omega) (by omega)]
  exact v
theorem cR_lo {S : Int → Int} {r id : Int} (r0 : 0 ≤ r) (r1 : r ≤ 2) (i0 : 0 ≤ id) (i1 : id < 120) (v : opV S id) {j : Int} (h : j < 3843 + 270 * r + 6 ∨ 3843 + 270 * r + 270 ≤ j) : cR S r id j = cR0 S r id j := carS_out (cR0_v r0 r1 i0 i1 v) h
theorem cR_op {S : Int → Int} {r id : Int} (r0 : 0 ≤ r) (r1 : r ≤ 2) (i0 : 0 ≤ id) (i1 : id < 120) (v : opV S id) {j : Int} (h : 3 ≤ j) (h2 : j < 3843) : cR S r id j = S j := by rw [cR_lo r0 r1 i0 i1 v (by omega), cR0_op r0 r1 i0 i1 h h2]
theorem cR_out {S : Int → Int} {r id : Int} (r0 : 0 ≤ r) (r1 : r ≤ 2) (i0 : 0 ≤ id) (i1 : id < 120) (v : opV S id) {j : Int} (h : j ≠ r) (h2 : j < 3843 + 270 * r ∨ 3843 + 270 * r + 270 ≤ j) : cR S r id j = S j := by
  have := cIx_b r0 r1 (f := id / 40) (by omega) (by omega)
  rw [cR_lo r0 r1 i0 i1 v (by omega), cR0_o (by omega) (by omega)]
theorem cR_clk {S : Int → Int} {r id : Int} (r0 : 0 ≤ r) (r1 : r ≤ 2) (i0 : 0 ≤ id) (i1 : id < 120) (v : opV S id) : cR S r id (3843 + 270 * r) = max (S (3843 + 270 * r)) (S (3 + 32 * id + 1)) := by
  rw [cR_lo r0 r1 i0 i1 v (by omega)]
  exact sU_s
theorem cR_cnt {S : Int → Int} {r id : Int} (r0 : 0 ≤ r) (r1 : r ≤ 2) (i0 : 0 ≤ id) (i1 : id < 120) (v : opV S id) {f : Int} (f0 : 0 ≤ f) (f1 : f ≤ 2) : cR S r id (cIx r f) = if f = id / 40 then S (cIx r f) + 1 else S (cIx r f) := by
  have h1 := cIx_b r0 r1 (f := id / 40) (by omega) (by omega)
  have h2 := cIx_b r0 r1 f0 f1
  rw [cR_lo r0 r1 i0 i1 v (by omega)]
  unfold cR0
  rw [sU_o (by omega)]
  by_cases e : f = id / 40
  · rw [if_pos e, ← e, sU_s]
  · rw [if_neg e, sU_o (by omega)]
theorem cR_ln {S : Int → Int} {r id : Int} (r0 : 0 ≤ r) (r1 : r ≤ 2) (i0 : 0 ≤ id) (i1 : id < 120) (v : opV S id) (hk : opS S id 0 ≠ 4) {kd l : Int} (l0 : 0 ≤ l) (l1 : l < 12) (k0 : 0 ≤ kd) (k1 : kd ≤ 1) :
    cR S r id (lA r kd l) = (if (kd = opS S id 2 ∧ l = opS S id 3) ∧ opS S id 0 ≠ 3 ∧ later (opS S id 1) (id / 40) (S (lA r kd l + 1)) (S (lA r kd l + 2)) then opS S id 4 else S (lA r kd l)) ∧
    cR S r id (lA r kd l + 1) = (if (kd = opS S id 2 ∧ l = opS S id 3) ∧ opS S id 0 ≠ 3 ∧ later (opS S id 1) (id / 40) (S (lA r kd l + 1)) (S (lA r kd l + 2)) then opS S id 1 else S (lA r kd l + 1)) ∧
    cR S r id (lA r kd l + 2) = (if (kd = opS S id 2 ∧ l = opS S id 3) ∧ opS S id 0 ≠ 3 ∧ later (opS S id 1) (id / 40) (S (lA r kd l + 1)) (S (lA r kd l + 2)) then id / 40 else S (lA r kd l + 2)) ∧
    cR S r id (lA r kd l + 3) = (if (kd = opS S id 2 ∧ l = opS S id 3) ∧ opS S id 0 = 1 then 1 else S (lA r kd l + 3)) ∧
    cR S r id (lA r kd l + 4) = (if (kd = opS S id 2 ∧ l = opS S id 3) ∧ opS S id 0 = 3 then 1 else S (lA r kd l + 4)) := by
  have e : ∀ w, 0 ≤ w → w < 32 → opS (cR0 S r id) id w = opS S id w := fun w a b => cR0_op r0 r1 i0 i1 (by omega) (by omega)
  have g : ∀ w, 0 ≤ w → cR0 S r id (lA r kd l + w) = S (lA r kd l + w) := fun w a => cR0_hi r0 r1 i0 i1 (by simp only [lA]; omega)
  have g0 : cR0 S r id (lA r kd l) = S (lA r kd l) := cR0_hi r0 r1 i0 i1 (by simp only [lA]; omega)
  have := carS_ln (S := cR0 S r id) (r := r) (cR0_v r0 r1 i0 i1 v) (by rw [e 0 (by omega) (by omega)]; exact hk) l0 l1 k0 k1
  rw [e 0 (by omega) (by omega), e 1 (by omega) (by omega), e 2 (by omega) (by omega), e 3 (by omega) (by omega), e 4 (by omega) (by omega), g 1 (by omega), g 2 (by omega), g 3 (by omega), g 4 (by omega), g0] at this
  exact this
theorem cR_lc {S : Int → Int} {r id : Int} (r0 : 0 ≤ r) (r1 : r ≤ 2) (i0 : 0 ≤ id) (i1 : id < 120) (v : opV S id) (hk : opS S id 0 ≠ 4) {c : Int} (c0 : 0 ≤ c) (c1 : c < 144) : cR S r id (3843 + 270 * r + (126 + c)) = S (3843 + 270 * r + (126 + c)) := by
  have e : ∀ w, 0 ≤ w → w < 32 → opS (cR0 S r id) id w = opS S id w := fun w a b => cR0_op r0 r1 i0 i1 (by omega) (by omega)
  have v2 := v.2.2.2 hk
  have v1 := v.1
  have v3 := v.2.1
  unfold cR
  rw [carS_lo (by rw [e 0 (by omega) (by omega)]; exact hk) (by rw [e 2 (by omega) (by omega), e 3 (by omega) (by omega)]; simp only [lA]; omega), cR0_hi r0 r1 i0 i1 (by omega)]
theorem cR_wl {S : Int → Int} {r id : Int} (r0 : 0 ≤ r) (r1 : r ≤ 2) (i0 : 0 ≤ id) (i1 : id < 120) (v : opV S id) (hk : opS S id 0 = 4) {j : Int} (h : 3843 + 270 * r + 6 ≤ j) (h2 : j < 3843 + 270 * r + 126) : cR S r id j = S j := by
  have e : ∀ w, 0 ≤ w → w < 32 → opS (cR0 S r id) id w = opS S id w := fun w a b => cR0_op r0 r1 i0 i1 (by omega) (by omega)
  have v1 := v.1
  have v3 := v.2.2.1 hk
  unfold cR
  rw [carS_w (by rw [e 0 (by omega) (by omega)]; exact hk), if_neg (fun z => by rw [e 3 (by omega) (by omega), e 4 (by omega) (by omega)] at z; omega), cR0_hi r0 r1 i0 i1 (by omega)]
theorem cR_wc {S : Int → Int} {r id : Int} (r0 : 0 ≤ r) (r1 : r ≤ 2) (i0 : 0 ≤ id) (i1 : id < 120) (v : opV S id) (hk : opS S id 0 = 4) (hc : clOk S r) {c : Int} (c0 : 0 ≤ c) (c1 : c < 144) : cR S r id (3843 + 270 * r + (126 + c)) = if c = 12 * opS S id 3 + opS S id 4 ∧ (S (3843 + 270 * r + (126 + c)) = -1 ∨ later (opS S id 1) (id / 40) (opS S (S (3843 + 270 * r + (126 + c))) 1) (S (3843 + 270 * r + (126 + c)) / 40)) then id else S (3843 + 270 * r + (126 + c)) := by
  have e : ∀ w, 0 ≤ w → w < 32 → opS (cR0 S r id) id w = opS S id w := fun w a b => cR0_op r0 r1 i0 i1 (by omega) (by omega)
  have hcc := hc c c0 c1
  unfold cR
  rw [carS_w (by rw [e 0 (by omega) (by omega)]; exact hk), e 1 (by omega) (by omega), e 3 (by omega) (by omega), e 4 (by omega) (by omega), cR0_hi r0 r1 i0 i1 (by omega)]
  by_cases q : S (3843 + 270 * r + (126 + c)) = -1
  · rw [q]
    by_cases q2 : c = 12 * opS S id 3 + opS S id 4
    · rw [if_pos ⟨by omega, Or.inl rfl⟩, if_pos ⟨q2, Or.inl rfl⟩]
    · rw [if_neg (fun z => q2 (by omega)), if_neg (fun z => q2 z.1)]
  · have e9 : opS (cR0 S r id) (S (3843 + 270 * r + (126 + c))) 1 = opS S (S (3843 + 270 * r + (126 + c))) 1 := cR0_op r0 r1 i0 i1 (by omega) (by omega)
    rw [e9]
    by_cases q2 : c = 12 * opS S id 3 + opS S id 4
    · by_cases q3 : S (3843 + 270 * r + (126 + c)) = -1 ∨ later (opS S id 1) (id / 40) (opS S (S (3843 + 270 * r + (126 + c))) 1) (S (3843 + 270 * r + (126 + c)) / 40)
      · rw [if_pos ⟨by omega, q3⟩, if_pos ⟨q2, q3⟩]
      · rw [if_neg (fun z => q3 z.2), if_neg (fun z => q3 z.2)]
    · rw [if_neg (fun z => q2 (by omega)), if_neg (fun z => q2 z.1)]
