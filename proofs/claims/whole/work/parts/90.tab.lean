/-! the tables of a replica are the latest of what it has carried out -/
def cdK (K : Int → Int) (i : Int) : Prop := (0 ≤ i ∧ i < 120) ∧ i % 40 < K (i / 40)
def pl0 (l : Int) : Int := if l < 3 then 1000 * (l + 1) else -1
def ck0 (l : Int) : Int := if l < 3 then 0 else -1
theorem ck0_le {l : Int} : ck0 l ≤ 0 := by unfold ck0; split <;> omega
def mvO (Q : Int → Int → Int) (K : Int → Int) (kd l i : Int) : Prop := cdK K i ∧ (Q i 0 = 1 ∨ Q i 0 = 2) ∧ Q i 2 = kd ∧ Q i 3 = l
def kdO (Q : Int → Int → Int) (K : Int → Int) (n kd l i : Int) : Prop := cdK K i ∧ Q i 0 = n ∧ Q i 2 = kd ∧ Q i 3 = l
def wrO (Q : Int → Int → Int) (K : Int → Int) (c i : Int) : Prop := cdK K i ∧ Q i 0 = 4 ∧ 12 * Q i 3 + Q i 4 = c
def tbC (Q : Int → Int → Int) (S : Int → Int) (r : Int) (K : Int → Int) : Prop := 0 ≤ S (3843 + 270 * r) ∧ (∀ i, cdK K i → Q i 1 ≤ S (3843 + 270 * r)) ∧ (S (3843 + 270 * r) = 0 ∨ ∃ i, cdK K i ∧ Q i 1 = S (3843 + 270 * r))
def tbL1 (Q : Int → Int → Int) (S : Int → Int) (r : Int) (K : Int → Int) (kd l : Int) : Prop := (∀ i, mvO Q K kd l i → ¬ later (Q i 1) (i / 40) (S (lA r kd l + 1)) (S (lA r kd l + 2))) ∧ ((S (lA r kd l) = pl0 l ∧ S (lA r kd l + 1) = ck0 l ∧ S (lA r kd l + 2) = 0) ∨ ∃ i, mvO Q K kd l i ∧ S (lA r kd l) = Q i 4 ∧ S (lA r kd l + 1) = Q i 1 ∧ S (lA r kd l + 2) = i / 40)
def tbL2 (Q : Int → Int → Int) (S : Int → Int) (r : Int) (K : Int → Int) (kd l : Int) : Prop := (S (lA r kd l + 3) = 1 ∧ (l < 3 ∨ ∃ i, kdO Q K 1 kd l i)) ∨ (S (lA r kd l + 3) = 0 ∧ 3 ≤ l ∧ ∀ i, ¬ kdO Q K 1 kd l i)
def tbL3 (Q : Int → Int → Int) (S : Int → Int) (r : Int) (K : Int → Int) (kd l : Int) : Prop := (S (lA r kd l + 4) = 1 ∧ ∃ i, kdO Q K 3 kd l i) ∨ (S (lA r kd l + 4) = 0 ∧ ∀ i, ¬ kdO Q K 3 kd l i)
abbrev cA (r c : Int) : Int := 3843 + 270 * r + (126 + c)
def tbW1 (Q : Int → Int → Int) (S : Int → Int) (r : Int) (K : Int → Int) (c : Int) : Prop := (S (cA r c) = -1 ∧ ∀ i, ¬ wrO Q K c i) ∨ (wrO Q K c (S (cA r c)) ∧ ∀ i, wrO Q K c i → ¬ later (Q i 1) (i / 40) (Q (S (cA r c)) 1) (S (cA r c) / 40))
def Tab (Q : Int → Int → Int) (S : Int → Int) (r : Int) (K : Int → Int) : Prop := tbC Q S r K ∧ (∀ kd l, 0 ≤ kd → kd ≤ 1 → 0 ≤ l → l < 12 → tbL1 Q S r K kd l ∧ tbL2 Q S r K kd l ∧ tbL3 Q S r K kd l) ∧ ∀ c, 0 ≤ c → c < 144 → tbW1 Q S r K c
theorem tbC.le {Q : Int → Int → Int} {S S' : Int → Int} {r : Int} {K : Int → Int} (h : tbC Q S r K) (h' : tbC Q S' r K) : S (3843 + 270 * r) ≤ S' (3843 + 270 * r) := by
  rcases h.2.2 with e | ⟨i, hi, e⟩
  · rw [e]; exact h'.1
  · rw [← e]; exact h'.2.1 i hi
/-- .. and so they are settled -/
theorem Tab.uniq {Q : Int → Int → Int} {S S' : Int → Int} {r : Int} {K : Int → Int} (h : Tab Q S r K) (h' : Tab Q S' r K) (hq1 : ∀ i, cdK K i → 1 ≤ Q i 1) (hqi : ∀ i i', cdK K i → cdK K i' → i / 40 = i' / 40 → Q i 1 = Q i' 1 → i = i') :
    S (3843 + 270 * r) = S' (3843 + 270 * r) ∧ (∀ kd l w, 0 ≤ kd → kd ≤ 1 → 0 ≤ l → l < 12 → 0 ≤ w → w ≤ 4 → S (lA r kd l + w) = S' (lA r kd l + w)) ∧ ∀ c, 0 ≤ c → c < 144 → S (cA r c) = S' (cA r c) := by
  refine ⟨?_, ?_, ?_⟩
  · have := h.1.le h'.1
    have := h'.1.le h.1
    omega
  · intro kd l w k0 k1 l0 l1 w0 w1
    obtain ⟨⟨a1, a2⟩, b, c⟩ := h.2.1 kd l k0 k1 l0 l1
    obtain ⟨⟨a1', a2'⟩, b', c'⟩ := h'.2.1 kd l k0 k1 l0 l1
    have e3 : S (lA r kd l) = S' (lA r kd l) ∧ S (lA r kd l + 1) = S' (lA r kd l + 1) ∧ S (lA r kd l + 2) = S' (lA r kd l + 2) := by
      rcases a2 with ⟨x1, x2, x3⟩ | ⟨i, hi, x1, x2, x3⟩ <;> rcases a2' with ⟨y1, y2, y3⟩ | ⟨i', hi', y1, y2, y3⟩
      · exact ⟨x1.trans y1.symm, x2.trans y2.symm, x3.trans y3.symm⟩
      · refine absurd (Or.inl ?_) (a1 i' hi')
        have := hq1 i' hi'.1
        have := @ck0_le l
        omega
      · refine absurd (Or.inl ?_) (a1' i hi)
        have := hq1 i hi.1
        have := @ck0_le l
        omega
      · have z1 := a1 i' hi'
        have z2 := a1' i hi
        rw [x2, x3] at z1
        rw [y2, y3] at z2
        have ee : Q i 1 = Q i' 1 ∧ i / 40 = i' / 40 := by
          unfold later at z1 z2
          omega
        have e := hqi i i' hi.1 hi'.1 ee.2 ee.1
        subst e
        exact ⟨x1.trans y1.symm, x2.trans y2.symm, x3.trans y3.symm⟩
    rcases (by omega : w = 0 ∨ w = 1 ∨ w = 2 ∨ w = 3 ∨ w = 4) with e | e | e | e | e
    · rw [e, Int.add_zero]; exact e3.1
    · rw [e]; exact e3.2.1
    · rw [e]; exact e3.2.2
    · rw [e]
      rcases b with ⟨b1, b2⟩ | ⟨b1, b2, b3⟩ <;> rcases b' with ⟨d1, d2⟩ | ⟨d1, d2, d3⟩
      · rw [b1, d1]
      · rcases b2 with q | ⟨i, hi⟩
        · omega
        · exact absurd hi (d3 i)
      · rcases d2 with q | ⟨i, hi⟩
        · omega
        · exact absurd hi (b3 i)
      · rw [b1, d1]
    · rw [e]
      rcases c with ⟨b1, i, hi⟩ | ⟨b1, b3⟩ <;> rcases c' with ⟨d1, i', hi'⟩ | ⟨d1, d3⟩
      · rw [b1, d1]
      · exact absurd hi (d3 i)
      · exact absurd hi' (b3 i')
      · rw [b1, d1]
  · intro c c0 c1
    rcases h.2.2 c c0 c1 with ⟨a1, a2⟩ | ⟨a1, a2⟩ <;> rcases h'.2.2 c c0 c1 with ⟨b1, b2⟩ | ⟨b1, b2⟩
    · rw [a1, b1]
    · exact absurd b1 (a2 _)
    · exact absurd a1 (b2 _)
    · have z1 := a2 _ b1
      have z2 := b2 _ a1
      have ee : Q (S (cA r c)) 1 = Q (S' (cA r c)) 1 ∧ S (cA r c) / 40 = S' (cA r c) / 40 := by
        unfold later at z1 z2
        omega
      exact hqi _ _ a1.1 b1.1 ee.2 ee.1
/-- other operations' texts don't matter -/
theorem cdK.c {K K' : Int → Int} {i : Int} (h : cdK K i) (e : ∀ f, 0 ≤ f → f ≤ 2 → K' f = K f) : cdK K' i := ⟨h.1, by have := h.1; rw [e _ (by omega) (by omega)]; exact h.2⟩
theorem Tab.c {Q Q' : Int → Int → Int} {S S' : Int → Int} {r : Int} {K K' : Int → Int} (h : Tab Q S r K) (eq : ∀ i w, cdK K i → 0 ≤ w → w < 5 → Q' i w = Q i w) (es : ∀ j, 3843 + 270 * r ≤ j → j < 3843 + 270 * r + 270 → j ≠ 3843 + 270 * r + 4 → j ≠ 3843 + 270 * r + 5 → S' j = S j) (ek : ∀ f, 0 ≤ f → f ≤ 2 → K' f = K f) : Tab Q' S' r K' := by
  have c1 : ∀ i, cdK K' i ↔ cdK K i := fun i => ⟨fun z => z.c (fun f a b => (ek f a b).symm), fun z => z.c ek⟩
  have m1 : ∀ kd l i, mvO Q' K' kd l i ↔ mvO Q K kd l i := fun kd l i => by
    unfold mvO
    rw [c1]
    constructor
    · rintro ⟨a, b, c, d⟩
      rw [eq i 0 a (by omega) (by omega)] at b
      rw [eq i 2 a (by omega) (by omega)] at c
      rw [eq i 3 a (by omega) (by omega)] at d
      exact ⟨a, b, c, d⟩
    · rintro ⟨a, b, c, d⟩
      rw [eq i 0 a (by omega) (by omega), eq i 2 a (by omega) (by omega), eq i 3 a (by omega) (by omega)]
      exact ⟨a, b, c, d⟩
  have n1 : ∀ n kd l i, kdO Q' K' n kd l i ↔ kdO Q K n kd l i := fun n kd l i => by
    unfold kdO
    rw [c1]
    constructor
    · rintro ⟨a, b, c, d⟩
      rw [eq i 0 a (by omega) (by omega)] at b
      rw [eq i 2 a (by omega) (by omega)] at c
      rw [eq i 3 a (by omega) (by omega)] at d
      exact ⟨a, b, c, d⟩
    · rintro ⟨a, b, c, d⟩
      rw [eq i 0 a (by omega) (by omega), eq i 2 a (by omega) (by omega), eq i 3 a (by omega) (by omega)]
      exact ⟨a, b, c, d⟩
  have w1 : ∀ c i, wrO Q' K' c i ↔ wrO Q K c i := fun c i => by
    unfold wrO
    rw [c1]
    constructor
    · rintro ⟨a, b, c⟩
      rw [eq i 0 a (by omega) (by omega)] at b
      rw [eq i 3 a (by omega) (by omega), eq i 4 a (by omega) (by omega)] at c
      exact ⟨a, b, c⟩
    · rintro ⟨a, b, c⟩
      rw [eq i 0 a (by omega) (by omega), eq i 3 a (by omega) (by omega), eq i 4 a (by omega) (by omega)]
      exact ⟨a, b, c⟩
  obtain ⟨⟨a1, a2, a3⟩, hL, hW⟩ := h
  refine ⟨⟨?_, ?_, ?_⟩, fun kd l k0 k1 l0 l1 => ?_, fun c d0 d1 => ?_⟩
  · rw [es _ (by omega) (by omega) (by omega) (by omega)]; exact a1
  · intro i hi
    rw [es _ (by omega) (by omega) (by omega) (by omega), eq i 1 ((c1 i).mp hi) (by omega) (by omega)]
    exact a2 i ((c1 i).mp hi)
  · rw [es _ (by omega) (by omega) (by omega) (by omega)]
    rcases a3 with e | ⟨i, hi, e⟩
    · exact Or.inl e
    · exact Or.inr ⟨i, (c1 i).mpr hi, by rw [eq i 1 hi (by omega) (by omega)]; exact e⟩
  · obtain ⟨⟨b1, b2⟩, b3, b4⟩ := hL kd l k0 k1 l0 l1
    have s0 : S' (lA r kd l) = S (lA r kd l) := es _ (by simp only [lA]; omega) (by simp only [lA]; omega) (by simp only [lA]; omega) (by simp only [lA]; omega)
    have s1 : ∀ w, 0 ≤ w → w ≤ 4 → S' (lA r kd l + w) = S (lA r kd l + w) := fun w w0 w1 => es _ (by simp only [lA]; omega) (by simp only [lA]; omega) (by simp only [lA]; omega) (by simp only [lA]; omega)
    refine ⟨⟨?_, ?_⟩, ?_, ?_⟩
    · intro i hi
      have hi' := (m1 kd l i).mp hi
      rw [s1 1 (by omega) (by omega), s1 2 (by omega) (by omega), eq i 1 hi'.1 (by omega) (by omega)]
      exact b1 i hi'
    · rw [s0, s1 1 (by omega) (by omega), s1 2 (by omega) (by omega)]
      rcases b2 with e | ⟨i, hi, e⟩
      · exact Or.inl e
      · exact Or.inr ⟨i, (m1 kd l i).mpr hi, by rw [eq i 4 hi.1 (by omega) (by omega), eq i 1 hi.1 (by omega) (by omega)]; exact e⟩
    · unfold tbL2
      rw [s1 3 (by omega) (by omega)]
      rcases b3 with ⟨e, e2⟩ | ⟨e, e2, e3⟩
      · exact Or.inl ⟨e, e2.imp (fun z => z) (fun ⟨i, hi⟩ => ⟨i, (n1 1 kd l i).mpr hi⟩)⟩
      · exact Or.inr ⟨e, e2, fun i hi => e3 i ((n1 1 kd l i).mp hi)⟩
    · unfold tbL3
      rw [s1 4 (by omega) (by omega)]
      rcases b4 with ⟨e, i, hi⟩ | ⟨e, e3⟩
      · exact Or.inl ⟨e, i, (n1 3 kd l i).mpr hi⟩
      · exact Or.inr ⟨e, fun i hi => e3 i ((n1 3 kd l i).mp hi)⟩
  · unfold tbW1
    rw [es (cA r c) (by simp only [cA]; omega) (by simp only [cA]; omega) (by simp only [cA]; omega) (by simp only [cA]; omega)]
    rcases hW c d0 d1 with ⟨e, e2⟩ | ⟨e, e2⟩
    · exact Or.inl ⟨e, fun i hi => e2 i ((w1 c i).mp hi)⟩
    · refine Or.inr ⟨(w1 c _).mpr e, fun i hi => ?_⟩
      have hi' := (w1 c i).mp hi
      rw [eq i 1 hi'.1 (by omega) (by omega), eq _ 1 e.1 (by omega) (by omega)]
      exact e2 i hi'
theorem Tab.cl {Q : Int → Int → Int} {S : Int → Int} {r : Int} {K : Int → Int} (h : Tab Q S r K) : clOk S r := fun c c0 c1 => by
  rcases h.2.2 c c0 c1 with ⟨e, -⟩ | ⟨e, -⟩
  · have e' : S (3843 + 270 * r + (126 + c)) = -1 := e
    omega
  · have e' : (0 ≤ S (3843 + 270 * r + (126 + c)) ∧ S (3843 + 270 * r + (126 + c)) < 120) := e.1.1
    omega
/-- one more carried out -/
theorem Tab.s {Q : Int → Int → Int} {S : Int → Int} {r : Int} {K : Int → Int} {f : Int} (h : Tab Q S r K) (r0 : 0 ≤ r) (r1 : r ≤ 2) (f0 : 0 ≤ f) (f1 : f ≤ 2) (k0 : 0 ≤ K f) (k1 : K f < 40) (hQ : ∀ i w, 0 ≤ i → i < 120 → 0 ≤ w → w < 5 → opS S i w = Q i w) (v : opV S (40 * f + K f)) (hkd : 1 ≤ Q (40 * f + K f) 0 ∧ Q (40 * f + K f) 0 ≤ 4) : Tab Q (cR S r (40 * f + K f)) r (fun g => if g = f then K g + 1 else K g) := by
  obtain ⟨io, hio⟩ : ∃ io, io = 40 * f + K f := ⟨_, rfl⟩
  rw [← hio] at v hkd ⊢
  have i0 : 0 ≤ io := by omega
  have i1 : io < 120 := by omega
  have hcl := h.cl
  have cd : ∀ i, cdK (fun g => if g = f then K g + 1 else K g) i ↔ cdK K i ∨ i = io := fun i => by
    unfold cdK
    by_cases e : i / 40 = f
    · simp only [e, if_true]
      omega
    · simp only [if_neg e]
      constructor
      · exact Or.inl
      · rintro (z | z)
        · exact z
        · exact absurd (show i / 40 = f by omega) e
  have q : ∀ w, 0 ≤ w → w < 5 → opS S io w = Q io w := fun w a b => hQ io w i0 i1 a b
  have ck := cR_clk r0 r1 i0 i1 v
  have q1' : S (3 + 32 * io + 1) = Q io 1 := q 1 (by omega) (by omega)
  rw [q1'] at ck
  obtain ⟨⟨a1, a2, a3⟩, hL, hW⟩ := h
  refine ⟨⟨?_, ?_, ?_⟩, fun kd l d0 d1 l0 l1 => ?_, fun c c0 c1 => ?_⟩
  · rw [ck]; omega
  · intro i hi
    rw [ck]
    rcases (cd i).mp hi with a | a
    · have := a2 i a; omega
    · rw [a]; omega
  · rw [ck]
    by_cases e : Q io 1 ≤ S (3843 + 270 * r)
    · rw [Int.max_eq_left e]
      rcases a3 with z | ⟨i, hi, z⟩
      · exact Or.inl z
      · exact Or.inr ⟨i, (cd i).mpr (Or.inl hi), z⟩
    · exact Or.inr ⟨io, (cd io).mpr (Or.inr rfl), (Int.max_eq_right (by clear a3; omega)).symm⟩
  · obtain ⟨⟨b1, b2⟩, b3, b4⟩ := hL kd l d0 d1 l0 l1
    by_cases hk : Q io 0 = 4
    · have s0 : ∀ w, 0 ≤ w → w ≤ 4 → cR S r io (lA r kd l + w) = S (lA r kd l + w) := fun w w0 w1 => cR_wl r0 r1 i0 i1 v (by rw [q 0 (by omega) (by omega)]; exact hk) (by simp only [lA]; omega) (by simp only [lA]; omega)
      have s00 := s0 0 (by omega) (by omega)
      rw [Int.add_zero] at s00
      refine ⟨⟨?_, ?_⟩, ?_, ?_⟩
      · intro i hi
        rw [s0 1 (by omega) (by omega), s0 2 (by omega) (by omega)]
        rcases (cd i).mp hi.1 with a | a
        · exact b1 i ⟨a, hi.2⟩
        · rw [a] at hi
          have := hi.2.1
          omega
      · rw [s00, s0 1 (by omega) (by omega), s0 2 (by omega) (by omega)]
        rcases b2 with e | ⟨i, hi, e⟩
        · exact Or.inl e
        · exact Or.inr ⟨i, ⟨(cd i).mpr (Or.inl hi.1), hi.2⟩, e⟩
      · unfold tbL2
        rw [s0 3 (by omega) (by omega)]
        rcases b3 with ⟨e, e2⟩ | ⟨e, e2, e3⟩
        · exact Or.inl ⟨e, e2.imp (fun z => z) (fun ⟨i, hi⟩ => ⟨i, (cd i).mpr (Or.inl hi.1), hi.2⟩)⟩
        · refine Or.inr ⟨e, e2, fun i hi => ?_⟩
          rcases (cd i).mp hi.1 with a | a
          · exact e3 i ⟨a, hi.2⟩
          · rw [a] at hi
            have := hi.2.1
            omega
      · unfold tbL3
        rw [s0 4 (by omega) (by omega)]
        rcases b4 with ⟨e, i, hi⟩ | ⟨e, e3⟩
        · exact Or.inl ⟨e, i, (cd i).mpr (Or.inl hi.1), hi.2⟩
        · refine Or.inr ⟨e, fun i hi => ?_⟩
          rcases (cd i).mp hi.1 with a | a
          · exact e3 i ⟨a, hi.2⟩
          · rw [a] at hi
            have := hi.2.1
            omega
    · obtain ⟨g0, g1, g2, g3, g4⟩ := cR_ln r0 r1 i0 i1 v (by rw [q 0 (by omega) (by omega)]; exact hk) l0 l1 d0 d1
      rw [q 0 (by omega) (by omega), q 1 (by omega) (by omega), q 2 (by omega) (by omega), q 3 (by omega) (by omega)] at g0 g1 g2
      rw [q 4 (by omega) (by omega)] at g0
      rw [q 0 (by omega) (by omega), q 2 (by omega) (by omega), q 3 (by omega) (by omega)] at g3 g4
      refine ⟨?_, ?_, ?_⟩
      · by_cases e : (kd = Q io 2 ∧ l = Q io 3) ∧ Q io 0 ≠ 3 ∧ later (Q io 1) (io / 40) (S (lA r kd l + 1)) (S (lA r kd l + 2))
        · rw [if_pos e] at g0 g1 g2
          refine ⟨fun i hi => ?_, Or.inr ⟨io, ⟨(cd io).mpr (Or.inr rfl), by omega, e.1.1.symm, e.1.2.symm⟩, g0, g1, g2⟩⟩
          rw [g1, g2]
          rcases (cd i).mp hi.1 with a | a
          · have z1 := b1 i ⟨a, hi.2⟩
            have z2 := e.2.2
            unfold later at z1 z2 ⊢
            omega
          · rw [a]
            unfold later
            omega
        · rw [if_neg e] at g0 g1 g2
          refine ⟨fun i hi => ?_, ?_⟩
          · rw [g1, g2]
            rcases (cd i).mp hi.1 with a | a
            · exact b1 i ⟨a, hi.2⟩
            · rw [a] at hi ⊢
              intro z
              exact e ⟨⟨hi.2.2.1.symm, hi.2.2.2.symm⟩, by have := hi.2.1; omega, z⟩
          · rw [g0, g1, g2]
            rcases b2 with z | ⟨i, hi, z⟩
            · exact Or.inl z
            · exact Or.inr ⟨i, ⟨(cd i).mpr (Or.inl hi.1), hi.2⟩, z⟩
      · unfold tbL2
        by_cases e : (kd = Q io 2 ∧ l = Q io 3) ∧ Q io 0 = 1
        · rw [if_pos e] at g3
          exact Or.inl ⟨g3, Or.inr ⟨io, (cd io).mpr (Or.inr rfl), e.2, e.1.1.symm, e.1.2.symm⟩⟩
        · rw [if_neg e] at g3
          rw [g3]
          rcases b3 with ⟨z, e2⟩ | ⟨z, e2, e3⟩
          · exact Or.inl ⟨z, e2.imp (fun z => z) (fun ⟨i, hi⟩ => ⟨i, (cd i).mpr (Or.inl hi.1), hi.2⟩)⟩
          · refine Or.inr ⟨z, e2, fun i hi => ?_⟩
            rcases (cd i).mp hi.1 with a | a
            · exact e3 i ⟨a, hi.2⟩
            · rw [a] at hi
              exact e ⟨⟨hi.2.2.1.symm, hi.2.2.2.symm⟩, hi.2.1⟩
      · unfold tbL3
        by_cases e : (kd = Q io 2 ∧ l = Q io 3) ∧ Q io 0 = 3
        · rw [if_pos e] at g4
          exact Or.inl ⟨g4, io, (cd io).mpr (Or.inr rfl), e.2, e.1.1.symm, e.1.2.symm⟩
        · rw [if_neg e] at g4
          rw [g4]
          rcases b4 with ⟨z, i, hi⟩ | ⟨z, e3⟩
          · exact Or.inl ⟨z, i, (cd i).mpr (Or.inl hi.1), hi.2⟩
          · refine Or.inr ⟨z, fun i hi => ?_⟩
            rcases (cd i).mp hi.1 with a | a
            · exact e3 i ⟨a, hi.2⟩
            · rw [a] at hi
              exact e ⟨⟨hi.2.2.1.symm, hi.2.2.2.symm⟩, hi.2.1⟩
  · have hWc := hW c c0 c1
    unfold tbW1
    by_cases hk : Q io 0 = 4
    · have g : cR S r io (cA r c) = _ := cR_wc r0 r1 i0 i1 v (by rw [q 0 (by omega) (by omega)]; exact hk) hcl c0 c1
      rw [q 1 (by omega) (by omega), q 3 (by omega) (by omega), q 4 (by omega) (by omega)] at g
      have g9 : cR S r io (cA r c) = if c = 12 * Q io 3 + Q io 4 ∧ (S (cA r c) = -1 ∨ later (Q io 1) (io / 40) (opS S (S (cA r c)) 1) (S (cA r c) / 40)) then io else S (cA r c) := g
      by_cases e : c = 12 * Q io 3 + Q io 4 ∧ (S (cA r c) = -1 ∨ later (Q io 1) (io / 40) (opS S (S (cA r c)) 1) (S (cA r c) / 40))
      · rw [if_pos e] at g9
        rw [g9]
        refine Or.inr ⟨⟨(cd io).mpr (Or.inr rfl), hk, e.1.symm⟩, fun i hi => ?_⟩
        rcases (cd i).mp hi.1 with a | a
        · rcases hWc with ⟨z1, z2⟩ | ⟨z1, z2⟩
          · exact absurd ⟨a, hi.2⟩ (z2 i)
          · have z3 := z2 i ⟨a, hi.2⟩
            have z4 := z1.1.1
            have z5 := e.2
            rw [hQ _ 1 z4.1 z4.2 (by omega) (by omega)] at z5
            unfold later at z3 z5 ⊢
            omega
        · rw [a]
          unfold later
          omega
      · rw [if_neg e] at g9
        rw [g9]
        rcases hWc with ⟨z1, z2⟩ | ⟨z1, z2⟩
        · refine Or.inl ⟨z1, fun i hi => ?_⟩
          rcases (cd i).mp hi.1 with a | a
          · exact z2 i ⟨a, hi.2⟩
          · rw [a] at hi
            exact e ⟨hi.2.2.symm, Or.inl z1⟩
        · refine Or.inr ⟨⟨(cd _).mpr (Or.inl z1.1), z1.2⟩, fun i hi => ?_⟩
          rcases (cd i).mp hi.1 with a | a
          · exact z2 i ⟨a, hi.2⟩
          · rw [a] at hi ⊢
            intro z
            have z4 := z1.1.1
            rw [← hQ _ 1 z4.1 z4.2 (by omega) (by omega)] at z
            exact e ⟨hi.2.2.symm, Or.inr z⟩
    · have g : cR S r io (cA r c) = S (cA r c) := cR_lc r0 r1 i0 i1 v (by rw [q 0 (by omega) (by omega)]; exact hk) c0 c1
      rw [g]
      rcases hWc with ⟨z1, z2⟩ | ⟨z1, z2⟩
      · refine Or.inl ⟨z1, fun i hi => ?_⟩
        rcases (cd i).mp hi.1 with a | a
        · exact z2 i ⟨a, hi.2⟩
        · rw [a] at hi
          exact hk hi.2.1
      · refine Or.inr ⟨⟨(cd _).mpr (Or.inl z1.1), z1.2⟩, fun i hi => ?_⟩
        rcases (cd i).mp hi.1 with a | a
        · exact z2 i ⟨a, hi.2⟩
        · rw [a] at hi
          exact absurd hi.2.1 hk
/-- a replica as new -/
theorem Tab.z {Q : Int → Int → Int} {S : Int → Int} {r : Int} {K : Int → Int} (r0 : 0 ≤ r) (r1 : r ≤ 2) (hS : ∀ j, 3843 + 270 * r ≤ j → j < 3843 + 270 * r + 270 → S j = S0 j) (hK : ∀ f, 0 ≤ f → f ≤ 2 → K f = 0) : Tab Q S r K := by
  have no : ∀ i, ¬ cdK K i := fun i z => by
    have z1 := z.1
    have z2 := z.2
    rw [hK _ (by omega) (by omega)] at z2
    omega
  refine ⟨⟨?_, fun i hi => absurd hi (no i), Or.inl ?_⟩, fun kd l d0 d1 l0 l1 => ?_, fun c c0 c1 => ?_⟩
  · have := @S0_h r 0 r0 r1 (by omega) (by omega)
    rw [Int.add_zero] at this
    rw [hS _ (by omega) (by omega), this]
    omega
  · have := @S0_h r 0 r0 r1 (by omega) (by omega)
    rw [Int.add_zero] at this
    rw [hS _ (by omega) (by omega), this]
  · have e : ∀ w, 0 ≤ w → w < 5 → S (lA r kd l + w) = _ := fun w w0 w1 => (hS _ (by simp only [lA]; omega) (by simp only [lA]; omega)).trans (@S0_l r (12 * kd + l) w r0 r1 (by omega) (by omega) w0 w1)
    have hm : (12 * kd + l) % 12 = l := by omega
    have e0 := e 0 (by omega) (by omega)
    have e1 := e 1 (by omega) (by omega)
    have e2 := e 2 (by omega) (by omega)
    have e3 := e 3 (by omega) (by omega)
    have e4 := e 4 (by omega) (by omega)
    rw [hm] at e0 e1 e2 e3 e4
    rw [Int.add_zero, if_pos rfl] at e0
    rw [if_neg (by omega), if_pos rfl] at e1
    rw [if_neg (by omega), if_neg (by omega), if_neg (by omega)] at e2
    rw [if_neg (by omega), if_neg (by omega), if_pos rfl] at e3
    rw [if_neg (by omega), if_neg (by omega), if_neg (by omega)] at e4
    refine ⟨⟨fun i hi => absurd hi.1 (no i), Or.inl ⟨e0, e1, e2⟩⟩, ?_, Or.inr ⟨e4, fun i hi => no i hi.1⟩⟩
    by_cases h3 : l < 3
    · rw [if_pos h3] at e3
      exact Or.inl ⟨e3, Or.inl h3⟩
    · rw [if_neg h3] at e3
      exact Or.inr ⟨e3, by omega, fun i hi => no i hi.1⟩
  · refine Or.inl ⟨?_, fun i hi => no i hi.1⟩
    have := @S0_c r c r0 r1 c0 c1
    rw [hS _ (by simp only [cA]; omega) (by simp only [cA]; omega), show cA r c = 3843 + 270 * r + 126 + c by simp only [cA]; omega]
    exact this
