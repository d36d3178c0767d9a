/-! the invariant of the row s -/
def ctI (S : Int → Int) (i : Int) : Prop := (0 ≤ opS S i 5 ∧ opS S i 5 ≤ 2) ∧ (opS S i 5 = 1 → -9999 ≤ opS S i 6 ∧ opS S i 6 ≤ 9999) ∧ (opS S i 5 = 2 → ∃ fl, fmlAt S i fl)
def opI (S : Int → Int) (M : Int) (i : Int) : Prop := opV S i ∧ (1 ≤ opS S i 0 ∧ opS S i 0 ≤ 4) ∧ (1 ≤ opS S i 1 ∧ opS S i 1 ≤ M) ∧ ((opS S i 0 = 1 ∨ opS S i 0 = 2) → 0 ≤ opS S i 4 ∧ opS S i 4 ≤ 3000 + 1000 * opS S i 1) ∧ (opS S i 0 = 1 → 3 + 3 * (i / 40) ≤ opS S i 3 ∧ opS S i 3 < 3 + 3 * (i / 40) + S (3843 + 270 * (i / 40) + (4 + opS S i 2))) ∧ (opS S i 0 = 4 → ctI S i)
def Inv (S : Int → Int) : Prop :=
  (∀ r f, 0 ≤ r → r ≤ 2 → 0 ≤ f → f ≤ 2 → 0 ≤ S (cIx r f) ∧ S (cIx r f) ≤ S f ∧ S f ≤ 40) ∧
  (∀ i, cdK S i → opI S (S 0 + S 1 + S 2) i) ∧
  (∀ i i', cdK S i' → 0 ≤ i → i < i' → i / 40 = i' / 40 → opS S i 1 < opS S i' 1) ∧
  (∀ r, 0 ≤ r → r ≤ 2 → Tab (opS S) S r (fun f => S (cIx r f))) ∧
  ∀ r kd, 0 ≤ r → r ≤ 2 → 0 ≤ kd → kd ≤ 1 → (0 ≤ S (3843 + 270 * r + (4 + kd)) ∧ S (3843 + 270 * r + (4 + kd)) ≤ 3) ∧ ∀ k, 0 ≤ k → k < S (3843 + 270 * r + (4 + kd)) → S (lA r kd (3 + 3 * r + k) + 3) = 1
theorem opV.c {S S' : Int → Int} {i : Int} (h : opV S i) (o : ∀ w, 0 ≤ w → w < 32 → opS S' i w = opS S i w) : opV S' i := by
  unfold opV at h ⊢
  rw [o 0 (by omega) (by omega), o 2 (by omega) (by omega), o 3 (by omega) (by omega), o 4 (by omega) (by omega)]
  exact h
theorem opI.c {S S' : Int → Int} {M M' i : Int} (h : opI S M i) (o : ∀ w, 0 ≤ w → w < 32 → opS S' i w = opS S i w) (hM : M ≤ M') (hm : ∀ kd, 0 ≤ kd → kd ≤ 1 → S (3843 + 270 * (i / 40) + (4 + kd)) ≤ S' (3843 + 270 * (i / 40) + (4 + kd))) : opI S' M' i := by
  obtain ⟨a, b, c, d, e, g⟩ := h
  have o0 := o 0 (by omega) (by omega)
  have o1 := o 1 (by omega) (by omega)
  have o2 := o 2 (by omega) (by omega)
  have o3 := o 3 (by omega) (by omega)
  have o4 := o 4 (by omega) (by omega)
  refine ⟨a.c o, by rw [o0]; exact b, by rw [o1]; omega, ?_, ?_, ?_⟩
  · rw [o0, o4, o1]; exact d
  · rw [o0, o3, o2]
    intro z
    have z1 := e z
    have z2 := a.2.2.2 (by omega)
    have z3 := hm (opS S i 2) z2.1 z2.2
    omega
  · rw [o0]
    intro z
    obtain ⟨g1, g2, g3⟩ := g z
    unfold ctI
    rw [o 5 (by omega) (by omega), o 6 (by omega) (by omega)]
    exact ⟨g1, g2, fun q => by obtain ⟨fl, hfl⟩ := g3 q; exact ⟨fl, hfl.c o⟩⟩
theorem cIx_s {r : Int} : cIx r r = r := if_pos rfl
theorem cIx_n {r f : Int} (h : f ≠ r) : cIx r f = 3843 + 270 * r + (1 + f) := if_neg h
theorem Inv.f {S : Int → Int} {f : Int} (h : Inv S) (f0 : 0 ≤ f) (f1 : f ≤ 2) : 0 ≤ S f ∧ S f ≤ 40 := by
  have := h.1 f f f0 f1 f0 f1
  rw [cIx_s] at this
  omega
theorem Inv.cd {S : Int → Int} {r i : Int} (h : Inv S) (r0 : 0 ≤ r) (r1 : r ≤ 2) (hi : cdK (fun f => S (cIx r f)) i) : cdK S i := by
  have h1 := hi.1
  have h2 : i % 40 < S (cIx r (i / 40)) := hi.2
  have := h.1 r (i / 40) r0 r1 (by omega) (by omega)
  exact ⟨h1, by omega⟩
/-- one step: replica r carries the next operation of f out -/
theorem Inv.st {S : Int → Int} {r f : Int} (r0 : 0 ≤ r) (r1 : r ≤ 2) (f0 : 0 ≤ f) (f1 : f ≤ 2) (h1 : ∀ r f, 0 ≤ r → r ≤ 2 → 0 ≤ f → f ≤ 2 → 0 ≤ S (cIx r f) ∧ S (cIx r f) ≤ S f ∧ S f ≤ 40) (hn : f = r ∨ S (cIx r f) < S f) (hn2 : S (cIx r f) < 40)
    (h2 : ∀ i, cdK S i ∨ i = 40 * f + S (cIx r f) → opI S (S 0 + S 1 + S 2 + (if f = r then 1 else 0)) i)
    (h3 : ∀ i i', cdK S i' ∨ i' = 40 * f + S (cIx r f) → 0 ≤ i → i < i' → i / 40 = i' / 40 → opS S i 1 < opS S i' 1)
    (h4 : ∀ r, 0 ≤ r → r ≤ 2 → Tab (opS S) S r (fun f => S (cIx r f)))
    (h5 : ∀ r' kd, 0 ≤ r' → r' ≤ 2 → 0 ≤ kd → kd ≤ 1 → (0 ≤ S (3843 + 270 * r' + (4 + kd)) ∧ S (3843 + 270 * r' + (4 + kd)) ≤ 3) ∧ ∀ k, 0 ≤ k → k < S (3843 + 270 * r' + (4 + kd)) → S (lA r' kd (3 + 3 * r' + k) + 3) = 1 ∨ (r' = r ∧ opS S (40 * f + S (cIx r f)) 0 = 1 ∧ opS S (40 * f + S (cIx r f)) 2 = kd ∧ opS S (40 * f + S (cIx r f)) 3 = 3 + 3 * r + k)) : Inv (cR S r (40 * f + S (cIx r f))) := by
  have hk0 := h1 r f r0 r1 f0 f1
  obtain ⟨io, hio⟩ : ∃ io, io = 40 * f + S (cIx r f) := ⟨_, rfl⟩
  rw [← hio] at h2 h3 h5 ⊢
  have i0 : 0 ≤ io := by omega
  have i1 : io < 120 := by omega
  have iq : io / 40 = f := by omega
  have hop := h2 io (Or.inr rfl)
  have v := hop.1
  have op : ∀ i w, 0 ≤ i → i < 120 → 0 ≤ w → w < 32 → opS (cR S r io) i w = opS S i w := fun i w a b c d => cR_op r0 r1 i0 i1 v (by omega) (by omega)
  have cnt : ∀ r' f', 0 ≤ r' → r' ≤ 2 → 0 ≤ f' → f' ≤ 2 → cR S r io (cIx r' f') = if r' = r ∧ f' = f then S (cIx r' f') + 1 else S (cIx r' f') := fun r' f' a b c d => by
    by_cases e : r' = r
    · subst e
      rw [cR_cnt r0 r1 i0 i1 v c d, iq]
      by_cases e2 : f' = f
      · rw [if_pos e2, if_pos ⟨rfl, e2⟩]
      · rw [if_neg e2, if_neg (fun z => e2 z.2)]
    · rw [if_neg (fun z => e z.1)]
      have := cIx_b a b c d
      exact cR_out r0 r1 i0 i1 v (by omega) (by omega)
  have cn1 : ∀ f', 0 ≤ f' → f' ≤ 2 → cR S r io f' = if f' = r ∧ f = r then S f' + 1 else S f' := fun f' a b => by
    have := cnt f' f' a b a b
    rw [cIx_s] at this
    rw [this]
    by_cases e : f' = r ∧ f' = f
    · rw [if_pos e, if_pos (by omega)]
    · rw [if_neg e, if_neg (by omega)]
  have cd1 : ∀ i, cdK (cR S r io) i → cdK S i ∨ i = io := fun i hi => by
    have q1 := hi.1
    have q2 := hi.2
    rw [cn1 _ (by omega) (by omega)] at q2
    by_cases e : i / 40 = r ∧ f = r
    · rw [if_pos e] at q2
      have e2 := e.2
      subst e2
      rw [cIx_s] at hio
      by_cases e3 : i = io
      · exact Or.inr e3
      · refine Or.inl ⟨q1, ?_⟩
        rw [e.1] at q2 ⊢
        have := e.1
        omega
    · rw [if_neg e] at q2
      exact Or.inl ⟨q1, q2⟩
  have cm : ∀ r' kd, 0 ≤ r' → r' ≤ 2 → 0 ≤ kd → kd ≤ 1 → cR S r io (3843 + 270 * r' + (4 + kd)) = S (3843 + 270 * r' + (4 + kd)) := fun r' kd a b c d => by
    by_cases e : r' = r
    · subst e
      have := cIx_b r0 r1 (f := io / 40) (by omega) (by omega)
      rw [cR_lo r0 r1 i0 i1 v (by omega), cR0_o (by omega) (by omega)]
    · exact cR_out r0 r1 i0 i1 v (by omega) (by omega)
  have sum : cR S r io 0 + cR S r io 1 + cR S r io 2 = S 0 + S 1 + S 2 + (if f = r then 1 else 0) := by
    rw [cn1 0 (by omega) (by omega), cn1 1 (by omega) (by omega), cn1 2 (by omega) (by omega)]
    by_cases e : f = r
    · rw [if_pos e]
      rcases (by omega : r = 0 ∨ r = 1 ∨ r = 2) with q | q | q <;> subst q <;> simp [e] <;> omega
    · rw [if_neg e, if_neg (by omega), if_neg (by omega), if_neg (by omega)]
      omega
  refine ⟨fun r' f' a b c d => ?_, fun i hi => ?_, fun i i' hi a b c => ?_, fun r' a b => ?_, fun r' kd a b c d => ?_⟩
  · rw [cnt r' f' a b c d, cn1 f' c d]
    have q := h1 r' f' a b c d
    by_cases e : r' = r ∧ f' = f
    · obtain ⟨e1, e2⟩ := e
      subst e1 e2
      rw [if_pos ⟨rfl, rfl⟩]
      rcases hn with z | z
      · rw [if_pos ⟨z, z⟩]
        subst z
        rw [cIx_s] at q hn2 ⊢
        omega
      · by_cases z2 : f' = r'
        · rw [z2, cIx_s] at z
          omega
        · rw [if_neg (fun z3 => z2 z3.1)]
          omega
    · rw [if_neg e]
      by_cases e2 : f' = r ∧ f = r
      · rw [if_pos e2]
        have e3 := e2.1
        have e4 := e2.2
        have := h1 r r r0 r1 r0 r1
        rw [cIx_s] at this
        rw [e4, cIx_s] at hn2
        rw [e3] at q ⊢
        omega
      · rw [if_neg e2]
        exact q
  · have q1 := hi.1
    rw [sum]
    exact (h2 i (cd1 i hi)).c (fun w a b => op i w q1.1 q1.2 a b) (by omega) (fun kd a b => by rw [cm _ _ (by omega) (by omega) a b]; omega)
  · have q1 := hi.1
    rw [op i 1 a (by omega) (by omega) (by omega), op i' 1 q1.1 q1.2 (by omega) (by omega)]
    exact h3 i i' (cd1 i' hi) a b c
  · by_cases e : r' = r
    · subst e
      have t := (h4 r' a b).s r0 r1 f0 f1 hk0.1 hn2 (fun _ _ _ _ _ _ => rfl) (by rw [← hio]; exact v) (by rw [← hio]; exact hop.2.1)
      rw [← hio] at t
      refine t.c (fun i w hi w0 w1 => op i w hi.1.1 hi.1.2 w0 (by omega)) (fun j _ _ _ _ => rfl) (fun f' c d => ?_)
      show cR S r' io (cIx r' f') = _
      rw [cnt r' f' a b c d]
      by_cases e2 : f' = f
      · rw [if_pos ⟨rfl, e2⟩, if_pos e2]
      · rw [if_neg (fun z => e2 z.2), if_neg e2]
    · refine (h4 r' a b).c (fun i w hi w0 w1 => op i w hi.1.1 hi.1.2 w0 (by omega)) (fun j j0 j1 _ _ => cR_out r0 r1 i0 i1 v (by omega) (by omega)) (fun f' c d => ?_)
      show cR S r io (cIx r' f') = _
      rw [cnt r' f' a b c d, if_neg (fun z => e z.1)]
  · rw [cm r' kd a b c d]
    obtain ⟨q1, q2⟩ := h5 r' kd a b c d
    refine ⟨q1, fun k k0 k1 => ?_⟩
    have q3 := q2 k k0 k1
    by_cases e : r' = r
    · subst e
      by_cases hk : opS S io 0 = 4
      · rw [cR_wl r0 r1 i0 i1 v hk (by simp only [lA]; omega) (by simp only [lA]; omega)]
        rcases q3 with z | z
        · exact z
        · have := z.2.1
          omega
      · have g := (cR_ln r0 r1 i0 i1 v hk (kd := kd) (l := 3 + 3 * r' + k) (by omega) (by omega) c d).2.2.2.1
        rw [g]
        by_cases e2 : (kd = opS S io 2 ∧ 3 + 3 * r' + k = opS S io 3) ∧ opS S io 0 = 1
        · rw [if_pos e2]
        · rw [if_neg e2]
          rcases q3 with z | ⟨-, z1, z2, z3⟩
          · exact z
          · exact absurd ⟨⟨z2.symm, z3.symm⟩, z1⟩ e2
    · rw [cR_out r0 r1 i0 i1 v (by simp only [lA]; omega) (by simp only [lA]; omega)]
      rcases q3 with z | z
      · exact z
      · exact absurd z.1 e
theorem Inv.get {S : Int → Int} {r f : Int} (h : Inv S) (r0 : 0 ≤ r) (r1 : r ≤ 2) (f0 : 0 ≤ f) (f1 : f ≤ 2) (hn : S (cIx r f) < S f) : Inv (cR S r (40 * f + S (cIx r f))) := by
  have hk := h.1 r f r0 r1 f0 f1
  have hc : cdK S (40 * f + S (cIx r f)) := ⟨by omega, by rw [show (40 * f + S (cIx r f)) / 40 = f by omega]; omega⟩
  have e : ∀ i, cdK S i ∨ i = 40 * f + S (cIx r f) → cdK S i := fun i z => by
    rcases z with z | z
    · exact z
    · rw [z]; exact hc
  refine Inv.st r0 r1 f0 f1 h.1 (Or.inr hn) (by omega) (fun i hi => (h.2.1 i (e i hi)).c (fun _ _ _ => rfl) (by split <;> omega) (fun _ _ _ => by omega)) (fun i i' hi => h.2.2.1 i i' (e i' hi)) h.2.2.2.1 (fun r' kd a b c d => ?_)
  have q := h.2.2.2.2 r' kd a b c d
  exact ⟨q.1, fun k k0 k1 => Or.inl (q.2 k k0 k1)⟩
/-- a new operation -/
theorem Inv.mk {S S2 : Int → Int} {r : Int} (h : Inv S) (r0 : 0 ≤ r) (r1 : r ≤ 2) (hn : S r < 40)
    (e1 : ∀ j, 0 ≤ j → j < 4653 → (j < 3 + 32 * (40 * r + S r) ∨ 3 + 32 * (40 * r + S r) + 32 ≤ j) → j ≠ 3843 + 270 * r + 4 → j ≠ 3843 + 270 * r + 5 → S2 j = S j)
    (eN : ∀ kd, 0 ≤ kd → kd ≤ 1 → S (3843 + 270 * r + (4 + kd)) ≤ S2 (3843 + 270 * r + (4 + kd)) ∧ S2 (3843 + 270 * r + (4 + kd)) ≤ 3)
    (hc : opS S2 (40 * r + S r) 1 = S (3843 + 270 * r) + 1) (ho : opI S2 1000 (40 * r + S r))
    (hm : ∀ kd k, 0 ≤ kd → kd ≤ 1 → S (3843 + 270 * r + (4 + kd)) ≤ k → k < S2 (3843 + 270 * r + (4 + kd)) → opS S2 (40 * r + S r) 0 = 1 ∧ opS S2 (40 * r + S r) 2 = kd ∧ opS S2 (40 * r + S r) 3 = 3 + 3 * r + k) : Inv (cR S2 r (40 * r + S r)) := by
  have hf := h.f r0 r1
  have a0 := h.f (f := 0) (by omega) (by omega)
  have a1 := h.f (f := 1) (by omega) (by omega)
  have a2 := h.f (f := 2) (by omega) (by omega)
  have ec : ∀ r' f', 0 ≤ r' → r' ≤ 2 → 0 ≤ f' → f' ≤ 2 → S2 (cIx r' f') = S (cIx r' f') := fun r' f' a b c d => by
    have := cIx_b a b c d
    exact e1 _ (by omega) (by omega) (by omega) (by omega) (by omega)
  have ef : ∀ f', 0 ≤ f' → f' ≤ 2 → S2 f' = S f' := fun f' c d => e1 _ (by omega) (by omega) (by omega) (by omega) (by omega)
  have eo : ∀ i w, 0 ≤ i → i < 120 → i ≠ 40 * r + S r → 0 ≤ w → w < 32 → opS S2 i w = opS S i w := fun i w a b c d e => e1 _ (by omega) (by omega) (by omega) (by omega) (by omega)
  have hio : (40 * r + S r) / 40 = r := by omega
  have cdn : ∀ i, cdK S2 i → cdK S i ∧ i ≠ 40 * r + S r := fun i hi => by
    have q1 := hi.1
    have q2 := hi.2
    rw [ef _ (by omega) (by omega)] at q2
    refine ⟨⟨q1, q2⟩, fun z => ?_⟩
    rw [z, hio] at q2
    omega
  have tb := h.2.2.2.1 r r0 r1
  have hck : ∀ i, cdK S i → i / 40 = r → opS S i 1 ≤ S (3843 + 270 * r) := fun i hi hq => tb.1.2.1 i ⟨hi.1, by show i % 40 < S (cIx r (i / 40)); rw [hq, cIx_s, ← hq]; exact hi.2⟩
  have hcm : S (3843 + 270 * r) ≤ S 0 + S 1 + S 2 := by
    rcases tb.1.2.2 with z | ⟨i, hi, z⟩
    · omega
    · have := (h.2.1 i (h.cd r0 r1 hi)).2.2.1.2
      omega
  have key := Inv.st (S := S2) (r := r) (f := r) r0 r1 r0 r1 (fun r' f' a b c d => by rw [ec r' f' a b c d, ef f' c d]; exact h.1 r' f' a b c d) (Or.inl rfl) (by rw [ec r r r0 r1 r0 r1, cIx_s]; exact hn)
  rw [ec r r r0 r1 r0 r1, cIx_s] at key
  refine key (fun i hi => ?_) (fun i i' hi a b c => ?_) (fun r' a b => ?_) (fun r' kd a b c d => ?_)
  · rw [ef 0 (by omega) (by omega), ef 1 (by omega) (by omega), ef 2 (by omega) (by omega), if_pos rfl]
    rcases hi with hi | hi
    · have q := cdn i hi
      refine (h.2.1 i q.1).c (fun w a b => eo i w q.1.1.1 q.1.1.2 q.2 a b) (by omega) (fun kd a b => ?_)
      have q1 := q.1.1
      by_cases e : i / 40 = r
      · rw [e]; exact (eN kd a b).1
      · rw [e1 _ (by omega) (by omega) (by omega) (by omega) (by omega)]; omega
    · rw [hi]
      obtain ⟨b1, b2, b3, b4⟩ := ho
      exact ⟨b1, b2, ⟨b3.1, by omega⟩, b4⟩
  · rcases hi with hi | hi
    · have q := cdn i' hi
      have q1 := q.1.1
      have q2 := hi.2
      rw [ef _ (by omega) (by omega)] at q2
      rw [eo i' 1 q1.1 q1.2 q.2 (by omega) (by omega), eo i 1 a (by omega) (fun z => by
        rw [z, hio] at c
        rw [← c] at q2
        omega) (by omega) (by omega)]
      exact h.2.2.1 i i' q.1 a b c
    · rw [hi] at b c ⊢
      rw [hio] at c
      rw [hc, eo i 1 a (by omega) (by omega) (by omega) (by omega)]
      have := hck i ⟨⟨a, by omega⟩, by rw [c]; omega⟩ c
      omega
  · refine (h.2.2.2.1 r' a b).c (fun i w hi w0 w1 => ?_) (fun j j0 j1 j2 j3 => e1 j (by omega) (by omega) (by omega) (by omega) (by omega)) (fun f' c d => ec r' f' a b c d)
    have q := h.cd a b hi
    have q1 := q.1
    refine eo i w q1.1 q1.2 (fun z => ?_) w0 (by omega)
    have q2 := q.2
    rw [z, hio] at q2
    omega
  · have q := h.2.2.2.2 r' kd a b c d
    by_cases e : r' = r
    · subst e
      have q3 := eN kd c d
      refine ⟨by omega, fun k k0 k1 => ?_⟩
      by_cases z : k < S (3843 + 270 * r' + (4 + kd))
      · refine Or.inl ?_
        rw [e1 _ (by simp only [lA]; omega) (by simp only [lA]; omega) (by simp only [lA]; omega) (by simp only [lA]; omega) (by simp only [lA]; omega)]
        exact q.2 k k0 z
      · have := hm kd k c d (by omega) k1
        exact Or.inr ⟨rfl, this⟩
    · rw [e1 _ (by omega) (by omega) (by omega) (by omega) (by omega)]
      refine ⟨q.1, fun k k0 k1 => Or.inl ?_⟩
      rw [e1 _ (by simp only [lA]; omega) (by simp only [lA]; omega) (by simp only [lA]; omega) (by simp only [lA]; omega) (by simp only [lA]; omega)]
      exact q.2 k k0 k1
theorem Inv.c {S S' : Int → Int} (h : Inv S) (e : ∀ j, 0 ≤ j → j < 4653 → S' j = S j) : Inv S' := by
  have op : ∀ i w, 0 ≤ i → i < 120 → 0 ≤ w → w < 32 → opS S' i w = opS S i w := fun i w a b c d => e _ (by omega) (by omega)
  have ec : ∀ r' f', 0 ≤ r' → r' ≤ 2 → 0 ≤ f' → f' ≤ 2 → S' (cIx r' f') = S (cIx r' f') := fun r' f' a b c d => by
    have := cIx_b a b c d
    exact e _ (by omega) (by omega)
  have cd : ∀ i, cdK S' i → cdK S i := fun i hi => by
    have q1 := hi.1
    have q2 := hi.2
    rw [e _ (by omega) (by omega)] at q2
    exact ⟨q1, q2⟩
  refine ⟨fun r f a b c d => ?_, fun i hi => ?_, fun i i' hi a b c => ?_, fun r a b => ?_, fun r kd a b c d => ?_⟩
  · rw [ec r f a b c d, e f (by omega) (by omega)]; exact h.1 r f a b c d
  · have q1 := hi.1
    rw [e 0 (by omega) (by omega), e 1 (by omega) (by omega), e 2 (by omega) (by omega)]
    exact (h.2.1 i (cd i hi)).c (fun w a b => op i w q1.1 q1.2 a b) (by omega) (fun kd a b => by rw [e _ (by omega) (by omega)]; omega)
  · have q1 := hi.1
    rw [op i 1 a (by omega) (by omega) (by omega), op i' 1 q1.1 q1.2 (by omega) (by omega)]
    exact h.2.2.1 i i' (cd i' hi) a b c
  · exact (h.2.2.2.1 r a b).c (fun i w hi w0 w1 => op i w hi.1.1 hi.1.2 w0 (by omega)) (fun j j0 j1 _ _ => e j (by omega) (by omega)) (fun f' c d => ec r f' a b c d)
  · rw [e _ (by omega) (by omega)]
    have q := h.2.2.2.2 r kd a b c d
    refine ⟨q.1, fun k k0 k1 => ?_⟩
    rw [e _ (by simp only [lA]; omega) (by simp only [lA]; omega)]
    exact q.2 k k0 k1
theorem Inv.z : Inv S0 := by
  have h0 : ∀ r f, 0 ≤ r → r ≤ 2 → 0 ≤ f → f ≤ 2 → S0 (cIx r f) = 0 := fun r f a b c d => by
    rcases cIx_b a b c d with z | z
    · rw [z.1]; exact S0_o (by omega)
    · rw [z.2.2.2]; exact S0_h a b (by omega) (by omega)
  have hf : ∀ f, 0 ≤ f → f ≤ 2 → S0 f = 0 := fun f a b => S0_o (by omega)
  have no : ∀ i, ¬ cdK S0 i := fun i z => by
    have z1 := z.1
    have z2 := z.2
    rw [hf _ (by omega) (by omega)] at z2
    omega
  refine ⟨fun r f a b c d => ?_, fun i hi => absurd hi (no i), fun i i' hi => absurd hi (no i'), fun r a b => Tab.z a b (fun _ _ _ => rfl) (fun f c d => h0 r f a b c d), fun r kd a b c d => ?_⟩
  · rw [h0 r f a b c d, hf f c d]; omega
  · have := @S0_h r (4 + kd) a b (by omega) (by omega)
    rw [this]
    exact ⟨by omega, fun k k0 k1 => by omega⟩
