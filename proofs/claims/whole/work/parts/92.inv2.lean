/-! what the invariant gives -/
theorem Inv.ck {S : Int → Int} {r : Int} (h : Inv S) (r0 : 0 ≤ r) (r1 : r ≤ 2) : 0 ≤ S (3843 + 270 * r) ∧ S (3843 + 270 * r) ≤ 120 := by
  have tb := h.2.2.2.1 r r0 r1
  have a0 := h.f (f := 0) (by omega) (by omega)
  have a1 := h.f (f := 1) (by omega) (by omega)
  have a2 := h.f (f := 2) (by omega) (by omega)
  refine ⟨tb.1.1, ?_⟩
  rcases tb.1.2.2 with z | ⟨i, hi, z⟩
  · omega
  · have := (h.2.1 i (h.cd r0 r1 hi)).2.2.1.2
    omega
theorem Inv.cl {S : Int → Int} {r : Int} (h : Inv S) (r0 : 0 ≤ r) (r1 : r ≤ 2) : clOk S r := (h.2.2.2.1 r r0 r1).cl
/-- places of lines that are made -/
theorem Inv.pl {S : Int → Int} {r kd l : Int} (h : Inv S) (r0 : 0 ≤ r) (r1 : r ≤ 2) (k0 : 0 ≤ kd) (k1 : kd ≤ 1) (l0 : 0 ≤ l) (l1 : l < 12) (hm : S (lA r kd l + 3) = 1) : 0 ≤ S (lA r kd l) ∧ S (lA r kd l) ≤ 3000 + 1000 * S (3843 + 270 * r) := by
  have tb := h.2.2.2.1 r r0 r1
  obtain ⟨⟨b1, b2⟩, b3, -⟩ := tb.2.1 kd l k0 k1 l0 l1
  have hck := tb.1.1
  rcases b2 with ⟨x1, x2, x3⟩ | ⟨i, hi, x1, x2, x3⟩
  · rcases b3 with ⟨-, z | ⟨i, hi⟩⟩ | ⟨z, -⟩
    · rw [x1]
      unfold pl0
      rw [if_pos z]
      omega
    · refine absurd (Or.inl ?_) (b1 i ⟨hi.1, Or.inl hi.2.1, hi.2.2⟩)
      have z1 := (h.2.1 i (h.cd r0 r1 hi.1)).2.2.1.1
      have z2 := @ck0_le l
      rw [x2]
      omega
    · omega
  · have z1 := (h.2.1 i (h.cd r0 r1 hi.1)).2.2.2.1 hi.2.1
    have z2 := tb.1.2.1 i hi.1
    rw [x1]
    omega
theorem Inv.pr {S : Int → Int} {r : Int} (h : Inv S) (r0 : 0 ≤ r) (r1 : r ≤ 2) : prOk S r := by
  have hck := h.ck r0 r1
  refine ⟨h.f r0 r1, by rw [Int.add_zero]; omega, fun kd k0 k1 => ⟨(h.2.2.2.2 r kd r0 r1 k0 k1).1, fun l l0 l1 hs => ?_⟩, h.cl r0 r1⟩
  have := h.pl r0 r1 k0 k1 l0 l1 hs.1.1
  have t : 0 ≤ S (lA r kd l) ∧ S (lA r kd l) ≤ 1000000 := by omega
  exact t
theorem Inv.v {S : Int → Int} {f k : Int} (h : Inv S) (f0 : 0 ≤ f) (f1 : f ≤ 2) (k0 : 0 ≤ k) (k1 : k < S f) : cdK S (40 * f + k) ∧ opI S (S 0 + S 1 + S 2) (40 * f + k) := by
  have := h.f f0 f1
  have hc : cdK S (40 * f + k) := ⟨by omega, by rw [show (40 * f + k) / 40 = f by omega]; omega⟩
  exact ⟨hc, h.2.1 _ hc⟩
theorem Inv.rc {S : Int → Int} {r f : Int} (h : Inv S) (r0 : 0 ≤ r) (r1 : r ≤ 2) (f0 : 0 ≤ f) (f1 : f ≤ 2) (hn : r ≠ f) : rcOk S r f := by
  have q := h.1 r f r0 r1 f0 f1
  rw [cIx_n (Ne.symm hn)] at q
  exact ⟨fun k k0 k1 => (h.v f0 f1 k0 k1).2.1, q.2.2, h.cl r0 r1, q.1, q.2.1⟩
theorem Inv.bn {S : Int → Int} {r : Int} (h : Inv S) (r0 : 0 ≤ r) (r1 : r ≤ 2) : bnS S r := fun kd l k0 k1 l0 l1 => by
  obtain ⟨-, b3, b4⟩ := (h.2.2.2.1 r r0 r1).2.1 kd l k0 k1 l0 l1
  refine ⟨?_, ?_⟩
  · rcases b3 with z | z
    · exact Or.inr z.1
    · exact Or.inl z.1
  · rcases b4 with z | z
    · exact Or.inr z.1
    · exact Or.inl z.1
/-- who wrote a cell -/
theorem Inv.wr {S : Int → Int} {r c : Int} (h : Inv S) (r0 : 0 ≤ r) (r1 : r ≤ 2) (c0 : 0 ≤ c) (c1 : c < 144) (hn : S (cA r c) ≠ -1) : cdK S (S (cA r c)) ∧ opS S (S (cA r c)) 0 = 4 ∧ 12 * opS S (S (cA r c)) 3 + opS S (S (cA r c)) 4 = c := by
  rcases (h.2.2.2.1 r r0 r1).2.2 c c0 c1 with z | z
  · exact absurd z.1 hn
  · exact ⟨h.cd r0 r1 z.1.1, z.1.2⟩
theorem Inv.cw {S : Int → Int} {r : Int} (h : Inv S) (r0 : 0 ≤ r) (r1 : r ≤ 2) : clW S r := fun c c0 c1 hn => (h.wr r0 r1 c0 c1 hn).2.1
/-- the name of a cell that is shown -/
noncomputable def nmS (S : Int → Int) (r c : Int) : Int := 12 * rwF S r 0 (-1) (c / 12) + rwF S r 1 (-1) (c % 12)
theorem idS_nm {S : Int → Int} {r c : Int} : idS S r c = S (cA r (nmS S r c)) := by
  unfold idS nmS
  rw [show 3843 + 270 * r + (126 + 12 * rwF S r 0 (-1) (c / 12) + rwF S r 1 (-1) (c % 12)) = cA r (12 * rwF S r 0 (-1) (c / 12) + rwF S r 1 (-1) (c % 12)) by simp only [cA]; omega]
theorem nmS_b {S : Int → Int} {r c : Int} (hc : inC S r c) : 0 ≤ nmS S r c ∧ nmS S r c < 144 := by
  have q := hc.1
  have a := rwF_b (S := S) (r := r) (kd := 0) (q := c / 12) (by omega) hc.2.1
  have b := rwF_b (S := S) (r := r) (kd := 1) (q := c % 12) (by omega) hc.2.2
  unfold nmS
  omega
theorem rwF_i {S : Int → Int} {r kd i j : Int} (i0 : 0 ≤ i) (i1 : i < rwN S r kd (-1)) (j0 : 0 ≤ j) (j1 : j < rwN S r kd (-1)) (e : rwF S r kd (-1) i = rwF S r kd (-1) j) : i = j := by
  have h := (rwE S r kd (-1)).2.2.1
  rcases (by omega : i < j ∨ i = j ∨ j < i) with q | q | q
  · have := h i j i0 q j1
    rw [e] at this
    unfold lnLt at this
    omega
  · exact q
  · have := h j i j0 q i1
    rw [e] at this
    unfold lnLt at this
    omega
theorem nmS_i {S : Int → Int} {r c d : Int} (hc : inC S r c) (hd : inC S r d) (e : nmS S r c = nmS S r d) : c = d := by
  have q := hc.1
  have q' := hd.1
  have a := rwF_b (S := S) (r := r) (kd := 0) (q := c / 12) (by omega) hc.2.1
  have b := rwF_b (S := S) (r := r) (kd := 1) (q := c % 12) (by omega) hc.2.2
  have a' := rwF_b (S := S) (r := r) (kd := 0) (q := d / 12) (by omega) hd.2.1
  have b' := rwF_b (S := S) (r := r) (kd := 1) (q := d % 12) (by omega) hd.2.2
  unfold nmS at e
  have e1 := rwF_i (S := S) (r := r) (kd := 0) (i := c / 12) (j := d / 12) (by omega) hc.2.1 (by omega) hd.2.1 (by omega)
  have e2 := rwF_i (S := S) (r := r) (kd := 1) (i := c % 12) (j := d % 12) (by omega) hc.2.2 (by omega) hd.2.2 (by omega)
  omega
theorem Inv.id9 {S : Int → Int} {r c : Int} (h : Inv S) (r0 : 0 ≤ r) (r1 : r ≤ 2) (hc : inC S r c) (hn : idS S r c ≠ -1) : cdK S (idS S r c) ∧ opS S (idS S r c) 0 = 4 ∧ 12 * opS S (idS S r c) 3 + opS S (idS S r c) 4 = nmS S r c ∧ ctI S (idS S r c) := by
  have b := nmS_b hc
  rw [idS_nm] at hn ⊢
  have q := h.wr r0 r1 b.1 b.2 hn
  exact ⟨q.1, q.2.1, q.2.2, (h.2.1 _ q.1).2.2.2.2.2 q.2.1⟩
theorem Inv.fm {S : Int → Int} {r : Int} (h : Inv S) (r0 : 0 ≤ r) (r1 : r ≤ 2) : fmOk S r := by
  refine ⟨fun c hc => ?_, fun c c' hc hc' e => ?_, fun c hc => ?_⟩
  · obtain ⟨fl, hfl⟩ := (h.id9 r0 r1 hc.1 hc.2.1).2.2.2.2.2 hc.2.2
    exact hfl.sg
  · have q := h.id9 r0 r1 hc.1 hc.2.1
    have q' := h.id9 r0 r1 hc'.1 hc'.2.1
    rw [e] at q
    exact nmS_i hc.1 hc'.1 (q.2.2.1.symm.trans q'.2.2.1)
  · have b := nmS_b hc
    rw [idS_nm]
    exact h.cl r0 r1 _ b.1 b.2
theorem Inv.nf {S : Int → Int} {r c : Int} (h : Inv S) (r0 : 0 ≤ r) (r1 : r ≤ 2) (hc : inC S r c) : ¬ far (valS S r c) := by
  unfold valS
  split
  · next e =>
    have q : -9999 ≤ S (3 + 32 * idS S r c + 6) ∧ S (3 + 32 * idS S r c + 6) ≤ 9999 := (h.id9 r0 r1 hc e.1).2.2.2.2.1 e.2
    unfold far
    rw [Int64.toInt_ofInt_of_le (by omega) (by omega)]
    omega
  · exact far0
theorem Inv.nl {S : Int → Int} {r kd k : Int} (h : Inv S) (r0 : 0 ≤ r) (r1 : r ≤ 2) (k0 : 0 ≤ kd) (k1 : kd ≤ 1) (a0 : 0 ≤ k) (a1 : k < 3) : S (lA r kd (3 + 3 * r + k) + 3) ≠ 0 ↔ k < S (3843 + 270 * r + (4 + kd)) := by
  have q := h.2.2.2.2 r kd r0 r1 k0 k1
  constructor
  · intro z
    obtain ⟨-, b3, -⟩ := (h.2.2.2.1 r r0 r1).2.1 kd (3 + 3 * r + k) k0 k1 (by omega) (by omega)
    rcases b3 with ⟨-, z2 | ⟨i, hi⟩⟩ | z2
    · omega
    · have c1 := h.cd r0 r1 hi.1
      have c2 := (h.2.1 i c1).2.2.2.2.1 hi.2.1
      have c4 := h.2.2.2.2 (i / 40) (opS S i 2) (by have := c1.1; omega) (by have := c1.1; omega) (by rw [hi.2.2.1]; exact k0) (by rw [hi.2.2.1]; exact k1)
      have c3 := hi.2.2.2
      rw [hi.2.2.1] at c2 c4
      have c5 : i / 40 = r := by omega
      rw [c5] at c2
      omega
    · exact absurd z2.1 z
  · intro z
    rw [q.2 k a0 z]
    omega
/-! records -/
def snL (A S : Int → Int) : Prop := (∀ f, 0 ≤ f → f ≤ 2 → A f ≤ S f) ∧ ∀ i, cdK A i → ∀ w, 0 ≤ w → w < 32 → opS S i w = opS A i w
theorem snL.rf {S : Int → Int} : snL S S := ⟨fun _ _ _ => by omega, fun _ _ _ _ _ => rfl⟩
theorem snL.tr {A B S : Int → Int} (h : snL A B) (h2 : snL B S) : snL A S := ⟨fun f a b => by have := h.1 f a b; have := h2.1 f a b; omega, fun i hi w a b => by
  have q1 := hi.1
  have q2 := hi.2
  have := h.1 (i / 40) (by omega) (by omega)
  rw [h2.2 i ⟨q1, by omega⟩ w a b, h.2 i hi w a b]⟩
theorem snL.c {A S A' S' : Int → Int} (h : snL A S) (ea : ∀ j, 0 ≤ j → j < 4653 → A' j = A j) (es : ∀ j, 0 ≤ j → j < 4653 → S' j = S j) : snL A' S' := ⟨fun f a b => by rw [ea f (by omega) (by omega), es f (by omega) (by omega)]; exact h.1 f a b, fun i hi w a b => by
  have q1 := hi.1
  have q2 := hi.2
  rw [ea _ (by omega) (by omega)] at q2
  show S' (3 + 32 * i + w) = A' (3 + 32 * i + w)
  rw [ea _ (by omega) (by omega), es _ (by omega) (by omega)]
  exact h.2 i ⟨q1, q2⟩ w a b⟩
/-- new operations lie above -/
theorem snL.cr {S : Int → Int} {r i : Int} (r0 : 0 ≤ r) (r1 : r ≤ 2) (i0 : 0 ≤ i) (i1 : i < 120) (v : opV S i) : snL S (cR S r i) := ⟨fun f a b => by
    by_cases e : f = r
    · subst e
      have := cR_cnt r0 r1 i0 i1 v (f := f) a b
      rw [cIx_s] at this
      rw [this]
      split <;> omega
    · rw [cR_out r0 r1 i0 i1 v e (by omega)]
      omega, fun j hj w a b => cR_op r0 r1 i0 i1 v (by have := hj.1; omega) (by have := hj.1; omega)⟩
theorem snL.e {S S2 : Int → Int} (e1 : ∀ f, 0 ≤ f → f ≤ 2 → S2 f = S f) (e2 : ∀ i w, cdK S i → 0 ≤ w → w < 32 → opS S2 i w = opS S i w) : snL S S2 := ⟨fun f a b => by rw [e1 f a b]; omega, fun i hi w a b => e2 i w hi a b⟩
/-! undo -/
theorem rbK_T {S : Int → Int} {r : Int} {C : Int → Int} (r0 : 0 ≤ r) (r1 : r ≤ 2) {f : Int} (f0 : 0 ≤ f) (f1 : f ≤ 2) {S1 : Int → Int} {K : Int → Int} (hv : rbV S S1 r C f 0) (ht : Tab (opS S) S1 r K) (hK : K f = 0) (n : Nat) : (n : Int) ≤ 40 → (∀ k : Int, 0 ≤ k → k < (n : Int) → opV S (40 * f + k) ∧ 1 ≤ opS S (40 * f + k) 0 ∧ opS S (40 * f + k) 0 ≤ 4) → rbV S (rbK S1 r f n) r C f n ∧ Tab (opS S) (rbK S1 r f n) r (fun g => if g = f then (n : Int) else K g) := by
  induction n with
  | zero =>
    intro _ _
    refine ⟨hv, ht.c (fun _ _ _ _ _ => rfl) (fun _ _ _ _ _ => rfl) (fun g a b => ?_)⟩
    by_cases e : g = f
    · rw [if_pos e, e, hK]; rfl
    · rw [if_neg e]
  | succ n ih =>
    intro h1 h2
    obtain ⟨i1, i2⟩ := ih (by omega) (fun k a b => h2 k a (by omega))
    have q := h2 n (by omega) (by omega)
    have s := i1.s r0 r1 f0 f1 (by omega) (by omega) q.1
    have t := i2.s r0 r1 f0 f1 (by show 0 ≤ (if f = f then (n : Int) else K f); rw [if_pos rfl]; omega) (by show (if f = f then (n : Int) else K f) < 40; rw [if_pos rfl]; omega) (fun i w a b c d => i1.2.2.1 _ (by omega) (by omega)) (by show opV _ (40 * f + (if f = f then (n : Int) else K f)); rw [if_pos rfl]; exact s.1) (by show 1 ≤ opS S (40 * f + (if f = f then (n : Int) else K f)) 0 ∧ _; rw [if_pos rfl]; exact q.2)
    have e9 : (if f = f then (n : Int) else K f) = n := if_pos rfl
    refine ⟨?_, ?_⟩
    · have := s.2
      rw [show ((n + 1 : Nat) : Int) = (n : Int) + 1 by omega]
      exact this
    · have t' : Tab (opS S) (cR (rbK S1 r f n) r (40 * f + (if f = f then (n : Int) else K f))) r _ := t
      rw [e9] at t'
      refine t'.c (fun _ _ _ _ _ => rfl) (fun _ _ _ _ _ => rfl) (fun g a b => ?_)
      by_cases e : g = f
      · rw [if_pos e, if_pos e, if_pos e]; omega
      · rw [if_neg e, if_neg e, if_neg e]
/-- a replica built anew is the record's -/
theorem rb_eq {A S : Int → Int} {r : Int} (hA : Inv A) (hS : Inv S) (hl : snL A S) (r0 : 0 ≤ r) (r1 : r ≤ 2) :
    (rbF S r (fun f => A (cIx r f)) (3843 + 270 * r) = A (3843 + 270 * r) ∧ (∀ kd l w, 0 ≤ kd → kd ≤ 1 → 0 ≤ l → l < 12 → 0 ≤ w → w ≤ 4 → rbF S r (fun f => A (cIx r f)) (lA r kd l + w) = A (lA r kd l + w)) ∧ ∀ c, 0 ≤ c → c < 144 → rbF S r (fun f => A (cIx r f)) (cA r c) = A (cA r c)) ∧
    (∀ f, 0 ≤ f → f ≤ 2 → rbF S r (fun f => A (cIx r f)) (cIx r f) = A (cIx r f)) ∧ ∀ j, 3 ≤ j → j < 3843 → rbF S r (fun f => A (cIx r f)) j = S j := by
  have hC : ∀ f, 0 ≤ f → f ≤ 2 → 0 ≤ A (cIx r f) ∧ A (cIx r f) ≤ A f ∧ A f ≤ S f ∧ S f ≤ 40 := fun f a b => by
    have q1 := hA.1 r f r0 r1 a b
    have q2 := hl.1 f a b
    have q3 := hS.f a b
    omega
  have hv : ∀ f, 0 ≤ f → f ≤ 2 → ∀ k, 0 ≤ k → k < (((A (cIx r f)).toNat : Nat) : Int) → opV S (40 * f + k) ∧ 1 ≤ opS S (40 * f + k) 0 ∧ opS S (40 * f + k) 0 ≤ 4 := fun f a b k k0 k1 => by
    have q := hC f a b
    have := (hS.v a b k0 (by omega)).2
    exact ⟨this.1, this.2.1⟩
  have t0 : Tab (opS S) (zR S r) r (fun _ => 0) := Tab.z r0 r1 (fun j a b => zR_i a b) (fun _ _ _ => rfl)
  have v0 : rbV S (zR S r) r (fun f => A (cIx r f)) 0 0 := rbV.z r0 r1
  have c0 := hC 0 (by omega) (by omega)
  have c1 := hC 1 (by omega) (by omega)
  have c2 := hC 2 (by omega) (by omega)
  obtain ⟨v1, t1⟩ := rbK_T r0 r1 (by omega) (by omega) v0 t0 rfl (A (cIx r 0)).toNat (by omega) (hv 0 (by omega) (by omega))
  rw [show (((A (cIx r 0)).toNat : Nat) : Int) = A (cIx r 0) by omega] at v1 t1
  have v1n : rbV S _ r (fun f => A (cIx r f)) 1 0 := v1.n
  obtain ⟨v2, t2⟩ := rbK_T r0 r1 (f := 1) (by omega) (by omega) v1n t1 (if_neg (by omega)) (A (cIx r 1)).toNat (by omega) (hv 1 (by omega) (by omega))
  rw [show (((A (cIx r 1)).toNat : Nat) : Int) = A (cIx r 1) by omega] at v2 t2
  have v2n : rbV S _ r (fun f => A (cIx r f)) 2 0 := v2.n
  obtain ⟨v3, t3⟩ := rbK_T r0 r1 (f := 2) (by omega) (by omega) v2n t2 (by show (if (2 : Int) = 1 then _ else (if (2 : Int) = 0 then _ else _)) = _; rw [if_neg (by omega), if_neg (by omega)]) (A (cIx r 2)).toNat (by omega) (hv 2 (by omega) (by omega))
  rw [show (((A (cIx r 2)).toNat : Nat) : Int) = A (cIx r 2) by omega] at v3 t3
  have t9 : Tab (opS S) (rbF S r (fun f => A (cIx r f))) r (fun f => A (cIx r f)) := t3.c (fun _ _ _ _ _ => rfl) (fun _ _ _ _ _ => rfl) (fun f a b => by
    show A (cIx r f) = if f = 2 then A (cIx r 2) else if f = 1 then A (cIx r 1) else if f = 0 then A (cIx r 0) else 0
    rcases (by omega : f = 0 ∨ f = 1 ∨ f = 2) with e | e | e <;> subst e <;> rfl)
  have cA1 : ∀ i, cdK (fun f => A (cIx r f)) i → cdK A i ∧ cdK S i := fun i hi => by
    have q := hA.cd r0 r1 hi
    have q1 := q.1
    have q2 := q.2
    have := hl.1 (i / 40) (by omega) (by omega)
    exact ⟨q, q1, by omega⟩
  have tA : Tab (opS S) A r (fun f => A (cIx r f)) := (hA.2.2.2.1 r r0 r1).c (fun i w hi a b => hl.2 i (cA1 i hi).1 w a (by omega)) (fun _ _ _ _ _ => rfl) (fun _ _ _ => rfl)
  refine ⟨t9.uniq tA (fun i hi => (hS.2.1 i (cA1 i hi).2).2.2.1.1) (fun i i' hi hi' e1 e2 => ?_), fun f a b => ?_, v3.2.2.1⟩
  · have q := (cA1 i hi).2
    have q' := (cA1 i' hi').2
    rcases (by omega : i < i' ∨ i = i' ∨ i' < i) with z | z | z
    · have := hS.2.2.1 i i' q' q.1.1 z e1
      omega
    · exact z
    · have := hS.2.2.1 i' i q q'.1.1 z e1.symm
      omega
  · have q : rbF S r (fun f => A (cIx r f)) (cIx r f) = _ := v3.2.2.2 f a b
    rw [q]
    by_cases e : f < 2
    · rw [if_pos e]
    · rw [if_neg e]
      have e2 : f = 2 := by omega
      subst e2
      rw [if_pos (by omega)]
/-- .. so is its object -/
theorem RpR.rb {B : Nat} {T : gT} {I : gI} {O : gO} {p : Nat} {A S : Int → Int} {r : Int} (h : RpR B T I O p (rbF S r (fun f => A (cIx r f))) r) (hA : Inv A) (hS : Inv S) (hl : snL A S) (r0 : 0 ≤ r) (r1 : r ≤ 2) : RpR B T I O p A r := by
  obtain ⟨⟨q1, q2, q3⟩, q4, q5⟩ := rb_eq hA hS hl r0 r1
  obtain ⟨⟨a1, a2⟩, a3, a4, a5, a6, a7⟩ := h
  refine ⟨⟨a1, a2.trans q1⟩, fun f f0 f1 => (a3 f f0 f1).trans (q4 f f0 f1), a4.c (fun _ _ _ _ => rfl) (fun l w l0 l1 w0 w1 => (q2 0 l w (by omega) (by omega) l0 l1 w0 w1).symm), a5.c (fun _ _ _ _ => rfl) (fun l w l0 l1 w0 w1 => (q2 1 l w (by omega) (by omega) l0 l1 w0 w1).symm), fun c c0 c1 => ?_, a7⟩
  have e : rbF S r (fun f => A (cIx r f)) (3843 + 270 * r + (126 + c)) = A (3843 + 270 * r + (126 + c)) := q3 c c0 c1
  rcases a6 c c0 c1 with ⟨z1, z2⟩ | ⟨z1, a, z2, z3⟩
  · exact Or.inl ⟨e ▸ z1, z2⟩
  · rw [e] at z1 z3
    refine Or.inr ⟨z1, a, z2, z3.mv hiK.rf (fun w w0 w1 => ?_)⟩
    rw [q5 _ (by omega) (by omega)]
    exact (hl.2 _ (hA.wr r0 r1 c0 c1 (by show A (3843 + 270 * r + (126 + c)) ≠ -1; omega)).1 w w0 w1).symm
