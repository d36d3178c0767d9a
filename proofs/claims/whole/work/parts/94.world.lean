/-! the class's object against the row s, with its records and its text -/
def caQ (I : gI) (J : gJ) (p : Nat) (S : Int → Int) (r : Int) : Prop := I (p + 15) 11 = 0 ∨ (I (p + 15) 11 = 1 ∧ CaR I J (p + 15) S r)
def WW (B ss : Nat) (T : gT) (I : gI) (J : gJ) (O : gO) (S : Int → Int) (n : Int) (Rc X : Int → Int) (L : Int) : Prop :=
  (SsAt T O ss ∧ ss + 94 ≤ B ∧ B < T.1) ∧ (∀ r, 0 ≤ r → r ≤ 2 → RpR B T I O (rpA ss r) S r ∧ lgR B T I O (rpA ss r) S r (S r) ∧ caQ I J (rpA ss r) S r) ∧ (I (ss + 2) 1 = n ∧ ∀ j, 0 ≤ j → j < 9 * n → I (ss + 3) j = Rc j) ∧ I (ss + 4) 1 = L ∧ ∀ i, 0 ≤ i → i < L → I (ss + 5) i = X i
def FrC (ss : Nat) (T T' : gT) (I I' : gI) (J J' : gJ) (O O' : gO) : Prop := T.1 ≤ T'.1 ∧ ∀ b, b < T.1 → (b < ss ∨ ss + 94 < b) → T'.2 b = T.2 b ∧ (∀ j, I' b j = I b j) ∧ (∀ j, J' b j = J b j) ∧ ∀ j, O' b j = O b j
theorem FrC.rf {ss : Nat} {T : gT} {I : gI} {J : gJ} {O : gO} : FrC ss T T I I J J O O := ⟨Nat.le_refl _, fun _ _ _ => ⟨rfl, fun _ => rfl, fun _ => rfl, fun _ => rfl⟩⟩
theorem FrC.tr {ss : Nat} {T T' T2 : gT} {I I' I2 : gI} {J J' J2 : gJ} {O O' O2 : gO} (h : FrC ss T T' I I' J J' O O') (h2 : FrC ss T' T2 I' I2 J' J2 O' O2) : FrC ss T T2 I I2 J J2 O O2 := ⟨Nat.le_trans h.1 h2.1, fun b b1 b2 => by
  have k1 := h.2 b b1 b2
  have k2 := h2.2 b (Nat.lt_of_lt_of_le b1 h.1) b2
  exact ⟨k2.1.trans k1.1, fun j => (k2.2.1 j).trans (k1.2.1 j), fun j => (k2.2.2.1 j).trans (k1.2.2.1 j), fun j => (k2.2.2.2 j).trans (k1.2.2.2 j)⟩⟩
theorem FrC.t {ss : Nat} {T : gT} {I : gI} {J : gJ} {O : gO} {N : Nat} (h : T.1 ≤ N) : FrC ss T (N, T.2) I I J J O O := ⟨h, fun _ _ _ => ⟨rfl, fun _ => rfl, fun _ => rfl, fun _ => rfl⟩⟩
/-- nothing of the class's world has changed -/
theorem WW.mv {B ss : Nat} {T T' : gT} {I I' : gI} {J J' : gJ} {O O' : gO} {S : Int → Int} {n : Int} {Rc X : Int → Int} {L : Int} (h : WW B ss T I J O S n Rc X L) (hT : T.1 ≤ T'.1) (e : ∀ b, b < T.1 → ((ss ≤ b ∧ b ≤ ss + 94) ∨ B < b) → T'.2 b = T.2 b ∧ (∀ j, I' b j = I b j) ∧ (∀ j, J' b j = J b j) ∧ ∀ j, O' b j = O b j) : WW B ss T' I' J' O' S n Rc X L := by
  obtain ⟨⟨h1, h2, h3⟩, h4, ⟨h5, h6⟩, h7, h8⟩ := h
  have hk : hiK B T T' I I' O O' := ⟨hT, fun b b1 b2 => by
    have := e b b2 (Or.inr b1)
    exact ⟨this.1, this.2.1, this.2.2.2⟩⟩
  have el : ∀ b, ss ≤ b → b ≤ ss + 94 → T'.2 b = T.2 b ∧ (∀ j, I' b j = I b j) ∧ (∀ j, J' b j = J b j) ∧ ∀ j, O' b j = O b j := fun b b1 b2 => e b (by omega) (Or.inl ⟨b1, b2⟩)
  refine ⟨⟨h1.mv (fun b b1 b2 => (el b b1 b2).1) (fun b j b1 b2 _ _ _ _ _ _ _ _ _ => (el b b1 b2).2.2.2 j), h2, by omega⟩, fun r r0 r1 => ?_, ⟨by rw [(el (ss + 2) (by omega) (by omega)).2.1]; exact h5, fun j j0 j1 => by rw [(el (ss + 3) (by omega) (by omega)).2.1]; exact h6 j j0 j1⟩, by rw [(el (ss + 4) (by omega) (by omega)).2.1]; exact h7, fun i i0 i1 => by rw [(el (ss + 5) (by omega) (by omega)).2.1]; exact h8 i i0 i1⟩
  obtain ⟨q1, q2, q3⟩ := h4 r r0 r1
  have hp : ss + 8 ≤ rpA ss r ∧ rpA ss r + 28 ≤ ss + 94 := by unfold rpA; omega
  refine ⟨q1.mv (by omega) hk (fun j _ b b1 b2 _ => (el b (by omega) (by omega)).2.1 j) (fun j b b1 b2 _ => (el b (by omega) (by omega)).2.1 j) (fun j b hb => (el b (by omega) (by omega)).2.2.2 j) (fun _ _ _ _ _ _ => rfl) (fun _ _ _ => rfl) rfl r0 r1, fun k k0 k1 => ?_, ?_⟩
  · obtain ⟨a, a1, a2⟩ := q2 k k0 k1
    exact ⟨a, by rw [(el (rpA ss r + 25) (by omega) (by omega)).2.2.2]; exact a1, a2.mv hk (fun _ _ _ => rfl)⟩
  · unfold caQ
    rw [(el (rpA ss r + 15) (by omega) (by omega)).2.1]
    rcases q3 with z | ⟨z1, z2⟩
    · exact Or.inl z
    · exact Or.inr ⟨z1, z2.c (fun b j b1 b2 _ => (el b (by omega) (by omega)).2.1 j) (fun b j b1 b2 => (el b (by omega) (by omega)).2.2.1 j)⟩
theorem WW.t {B ss : Nat} {T : gT} {I : gI} {J : gJ} {O : gO} {S : Int → Int} {n : Int} {Rc X : Int → Int} {L : Int} (h : WW B ss T I J O S n Rc X L) {N : Nat} (hN : T.1 ≤ N) : WW B ss (N, T.2) I J O S n Rc X L := h.mv hN (fun _ _ _ => ⟨rfl, fun _ => rfl, fun _ => rfl, fun _ => rfl⟩)
/-- .. the row s said otherwise -/
theorem RpR.s {B : Nat} {T : gT} {I : gI} {O : gO} {p : Nat} {S S' : Int → Int} {r : Int} (h : RpR B T I O p S r) (e : sEq S S' r) (er : S' r = S r) (r0 : 0 ≤ r) (r1 : r ≤ 2) : RpR B T I O p S' r := by
  obtain ⟨⟨a1, a2⟩, a3, a4, a5, a6, a7⟩ := h
  refine ⟨⟨a1, by rw [e.1 _ (by omega) (by omega) (by omega) (by omega)]; exact a2⟩, fun f f0 f1 => ?_, a4.c (fun _ _ _ _ => rfl) (fun l w l0 l1 w0 w1 => e.1 _ (by simp only [lA]; omega) (by simp only [lA]; omega) (by simp only [lA]; omega) (by simp only [lA]; omega)), a5.c (fun _ _ _ _ => rfl) (fun l w l0 l1 w0 w1 => e.1 _ (by simp only [lA]; omega) (by simp only [lA]; omega) (by simp only [lA]; omega) (by simp only [lA]; omega)), fun c c0 c1 => ?_, a7⟩
  · rw [a3 f f0 f1]
    rcases cIx_b r0 r1 f0 f1 with ⟨q, -⟩ | ⟨q1, q2, -⟩
    · rw [q, er]
    · rw [e.1 _ (by omega) (by omega) (by omega) (by omega)]
  · have ec : S' (3843 + 270 * r + (126 + c)) = S (3843 + 270 * r + (126 + c)) := e.1 _ (by omega) (by omega) (by omega) (by omega)
    rcases a6 c c0 c1 with ⟨q1, q2⟩ | ⟨q1, a, q2, q3⟩
    · exact Or.inl ⟨ec.trans q1, q2⟩
    · refine Or.inr ⟨by rw [ec]; exact q1, a, q2, ?_⟩
      rw [ec]
      exact q3.mv hiK.rf (fun w w0 w1 => e.2 c c0 c1 (by show S (3843 + 270 * r + (126 + c)) ≠ -1; omega) w w0 w1)
theorem WW.s {B ss : Nat} {T : gT} {I : gI} {J : gJ} {O : gO} {S S' : Int → Int} {n : Int} {Rc X : Int → Int} {L : Int} (h : WW B ss T I J O S n Rc X L) (hI : Inv S) (e : ∀ r, 0 ≤ r → r ≤ 2 → sEq S S' r) (er : ∀ r, 0 ≤ r → r ≤ 2 → S' r = S r) (eo : ∀ i, cdK S i → ∀ w, 0 ≤ w → w < 32 → opS S' i w = opS S i w) : WW B ss T I J O S' n Rc X L := by
  obtain ⟨h1, h4, h5⟩ := h
  refine ⟨h1, fun r r0 r1 => ?_, h5⟩
  obtain ⟨q1, q2, q3⟩ := h4 r r0 r1
  refine ⟨q1.s (e r r0 r1) (er r r0 r1) r0 r1, fun k k0 k1 => ?_, ?_⟩
  · rw [er r r0 r1] at k1
    obtain ⟨a, a1, a2⟩ := q2 k k0 k1
    exact ⟨a, a1, a2.mv hiK.rf (eo _ (hI.v r0 r1 k0 k1).1)⟩
  · rcases q3 with z | ⟨z1, z2⟩
    · exact Or.inl z
    · exact Or.inr ⟨z1, z2.s (e r r0 r1) (hI.fm r0 r1)⟩
theorem sEq.of {S S' : Int → Int} {r : Int} (hI : Inv S) (r0 : 0 ≤ r) (r1 : r ≤ 2) (e1 : ∀ j, 3843 + 270 * r ≤ j → j < 3843 + 270 * r + 270 → j ≠ 3843 + 270 * r + 4 → j ≠ 3843 + 270 * r + 5 → S' j = S j) (eo : ∀ i, cdK S i → ∀ w, 0 ≤ w → w < 32 → opS S' i w = opS S i w) : sEq S S' r := ⟨e1, fun c c0 c1 hn w w0 w1 => eo _ (hI.wr r0 r1 c0 c1 hn).1 w w0 w1⟩
theorem WW.c {B ss : Nat} {T : gT} {I : gI} {J : gJ} {O : gO} {S S' : Int → Int} {n : Int} {Rc X : Int → Int} {L : Int} (h : WW B ss T I J O S n Rc X L) (hI : Inv S) (e : ∀ j, 0 ≤ j → j < 4653 → S' j = S j) : WW B ss T I J O S' n Rc X L := by
  have eo : ∀ i, cdK S i → ∀ w, 0 ≤ w → w < 32 → opS S' i w = opS S i w := fun i hi w w0 w1 => e _ (by have := hi.1; omega) (by have := hi.1; omega)
  exact h.s hI (fun r r0 r1 => sEq.of hI r0 r1 (fun j j0 j1 _ _ => e j (by omega) (by omega)) eo) (fun r r0 r1 => e r (by omega) (by omega)) eo
/-- records or texts said otherwise -/
theorem WW.r {B ss : Nat} {T : gT} {I : gI} {J : gJ} {O : gO} {S : Int → Int} {n : Int} {Rc Rc' X X' : Int → Int} {L : Int} (h : WW B ss T I J O S n Rc X L) (e : ∀ j, 0 ≤ j → j < 9 * n → Rc' j = Rc j) (e2 : ∀ i, 0 ≤ i → i < L → X' i = X i) : WW B ss T I J O S n Rc' X' L := ⟨h.1, h.2.1, ⟨h.2.2.1.1, fun j j0 j1 => by rw [e j j0 j1]; exact h.2.2.1.2 j j0 j1⟩, h.2.2.2.1, fun i i0 i1 => by rw [e2 i i0 i1]; exact h.2.2.2.2 i i0 i1⟩
theorem rpA_b {ss : Nat} {r : Int} (r0 : 0 ≤ r) (r1 : r ≤ 2) : ss + 8 ≤ rpA ss r ∧ rpA ss r + 28 ≤ ss + 94 := by unfold rpA; omega
theorem rpA_d {ss : Nat} {r f : Int} (r0 : 0 ≤ r) (r1 : r ≤ 2) (f0 : 0 ≤ f) (f1 : f ≤ 2) (h : r ≠ f) : rpA ss r + 28 < rpA ss f ∨ rpA ss f + 28 < rpA ss r := by unfold rpA; omega
/-- a replica has changed, with the row s -/
theorem WW.up {B ss : Nat} {T : gT} {I I' : gI} {J : gJ} {O O' : gO} {S S' : Int → Int} {n : Int} {Rc X : Int → Int} {L r : Int} (h : WW B ss T I J O S n Rc X L) (hI : Inv S) (r0 : 0 ≤ r) (r1 : r ≤ 2) (hc : coK T I I' O O' (rpA ss r)) (hR : RpR B T I' O' (rpA ss r) S' r) (hL : lgR B T I' O' (rpA ss r) S' r (S' r)) (hu : caQ I' J (rpA ss r) S' r)
    (s1 : ∀ j, 3 ≤ j → j < 3843 → S' j = S j) (s2 : ∀ r', 0 ≤ r' → r' ≤ 2 → r' ≠ r → S' r' = S r' ∧ ∀ j, 3843 + 270 * r' ≤ j → j < 3843 + 270 * r' + 270 → S' j = S j) : WW B ss T I' J O' S' n Rc X L ∧ FrC ss T T I I' J J O O' := by
  obtain ⟨⟨h1, h2, h3⟩, h4, ⟨h5, h6⟩, h7, h8⟩ := h
  have hp := rpA_b (ss := ss) r0 r1
  have hk : hiK B T T I I' O O' := hc.hi (by omega)
  have eo : ∀ i w, 0 ≤ i → i < 120 → 0 ≤ w → w < 32 → S' (3 + 32 * i + w) = S (3 + 32 * i + w) := fun i w a b c d => s1 _ (by omega) (by omega)
  refine ⟨⟨⟨h1.mv (fun b b1 b2 => rfl) (fun b j b1 b2 c1 c2 c3 c4 c5 c6 c7 c8 c9 => hc.2.1 b j (by unfold rpA; omega)), h2, h3⟩, fun r' a b => ?_, ⟨by rw [hc.1 _ _ (by omega)]; exact h5, fun j j0 j1 => by rw [hc.1 _ _ (by omega)]; exact h6 j j0 j1⟩, by rw [hc.1 _ _ (by omega)]; exact h7, fun i i0 i1 => by rw [hc.1 _ _ (by omega)]; exact h8 i i0 i1⟩, Nat.le_refl _, fun b b1 b2 => ⟨rfl, fun j => hc.1 b j (by omega), fun j => rfl, fun j => hc.2.1 b j (by omega)⟩⟩
  by_cases e : r' = r
  · subst e
    exact ⟨hR, hL, hu⟩
  · obtain ⟨q1, q2, q3⟩ := h4 r' a b
    obtain ⟨t1, t2⟩ := s2 r' a b e
    have hp' := rpA_b (ss := ss) a b
    have hd := rpA_d (ss := ss) a b r0 r1 e
    refine ⟨q1.mv (by omega) hk (fun j _ b b1 b2 _ => hc.1 b j (by omega)) (fun j b b1 b2 _ => hc.1 b j (by omega)) (fun j b hb => hc.2.1 b j (by omega)) eo t2 t1 a b, ?_, ?_⟩
    · refine q2.mv hk (fun j => hc.2.1 _ j (by omega)) eo (by omega) a b (hI.f a b).2
    · unfold caQ
      rw [hc.1 _ _ (by omega)]
      rcases q3 with z | ⟨z1, z2⟩
      · exact Or.inl z
      · refine Or.inr ⟨z1, CaR.s (S := S) (z2.c (fun b j b1 b2 _ => hc.1 b j (by omega)) (fun b j b1 b2 => rfl)) (sEq.of hI a b (fun j j0 j1 _ _ => t2 j j0 j1) (fun i hi w w0 w1 => eo i w hi.1.1 hi.1.2 w0 w1)) (hI.fm a b)⟩
/-- .. calculated -/
theorem WW.ut {B ss : Nat} {T T' : gT} {I I' : gI} {J J' : gJ} {O O' : gO} {S : Int → Int} {n : Int} {Rc X : Int → Int} {L r : Int} {v : Option Value} (h : WW B ss T I J O S n Rc X L) (hI : Inv S) (r0 : 0 ≤ r) (r1 : r ≤ 2) (hu : utP T I J O (rpA ss r + 15) S r v T' I' J' O') : WW B ss T' I' J' O' S n Rc X L ∧ FrC ss T T' I I' J J' O O' := by
  obtain ⟨-, rfl, u1, u2, u3, u4, u5⟩ := hu
  obtain ⟨⟨h1, h2, h3⟩, h4, ⟨h5, h6⟩, h7, h8⟩ := h
  have hp := rpA_b (ss := ss) r0 r1
  have hk : hiK B T' T' I I' O O' := ⟨Nat.le_refl _, fun b b1 b2 => ⟨rfl, fun j => u1 b j (by omega), fun j => u3 b j (by omega)⟩⟩
  refine ⟨⟨⟨h1.mv (fun b b1 b2 => rfl) (fun b j b1 b2 c1 c2 c3 c4 c5 c6 c7 c8 c9 => u3 b j (by unfold rpA; omega)), h2, h3⟩, fun r' a b => ?_, ⟨by rw [u1 _ _ (by omega)]; exact h5, fun j j0 j1 => by rw [u1 _ _ (by omega)]; exact h6 j j0 j1⟩, by rw [u1 _ _ (by omega)]; exact h7, fun i i0 i1 => by rw [u1 _ _ (by omega)]; exact h8 i i0 i1⟩, Nat.le_refl _, fun b b1 b2 => ⟨rfl, fun j => u1 b j (by omega), fun j => u2 b j (by omega), fun j => u3 b j (by omega)⟩⟩
  obtain ⟨q1, q2, q3⟩ := h4 r' a b
  have hp' := rpA_b (ss := ss) a b
  have hd : r' = r ∨ rpA ss r' + 28 < rpA ss r ∨ rpA ss r + 28 < rpA ss r' := by unfold rpA; omega
  refine ⟨q1.mv (by omega) hk (fun j _ b b1 b2 b3 => ?_) (fun j b b1 b2 b3 => ?_) (fun j b hb => ?_) (fun _ _ _ _ _ _ => rfl) (fun _ _ _ => rfl) rfl a b, q2.mv hk (fun j => ?_) (fun _ _ _ _ _ _ => rfl) (by omega) a b (hI.f a b).2, ?_⟩
  · rcases hd with e | e | e
    · subst e; exact u1 b j (by omega)
    · exact u1 b j (by omega)
    · exact u1 b j (by omega)
  · rcases hd with e | e | e
    · subst e; exact u1 b j (by omega)
    · exact u1 b j (by omega)
    · exact u1 b j (by omega)
  · rcases hd with e | e | e
    · subst e; exact u3 b j (by omega)
    · exact u3 b j (by omega)
    · exact u3 b j (by omega)
  · rcases hd with e | e | e
    · subst e; exact u3 _ j (by omega)
    · exact u3 _ j (by omega)
    · exact u3 _ j (by omega)
  · rcases hd with e | e
    · subst e; exact Or.inr ⟨u5, u4⟩
    · unfold caQ
      rw [u1 _ _ (by omega)]
      rcases q3 with z | ⟨z1, z2⟩
      · exact Or.inl z
      · exact Or.inr ⟨z1, z2.c (fun b j b1 b2 _ => u1 b j (by omega)) (fun b j b1 b2 => u2 b j (by omega))⟩
/-! what a call of the class does -/
def cRet (B ss : Nat) (T : gT) (I : gI) (J : gJ) (O : gO) (thr : Int) (ans : Value) (S : Int → Int) (n : Int) (Rc X : Int → Int) (L : Int) : gP := fun v T' I' J' O' => thr = 0 ∧ v = some ans ∧ FrC ss T T' I I' J J' O O' ∧ WW B ss T' I' J' O' S n Rc X L
def cThr (B ss : Nat) (T : gT) (I : gI) (J : gJ) (O : gO) (thr : Int) (nm : Int → String) (S : Int → Int) (n : Int) (Rc X : Int → Int) (L : Int) : gPX := fun cl T' I' J' O' => thr ≠ 0 ∧ cl = nm thr ∧ FrC ss T T' I I' J J' O O' ∧ WW B ss T' I' J' O' S n Rc X L
theorem cThr.of {B ss : Nat} {T T' : gT} {I I' : gI} {J J' : gJ} {O O' : gO} {thr : Int} {nm : Int → String} {S : Int → Int} {n : Int} {Rc X : Int → Int} {L : Int} {cl : String} (t : Int) (e : thr = t) (ht : t ≠ 0) (hc : cl = nm t) (hF : FrC ss T T' I I' J J' O O') (hW : WW B ss T' I' J' O' S n Rc X L) : cThr B ss T I J O thr nm S n Rc X L cl T' I' J' O' := by
  subst e
  exact ⟨ht, hc, hF, hW⟩
theorem cThr.tx {B ss : Nat} {T T0 T' : gT} {I I0 I' : gI} {J J0 J' : gJ} {O O0 O' : gO} {thr : Int} {nm : Int → String} {S : Int → Int} {n : Int} {Rc X : Int → Int} {L : Int} {cl cls : String} (h : tX cls T I J O cl T' I' J' O') (t : Int) (e : thr = t) (ht : t ≠ 0) (hc : cls = nm t) (hF : FrC ss T0 T I0 I J0 J O0 O) (hW : WW B ss T I J O S n Rc X L) : cThr B ss T0 I0 J0 O0 thr nm S n Rc X L cl T' I' J' O' := by
  obtain ⟨rfl, h1, h2, rfl, rfl, rfl⟩ := h
  obtain ⟨N, t2⟩ := T'
  cases h2
  exact cThr.of t e ht hc (hF.tr (FrC.t h1)) (hW.t h1)
def nIS (t : Int) : String := if t = 1 then xcI else xcS
def nIA (t : Int) : String := if t = 1 then xcI else xcA
def nIAS (t : Int) : String := if t = 1 then xcI else if t = 2 then xcA else xcS
def nAS (t : Int) : String := if t = 1 then xcA else xcS
def nS (t : Int) : String := xcS
