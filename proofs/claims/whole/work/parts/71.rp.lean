/-! replicas -/
def fmH (B : Nat) (T : gT) (I : gI) (O : gO) (fa : Nat) (fl : List (Int × Int × Int × Int)) : Prop := fmG T I O fa fl ∧ (B < fa ∧ fa < T.1) ∧ (∀ pa, O fa 0 = some pa → B < pa ∧ pa < T.1) ∧ ∀ y l, fl = y :: l → y.1 = 43
/-- the content that an operation writes -/
def coG (B : Nat) (T : gT) (I : gI) (O : gO) (S : Int → Int) (id : Int) (co : Nat) : Prop := (B < co ∧ co < T.1) ∧ T.2 co = some (.inl 2) ∧ I co 0 = S (3 + 32 * id + 5) ∧ I co 1 = (if S (3 + 32 * id + 5) = 1 then S (3 + 32 * id + 6) else 0) ∧ ((S (3 + 32 * id + 5) = 2 ∧ ∃ fa fl, O co 2 = some fa ∧ fmH B T I O fa fl ∧ fmlAt S id fl) ∨ (S (3 + 32 * id + 5) ≠ 2 ∧ O co 2 = none))
/-- an operation's object -/
def opG (B : Nat) (T : gT) (I : gI) (O : gO) (S : Int → Int) (id : Int) (a : Nat) : Prop := (B < a ∧ a < T.1) ∧ T.2 a = some (.inl 5) ∧ (I a 0 = S (3 + 32 * id + 0) ∧ I a 1 = S (3 + 32 * id + 1) ∧ I a 2 = id / 40 ∧ I a 3 = S (3 + 32 * id + 2) ∧ I a 4 = S (3 + 32 * id + 3) ∧ I a 5 = S (3 + 32 * id + 4)) ∧ ((S (3 + 32 * id + 0) = 4 ∧ ∃ co, O a 6 = some co ∧ coG B T I O S id co) ∨ (S (3 + 32 * id + 0) ≠ 4 ∧ O a 6 = none))
/-- above B nothing that stands has changed -/
def hiK (B : Nat) (T T' : gT) (I I' : gI) (O O' : gO) : Prop := T.1 ≤ T'.1 ∧ ∀ b, B < b → b < T.1 → T'.2 b = T.2 b ∧ (∀ j, I' b j = I b j) ∧ ∀ j, O' b j = O b j
theorem hiK.rf {B : Nat} {T : gT} {I : gI} {O : gO} : hiK B T T I I O O := ⟨Nat.le_refl _, fun _ _ _ => ⟨rfl, fun _ => rfl, fun _ => rfl⟩⟩
theorem hiK.tr {B : Nat} {T T' T2 : gT} {I I' I2 : gI} {O O' O2 : gO} (h : hiK B T T' I I' O O') (h2 : hiK B T' T2 I' I2 O' O2) : hiK B T T2 I I2 O O2 := ⟨Nat.le_trans h.1 h2.1, fun b b1 b2 => by
  have k1 := h.2 b b1 b2
  have k2 := h2.2 b b1 (Nat.lt_of_lt_of_le b2 h.1)
  exact ⟨k2.1.trans k1.1, fun j => (k2.2.1 j).trans (k1.2.1 j), fun j => (k2.2.2 j).trans (k1.2.2 j)⟩⟩
theorem fmH.mv {B : Nat} {T T' : gT} {I I' : gI} {O O' : gO} {fa : Nat} {fl : List (Int × Int × Int × Int)} (h : fmH B T I O fa fl) (k : hiK B T T' I I' O O') : fmH B T' I' O' fa fl := by
  obtain ⟨⟨h1, pa, h2, h3, h4⟩, hb, hp, hp43⟩ := h
  have k1 := k.2 fa hb.1 hb.2
  have hp2 := hp pa h2
  have k2 := k.2 pa hp2.1 hp2.2
  refine ⟨⟨k1.1.trans h1, pa, (k1.2.2 0).trans h2, k2.1.trans h3, fun i y hy => ?_⟩, ⟨hb.1, Nat.lt_of_lt_of_le hb.2 k.1⟩, fun q hq => ?_, hp43⟩
  · rw [k2.2.1, k2.2.1, k2.2.1, k2.2.1]; exact h4 i y hy
  · rw [k1.2.2] at hq
    have := hp q hq
    exact ⟨this.1, Nat.lt_of_lt_of_le this.2 k.1⟩
theorem fmlAt.c {S S' : Int → Int} {id : Int} {fl : List (Int × Int × Int × Int)} (h : fmlAt S id fl) (e : ∀ w, 0 ≤ w → w < 32 → S' (3 + 32 * id + w) = S (3 + 32 * id + w)) : fmlAt S' id fl := by
  obtain ⟨h1, h2, h3⟩ := h
  have hl := @tks_w fl
  have hl2 := h3.2.2
  refine ⟨by rw [e 7 (by omega) (by omega)]; exact h1, fun i v hv => ?_, h3⟩
  have : i < (tks fl).length := (List.getElem?_eq_some_iff.mp hv).1
  rw [e (8 + i) (by omega) (by omega)]
  exact h2 i v hv
theorem coG.mv {B : Nat} {T T' : gT} {I I' : gI} {O O' : gO} {S S' : Int → Int} {id : Int} {co : Nat} (h : coG B T I O S id co) (k : hiK B T T' I I' O O') (e : ∀ w, 0 ≤ w → w < 32 → S' (3 + 32 * id + w) = S (3 + 32 * id + w)) : coG B T' I' O' S' id co := by
  obtain ⟨hb, h1, h2, h3, h4⟩ := h
  have k1 := k.2 co hb.1 hb.2
  have e5 := e 5 (by omega) (by omega)
  have e6 := e 6 (by omega) (by omega)
  refine ⟨⟨hb.1, Nat.lt_of_lt_of_le hb.2 k.1⟩, k1.1.trans h1, by rw [k1.2.1, e5]; exact h2, by rw [k1.2.1, e5, e6]; exact h3, ?_⟩
  rw [e5]
  rcases h4 with ⟨q, fa, fl, a1, a2, a3⟩ | ⟨q, a1⟩
  · exact Or.inl ⟨q, fa, fl, (k1.2.2 2).trans a1, a2.mv k, a3.c e⟩
  · exact Or.inr ⟨q, (k1.2.2 2).trans a1⟩
theorem opG.mv {B : Nat} {T T' : gT} {I I' : gI} {O O' : gO} {S S' : Int → Int} {id : Int} {a : Nat} (h : opG B T I O S id a) (k : hiK B T T' I I' O O') (e : ∀ w, 0 ≤ w → w < 32 → S' (3 + 32 * id + w) = S (3 + 32 * id + w)) : opG B T' I' O' S' id a := by
  obtain ⟨hb, h1, ⟨g0, g1, g2, g3, g4, g5⟩, h4⟩ := h
  have k1 := k.2 a hb.1 hb.2
  refine ⟨⟨hb.1, Nat.lt_of_lt_of_le hb.2 k.1⟩, k1.1.trans h1, ⟨?_, ?_, ?_, ?_, ?_, ?_⟩, ?_⟩
  · rw [k1.2.1, e 0 (by omega) (by omega)]; exact g0
  · rw [k1.2.1, e 1 (by omega) (by omega)]; exact g1
  · rw [k1.2.1]; exact g2
  · rw [k1.2.1, e 2 (by omega) (by omega)]; exact g3
  · rw [k1.2.1, e 3 (by omega) (by omega)]; exact g4
  · rw [k1.2.1, e 4 (by omega) (by omega)]; exact g5
  · rw [e 0 (by omega) (by omega)]
    rcases h4 with ⟨q, co, a1, a2⟩ | ⟨q, a1⟩
    · exact Or.inl ⟨q, co, (k1.2.2 6).trans a1, a2.mv k e⟩
    · exact Or.inr ⟨q, (k1.2.2 6).trans a1⟩
/-- lines as the row s has them -/
def lnTb (I : gI) (ln : Nat) (S : Int → Int) (r kd : Int) : Prop := (∀ l, 0 ≤ l → l < 12 → I (ln + 1) l = S (lA r kd l) ∧ I (ln + 2) l = S (lA r kd l + 1) ∧ I (ln + 3) l = S (lA r kd l + 2) ∧ I (ln + 4) l = S (lA r kd l + 3) ∧ I (ln + 5) l = S (lA r kd l + 4)) ∧ LnOk I ln
theorem lnTb.R {I : gI} {ln : Nat} {S : Int → Int} {r kd : Int} (h : lnTb I ln S r kd) : lnR I ln S r kd := by
  have h2 : En (plS S r kd) (shS S r kd (-1)) 12 (I (ln + 6)) (I ln 6) := h.2.congr (fun y a b => ((h.1 y a b).1).symm) (fun y a b => by
    have := h.1 y a b
    unfold lnSh
    rw [this.2.2.2.1, this.2.2.2.2]
    exact ⟨fun z => z.1, fun z => ⟨z, by omega⟩⟩)
  have := rw_eq h2
  exact ⟨this.1, fun i a b => this.2 i a (by omega)⟩
/-- booleans of lines -/
def bnS (S : Int → Int) (r : Int) : Prop := ∀ kd l, 0 ≤ kd → kd ≤ 1 → 0 ≤ l → l < 12 → (S (lA r kd l + 3) = 0 ∨ S (lA r kd l + 3) = 1) ∧ (S (lA r kd l + 4) = 0 ∨ S (lA r kd l + 4) = 1)
theorem lnTb.b {I : gI} {ln : Nat} {S : Int → Int} {r kd : Int} (h : lnTb I ln S r kd) (hb : bnS S r) (k0 : 0 ≤ kd) (k1 : kd ≤ 1) : lnB I ln := fun l a b => by
  have := h.1 l a b
  rw [this.2.2.2.1, this.2.2.2.2]
  exact hb kd l k0 k1 a b
theorem lnTb.c {I I' : gI} {ln : Nat} {S S' : Int → Int} {r kd : Int} (h : lnTb I ln S r kd) (e : ∀ b j, ln ≤ b → b ≤ ln + 6 → I' b j = I b j) (e2 : ∀ l w, 0 ≤ l → l < 12 → 0 ≤ w → w ≤ 4 → S' (lA r kd l + w) = S (lA r kd l + w)) : lnTb I' ln S' r kd := by
  refine ⟨fun l a b => ?_, ?_⟩
  · have := h.1 l a b
    have e20 := e2 l 0 a b (by omega) (by omega)
    rw [show lA r kd l + 0 = lA r kd l by omega] at e20
    rw [e _ _ (by omega) (by omega), e _ _ (by omega) (by omega), e _ _ (by omega) (by omega), e _ _ (by omega) (by omega), e _ _ (by omega) (by omega), e20, e2 l 1 a b (by omega) (by omega), e2 l 2 a b (by omega) (by omega), e2 l 3 a b (by omega) (by omega), e2 l 4 a b (by omega) (by omega)]
    exact this
  · have := h.2
    unfold LnOk at this ⊢
    rw [show I' (ln + 1) = I (ln + 1) from funext fun j => e _ j (by omega) (by omega), show I' (ln + 6) = I (ln + 6) from funext fun j => e _ j (by omega) (by omega), e ln 6 (by omega) (by omega)]
    exact this.congr (fun _ _ _ => rfl) (fun y _ _ => by unfold lnSh; rw [e _ _ (by omega) (by omega), e _ _ (by omega) (by omega)])
/-- who wrote a cell -/
def wrG (B : Nat) (T : gT) (I : gI) (O : gO) (p : Nat) (S : Int → Int) (r c : Int) : Prop := (S (3843 + 270 * r + (126 + c)) = -1 ∧ O (p + 27) c = none) ∨ ((0 ≤ S (3843 + 270 * r + (126 + c)) ∧ S (3843 + 270 * r + (126 + c)) < 120) ∧ ∃ a, O (p + 27) c = some a ∧ opG B T I O S (S (3843 + 270 * r + (126 + c))) a)
/-- a replica's object -/
def RpR (B : Nat) (T : gT) (I : gI) (O : gO) (p : Nat) (S : Int → Int) (r : Int) : Prop := (I p 0 = r ∧ I p 4 = S (3843 + 270 * r)) ∧ (∀ f, 0 ≤ f → f ≤ 2 → I (p + 26) f = S (cIx r f)) ∧ lnTb I (p + 1) S r 0 ∧ lnTb I (p + 8) S r 1 ∧ (∀ c, 0 ≤ c → c < 144 → wrG B T I O p S r c) ∧ I (p + 28) 0 = 0 ∧ I (p + 28) 1 = 0 ∧ O (p + 28) 2 = none
theorem RpR.L {B : Nat} {T : gT} {I : gI} {O : gO} {p : Nat} {S : Int → Int} {r : Int} (h : RpR B T I O p S r) : LkR I p S r := ⟨h.2.2.1.R, h.2.2.2.1.R⟩
/-- a replica stays what it is -/
theorem RpR.mv {B : Nat} {T T' : gT} {I I' : gI} {O O' : gO} {p : Nat} {S S' : Int → Int} {r : Int} (h : RpR B T I O p S r) (hB : p + 28 ≤ B) (k : hiK B T T' I I' O O') (e1 : ∀ j, j ≠ 11 → ∀ b, p ≤ b → b ≤ p + 28 → (b ≤ p + 14 ∨ p + 25 ≤ b) → I' b j = I b j) (e1b : ∀ j b, p < b → b ≤ p + 28 → (b ≤ p + 14 ∨ p + 25 ≤ b) → I' b j = I b j) (e2 : ∀ j b, b = p + 27 ∨ b = p + 28 → O' b j = O b j) (s1 : ∀ id w, 0 ≤ id → id < 120 → 0 ≤ w → w < 32 → S' (3 + 32 * id + w) = S (3 + 32 * id + w)) (s2 : ∀ j, 3843 + 270 * r ≤ j → j < 3843 + 270 * r + 270 → S' j = S j) (s3 : S' r = S r) (r0 : 0 ≤ r) (r1 : r ≤ 2) : RpR B T' I' O' p S' r := by
  obtain ⟨⟨a1, a2⟩, a3, a4, a5, a6, a7, a8, a9⟩ := h
  refine ⟨⟨by rw [e1 0 (by omega) p (by omega) (by omega) (by omega)]; exact a1, by rw [e1 4 (by omega) p (by omega) (by omega) (by omega), s2 _ (by omega) (by omega)]; exact a2⟩, fun f f0 f1 => ?_, a4.c (fun b j b1 b2 => e1b j b (by omega) (by omega) (by omega)) (fun l w l0 l1 w0 w1 => s2 _ (by simp only [lA]; omega) (by simp only [lA]; omega)), a5.c (fun b j b1 b2 => e1b j b (by omega) (by omega) (by omega)) (fun l w l0 l1 w0 w1 => s2 _ (by simp only [lA]; omega) (by simp only [lA]; omega)), fun c c0 c1 => ?_, by rw [e1b _ _ (by omega) (by omega) (by omega)]; exact a7, by rw [e1b _ _ (by omega) (by omega) (by omega)]; exact a8, by rw [e2 _ _ (by omega)]; exact a9⟩
  · rw [e1b _ _ (by omega) (by omega) (by omega), a3 f f0 f1]
    rcases cIx_b r0 r1 f0 f1 with ⟨q, -⟩ | ⟨q1, q2, -⟩
    · rw [q, s3]
    · rw [s2 _ (by omega) (by omega)]
  · have ec := s2 (3843 + 270 * r + (126 + c)) (by omega) (by omega)
    rcases a6 c c0 c1 with ⟨q1, q2⟩ | ⟨q1, a, q2, q3⟩
    · exact Or.inl ⟨ec.trans q1, (e2 _ _ (by omega)).trans q2⟩
    · refine Or.inr ⟨by rw [ec]; exact q1, a, (e2 _ _ (by omega)).trans q2, ?_⟩
      rw [ec]
      exact q3.mv k (fun w w0 w1 => s1 _ w q1.1 q1.2 w0 w1)
