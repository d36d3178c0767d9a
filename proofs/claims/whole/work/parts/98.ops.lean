/-! operations that are made -/
theorem sEq.fk {S S' : Int → Int} {r : Int} (h : sEq S S' r) (hf : fmOk S r) : fmOk S' r := by
  refine ⟨fun c hc => ?_, fun c c' hc hc' e => ?_, fun c hc => ?_⟩
  · rw [h.fm9] at hc
    have sg := hf.1 c hc
    rw [h.id hc.1]
    have o := h.op hc.1 hc.2.1
    have s2 := sg.2.1
    unfold sgOk
    rw [o 7 (by omega) (by omega)]
    refine ⟨sg.1, sg.2.1, fun k k0 k1 e => ?_⟩
    rw [o (8 + k) (by omega) (by omega)] at e
    have s3 := sg.2.2 k k0 k1 e
    rw [o (8 + k + 1) (by omega) (by omega), o (8 + k + 2) (by omega) (by omega)]
    exact s3
  · rw [h.fm9] at hc hc'
    rw [h.id hc.1, h.id hc'.1] at e
    exact hf.2.1 c c' hc hc' e
  · rw [h.in9] at hc
    rw [h.id hc]
    exact hf.2.2 c hc
/-- a replica has changed, with the row s -/
theorem WW.up2 {B ss : Nat} {T : gT} {I I' : gI} {J : gJ} {O O' : gO} {S S' : Int → Int} {n : Int} {Rc X : Int → Int} {L r : Int} (h : WW B ss T I J O S n Rc X L) (h40 : ∀ r', 0 ≤ r' → r' ≤ 2 → S r' ≤ 40) (hfm : ∀ r', 0 ≤ r' → r' ≤ 2 → fmOk S r') (hcl : ∀ r', 0 ≤ r' → r' ≤ 2 → clOk S r') (r0 : 0 ≤ r) (r1 : r ≤ 2) (hc : coK T I I' O O' (rpA ss r)) (hR : RpR B T I' O' (rpA ss r) S' r) (hL : lgR B T I' O' (rpA ss r) S' r (S' r)) (hu : caQ I' J (rpA ss r) S' r)
    (s1 : ∀ j, 3 ≤ j → j < 3843 → S' j = S j) (s2 : ∀ r', 0 ≤ r' → r' ≤ 2 → r' ≠ r → S' r' = S r' ∧ ∀ j, 3843 + 270 * r' ≤ j → j < 3843 + 270 * r' + 270 → S' j = S j) : WW B ss T I' J O' S' n Rc X L ∧ FrC ss T T I I' J J O O' := by
  obtain ⟨⟨h1, h2, h3⟩, h4, ⟨h5, h6⟩, h7, h8⟩ := h
  have hp := rpA_b (ss := ss) r0 r1
  have hk : hiK B T T I I' O O' := hc.hi (by omega)
  have eo : ∀ i w, 0 ≤ i → i < 120 → 0 ≤ w → w < 32 → S' (3 + 32 * i + w) = S (3 + 32 * i + w) := fun i w a b c d => s1 _ (by omega) (by omega)
  refine ⟨⟨⟨h1.mv (fun b b1 b2 => rfl) (fun b j b1 b2 c1 c2 c3 c4 c5 c6 c7 c8 c9 => hc.2.1 b j (by unfold rpA; omega)), h2, h3⟩, fun r' a b => ?_, ⟨by rw [hc.1 _ _ (by omega)]; exact h5, fun j j0 j1 => by rw [hc.1 _ _ (by omega)]; exact h6 j j0 j1⟩, by rw [hc.1 _ _ (by omega)]; exact h7, fun i i0 i1 => by rw [hc.1 _ _ (by omega)]; exact h8 i i0 i1⟩, Nat.le_refl _, fun b b1 b2 => ⟨rfl, fun j => hc.1 b j (by omega), fun j => rfl, fun j => hc.2.1 b j (by omega)⟩⟩
  by_cases e : r' = r
  · subst e
    exact ⟨hR, hL, hu⟩
  · obtain ⟨q1, q2, q3⟩ := h4 r' a b
    obtain ⟨t1, t2⟩ := s2 r' a b e
    have hp' := rpA_b (ss := ss) a b
    have hd := rpA_d (ss := ss) a b r0 r1 e
    refine ⟨q1.mv (by omega) hk (fun j _ b b1 b2 _ => hc.1 b j (by omega)) (fun j b b1 b2 _ => hc.1 b j (by omega)) (fun j b hb => hc.2.1 b j (by omega)) eo t2 t1 a b, ?_, ?_⟩
    · refine q2.mv hk (fun j => hc.2.1 _ j (by omega)) eo (by omega) a b (h40 r' a b)
    · unfold caQ
      rw [hc.1 _ _ (by omega)]
      rcases q3 with z | ⟨z1, z2⟩
      · exact Or.inl z
      · refine Or.inr ⟨z1, CaR.s (S := S) (z2.c (fun b j b1 b2 _ => hc.1 b j (by omega)) (fun b j b1 b2 => rfl)) ⟨fun j j0 j1 _ _ => t2 j j0 j1, fun c c0 c1 hn w w0 w1 => ?_⟩ (hfm r' a b)⟩
        have := hcl r' a b c c0 c1
        have hn' : S (3843 + 270 * r' + (126 + c)) ≠ -1 := hn
        exact eo (S (3843 + 270 * r' + (126 + c))) w (by omega) (by omega) w0 w1
/-- the log beyond its length -/
theorem WW.lg {B ss : Nat} {T : gT} {I : gI} {J : gJ} {O : gO} {S : Int → Int} {n : Int} {Rc X : Int → Int} {L r k : Int} {z : Option Nat} (h : WW B ss T I J O S n Rc X L) (r0 : 0 ≤ r) (r1 : r ≤ 2) (hk : S r ≤ k) : WW B ss T I J (uO O (rpA ss r + 25) k z) S n Rc X L ∧ FrC ss T T I I J J O (uO O (rpA ss r + 25) k z) := by
  obtain ⟨⟨h1, h2, h3⟩, h4, h5⟩ := h
  have hp := rpA_b (ss := ss) r0 r1
  have hki : hiK B T T I I O (uO O (rpA ss r + 25) k z) := ⟨Nat.le_refl _, fun b b1 b2 => ⟨rfl, fun j => rfl, fun j => uO_a (by omega) j⟩⟩
  refine ⟨⟨⟨h1.mv (fun b b1 b2 => rfl) (fun b j b1 b2 c1 c2 c3 c4 c5 c6 c7 c8 c9 => uO_a (by unfold rpA; omega) j), h2, h3⟩, fun r' a b => ?_, h5⟩, Nat.le_refl _, fun b b1 b2 => ⟨rfl, fun j => rfl, fun j => rfl, fun j => uO_a (by omega) j⟩⟩
  obtain ⟨q1, q2, q3⟩ := h4 r' a b
  have hp' := rpA_b (ss := ss) a b
  refine ⟨q1.mv (by omega) hki (fun _ _ _ _ _ _ => rfl) (fun _ _ _ _ _ => rfl) (fun j b hb => uO_a (by unfold rpA at hb ⊢; omega) j) (fun _ _ _ _ _ _ => rfl) (fun _ _ _ => rfl) rfl a b, fun i i0 i1 => ?_, q3⟩
  obtain ⟨o, o1, o2⟩ := q2 i i0 i1
  refine ⟨o, ?_, o2.mv hki (fun _ _ _ => rfl)⟩
  by_cases e : r' = r
  · subst e
    rw [uO_k (by omega)]
    exact o1
  · rw [uO_a (by unfold rpA; omega)]
    exact o1
/-- the row s with an operation's text -/
def opW (S : Int → Int) (r num col l pl : Int) : Int → Int := sU (sU (sU (sU (sU S (3 + 32 * (40 * r + S r)) num) (3 + 32 * (40 * r + S r) + 1) (S (3843 + 270 * r + 0) + 1)) (3 + 32 * (40 * r + S r) + 2) col) (3 + 32 * (40 * r + S r) + 3) l) (3 + 32 * (40 * r + S r) + 4) pl
theorem opW_o {S : Int → Int} {r num col l pl j : Int} (h : j < 3 + 32 * (40 * r + S r) ∨ 3 + 32 * (40 * r + S r) + 4 < j) : opW S r num col l pl j = S j := by
  unfold opW
  rw [sU_o (by omega), sU_o (by omega), sU_o (by omega), sU_o (by omega), sU_o (by omega)]
theorem opW_f {S : Int → Int} {r num col l pl : Int} : opS (opW S r num col l pl) (40 * r + S r) 0 = num ∧ opS (opW S r num col l pl) (40 * r + S r) 1 = S (3843 + 270 * r) + 1 ∧ opS (opW S r num col l pl) (40 * r + S r) 2 = col ∧ opS (opW S r num col l pl) (40 * r + S r) 3 = l ∧ opS (opW S r num col l pl) (40 * r + S r) 4 = pl := by
  unfold opW
  simp only [opS, Int.add_zero]
  refine ⟨?_, ?_, ?_, ?_, sU_s⟩
  · rw [sU_o (by omega), sU_o (by omega), sU_o (by omega), sU_o (by omega), sU_s]
  · rw [sU_o (by omega), sU_o (by omega), sU_o (by omega), sU_s]
  · rw [sU_o (by omega), sU_o (by omega), sU_s]
  · rw [sU_o (by omega), sU_s]
theorem mks_cR {S : Int → Int} {r num col l pl : Int} (r0 : 0 ≤ r) (r1 : r ≤ 2) (k0 : 0 ≤ S r) (k1 : S r < 40) : mksS S r num col l pl = cR (opW S r num col l pl) r (40 * r + S r) := by
  unfold mksS cR
  have e : mk0S S r num col l pl = cR0 (opW S r num col l pl) r (40 * r + S r) := by
    have hq : (40 * r + S r) / 40 = r := by omega
    have f1 : opW S r num col l pl (3 + 32 * (40 * r + S r) + 1) = S (3843 + 270 * r) + 1 := opW_f.2.1
    have f2 : opW S r num col l pl (3843 + 270 * r) = S (3843 + 270 * r) := opW_o (by omega)
    have f3 : opW S r num col l pl r = S r := opW_o (by omega)
    unfold cR0
    rw [hq, cIx_s, f1, f2, f3, show max (S (3843 + 270 * r)) (S (3843 + 270 * r) + 1) = S (3843 + 270 * r) + 1 by omega]
    funext j
    by_cases c1 : j = 3843 + 270 * r
    · subst c1
      rw [sU_s]
      unfold mk0S
      rw [sU_o (by omega), sU_o (by omega), sU_o (by omega), sU_o (by omega), sU_o (by omega), sU_o (by omega), Int.add_zero, sU_s]
    · rw [sU_o c1]
      by_cases c2 : j = r
      · subst c2
        rw [sU_s]
        unfold mk0S
        rw [sU_s]
      · rw [sU_o c2]
        unfold mk0S opW
        rw [sU_o c2, Int.add_zero]
        have c3 : sU S (3843 + 270 * r) (S (3843 + 270 * r) + 1) j = S j := sU_o c1
        simp only [sU] at c3 ⊢
        rw [c3]
  rw [e]
/-! .. keep the invariant -/
theorem opW_I {S S1 : Int → Int} {r num col l pl : Int} (h : Inv S) (r0 : 0 ≤ r) (r1 : r ≤ 2) (hn : S r < 40) (e1 : ∀ j, 0 ≤ j → j < 4653 → (j < 3 + 32 * (40 * r + S r) + 5 ∨ 3 + 32 * (40 * r + S r) + 32 ≤ j) → j ≠ 3843 + 270 * r + 4 → j ≠ 3843 + 270 * r + 5 → S1 j = S j)
    (eN : ∀ kd, 0 ≤ kd → kd ≤ 1 → S (3843 + 270 * r + (4 + kd)) ≤ S1 (3843 + 270 * r + (4 + kd)) ∧ S1 (3843 + 270 * r + (4 + kd)) ≤ 3) (hk : 1 ≤ num ∧ num ≤ 4) (hl : 0 ≤ l ∧ l < 12) (hc : num ≠ 4 → 0 ≤ col ∧ col ≤ 1) (h4 : num = 4 → 0 ≤ pl ∧ pl < 12) (hp : num = 1 ∨ num = 2 → 0 ≤ pl ∧ pl ≤ 3000 + 1000 * (S (3843 + 270 * r) + 1))
    (hm : num = 1 → 3 + 3 * r ≤ l ∧ l < 3 + 3 * r + S1 (3843 + 270 * r + (4 + col))) (ht : num = 4 → ctI (opW S1 r num col l pl) (40 * r + S r))
    (hm2 : ∀ kd k, 0 ≤ kd → kd ≤ 1 → S (3843 + 270 * r + (4 + kd)) ≤ k → k < S1 (3843 + 270 * r + (4 + kd)) → num = 1 ∧ col = kd ∧ l = 3 + 3 * r + k) : Inv (mksS S1 r num col l pl) ∧ snL S (mksS S1 r num col l pl) ∧ opV (opW S1 r num col l pl) (40 * r + S r) := by
  have hf := h.f r0 r1
  have hck := h.ck r0 r1
  have er : S1 r = S r := e1 r (by omega) (by omega) (by omega) (by omega) (by omega)
  have ec : S1 (3843 + 270 * r) = S (3843 + 270 * r) := e1 _ (by omega) (by omega) (by omega) (by omega) (by omega)
  have f := @opW_f S1 r num col l pl
  rw [er, ec] at f
  have oo : ∀ j, (j < 3 + 32 * (40 * r + S r) ∨ 3 + 32 * (40 * r + S r) + 4 < j) → opW S1 r num col l pl j = S1 j := fun j hj => opW_o (by rw [er]; exact hj)
  have hv : opV (opW S1 r num col l pl) (40 * r + S r) := by
    unfold opV
    rw [f.1, f.2.2.1, f.2.2.2.1, f.2.2.2.2]
    exact ⟨hl.1, hl.2, h4, hc⟩
  have key := Inv.mk (S := S) (S2 := opW S1 r num col l pl) (r := r) h r0 r1 hn (fun j j0 j1 j2 j3 j4 => by rw [oo j (by omega)]; exact e1 j j0 j1 (by omega) j3 j4) (fun kd a b => by rw [oo _ (by omega)]; exact eN kd a b) f.2.1
    ⟨hv, by rw [f.1]; exact hk, by rw [f.2.1]; omega, by rw [f.1, f.2.2.2.2, f.2.1]; exact hp, by rw [f.1, f.2.2.2.1, f.2.2.1, show (40 * r + S r) / 40 = r by omega]; intro z; have q := hc (by omega); rw [oo _ (by omega)]; exact hm z, by rw [f.1]; exact ht⟩
    (fun kd k a b c d => by rw [f.1, f.2.2.1, f.2.2.2.1]; rw [oo _ (by omega)] at d; exact hm2 kd k a b c d)
  have em : mksS S1 r num col l pl = cR (opW S1 r num col l pl) r (40 * r + S r) := by
    have := mks_cR (S := S1) (num := num) (col := col) (l := l) (pl := pl) r0 r1 (by rw [er]; exact hf.1) (by rw [er]; exact hn)
    rw [er] at this
    exact this
  rw [em]
  refine ⟨key, snL.tr (snL.e (fun g a b => by rw [oo g (by omega)]; exact e1 g (by omega) (by omega) (by omega) (by omega) (by omega)) (fun i w hi a b => ?_)) (snL.cr r0 r1 (by omega) (by omega) hv), hv⟩
  have i1 := hi.1
  have i2 := hi.2
  have ne : i ≠ 40 * r + S r := fun z => by
    rw [z, show (40 * r + S r) / 40 = r by omega] at i2
    omega
  show opW S1 r num col l pl (3 + 32 * i + w) = S (3 + 32 * i + w)
  rw [oo _ (by omega)]
  exact e1 _ (by omega) (by omega) (by omega) (by omega) (by omega)
/-- the place between -/
theorem mkPl_b {S : Int → Int} {r kd w p : Int} (h : Inv S) (r0 : 0 ≤ r) (r1 : r ≤ 2) (k0 : 0 ≤ kd) (k1 : kd ≤ 1) (p0 : 0 ≤ p) (p1 : p ≤ rwN S r kd w) (hn : mkPl S r kd w p ≠ -1) : 0 ≤ mkPl S r kd w p ∧ mkPl S r kd w p ≤ 3000 + 1000 * (S (3843 + 270 * r) + 1) := by
  have hb : ∀ i, 0 ≤ i → i < rwN S r kd w → 0 ≤ plS S r kd (rwF S r kd w i) ∧ plS S r kd (rwF S r kd w i) ≤ 3000 + 1000 * S (3843 + 270 * r) := fun i a b => by
    have q := (rwE S r kd w).2.2.2.1 i a b
    exact h.pl r0 r1 k0 k1 q.1 q.2.1 q.2.2.1.1
  have hck := h.ck r0 r1
  unfold mkPl btw at hn ⊢
  simp only at hn ⊢
  generalize plS S r kd = P9 at *
  generalize rwF S r kd w = F9 at *
  have a1 : p ≠ 0 → 0 ≤ P9 (F9 (p - 1)) ∧ P9 (F9 (p - 1)) ≤ 3000 + 1000 * S (3843 + 270 * r) := fun z => hb _ (by omega) (by omega)
  have a2 : p ≠ rwN S r kd w → 0 ≤ P9 (F9 p) ∧ P9 (F9 p) ≤ 3000 + 1000 * S (3843 + 270 * r) := fun z => hb _ (by omega) (by omega)
  clear hb
  by_cases c0 : p = 0
  · rw [if_pos c0] at hn ⊢
    by_cases c1 : p = rwN S r kd w
    · rw [if_pos c1] at hn ⊢
      split <;> omega
    · rw [if_neg c1] at hn ⊢
      have := a2 c1
      split at hn
      · next q => rw [if_pos q]; omega
      · omega
  · rw [if_neg c0] at hn ⊢
    have := a1 c0
    by_cases c1 : p = rwN S r kd w
    · rw [if_pos c1] at hn ⊢
      split at hn
      · next q => rw [if_pos q]; omega
      · omega
    · rw [if_neg c1] at hn ⊢
      have := a2 c1
      split at hn
      · next q => rw [if_pos q]; omega
      · omega
