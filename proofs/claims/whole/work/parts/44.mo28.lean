/-- formulas, what they refer to, cycles: they stand in the model's rows -/
def gvA (I1 : gI) (mo : Nat) (S : Int → Int) (r : Int) : Prop := lkO I1 mo S r ∧ EnF S r 144 (I1 (mo + 9)) (I1 mo 16) ∧ (∀ c, inC S r c → (isFm S r c → 0 ≤ I1 (mo + 10) c ∧ I1 (mo + 10) c < I1 mo 16 ∧ I1 (mo + 9) (I1 (mo + 10) c) = c) ∧ (¬ isFm S r c → I1 (mo + 10) c = -1)) ∧ gv2 I1 mo S r (I1 mo 16) ∧ ∀ f, 0 ≤ f → f < I1 mo 16 → I1 (mo + 14) f = b01 (cyS S r (I1 (mo + 9) f))
theorem gvA.c {I1 I2 : gI} {mo : Nat} {S : Int → Int} {r : Int} (h : gvA I1 mo S r) (e : ∀ b j, (b = mo + 1 ∨ b = mo + 5 ∨ b = mo + 6 ∨ b = mo + 9 ∨ b = mo + 10 ∨ b = mo + 13 ∨ b = mo + 14 ∨ (b = mo ∧ (j = 9 ∨ j = 10 ∨ j = 16))) → I2 b j = I1 b j) : gvA I2 mo S r := by
  obtain ⟨h1, h2, h3, h4, h5⟩ := h
  have e16 : I2 mo 16 = I1 mo 16 := e _ _ (by omega)
  have e9 : ∀ j, I2 (mo + 9) j = I1 (mo + 9) j := fun j => e _ _ (by omega)
  refine ⟨h1.c (fun j => e _ _ (by omega)) (fun j => e _ _ (by omega)) (fun j => e _ _ (by omega)) (e _ _ (by omega)) (e _ _ (by omega)), ?_, fun c hc => ?_, ?_, fun f f0 f1 => ?_⟩
  · rw [e16]; exact En.fc h2 (fun i _ _ => e9 i)
  · rw [e16, e9, e (mo + 10) c (by omega)]; exact h3 c hc
  · rw [e16]
    intro f d f0 f1 d0 d1
    rw [e9, e (mo + 13) _ (by omega)]
    exact h4 f d f0 f1 d0 d1
  · rw [e9, e (mo + 14) _ (by omega)]
    exact h5 f f0 (by omega)
theorem gaP.A {T T' : gT} {I I' : gI} {J J' : gJ} {O O' : gO} {mo : Nat} {r : Int} {v : Option Value} (h : gaP T I J O mo r v T' I' J' O') : gvA I' mo (I (mo + 1)) r := by
  obtain ⟨h1, h2, h3, h4, h5, h6, h7, h8⟩ := h
  exact ⟨h6.1, h6.2.1, fun c hc => (h6.2.2 c hc hc.b.2).1, h7, fun f f0 f1 => (h8 f f0 f1).1⟩
def Kn (I1 : gI) (mo : Nat) (c : Int) : Prop := ∃ f, 0 ≤ f ∧ f < I1 mo 16 ∧ I1 (mo + 9) f = c ∧ I1 (mo + 15) f = 1
theorem gvA.inj {I1 : gI} {mo : Nat} {S : Int → Int} {r i j : Int} (h : gvA I1 mo S r) (i0 : 0 ≤ i) (i1 : i < I1 mo 16) (j0 : 0 ≤ j) (j1 : j < I1 mo 16) (e : I1 (mo + 9) i = I1 (mo + 9) j) : i = j := by
  rcases (by omega : i < j ∨ i = j ∨ j < i) with q | q | q
  · have := h.2.1.lt i0 q j1; omega
  · exact q
  · have := h.2.1.lt j0 q i1; omega
theorem gvA.kn {I1 : gI} {mo : Nat} {S : Int → Int} {r f : Int} (h : gvA I1 mo S r) (f0 : 0 ≤ f) (f1 : f < I1 mo 16) : Kn I1 mo (I1 (mo + 9) f) ↔ I1 (mo + 15) f = 1 := by
  constructor
  · rintro ⟨g, g0, g1, g2, g3⟩
    have := h.inj g0 g1 f0 f1 g2
    subst this
    exact g3
  · intro z
    exact ⟨f, f0, f1, rfl, z⟩
/-- ready: all that it refers to is known, or (w) on a cycle -/
theorem gvA.rdy {I1 : gI} {mo : Nat} {S : Int → Int} {r f w : Int} (h : gvA I1 mo S r) (hk : ∀ g, 0 ≤ g → g < I1 mo 16 → I1 (mo + 15) g = 0 ∨ I1 (mo + 15) g = 1) (f0 : 0 ≤ f) (f1 : f < I1 mo 16) : rdy (mA I1 mo) (fun g => I1 (mo + 15) g ≠ 0 ∨ (w = 1 ∧ I1 (mo + 14) g ≠ 0)) (I1 mo 16) f ↔ ∀ d, rfC S r (I1 (mo + 9) f) d → (w = 1 ∧ cyS S r d) ∨ Kn I1 mo d := by
  constructor
  · intro z d hd
    obtain ⟨i, i0, i1, i2⟩ := h.2.1.2.2.2.2 d hd.2.1.1.1 hd.2.1.1.b.2 hd.2.1
    subst i2
    rcases z i i0 i1 ((gv2_A h.2.2.2.1 h.2.1 f0 f1 i0 i1).mpr hd) with q | q
    · have := hk i i0 i1
      exact Or.inr ((h.kn i0 i1).mpr (by omega))
    · refine Or.inl ⟨q.1, Classical.byContradiction fun y => q.2 ?_⟩
      rw [h.2.2.2.2 i i0 i1, b01_f y]
  · intro z g g0 g1 hA
    rcases z _ ((gv2_A h.2.2.2.1 h.2.1 f0 f1 g0 g1).mp hA) with q | q
    · refine Or.inr ⟨q.1, ?_⟩
      rw [h.2.2.2.2 g g0 g1, b01_t q.2]
      decide
    · have := (h.kn g0 g1).mp q
      exact Or.inl (by omega)
/-- works, under way -/
def wIv (I1 : gI) (J1 : gJ) (mo : Nat) (S : Int → Int) (r : Int) : Prop := gvA I1 mo S r ∧ (∀ f, 0 ≤ f → f < I1 mo 16 → I1 (mo + 15) f = 0 ∨ I1 (mo + 15) f = 1) ∧ wkK S r (Kn I1 mo) (J1 (mo + 11)) (I1 (mo + 12)) ∧ ∀ c, Kn I1 mo c → ¬ cyS S r c ∧ knS S r c ∧ ∀ h, rfC S r c h → cyS S r h ∨ Kn I1 mo h
theorem wIv.step {T T' : gT} {I1 I2 : gI} {J1 J2 : gJ} {O O' : gO} {v : Option Value} {mo : Nat} {S : Int → Int} {r f : Int} (hf : fmOk S r) (h : wIv I1 J1 mo S r) (f0 : 0 ≤ f) (f1 : f < I1 mo 16) (c1 : ¬ cyS S r (I1 (mo + 9) f)) (c2 : I1 (mo + 15) f = 0) (c3 : ∀ d, rfC S r (I1 (mo + 9) f) d → cyS S r d ∨ Kn I1 mo d)
    (hc : clP T I1 J1 O mo (I1 (mo + 9) f) (clcF S r (idS S r (I1 (mo + 9) f)) (J1 (mo + 11)) (I1 (mo + 12))) v T' I2 J2 O') : wIv (uI I2 (mo + 15) f 1) J2 mo S r ∧ sm ((uI I2 (mo + 15) f 1) (mo + 15)) (I1 mo 16).toNat = sm (I1 (mo + 15)) (I1 mo 16).toNat + 1 ∧ (uI I2 (mo + 15) f 1) mo 16 = I1 mo 16 := by
  obtain ⟨hA, hB, hW, hK⟩ := h
  obtain ⟨q1, q2, q3, q4, q5, q6, q7⟩ := hc
  have eo : ∀ b j, b ≠ mo + 12 → b ≠ mo + 15 → (b ≠ mo ∨ j ≠ 25) → (uI I2 (mo + 15) f 1) b j = I1 b j := fun b j a1 a2 a3 => by rw [uI_a a2]; exact q4 b j a3 (Or.inl a1)
  have e16 : (uI I2 (mo + 15) f 1) mo 16 = I1 mo 16 := eo _ _ (by omega) (by omega) (by omega)
  have e15 : ∀ j, (uI I2 (mo + 15) f 1) (mo + 15) j = if j = f then 1 else I1 (mo + 15) j := fun j => by
    by_cases e : j = f
    · rw [if_pos e, e, uI_s]
    · rw [if_neg e, uI_k e]; exact q4 _ _ (by omega) (by omega)
  have e9 : ∀ j, (uI I2 (mo + 15) f 1) (mo + 9) j = I1 (mo + 9) j := fun j => eo _ _ (by omega) (by omega) (by omega)
  have e12 : ∀ j, (uI I2 (mo + 15) f 1) (mo + 12) j = I2 (mo + 12) j := fun j => uI_a (by omega) j
  have hA2 : gvA (uI I2 (mo + 15) f 1) mo S r := hA.c (fun b j z => eo b j (by omega) (by omega) (by omega))
  have qf := (hA.2.1.2.2.2.1 f f0 f1).2.2
  have nk : ¬ Kn I1 mo (I1 (mo + 9) f) := fun z => by have := (hA.kn f0 f1).mp z; omega
  have kk : ∀ c, Kn (uI I2 (mo + 15) f 1) mo c ↔ Kn I1 mo c ∨ c = I1 (mo + 9) f := fun c => by
    unfold Kn
    rw [e16]
    constructor
    · rintro ⟨g, g0, g1, g2, g3⟩
      rw [e9] at g2
      rw [e15] at g3
      by_cases e : g = f
      · subst e; exact Or.inr g2.symm
      · rw [if_neg e] at g3; exact Or.inl ⟨g, g0, g1, g2, g3⟩
    · rintro (⟨g, g0, g1, g2, g3⟩ | z)
      · refine ⟨g, g0, g1, by rw [e9]; exact g2, ?_⟩
        rw [e15]
        by_cases e : g = f
        · rw [if_pos e]
        · rw [if_neg e]; exact g3
      · exact ⟨f, f0, f1, by rw [e9]; exact z.symm, by rw [e15, if_pos rfl]⟩
  refine ⟨⟨hA2, fun g g0 g1 => ?_, ?_, fun c hc => ?_⟩, ?_, e16⟩
  · rw [e15]
    by_cases e : g = f
    · rw [if_pos e]; exact Or.inr rfl
    · rw [if_neg e]; exact hB g g0 (by omega)
  · refine wkK.add (g := I1 (mo + 9) f) hf hW qf c1 nk c3 (fun c k _ => (hK c k).2.2) kk ?_ ?_ (fun c hc => q5 _ _ (by omega) (Or.inr hc)) (fun c hc => by rw [e12]; exact q4 _ _ (by omega) (Or.inr hc))
    · rw [q7]; rfl
    · rw [e12, q6]; rfl
  · rcases (kk c).mp hc with z | z
    · have y := hK c z
      exact ⟨y.1, y.2.1, fun h hh => (y.2.2 h hh).imp (fun z => z) (fun z => (kk h).mpr (Or.inl z))⟩
    · subst z
      exact ⟨c1, knS.mk qf c1 (fun h hh => (c3 h hh).imp (fun z => z) (fun z => (hK h z).2.1)), fun h hh => (c3 h hh).imp (fun z => z) (fun z => (kk h).mpr (Or.inl z))⟩
  · rw [show (uI I2 (mo + 15) f 1) (mo + 15) = fun j => if j = f then 1 else I1 (mo + 15) j from funext e15, sm_u _ f0 (by omega), c2]
    omega
/-- when none is ready any more -/
theorem wIv.fin {I1 : gI} {J1 : gJ} {mo : Nat} {S : Int → Int} {r : Int} (h : wIv I1 J1 mo S r) (hn : ∀ f, 0 ≤ f → f < I1 mo 16 → ¬ cyS S r (I1 (mo + 9) f) → I1 (mo + 15) f = 0 → ¬ ∀ d, rfC S r (I1 (mo + 9) f) d → cyS S r d ∨ Kn I1 mo d) : wkS S r (J1 (mo + 11)) (I1 (mo + 12)) := by
  refine h.2.2.1.c (fun c hc hy => ⟨fun z => (h.2.2.2 c z).2.1, fun z => ?_⟩)
  refine z (fun c => Kn I1 mo c) (fun g g1 g2 g3 => ?_)
  obtain ⟨i, i0, i1, i2⟩ := h.1.2.1.2.2.2.2 g g1.1.1 g1.1.b.2 g1
  subst i2
  refine (h.1.kn i0 i1).mpr ?_
  rcases h.2.1 i i0 i1 with q | q
  · exact absurd g3 (hn i i0 i1 g2 q)
  · exact q
def woP (T : gT) (I : gI) (J : gJ) (O : gO) (mo : Nat) (r : Int) : gP := fun v T' I' J' O' => v = none ∧ T' = T ∧ O' = O ∧ gFr I I' mo ∧ gFj J J' mo ∧ gvA I' mo (I (mo + 1)) r ∧ wkS (I (mo + 1)) r (J' (mo + 11)) (I' (mo + 12))
