/-! all values of a replica -/
theorem smC_c {V V' : Int → Int64} {E E' : Int → Int} {row : Int} (d : Nat) : ∀ (col : Int) (s : Int64), (∀ i, col ≤ i → i < col + d → V (12 * row + i) = V' (12 * row + i) ∧ E (12 * row + i) = E' (12 * row + i)) → smC V E row d col s = smC V' E' row d col s := by
  induction d with
  | zero => intro col s _; rfl
  | succ d ih =>
    intro col s h
    have q := h col (by omega) (by omega)
    unfold smC
    rw [q.1, q.2, ih (col + 1) _ (fun i a b => h i (by omega) (by omega))]
theorem smR_c {V V' : Int → Int64} {E E' : Int → Int} {cd : Nat} {c0 : Int} (d : Nat) : ∀ (row : Int) (s : Int64), (∀ j i, row ≤ j → j < row + d → c0 ≤ i → i < c0 + cd → V (12 * j + i) = V' (12 * j + i) ∧ E (12 * j + i) = E' (12 * j + i)) → smR V E cd c0 d row s = smR V' E' cd c0 d row s := by
  induction d with
  | zero => intro row s _; rfl
  | succ d ih =>
    intro row s h
    unfold smR
    rw [smC_c cd c0 s (fun i a b => h row i (by omega) (by omega) a b), ih (row + 1) _ (fun j i a b => h j i (by omega) (by omega))]
theorem smF_c {V V' : Int → Int64} {E E' : Int → Int} {a b : Int} (ha : 0 ≤ a) (hb : 0 ≤ b) (h : ∀ d, 0 ≤ d → inR a b d → V d = V' d ∧ E d = E' d) : smF V E a b = smF V' E' a b := by
  unfold smF
  refine smR_c _ _ _ (fun j i j0 j1 i0 i1 => h _ (by omega) ?_)
  unfold inR
  omega
theorem rkF_c {S : Int → Int} {r id k : Int} {V V' : Int → Int64} {E E' : Int → Int} {w : Int64} (h : ∀ d, 0 ≤ d → rfK S r id k d → V d = V' d ∧ E d = E' d) : rkF S r id V E k w = rkF S r id V' E' k w := by
  have nb : ∀ g, snS S r g = -1 ∨ 0 ≤ snS S r g := fun g => by
    rcases snS_b (S := S) (r := r) (g := g) with e | e
    · exact Or.inl e
    · exact Or.inr e.1
  unfold rkF
  split
  · next e =>
    split
    · rfl
    · next e2 =>
      have n1 := nb (S (3 + 32 * id + (8 + k + 1)))
      have n2 := nb (S (3 + 32 * id + (8 + k + 2)))
      rw [smF_c (by omega) (by omega) (fun d d0 hR => h d d0 (Or.inr ⟨e, fun z => e2 (Or.inl z), fun z => e2 (Or.inr z), hR⟩))]
  · split
    · next e =>
      split
      · rfl
      · next e2 =>
        have n1 := nb (S (3 + 32 * id + (8 + k)))
        have q := h _ (by omega) (Or.inl ⟨e, rfl⟩)
        rw [q.1, q.2]
    · rfl
theorem clc_c {S : Int → Int} {r id : Int} {V V' : Int → Int64} {E E' : Int → Int} (hs : sgOk S id) (h : ∀ d, 0 ≤ d → rfS S r id d → V d = V' d ∧ E d = E' d) (n : Nat) : ∀ (k fi : Int) (su pr : Int64) (bf : Int), 0 ≤ k → clc S r id V E n k fi su pr bf = clc S r id V' E' n k fi su pr bf := by
  induction n with
  | zero => intros; rfl
  | succ n ih =>
    intro k fi su pr bf k0
    unfold clc
    by_cases hk : k < S (3 + 32 * id + 7)
    · rw [if_pos hk, if_pos hk, rkF_c (fun d d0 q => h d d0 ⟨k, k0, hk, q⟩)]
      have hkk := rkF_k (r := r) (V := V') (E := E') (w := 0) hs k0 hk
      dsimp only
      rw [ih _ _ _ _ _ (by omega), ih _ _ _ _ _ (by omega)]
    · rw [if_neg hk, if_neg hk]
theorem clcF_c {S : Int → Int} {r id : Int} {V V' : Int → Int64} {E E' : Int → Int} (hs : sgOk S id) (h : ∀ d, 0 ≤ d → rfS S r id d → V d = V' d ∧ E d = E' d) : clcF S r id V E = clcF S r id V' E' := clc_c hs h 25 _ _ _ _ _ (by omega)
theorem snS_in {S : Int → Int} {r g : Int} (h : snS S r g ≠ -1) : inC S r (snS S r g) := snS_b.resolve_left h
/-- what is referred to is shown -/
theorem rfS_in {S : Int → Int} {r id d : Int} (d0 : 0 ≤ d) (h : rfS S r id d) : inC S r d := by
  obtain ⟨k, k0, k1, h | h⟩ := h
  · rw [← h.2]; exact snS_in (by omega)
  · have a := snS_in h.2.1
    have b := snS_in h.2.2.1
    obtain ⟨a0, a1, a2⟩ := a
    obtain ⟨b0, b1, b2⟩ := b
    have := h.2.2.2
    unfold inR at this
    exact ⟨d0, by omega, by omega⟩
/-- the formulas that can be calculated -/
def knS (S : Int → Int) (r c : Int) : Prop := ∀ P : Int → Prop, (∀ g, isFm S r g → ¬ cyS S r g → (∀ h, rfC S r g h → cyS S r h ∨ P h) → P g) → P c
theorem knS.mk {S : Int → Int} {r g : Int} (h0 : isFm S r g) (h1 : ¬ cyS S r g) (h2 : ∀ h, rfC S r g h → cyS S r h ∨ knS S r h) : knS S r g := fun P hP => hP g h0 h1 (fun h hh => (h2 h hh).imp (fun z => z) (fun z => z P hP))
noncomputable def clV (S : Int → Int) (r c : Int) (V : Int → Int64) (E : Int → Int) : Int64 := if (clcF S r (idS S r c) V E).1 = 0 then (clcF S r (idS S r c) V E).2 else 0
noncomputable def clE (S : Int → Int) (r c : Int) (V : Int → Int64) (E : Int → Int) : Int := (clcF S r (idS S r c) V E).1
/-- values and errors of a replica, formulas being known as K says -/
def wkK (S : Int → Int) (r : Int) (K : Int → Prop) (V : Int → Int64) (E : Int → Int) : Prop := ∀ c, inC S r c → (¬ isFm S r c → V c = valS S r c ∧ E c = 0) ∧ (isFm S r c → (cyS S r c → V c = 0 ∧ E c = 1) ∧ (¬ cyS S r c → (K c → V c = clV S r c V E ∧ E c = clE S r c V E) ∧ (¬ K c → V c = 0 ∧ E c = 0)))
abbrev wkS (S : Int → Int) (r : Int) (V : Int → Int64) (E : Int → Int) : Prop := wkK S r (knS S r) V E
theorem wkK.c {S : Int → Int} {r : Int} {K K' : Int → Prop} {V : Int → Int64} {E : Int → Int} (h : wkK S r K V E) (e : ∀ c, isFm S r c → ¬ cyS S r c → (K c ↔ K' c)) : wkK S r K' V E := fun c hc => ⟨(h c hc).1, fun hf => ⟨((h c hc).2 hf).1, fun hn => ⟨fun k => (((h c hc).2 hf).2 hn).1 ((e c hf hn).mpr k), fun k => (((h c hc).2 hf).2 hn).2 (fun z => k ((e c hf hn).mp z))⟩⟩⟩
/-- there is only one such -/
theorem wkS.u {S : Int → Int} {r : Int} {V V' : Int → Int64} {E E' : Int → Int} (hf : fmOk S r) (h : wkS S r V E) (h' : wkS S r V' E') : ∀ c, inC S r c → V c = V' c ∧ E c = E' c := by
  have hk : ∀ c, knS S r c → isFm S r c → ¬ cyS S r c → V c = V' c ∧ E c = E' c := by
    intro c hc
    refine (hc (fun c => knS S r c ∧ (isFm S r c → ¬ cyS S r c → V c = V' c ∧ E c = E' c)) (fun g g1 g2 g3 => ?_)).2
    have gk : knS S r g := knS.mk g1 g2 (fun h hh => (g3 h hh).imp (fun z => z) And.left)
    refine ⟨gk, fun _ _ => ?_⟩
    have a := (((h g g1.1).2 g1).2 g2).1 gk
    have b := (((h' g g1.1).2 g1).2 g2).1 gk
    have e : clcF S r (idS S r g) V E = clcF S r (idS S r g) V' E' := clcF_c (hf.1 g g1) (fun d d0 hd => by
      have hin := rfS_in d0 hd
      by_cases fd : isFm S r d
      · by_cases cd : cyS S r d
        · have x := ((h d hin).2 fd).1 cd
          have y := ((h' d hin).2 fd).1 cd
          exact ⟨x.1.trans y.1.symm, x.2.trans y.2.symm⟩
        · rcases g3 d ⟨g1, fd, hd⟩ with z | z
          · exact absurd z cd
          · exact z.2 fd cd
      · have x := (h d hin).1 fd
        have y := (h' d hin).1 fd
        exact ⟨x.1.trans y.1.symm, x.2.trans y.2.symm⟩)
    rw [a.1, b.1, a.2, b.2]
    unfold clV clE
    rw [e]
    exact ⟨rfl, rfl⟩
  intro c hc
  by_cases fd : isFm S r c
  · by_cases cd : cyS S r c
    · have x := ((h c hc).2 fd).1 cd
      have y := ((h' c hc).2 fd).1 cd
      exact ⟨x.1.trans y.1.symm, x.2.trans y.2.symm⟩
    · by_cases kd : knS S r c
      · exact hk c kd fd cd
      · have x := (((h c hc).2 fd).2 cd).2 kd
        have y := (((h' c hc).2 fd).2 cd).2 kd
        exact ⟨x.1.trans y.1.symm, x.2.trans y.2.symm⟩
  · have x := (h c hc).1 fd
    have y := (h' c hc).1 fd
    exact ⟨x.1.trans y.1.symm, x.2.trans y.2.symm⟩
/-- one more is calculated -/
theorem wkK.add {S : Int → Int} {r g : Int} {K K' : Int → Prop} {V V' : Int → Int64} {E E' : Int → Int} (hf : fmOk S r) (h : wkK S r K V E) (g1 : isFm S r g) (g2 : ¬ cyS S r g) (g3 : ¬ K g) (g4 : ∀ h, rfC S r g h → cyS S r h ∨ K h) (hK : ∀ c, K c → isFm S r c → ∀ h, rfC S r c h → cyS S r h ∨ K h) (hK' : ∀ c, K' c ↔ K c ∨ c = g)
    (v1 : V' g = clV S r g V E) (e1 : E' g = clE S r g V E) (v2 : ∀ c, c ≠ g → V' c = V c) (e2 : ∀ c, c ≠ g → E' c = E c) : wkK S r K' V' E' := by
  have same : ∀ c, isFm S r c → (∀ h, rfC S r c h → cyS S r h ∨ K h) → clcF S r (idS S r c) V E = clcF S r (idS S r c) V' E' := fun c c1 c2 => clcF_c (hf.1 c c1) (fun d d0 hd => by
    have hne : d ≠ g := fun z => by
      subst z
      rcases c2 d ⟨c1, g1, hd⟩ with q | q
      · exact g2 q
      · exact g3 q
    exact ⟨(v2 d hne).symm, (e2 d hne).symm⟩)
  intro c hc
  have q := h c hc
  by_cases ec : c = g
  · subst ec
    refine ⟨fun z => absurd g1 z, fun _ => ⟨fun z => absurd z g2, fun _ => ⟨fun _ => ?_, fun z => absurd ((hK' c).mpr (Or.inr rfl)) z⟩⟩⟩
    have e := same c g1 g4
    rw [v1, e1]
    unfold clV clE
    rw [e]
    exact ⟨rfl, rfl⟩
  · rw [v2 c ec, e2 c ec]
    refine ⟨q.1, fun hf9 => ⟨(q.2 hf9).1, fun hn => ⟨fun hk => ?_, fun hk => ((q.2 hf9).2 hn).2 (fun z => hk ((hK' c).mpr (Or.inl z)))⟩⟩⟩
    have kc : K c := ((hK' c).mp hk).resolve_right ec
    have e := same c hf9 (hK c kc hf9)
    have w := ((q.2 hf9).2 hn).1 kc
    rw [w.1, w.2]
    unfold clV clE
    rw [e]
    exact ⟨rfl, rfl⟩
