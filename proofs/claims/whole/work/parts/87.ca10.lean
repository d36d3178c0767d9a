/-! the calculation is the model's -/
theorem rd_c {S : Int → Int} {r k : Int} {h : Int → Int} (hp : ∀ i, 0 ≤ i → i < k → rdW S r (Wk (isFm S r) h i) (h i)) : ∀ x, oDn h k x → isFm S r x ∧ ∀ d, rfC S r x d → oDn h k d := by
  rintro x ⟨i, i0, i1, rfl⟩
  obtain ⟨h1, h2⟩ := hp i i0 i1
  refine ⟨h1.1, fun d hd => ?_⟩
  apply Classical.byContradiction
  intro hn
  exact h2 d ⟨hd.1.1.b.2, hd.1, hd.2.2, hd.2.1.1.b.2⟩ ⟨hd.2.1, fun ⟨j, j0, j1, j2⟩ => hn ⟨j, j0, by omega, j2⟩⟩
theorem rd_o {S : Int → Int} {r k : Int} {h : Int → Int} (hp : ∀ i, 0 ≤ i → i < k → rdW S r (Wk (isFm S r) h i) (h i)) (c : Int) : rdW S r (Wk (isFm S r) h k) c ↔ oRd S r h k c := by
  constructor
  · rintro ⟨⟨h1, h2⟩, h3⟩
    have h4 : ∀ d, rfC S r c d → oDn h k d := fun d hd => by
      apply Classical.byContradiction
      intro hn
      exact h3 d ⟨hd.1.1.b.2, hd.1, hd.2.2, hd.2.1.1.b.2⟩ ⟨hd.2.1, hn⟩
    exact ⟨h1, fun hy => h2 (hy (fun x => oDn h k x) h4 (fun x y hx hxy => (rd_c hp x hx).2 y hxy)), h2, h4⟩
  · rintro ⟨h1, h2, h3, h4⟩
    exact ⟨⟨h1, h3⟩, fun d hd hw => hw.2 (h4 d ⟨h1, hw.1, hd.2.2.1⟩)⟩
/-- errors, cycles marked -/
noncomputable def eC (S : Int → Int) (r : Int) (E : Int → Int) (c : Int) : Int := @ite Int (isFm S r c ∧ cyS S r c) (Classical.propDecidable _) 1 (E c)
theorem eC_t {S : Int → Int} {r c : Int} {E : Int → Int} (h : isFm S r c) (h2 : cyS S r c) : eC S r E c = 1 := @if_pos _ (Classical.propDecidable _) ⟨h, h2⟩ _ _ _
theorem eC_f {S : Int → Int} {r c : Int} {E : Int → Int} (h : ¬ (isFm S r c ∧ cyS S r c)) : eC S r E c = E c := @if_neg _ (Classical.propDecidable _) h _ _ _
def Q1 (S : Int → Int) (r : Int) (h : Int → Int) (k : Int) (V : Int → Int64) (E : Int → Int) : Prop := (∀ i, 0 ≤ i → i < k → rdW S r (Wk (isFm S r) h i) (h i)) ∧ wkK S r (oDn h k) V (eC S r E) ∧ (∀ x, oDn h k x → ¬ cyS S r x ∧ knS S r x) ∧ ∀ c, isFm S r c → cyS S r c → V c = 0
theorem Q1_s {S : Int → Int} {r : Int} (hf : fmOk S r) : stepQ S r (isFm S r) (Q1 S r) := by
  intro h h' k V E V' E' c hq k0 hrd hmin hh hk hV hE hd
  obtain ⟨q1, q2, q3, q4⟩ := hq
  have ho := (rd_o q1 c).mp hrd
  obtain ⟨o1, o2, o3, o4⟩ := ho
  have dn : ∀ x, oDn h' (k + 1) x ↔ oDn h k x ∨ x = c := fun x => by
    constructor
    · rintro ⟨i, i0, i1, i2⟩
      by_cases q : i = k
      · right; rw [← i2, q, hk]
      · left; exact ⟨i, i0, by omega, by rw [← hh i i0 (by omega)]; exact i2⟩
    · rintro (⟨i, i0, i1, i2⟩ | e)
      · exact ⟨i, i0, by omega, by rw [hh i i0 i1]; exact i2⟩
      · exact ⟨k, k0, by omega, by rw [hk, e]⟩
  have hcl : clcF S r (idS S r c) V E = clcF S r (idS S r c) V (eC S r E) := clcF_c (hf.1 c o1) (fun d d0 hd9 => ⟨rfl, by
    rw [eC_f]
    rintro ⟨z1, z2⟩
    exact (q3 d (o4 d ⟨o1, z1, hd9⟩)).1 z2⟩)
  refine ⟨fun i i0 i1 => ?_, ?_, fun x hx => ?_, fun x hx hy => ?_⟩
  · by_cases q : i = k
    · subst q; rw [hk, Wk_c hh]; exact hrd
    · rw [hh i i0 (by omega), Wk_c (k := i) (fun j j0 j1 => hh j j0 (by omega))]; exact q1 i i0 (by omega)
  · refine q2.add hf o1 o2 o3 (fun d hd9 => Or.inr (o4 d hd9)) (fun x hx hxf d hd9 => Or.inr ((rd_c q1 x hx).2 d hd9)) dn (by rw [hV]; unfold clV; rw [hcl]) (by rw [eC_f (fun z => o2 z.2), hE]; unfold clE; rw [hcl]) (fun x hx => (hd x hx).1) (fun x hx => ?_)
    by_cases z : isFm S r x ∧ cyS S r x
    · rw [eC_t z.1 z.2, eC_t z.1 z.2]
    · rw [eC_f z, eC_f z]; exact (hd x hx).2
  · rcases (dn x).mp hx with z | z
    · exact q3 x z
    · rw [z]; exact ⟨o2, knS.mk o1 o2 (fun d hd9 => Or.inr (q3 d (o4 d hd9)).2)⟩
  · have hne : x ≠ c := fun z => o2 (by rw [← z]; exact hy)
    rw [(hd x hne).1]; exact q4 x hx hy
/-- .. behind the cycles -/
def Q2 (S : Int → Int) (r : Int) (D : Int → Prop) (h : Int → Int) (k : Int) (V : Int → Int64) (E : Int → Int) : Prop := wkK S r (fun c => D c ∨ oDn h k c) V E ∧ ∀ x, D x ∨ oDn h k x → isFm S r x ∧ ¬ cyS S r x ∧ knS S r x ∧ ∀ d, rfC S r x d → cyS S r d ∨ D d ∨ oDn h k d
theorem Q2_s {S : Int → Int} {r : Int} {D : Int → Prop} (hf : fmOk S r) : stepQ S r (fun c => (isFm S r c ∧ ¬ D c) ∧ ¬ cyS S r c) (Q2 S r D) := by
  intro h h' k V E V' E' c hq k0 hrd hmin hh hk hV hE hd
  obtain ⟨q1, q2⟩ := hq
  obtain ⟨⟨⟨⟨o1, o2⟩, o3⟩, o4⟩, o5⟩ := hrd
  have dn : ∀ x, oDn h' (k + 1) x ↔ oDn h k x ∨ x = c := fun x => by
    constructor
    · rintro ⟨i, i0, i1, i2⟩
      by_cases q : i = k
      · right; rw [← i2, q, hk]
      · left; exact ⟨i, i0, by omega, by rw [← hh i i0 (by omega)]; exact i2⟩
    · rintro (⟨i, i0, i1, i2⟩ | e)
      · exact ⟨i, i0, by omega, by rw [hh i i0 i1]; exact i2⟩
      · exact ⟨k, k0, by omega, by rw [hk, e]⟩
  have g4 : ∀ d, rfC S r c d → cyS S r d ∨ D d ∨ oDn h k d := fun d hd9 => by
    apply Classical.byContradiction
    intro hn
    exact o5 d ⟨hd9.1.1.b.2, hd9.1, hd9.2.2, hd9.2.1.1.b.2⟩ ⟨⟨⟨hd9.2.1, fun z => hn (Or.inr (Or.inl z))⟩, fun z => hn (Or.inl z)⟩, fun z => hn (Or.inr (Or.inr z))⟩
  refine ⟨?_, fun x hx => ?_⟩
  · exact q1.add hf o1 o3 (fun z => z.elim o2 o4) g4 (fun x hx _ d hd9 => (q2 x hx).2.2.2 d hd9) (fun x => by rw [dn x]; exact or_assoc.symm) hV hE (fun x hx => (hd x hx).1) (fun x hx => (hd x hx).2)
  · have up : ∀ d, (cyS S r d ∨ D d ∨ oDn h k d) → cyS S r d ∨ D d ∨ oDn h' (k + 1) d := fun d z => z.imp (fun z => z) (fun z => z.imp (fun z => z) (fun z => (dn d).mpr (Or.inl z)))
    rcases hx with z | z
    · have := q2 x (Or.inl z)
      exact ⟨this.1, this.2.1, this.2.2.1, fun d hd9 => up d (this.2.2.2 d hd9)⟩
    · rcases (dn x).mp z with z | z
      · have := q2 x (Or.inr z)
        exact ⟨this.1, this.2.1, this.2.2.1, fun d hd9 => up d (this.2.2.2 d hd9)⟩
      · rw [z]
        exact ⟨o1, o3, knS.mk o1 o3 (fun d hd9 => (g4 d hd9).imp (fun z => z) (fun z => (q2 d z).2.2.1)), fun d hd9 => up d (g4 d hd9)⟩
/-- a calculation that is up to date -/
def CaR (I : gI) (J : gJ) (ca : Nat) (S : Int → Int) (r : Int) : Prop := EnF S r 144 (I (ca + 3)) (I ca 4) ∧ wkS S r (vV I ca) (I (ca + 2)) ∧ Ord S r (I (ca + 5)) (I ca 6) ∧ I ca 7 = ncS S r ∧ (∃ W, CsIs (J (ca + 6 + 1)) (Rw S r W)) ∧ CsIs (J (ca + 8 + 1)) (rdR S r (isFm S r))
theorem Q2_e {S : Int → Int} {r k : Int} {D : Int → Prop} {h : Int → Int} {V : Int → Int64} {E : Int → Int} (hq : Q2 S r D h k V E) (hn : ∀ c, ¬ rdW S r (Wk (fun c => (isFm S r c ∧ ¬ D c) ∧ ¬ cyS S r c) h k) c) : wkS S r V E := by
  obtain ⟨q1, q2⟩ := hq
  refine q1.c (fun c hc hy => ⟨fun z => (q2 c z).2.2.1, fun z => ?_⟩)
  refine z (fun c => D c ∨ oDn h k c) (fun g g1 g2 g3 => ?_)
  apply Classical.byContradiction
  intro hng
  refine hn g ⟨⟨⟨⟨g1, fun z => hng (Or.inl z)⟩, g2⟩, fun z => hng (Or.inr z)⟩, fun d hd hw => ?_⟩
  rcases g3 d ⟨g1, hw.1.1.1, hd.2.2.1⟩ with z | z | z
  · exact hw.1.2 z
  · exact hw.1.1.2 z
  · exact hw.2 z
