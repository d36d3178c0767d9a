/-! cycles -/
def wR (R : Int → Int → Prop) (K : Int → Prop) (s c : Int) : Prop := ∀ Q : Int → Int → Prop, (∀ s c, R s c → Q s c) → (∀ s k c, K k → Q s k → Q k c → Q s c) → Q s c
theorem wR.b {R : Int → Int → Prop} {K : Int → Prop} {s c : Int} (h : R s c) : wR R K s c := fun Q q1 _ => q1 s c h
theorem wR.t {R : Int → Int → Prop} {K : Int → Prop} {s k c : Int} (hk : K k) (h1 : wR R K s k) (h2 : wR R K k c) : wR R K s c := fun Q q1 q2 => q2 s k c hk (h1 Q q1 q2) (h2 Q q1 q2)
theorem wR.m {R : Int → Int → Prop} {K K' : Int → Prop} {s c : Int} (h : wR R K s c) (hK : ∀ k, K k → K' k) : wR R K' s c := fun Q q1 q2 => h Q q1 (fun s k c hk => q2 s k c (hK k hk))
/-- one more between -/
theorem wR.one {R : Int → Int → Prop} {K K' : Int → Prop} {s c k : Int} (hK : ∀ j, K' j ↔ K j ∨ j = k) : wR R K' s c ↔ wR R K s c ∨ (wR R K s k ∧ wR R K k c) := by
  constructor
  · intro h
    refine h (fun s c => wR R K s c ∨ (wR R K s k ∧ wR R K k c)) (fun s c h => Or.inl (wR.b h)) (fun s j c hj h1 h2 => ?_)
    rcases (hK j).mp hj with hj | hj
    · rcases h1 with h1 | ⟨h1, h1'⟩ <;> rcases h2 with h2 | ⟨h2, h2'⟩
      · exact Or.inl (wR.t hj h1 h2)
      · exact Or.inr ⟨wR.t hj h1 h2, h2'⟩
      · exact Or.inr ⟨h1, wR.t hj h1' h2⟩
      · exact Or.inr ⟨h1, h2'⟩
    · subst hj
      exact Or.inr ⟨h1.elim id (fun z => z.1), h2.elim id (fun z => z.2)⟩
  · rintro (h | ⟨h1, h2⟩)
    · exact h.m (fun j hj => (hK j).mpr (Or.inl hj))
    · exact wR.t ((hK k).mpr (Or.inr rfl)) (h1.m (fun j hj => (hK j).mpr (Or.inl hj))) (h2.m (fun j hj => (hK j).mpr (Or.inl hj)))
theorem wR.no {R : Int → Int → Prop} {s c : Int} : wR R (fun _ => False) s c ↔ R s c := ⟨fun h => h R (fun _ _ z => z) (fun _ _ _ z => z.elim), wR.b⟩
/-- the references of formulas -/
def rf0 (S : Int → Int) (r : Int) (s c : Int) : Prop := s < 144 ∧ isFm S r s ∧ rfS S r (idS S r s) c ∧ c < 144
theorem wR_cy {S : Int → Int} {r c : Int} (hc : isFm S r c) : wR (rf0 S r) (isFm S r) c c ↔ cyS S r c := by
  constructor
  · intro h
    refine (h (fun s c => isFm S r s ∧ (isFm S r c → rcC (rfC S r) s c)) (fun s c h => ⟨h.2.1, fun hc P p1 p2 => p1 c ⟨h.2.1, hc, h.2.2.1⟩⟩) (fun s k c hk h1 h2 => ⟨h1.1, fun hc P p1 p2 => h2.2 hc P (fun h hh => p2 k h (h1.2 hk P p1 p2) hh) p2⟩)).2 hc
  · intro h
    refine h (fun b => wR (rf0 S r) (isFm S r) c b) (fun h hh => wR.b ⟨hh.1.1.b.2, hh.1, hh.2.2, hh.2.1.1.b.2⟩) (fun h k h1 h2 => wR.t h2.1 h1 (wR.b ⟨h2.1.1.b.2, h2.1, h2.2.2, h2.2.1.1.b.2⟩))
def rdR (S : Int → Int) (r : Int) (K : Int → Prop) (s c : Int) : Prop := (s < 144 ∧ wR (rf0 S r) K s c) ∨ (s = 144 ∧ isFm S r c)
theorem rf0_m {S : Int → Int} {r s c : Int} {K : Int → Prop} (h : wR (rf0 S r) K s c) : s < 144 ∧ isFm S r s ∧ c < 144 := h (fun s c => s < 144 ∧ isFm S r s ∧ c < 144) (fun s c h => ⟨h.1, h.2.1, h.2.2.2⟩) (fun s k c _ h1 h2 => ⟨h1.1, h1.2.1, h2.2.2⟩)
def fcP (T : gT) (I : gI) (J : gJ) (O : gO) (ca : Nat) (S : Int → Int) (r : Int) : gP := fun v T' I' J' O' => v = none ∧ T' = T ∧ I' = I ∧ O' = O ∧ (∀ b j, b ≠ ca + 8 + 1 → J' b j = J b j) ∧ CsIs (J' (ca + 8 + 1)) (rdR S r (isFm S r))
set_option maxHeartbeats 8000000 in
set_option maxRecDepth 20000 in
theorem ct_X0_findCycles {T : gT} {I : gI} {J : gJ} {O : gO} {ca : Nat} {S : Int → Int} {r : Int} (hM : CaAt T O ca) (hE : EnF S r 144 (I (ca + 3)) (I ca 4)) (n9 : I ca 4 ≤ 120) (hR : CsIs (J (ca + 6 + 1)) (rfR S r)) : Ct yX0_findCycles cX0_findCycles 3 none [va_rf (some ca)] 2 47 0 0 T I J O (fcP T I J O ca S r) := by
  refine Ct.of (by decide) [some (va_rf (some ca)), none, none] (gEn1 (List.forall_mem_cons.mpr ⟨cat_VR _, fun _ h => nomatch h⟩) rfl (Nat.le_of_ble_eq_true rfl) rfl) ?_
  intro X x en rm ini hr hz
  have hr0 := hr
  have n8 := hE.1
  have cb : ∀ g, 0 ≤ g → g < I ca 4 → (0 ≤ I (ca + 3) g ∧ I (ca + 3) g < 144) ∧ isFm S r (I (ca + 3) g) := fun g g0 g1 => by
    have := hE.2.2.2.1 g g0 g1
    exact ⟨⟨this.1, this.2.1⟩, this.2.2⟩
  have inner : ∀ (d : Nat) (b f : Int) (J1 : gJ), f + d = I ca 4 → 0 ≤ f → 0 ≤ b → b < I ca 4 → (∀ b j, b ≠ ca + 8 + 1 → J1 b j = J b j) → CsIs (J1 (ca + 8 + 1)) (fun s c => rdR S r (fun j => ∃ g, 0 ≤ g ∧ g < b ∧ I (ca + 3) g = j) s c ∨ ((∃ g, 0 ≤ g ∧ g < f ∧ I (ca + 3) g = s) ∧ wR (rf0 S r) (fun j => ∃ g, 0 ≤ g ∧ g < b ∧ I (ca + 3) g = j) s (I (ca + 3) b) ∧ wR (rf0 S r) (fun j => ∃ g, 0 ≤ g ∧ g < b ∧ I (ca + 3) g = j) (I (ca + 3) b) c)) → (∀ J2, (∀ b j, b ≠ ca + 8 + 1 → J2 b j = J b j) → CsIs (J2 (ca + 8 + 1)) (rdR S r (fun j => ∃ g, 0 ≤ g ∧ g < b + 1 ∧ I (ca + 3) g = j)) → ∀ y, G X 78 [some (va_rf (some ca)), some (VI b), y] [] T I J2 O 0 0) → G X 23 [some (va_rf (some ca)), some (VI b), some (VI f)] [] T I J1 O 0 0 := by
    intro d
    induction d with
    | zero =>
      intro b f J1 hd f0 b0 b1 k1 k2 kk
      have ef : f = I ca 4 := by omega
      subst ef
      have kk := kk J1 k1 (k2.iff (fun s c s0 s1 c0 c1 => by
        have h1 : ∀ j, (∃ g, 0 ≤ g ∧ g < b + 1 ∧ I (ca + 3) g = j) ↔ ((∃ g, 0 ≤ g ∧ g < b ∧ I (ca + 3) g = j) ∨ j = I (ca + 3) b) := fun j => ⟨fun ⟨g, g0, g1, g2⟩ => by
          by_cases q : g = b
          · exact Or.inr (by rw [← g2, q])
          · exact Or.inl ⟨g, g0, by omega, g2⟩, fun z => z.elim (fun ⟨g, g0, g1, g2⟩ => ⟨g, g0, by omega, g2⟩) (fun z => ⟨b, b0, by omega, z.symm⟩)⟩
        unfold rdR
        rw [wR.one h1]
        constructor
        · rintro ((⟨a1, a2⟩ | a1) | ⟨a1, a2, a3⟩)
          · exact Or.inl ⟨a1, Or.inl a2⟩
          · exact Or.inr a1
          · exact Or.inl ⟨(rf0_m a2).1, Or.inr ⟨a2, a3⟩⟩
        · rintro (⟨a1, a2 | ⟨a2, a3⟩⟩ | a1)
          · exact Or.inl (Or.inl ⟨a1, a2⟩)
          · have hm := (rf0_m a2).2.1
            obtain ⟨g, g0, g1, g2⟩ := hE.2.2.2.2 s s0 (by omega) hm
            exact Or.inr ⟨⟨g, g0, g1, g2⟩, a2, a3⟩
          · exact Or.inl (Or.inr a1)))
      refine G_rg (fun hr => ?_)
      refine G_iload2 x eX0_findCycles_23 ?_
      refine G_aload0 x eX0_findCycles_24 ?_
      refine G_geti x eX0_findCycles_25 fX0_80 rfl rfl hM.m (fun h25 => ?_)
      refine G_icmp_ge x eX0_findCycles_28 (by first | omega | exact hr _ _ | exact hr0 _ _ | exact hrS _) (by first | omega | exact hr _ _ | exact hr0 _ _ | exact hrS _) (fun c28 => ?_) (fun c28 => ?_)
      · exact kk _
      · omega
    | succ d ih =>
      intro b f J1 hd f0 b0 b1 k1 k2 kk
      have c1 := cb f f0 (by omega)
      have c2 := cb b b0 b1
      obtain ⟨K, hK⟩ : ∃ K : Int → Prop, ∀ _ : True, (fun j => ∃ g, 0 ≤ g ∧ g < b ∧ I (ca + 3) g = j) = K := ⟨_, fun _ => rfl⟩
      rw [hK trivial] at k2
      -- what is reached from the one between
      have kRow : ∀ c, (rdR S r K (I (ca + 3) b) c ∨ ((∃ g, 0 ≤ g ∧ g < f ∧ I (ca + 3) g = I (ca + 3) b) ∧ wR (rf0 S r) K (I (ca + 3) b) (I (ca + 3) b) ∧ wR (rf0 S r) K (I (ca + 3) b) c)) ↔ wR (rf0 S r) K (I (ca + 3) b) c := fun c => by
        constructor
        · rintro ((⟨a1, a2⟩ | ⟨a1, a2⟩) | ⟨a1, a2, a3⟩)
          · exact a2
          · omega
          · exact a3
        · intro h; exact Or.inl (Or.inl ⟨c2.1.2, h⟩)
      have fRow : ∀ _ : True, ((rdR S r K (I (ca + 3) f) (I (ca + 3) b) ∨ ((∃ g, 0 ≤ g ∧ g < f ∧ I (ca + 3) g = I (ca + 3) f) ∧ wR (rf0 S r) K (I (ca + 3) f) (I (ca + 3) b) ∧ wR (rf0 S r) K (I (ca + 3) b) (I (ca + 3) b))) ↔ wR (rf0 S r) K (I (ca + 3) f) (I (ca + 3) b)) := fun _ => by
        constructor
        · rintro ((⟨a1, a2⟩ | ⟨a1, a2⟩) | ⟨a1, a2, a3⟩)
          · exact a2
          · omega
          · exact a2
        · intro h; exact Or.inl (Or.inl ⟨c1.1.2, h⟩)
      have nx : ∀ J2, (∀ b j, b ≠ ca + 8 + 1 → J2 b j = J b j) → CsIs (J2 (ca + 8 + 1)) (fun s c => rdR S r K s c ∨ ((∃ g, 0 ≤ g ∧ g < f + 1 ∧ I (ca + 3) g = s) ∧ wR (rf0 S r) K s (I (ca + 3) b) ∧ wR (rf0 S r) K (I (ca + 3) b) c)) → G X 23 [some (va_rf (some ca)), some (VI b), some (VI (f + 1))] [] T I J2 O 0 0 := fun J2 m1 m2 => ih b (f + 1) J2 (by omega) (by omega) b0 b1 m1 (by rw [hK trivial]; exact m2) kk
      have cH := ct_X1_has (I := I) (s := I (ca + 3) f) (c := I (ca + 3) b) hM.s_reached k2 c1.1.1 (by omega) c2.1.1 c2.1.2
      have cJ := ct_X1_join (I := I) (s := I (ca + 3) f) (o := I (ca + 3) b) hM.s_reached k2 c1.1.1 (by omega) c2.1.1 (by omega)
      rw [show b01 _ = b01 _ from b01_e (fRow trivial)] at cH
      by_cases q : wR (rf0 S r) K (I (ca + 3) f) (I (ca + 3) b)
      · rw [b01_t q] at cH
        have nx2 : ∀ J2, (∀ b j, b ≠ ca + 8 + 1 → J2 b j = J1 b j) → CsIs (J2 (ca + 8 + 1)) (fun s' c' => (rdR S r K s' c' ∨ ((∃ g, 0 ≤ g ∧ g < f ∧ I (ca + 3) g = s') ∧ wR (rf0 S r) K s' (I (ca + 3) b) ∧ wR (rf0 S r) K (I (ca + 3) b) c')) ∨ (s' = I (ca + 3) f ∧ (rdR S r K (I (ca + 3) b) c' ∨ ((∃ g, 0 ≤ g ∧ g < f ∧ I (ca + 3) g = I (ca + 3) b) ∧ wR (rf0 S r) K (I (ca + 3) b) (I (ca + 3) b) ∧ wR (rf0 S r) K (I (ca + 3) b) c')))) → G X 23 [some (va_rf (some ca)), some (VI b), some (VI (f + 1))] [] T I J2 O 0 0 := fun J2 m1 m2 => nx J2 (fun b j hb => (m1 b j hb).trans (k1 b j hb)) (m2.iff (fun s c s0 s1 c0 c1' => by
          rw [kRow c]
          constructor
          · rintro ((a1 | ⟨⟨g, g0, g1, g2⟩, a2, a3⟩) | ⟨a1, a2⟩)
            · exact Or.inl a1
            · exact Or.inr ⟨⟨g, g0, by omega, g2⟩, a2, a3⟩
            · exact Or.inr ⟨⟨f, f0, by omega, a1.symm⟩, by rw [a1]; exact q, a2⟩
          · rintro (a1 | ⟨⟨g, g0, g1, g2⟩, a2, a3⟩)
            · exact Or.inl (Or.inl a1)
            · by_cases e : g = f
              · rw [e] at g2; exact Or.inr ⟨g2.symm, a3⟩
              · exact Or.inl (Or.inr ⟨⟨g, g0, by omega, g2⟩, a2, a3⟩)))
        refine G_rg (fun hr => ?_)
        refine G_iload2 x eX0_findCycles_23 ?_
        refine G_aload0 x eX0_findCycles_24 ?_
        refine G_geti x eX0_findCycles_25 fX0_80 rfl rfl hM.m (fun h25 => ?_)
        refine G_icmp_ge x eX0_findCycles_28 (by first | omega | exact hr _ _ | exact hr0 _ _ | exact hrS _) (by first | omega | exact hr _ _ | exact hr0 _ _ | exact hrS _) (fun c28 => ?_) (fun c28 => ?_)
        · omega
        · refine G_aload0 x eX0_findCycles_31 ?_
          refine G_getq x eX0_findCycles_32 fX0_37 rfl rfl hM.m hM.o_reached ?_
          refine G_aload0 x eX0_findCycles_35 ?_
          refine G_getq x eX0_findCycles_36 fX0_18 rfl rfl hM.m hM.o_formulaCells ?_
          refine G_iload2 x eX0_findCycles_39 ?_
          refine G_iald x eX0_findCycles_40 rfl hM.t_formulaCells (by omega) (by omega) (by omega) (fun h40 => ?_)
          refine G_aload0 x eX0_findCycles_41 ?_
          refine G_getq x eX0_findCycles_42 fX0_18 rfl rfl hM.m hM.o_formulaCells ?_
          refine G_iload1 x eX0_findCycles_45 ?_
          refine G_iald x eX0_findCycles_46 rfl hM.t_formulaCells (by omega) (by omega) (by omega) (fun h46 => ?_)
          refine G_cV x eX0_findCycles_47 kX0_72 im_yX1_has se_yX1_has rm hM.s_reached.m cH rfl ?_
          refine G_if_eq x eX0_findCycles_50 (by omega) (fun c50 => ?_) (fun c50 => ?_)
          · try obtain ⟨rfl, rfl, rfl, rfl, u1, u2⟩ := p69
            refine G_iinc2 x eX0_findCycles_72 ?_
            refine G_goto x eX0_findCycles_75 ?_
            first | (exfalso; omega) | exact nx2 _ u1 u2
          · refine G_aload0 x eX0_findCycles_53 ?_
            refine G_getq x eX0_findCycles_54 fX0_37 rfl rfl hM.m hM.o_reached ?_
            refine G_aload0 x eX0_findCycles_57 ?_
            refine G_getq x eX0_findCycles_58 fX0_18 rfl rfl hM.m hM.o_formulaCells ?_
            refine G_iload2 x eX0_findCycles_61 ?_
            refine G_iald x eX0_findCycles_62 rfl hM.t_formulaCells (by omega) (by omega) (by omega) (fun h62 => ?_)
            refine G_aload0 x eX0_findCycles_63 ?_
            refine G_getq x eX0_findCycles_64 fX0_18 rfl rfl hM.m hM.o_formulaCells ?_
            refine G_iload1 x eX0_findCycles_67 ?_
            refine G_iald x eX0_findCycles_68 rfl hM.t_formulaCells (by omega) (by omega) (by omega) (fun h68 => ?_)
            refine G_cVg x eX0_findCycles_69 kX0_157 im_yX1_join se_yX1_join rm hM.s_reached.m cJ rfl (fun v69 T69 I69 J69 O69 p69 => ?_)
            refine G_rg (fun hr => ?_)
            try obtain ⟨rfl, rfl, rfl, rfl, u1, u2⟩ := p69
            refine G_iinc2 x eX0_findCycles_72 ?_
            refine G_goto x eX0_findCycles_75 ?_
            first | (exfalso; omega) | exact nx2 _ u1 u2
      · rw [b01_f q] at cH
        have nx := nx J1 k1 (k2.iff (fun s c s0 s1 c0 c1' => by
          constructor
          · rintro (a1 | ⟨⟨g, g0, g1, g2⟩, a2, a3⟩)
            · exact Or.inl a1
            · exact Or.inr ⟨⟨g, g0, by omega, g2⟩, a2, a3⟩
          · rintro (a1 | ⟨⟨g, g0, g1, g2⟩, a2, a3⟩)
            · exact Or.inl a1
            · by_cases e : g = f
              · rw [e] at g2; rw [← g2] at a2; exact absurd a2 q
              · exact Or.inr ⟨⟨g, g0, by omega, g2⟩, a2, a3⟩))
        refine G_rg (fun hr => ?_)
        refine G_iload2 x eX0_findCycles_23 ?_
        refine G_aload0 x eX0_findCycles_24 ?_
        refine G_geti x eX0_findCycles_25 fX0_80 rfl rfl hM.m (fun h25 => ?_)
        refine G_icmp_ge x eX0_findCycles_28 (by first | omega | exact hr _ _ | exact hr0 _ _ | exact hrS _) (by first | omega | exact hr _ _ | exact hr0 _ _ | exact hrS _) (fun c28 => ?_) (fun c28 => ?_)
        · omega
        · refine G_aload0 x eX0_findCycles_31 ?_
          refine G_getq x eX0_findCycles_32 fX0_37 rfl rfl hM.m hM.o_reached ?_
          refine G_aload0 x eX0_findCycles_35 ?_
          refine G_getq x eX0_findCycles_36 fX0_18 rfl rfl hM.m hM.o_formulaCells ?_
          refine G_iload2 x eX0_findCycles_39 ?_
          refine G_iald x eX0_findCycles_40 rfl hM.t_formulaCells (by omega) (by omega) (by omega) (fun h40 => ?_)
          refine G_aload0 x eX0_findCycles_41 ?_
          refine G_getq x eX0_findCycles_42 fX0_18 rfl rfl hM.m hM.o_formulaCells ?_
          refine G_iload1 x eX0_findCycles_45 ?_
          refine G_iald x eX0_findCycles_46 rfl hM.t_formulaCells (by omega) (by omega) (by omega) (fun h46 => ?_)
          refine G_cV x eX0_findCycles_47 kX0_72 im_yX1_has se_yX1_has rm hM.s_reached.m cH rfl ?_
          refine G_if_eq x eX0_findCycles_50 (by omega) (fun c50 => ?_) (fun c50 => ?_)
          · refine G_iinc2 x eX0_findCycles_72 ?_
            refine G_goto x eX0_findCycles_75 ?_
            exact nx
          · omega
  have outer : ∀ (d : Nat) (b : Int) (J1 : gJ) (y : Option Value), b + d = I ca 4 → 0 ≤ b → (∀ b j, b ≠ ca + 8 + 1 → J1 b j = J b j) → CsIs (J1 (ca + 8 + 1)) (rdR S r (fun j => ∃ g, 0 ≤ g ∧ g < b ∧ I (ca + 3) g = j)) → G X 13 [some (va_rf (some ca)), some (VI b), y] [] T I J1 O 0 0 := by
    intro d
    induction d with
    | zero =>
      intro b J1 y hd b0 k1 k2
      have eb : b = I ca 4 := by omega
      subst eb
      have eK : (fun j => ∃ g, 0 ≤ g ∧ g < I ca 4 ∧ I (ca + 3) g = j) = isFm S r := funext fun j => propext ⟨fun ⟨g, g0, g1, g2⟩ => by rw [← g2]; exact (cb g g0 g1).2, fun z => hE.2.2.2.2 j z.1.1 z.1.b.2 z⟩
      rw [eK] at k2
      refine G_rg (fun hr => ?_)
      refine G_iload1 x eX0_findCycles_13 ?_
      refine G_aload0 x eX0_findCycles_14 ?_
      refine G_geti x eX0_findCycles_15 fX0_80 rfl rfl hM.m (fun h15 => ?_)
      refine G_icmp_ge x eX0_findCycles_18 (by first | omega | exact hr _ _ | exact hr0 _ _ | exact hrS _) (by first | omega | exact hr _ _ | exact hr0 _ _ | exact hrS _) (fun c18 => ?_) (fun c18 => ?_)
      · refine G_return x en eX0_findCycles_84 (by omega) (by omega) ?_
        exact ⟨rfl, rfl, rfl, rfl, k1, k2⟩
      · omega
    | succ d ih =>
      intro b J1 y hd b0 k1 k2
      have nx := inner (I ca 4).toNat b 0 J1 (by omega) (by omega) b0 (by omega) k1 (k2.iff (fun s c _ _ _ _ => ⟨Or.inl, fun z => z.elim (fun z => z) (fun z => by obtain ⟨⟨g, g0, g1, _⟩, _⟩ := z; omega)⟩)) (fun J2 m1 m2 y => by
        have z := ih (b + 1) J2 y (by omega) (by omega) m1 m2
        refine G_iinc1 x eX0_findCycles_78 ?_
        refine G_goto x eX0_findCycles_81 ?_
        exact z)
      refine G_rg (fun hr => ?_)
      refine G_iload1 x eX0_findCycles_13 ?_
      refine G_aload0 x eX0_findCycles_14 ?_
      refine G_geti x eX0_findCycles_15 fX0_80 rfl rfl hM.m (fun h15 => ?_)
      refine G_icmp_ge x eX0_findCycles_18 (by first | omega | exact hr _ _ | exact hr0 _ _ | exact hrS _) (by first | omega | exact hr _ _ | exact hr0 _ _ | exact hrS _) (fun c18 => ?_) (fun c18 => ?_)
      · omega
      · refine G_push x eX0_findCycles_21 ?_
        refine G_istore2 x eX0_findCycles_22 ?_
        exact nx
  have cC := ct_X1_copyFrom (I := I) hM.s_reached hM.s_references (by omega) hR
  refine G_rg (fun hr => ?_)
  refine G_aload0 x eX0_findCycles_0 ?_
  refine G_getq x eX0_findCycles_1 fX0_37 rfl rfl hM.m hM.o_reached ?_
  refine G_aload0 x eX0_findCycles_4 ?_
  refine G_getq x eX0_findCycles_5 fX0_33 rfl rfl hM.m hM.o_references ?_
  refine G_cVg x eX0_findCycles_8 kX0_153 im_yX1_copyFrom se_yX1_copyFrom rm hM.s_reached.m cC rfl (fun v8 T8 I8 J8 O8 p8 => ?_)
  refine G_rg (fun hr => ?_)
  obtain ⟨rfl, rfl, rfl, rfl, u1, u2⟩ := p8
  refine G_push x eX0_findCycles_11 ?_
  refine G_istore1 x eX0_findCycles_12 ?_
  exact outer (I8 ca 4).toNat 0 _ _ (by omega) (by omega) u1 (u2.iff (fun s c s0 s1 c0 c1 => by unfold rfR rdR; rw [show (fun j => ∃ g, 0 ≤ g ∧ g < (0 : Int) ∧ I8 (ca + 3) g = j) = (fun _ => False) from funext fun j => propext ⟨fun ⟨g, g0, g1, _⟩ => by omega, fun z => z.elim⟩, wR.no]; exact or_congr ⟨fun z => ⟨z.1, z⟩, fun z => z.2⟩ Iff.rfl))
