/-! ways from formula to formula -/
/-- g can be reached from f, in one step or more -/
def rch (A : Int → Int → Prop) (N f g : Int) : Prop := ∀ P : Int → Prop, (∀ h, 0 ≤ h → h < N → A f h → P h) → (∀ h k, 0 ≤ h → h < N → 0 ≤ k → k < N → P h → A h k → P k) → P g
theorem rch.one {A : Int → Int → Prop} {N f g : Int} (h0 : 0 ≤ g) (h1 : g < N) (h : A f g) : rch A N f g := fun _ p1 _ => p1 g h0 h1 h
theorem rch.step {A : Int → Int → Prop} {N f g h : Int} (a : rch A N f g) (g0 : 0 ≤ g) (g1 : g < N) (h0 : 0 ≤ h) (h1 : h < N) (b : A g h) : rch A N f h := fun P p1 p2 => p2 g h g0 g1 h0 h1 (a P p1 p2) b
/-- how many of the first are marked -/
def sm (m : Int → Int) : Nat → Int
  | 0 => 0
  | k + 1 => sm m k + m k
theorem sm_c {m m' : Int → Int} (n : Nat) (h : ∀ i, 0 ≤ i → i < (n : Int) → m i = m' i) : sm m n = sm m' n := by
  induction n with
  | zero => rfl
  | succ n ih =>
    unfold sm
    rw [ih (fun i a b => h i a (by omega)), h n (by omega) (by omega)]
theorem sm_b {m : Int → Int} (n : Nat) (h : ∀ i, 0 ≤ i → i < (n : Int) → m i = 0 ∨ m i = 1) : 0 ≤ sm m n ∧ sm m n ≤ n := by
  induction n with
  | zero => exact ⟨by show (0 : Int) ≤ 0; omega, by show (0 : Int) ≤ _; omega⟩
  | succ n ih =>
    unfold sm
    have := ih (fun i a b => h i a (by omega))
    have := h n (by omega) (by omega)
    omega
theorem sm_0 {m : Int → Int} (n : Nat) (h : ∀ i, 0 ≤ i → i < (n : Int) → m i = 0) : sm m n = 0 := by
  induction n with
  | zero => rfl
  | succ n ih =>
    unfold sm
    rw [ih (fun i a b => h i a (by omega)), h n (by omega) (by omega)]
    rfl
theorem sm_u {m : Int → Int} {g x : Int} (n : Nat) (h0 : 0 ≤ g) (h1 : g < n) : sm (fun j => if j = g then x else m j) n = sm m n - m g + x := by
  induction n with
  | zero => omega
  | succ n ih =>
    unfold sm
    by_cases e : (n : Int) = g
    · rw [if_pos e, e, sm_c n (m' := m) (fun i a b => by rw [if_neg (by omega)])]
      omega
    · rw [if_neg e, ih (by omega)]
      omega
abbrev mA (I : gI) (mo : Nat) : Int → Int → Prop := fun f g => I (mo + 13) (144 * f + I (mo + 9) g) ≠ 0
/-- comesBack, under way -/
def cbV (I I1 : gI) (mo : Nat) (f n : Int) : Prop := (∀ b j, b ≠ mo + 16 → b ≠ mo + 17 → I1 b j = I b j) ∧ 1 ≤ n ∧ I1 (mo + 17) 0 = f ∧ (∀ i, 0 ≤ i → i < n → 0 ≤ I1 (mo + 17) i ∧ I1 (mo + 17) i < I mo 16 ∧ (1 ≤ i → I1 (mo + 16) (I1 (mo + 17) i) = 1)) ∧ (∀ g, 0 ≤ g → g < I mo 16 → (I1 (mo + 16) g = 0 ∨ (I1 (mo + 16) g = 1 ∧ rch (mA I mo) (I mo 16) f g ∧ ∃ i, 1 ≤ i ∧ i < n ∧ I1 (mo + 17) i = g))) ∧ sm (I1 (mo + 16)) (I mo 16).toNat = n - 1
theorem cbV.n {I I1 : gI} {mo : Nat} {f n : Int} (h : cbV I I1 mo f n) (h0 : 0 ≤ I mo 16) : n ≤ I mo 16 + 1 := by
  have := (sm_b (m := I1 (mo + 16)) (I mo 16).toNat (fun i a b => by rcases h.2.2.2.2.1 i a (by omega) with e | e; exact Or.inl e; exact Or.inr e.1)).2
  have := h.2.2.2.2.2
  omega
/-- one more is met -/
theorem cbV.add {I I1 : gI} {mo : Nat} {f n k g : Int} (h : cbV I I1 mo f n) (g0 : 0 ≤ g) (g1 : g < I mo 16) (hz : I1 (mo + 16) g = 0) (k0 : 0 ≤ k) (k1 : k < n) (hA : mA I mo (I1 (mo + 17) k) g) : cbV I (uI (uI I1 (mo + 16) g 1) (mo + 17) n g) mo f (n + 1) ∧ n ≤ I mo 16 := by
  obtain ⟨a1, a2, a3, a4, a5, a6⟩ := h
  have e6 : ∀ j, (uI (uI I1 (mo + 16) g 1) (mo + 17) n g) (mo + 16) j = if j = g then 1 else I1 (mo + 16) j := fun j => by
    rw [uI_a (by omega)]
    by_cases e : j = g
    · rw [if_pos e, e, uI_s]
    · rw [if_neg e, uI_k e]
  have e7 : ∀ j, (uI (uI I1 (mo + 16) g 1) (mo + 17) n g) (mo + 17) j = if j = n then g else I1 (mo + 17) j := fun j => by
    by_cases e : j = n
    · rw [if_pos e, e, uI_s]
    · rw [if_neg e, uI_k e, uI_a (by omega)]
  have hs : sm ((uI (uI I1 (mo + 16) g 1) (mo + 17) n g) (mo + 16)) (I mo 16).toNat = n := by
    rw [funext e6, sm_u _ g0 (by omega), a6, hz]
    omega
  have hrc : rch (mA I mo) (I mo 16) f g := by
    by_cases e : k = 0
    · subst e; rw [a3] at hA; exact rch.one g0 g1 hA
    · have q := a4 k k0 k1
      rcases a5 _ q.1 q.2.1 with z | z
      · have := q.2.2 (by omega); omega
      · exact z.2.1.step q.1 q.2.1 g0 g1 hA
  refine ⟨⟨fun b j b1 b2 => by rw [uI_a b2, uI_a b1]; exact a1 b j b1 b2, by omega, by rw [e7, if_neg (by omega)]; exact a3, fun i i0 i1 => ?_, fun j j0 j1 => ?_, by omega⟩, ?_⟩
  · rw [e7]
    by_cases e : i = n
    · rw [if_pos e, e6, if_pos rfl]
      exact ⟨g0, g1, fun _ => rfl⟩
    · rw [if_neg e, e6]
      have q := a4 i i0 (by omega)
      refine ⟨q.1, q.2.1, fun z => ?_⟩
      by_cases e2 : I1 (mo + 17) i = g
      · rw [if_pos e2]
      · rw [if_neg e2]; exact q.2.2 z
  · rw [e6]
    by_cases e : j = g
    · rw [if_pos e]
      refine Or.inr ⟨rfl, e ▸ hrc, n, by omega, by omega, ?_⟩
      rw [e7, if_pos rfl, e]
    · rw [if_neg e]
      rcases a5 j j0 j1 with z | ⟨z1, z2, i, i1, i2, i3⟩
      · exact Or.inl z
      · refine Or.inr ⟨z1, z2, i, i1, by omega, ?_⟩
        rw [e7, if_neg (by omega)]
        exact i3
  · have := (sm_b (m := (uI (uI I1 (mo + 16) g 1) (mo + 17) n g) (mo + 16)) (I mo 16).toNat (fun i a b => by
      rw [e6]
      by_cases e : i = g
      · rw [if_pos e]; exact Or.inr rfl
      · rw [if_neg e]
        rcases a5 i a (by omega) with z | z
        · exact Or.inl z
        · exact Or.inr z.1)).2
    omega
def cbP (T : gT) (I : gI) (J : gJ) (O : gO) (mo : Nat) (f : Int) : gP := fun v T' I' J' O' => T' = T ∧ J' = J ∧ O' = O ∧ (∀ b j, b ≠ mo + 16 → b ≠ mo + 17 → I' b j = I b j) ∧ v = some (VI (b01 (rch (mA I mo) (I mo 16) f f)))
set_option maxHeartbeats 4000000 in
set_option maxRecDepth 20000 in
theorem ct_X11_comesBack {T : gT} {I : gI} {J : gJ} {O : gO} {mo : Nat} {f : Int} (hM : MoAt T O mo) (h0 : 0 ≤ I mo 16) (h1 : I mo 16 ≤ 120) (h2 : 0 ≤ f) (h3 : f < I mo 16) (h4 : ∀ g, 0 ≤ g → g < I mo 16 → 0 ≤ I (mo + 9) g ∧ I (mo + 9) g < 144) : Ct yX11_comesBack cX11_comesBack 5 (some .boolean) [va_rf (some mo), VI f] 0 0 0 0 T I J O (cbP T I J O mo f) := by
  refine Ct.of (by decide) [some (va_rf (some mo)), some (VI f), none, none, none] (gEn1 (List.forall_mem_cons.mpr ⟨cat_VR _, List.forall_mem_cons.mpr ⟨cat_VI _, fun _ h => nomatch h⟩⟩) rfl (Nat.le_of_ble_eq_true rfl) rfl) ?_
  intro X x en rm ini hr hz
  have hr0 := hr
  have inner : ∀ (d : Nat) (n k g : Int) (I1 : gI), d = (I mo 16 - g).toNat → cbV I I1 mo f n → 0 ≤ k → k < n → 0 ≤ g → g ≤ I mo 16 → (∀ i h, 0 ≤ i → i ≤ k → (i < k ∨ h < g) → 0 ≤ h → h < I mo 16 → mA I mo (I1 (mo + 17) i) h → I1 (mo + 16) h = 1) →
      (∀ (n : Int) (I1 : gI) (o4 : Option Value), k < n → cbV I I1 mo f n → (∀ i h, 0 ≤ i → i < k + 1 → 0 ≤ h → h < I mo 16 → mA I mo (I1 (mo + 17) i) h → I1 (mo + 16) h = 1) → G X 34 [some (va_rf (some mo)), some (VI f), some (VI n), some (VI (k + 1)), o4] [] T I1 J O 0 0) →
      G X 42 [some (va_rf (some mo)), some (VI f), some (VI n), some (VI k), some (VI g)] [] T I1 J O 0 0 := by
    intro d
    induction d using Nat.strongRecOn with
    | ind d ih =>
    intro n k g I1 hd hV k0 k1 g0 g1 hcl kk
    have hn := hV.n h0
    obtain ⟨a1, a2, a3, a4, a5, a6⟩ := id hV
    have e16 : I1 mo 16 = I mo 16 := a1 _ _ (by omega) (by omega)
    have q := a4 k k0 k1
    refine G_iload4 x eX11_comesBack_42 ?_
    refine G_aload0 x eX11_comesBack_44 ?_
    refine G_geti x eX11_comesBack_45 fX11_211 rfl rfl hM.m (fun h45 => ?_)
    rw [e16]
    refine G_icmp_ge x eX11_comesBack_48 (by first | omega | exact hr _ _ | exact hr0 _ _ | exact hrS _) (by first | omega | exact hr _ _ | exact hr0 _ _ | exact hrS _) (fun c48 => ?_) (fun c48 => ?_)
    · refine G_rg (fun hr => ?_)
      refine G_iinc3 x eX11_comesBack_112 ?_
      refine G_goto x eX11_comesBack_115 ?_
      exact kk _ _ _ k1 hV (fun i h i0 i1 h0 h1 hA => hcl i h i0 (by omega) (by omega) h0 h1 hA)
    · have q9 := h4 g g0 (by omega)
      have e9 : I1 (mo + 9) g = I (mo + 9) g := a1 _ _ (by omega) (by omega)
      refine G_aload0 x eX11_comesBack_51 ?_
      refine G_getq x eX11_comesBack_52 fX11_47 rfl rfl hM.m hM.o_refers ?_
      refine G_push x eX11_comesBack_55 ?_
      refine G_aload0 x eX11_comesBack_58 ?_
      refine G_getq x eX11_comesBack_59 fX11_60 rfl rfl hM.m hM.o_waiting ?_
      refine G_iload3 x eX11_comesBack_62 ?_
      refine G_iald x eX11_comesBack_63 rfl hM.t_waiting (by omega) (by omega) (by omega) (fun h63 => ?_)
      refine G_imul x eX11_comesBack_64 ?_
      refine G_aload0 x eX11_comesBack_65 ?_
      refine G_getq x eX11_comesBack_66 fX11_34 rfl rfl hM.m hM.o_formulas ?_
      refine G_iload4 x eX11_comesBack_69 ?_
      refine G_iald x eX11_comesBack_71 rfl hM.t_formulas (by omega) (by omega) (by omega) (fun h71 => ?_)
      rw [e9]
      refine G_iadd x eX11_comesBack_72 ?_
      refine G_zald x eX11_comesBack_73 rfl hM.t_refers (by omega) (by omega) (by omega) (fun h73 => ?_)
      rw [a1 _ _ (by omega) (by omega)]
      refine G_rg (fun hr => ?_)
      refine G_if_eq x eX11_comesBack_74 (by first | omega | exact hr _ _ | exact hr0 _ _ | exact hrS _) (fun c74 => ?_) (fun c74 => ?_)
      · refine G_iinc4 x eX11_comesBack_106 ?_
        refine G_goto x eX11_comesBack_109 ?_
        first | exact ih _ (by omega) _ _ _ _ rfl hV k0 k1 (by omega) (by omega) (fun i h i0 i1 i2 j0 j1 hA => by { by_cases e : h = g ∧ i = k; · { rw [e.1, e.2] at hA; first | exact absurd c74 hA | (rw [e.1]; omega) }; · exact hcl i h i0 i1 (by omega) j0 j1 hA }) kk | exact ih _ (by omega) _ _ _ _ rfl had.1 k0 (by omega) (by omega) (by omega) (fun i h i0 i1 i2 j0 j1 hA => by { rw [uI_k (by omega), uI_a (by omega)] at hA; rw [uI_a (by omega)]; by_cases e : h = g; · { rw [e, uI_s] }; · { rw [uI_k e]; exact hcl i h i0 i1 (by omega) j0 j1 hA } }) kk
      · refine G_aload0 x eX11_comesBack_77 ?_
        refine G_getq x eX11_comesBack_78 fX11_57 rfl rfl hM.m hM.o_met ?_
        refine G_iload4 x eX11_comesBack_81 ?_
        refine G_zald x eX11_comesBack_83 rfl hM.t_met (by omega) (by omega) (by omega) (fun h83 => ?_)
        have a5g : I1 (mo + 16) g = 0 ∨ I1 (mo + 16) g = 1 := (a5 g g0 (by omega)).imp (fun z => z) And.left
        refine G_if_ne x eX11_comesBack_84 (by first | omega | exact hr _ _ | exact hr0 _ _ | exact hrS _) (fun c84 => ?_) (fun c84 => ?_)
        · refine G_iinc4 x eX11_comesBack_106 ?_
          refine G_goto x eX11_comesBack_109 ?_
          first | exact ih _ (by omega) _ _ _ _ rfl hV k0 k1 (by omega) (by omega) (fun i h i0 i1 i2 j0 j1 hA => by { by_cases e : h = g ∧ i = k; · { rw [e.1, e.2] at hA; first | exact absurd c74 hA | (rw [e.1]; omega) }; · exact hcl i h i0 i1 (by omega) j0 j1 hA }) kk | exact ih _ (by omega) _ _ _ _ rfl had.1 k0 (by omega) (by omega) (by omega) (fun i h i0 i1 i2 j0 j1 hA => by { rw [uI_k (by omega), uI_a (by omega)] at hA; rw [uI_a (by omega)]; by_cases e : h = g; · { rw [e, uI_s] }; · { rw [uI_k e]; exact hcl i h i0 i1 (by omega) j0 j1 hA } }) kk
        · refine G_aload0 x eX11_comesBack_87 ?_
          refine G_getq x eX11_comesBack_88 fX11_57 rfl rfl hM.m hM.o_met ?_
          refine G_iload4 x eX11_comesBack_91 ?_
          refine G_push x eX11_comesBack_93 ?_
          refine G_zast x eX11_comesBack_94 rfl hM.t_met (by omega) (by omega) (by omega) (by first | omega | exact hr _ _ | exact hr0 _ _ | exact hrS _) ?_
          refine G_rg (fun hr => ?_)
          refine G_aload0 x eX11_comesBack_95 ?_
          refine G_getq x eX11_comesBack_96 fX11_60 rfl rfl hM.m hM.o_waiting ?_
          refine G_iload2 x eX11_comesBack_99 ?_
          refine G_iload4 x eX11_comesBack_100 ?_
          have hz9 : I1 (mo + 16) g = 0 := by omega
          have had := hV.add (k := k) g0 (by omega) hz9 k0 k1 c74
          have hn9 := had.2
          refine G_iast x eX11_comesBack_102 rfl hM.t_waiting (by omega) (by omega) (by omega) (by first | omega | exact hr _ _ | exact hr0 _ _ | exact hrS _) ?_
          refine G_rg (fun hr => ?_)
          refine G_iinc2 x eX11_comesBack_103 ?_
          refine G_iinc4 x eX11_comesBack_106 ?_
          refine G_goto x eX11_comesBack_109 ?_
          first | exact ih _ (by omega) _ _ _ _ rfl hV k0 k1 (by omega) (by omega) (fun i h i0 i1 i2 j0 j1 hA => by { by_cases e : h = g ∧ i = k; · { rw [e.1, e.2] at hA; first | exact absurd c74 hA | (rw [e.1]; omega) }; · exact hcl i h i0 i1 (by omega) j0 j1 hA }) kk | exact ih _ (by omega) _ _ _ _ rfl had.1 k0 (by omega) (by omega) (by omega) (fun i h i0 i1 i2 j0 j1 hA => by { rw [uI_k (by omega), uI_a (by omega)] at hA; rw [uI_a (by omega)]; by_cases e : h = g; · { rw [e, uI_s] }; · { rw [uI_k e]; exact hcl i h i0 i1 (by omega) j0 j1 hA } }) kk
  have outer : ∀ (d : Nat) (n k : Int) (I1 : gI) (o4 : Option Value), d = (200 - k).toNat → cbV I I1 mo f n → 0 ≤ k → k ≤ n → (∀ i h, 0 ≤ i → i < k → 0 ≤ h → h < I mo 16 → mA I mo (I1 (mo + 17) i) h → I1 (mo + 16) h = 1) → G X 34 [some (va_rf (some mo)), some (VI f), some (VI n), some (VI k), o4] [] T I1 J O 0 0 := by
    intro d
    induction d using Nat.strongRecOn with
    | ind d ih =>
    intro n k I1 o4 hd hV k0 k1 hcl
    have hn := hV.n h0
    obtain ⟨a1, a2, a3, a4, a5, a6⟩ := id hV
    have e9 : b01 (rch (mA I mo) (I mo 16) f f) = I1 (mo + 16) f ∨ k < n := by
      by_cases e : k < n
      · exact Or.inr e
      · refine Or.inl ?_
        rcases a5 f h2 h3 with z | z
        · rw [z, b01_f]
          intro hr9
          have := hr9 (fun g => 0 ≤ g ∧ g < I mo 16 ∧ I1 (mo + 16) g = 1) (fun h h0 h1 hA => ⟨h0, h1, hcl 0 h (by omega) (by omega) h0 h1 (by rw [a3]; exact hA)⟩) (fun h l h0 h1 l0 l1 hP hA => by
            rcases a5 h h0 h1 with y | ⟨y1, y2, i, i0, i1, i2⟩
            · have := hP.2.2; omega
            · exact ⟨l0, l1, hcl i l (by omega) (by omega) l0 l1 (by rw [i2]; exact hA)⟩)
          have := this.2.2
          omega
        · rw [z.1, b01_t z.2.1]
    have hf5 := a5 f h2 h3
    refine G_rg (fun hr => ?_)
    refine G_iload3 x eX11_comesBack_34 ?_
    refine G_iload2 x eX11_comesBack_35 ?_
    refine G_icmp_ge x eX11_comesBack_36 (by first | omega | exact hr _ _ | exact hr0 _ _ | exact hrS _) (by first | omega | exact hr _ _ | exact hr0 _ _ | exact hrS _) (fun c36 => ?_) (fun c36 => ?_)
    · refine G_aload0 x eX11_comesBack_118 ?_
      refine G_getq x eX11_comesBack_119 fX11_57 rfl rfl hM.m hM.o_met ?_
      refine G_iload1 x eX11_comesBack_122 ?_
      refine G_zald x eX11_comesBack_123 rfl hM.t_met (by omega) (by omega) (by omega) (fun h123 => ?_)
      refine G_zreturn x en eX11_comesBack_124 (by omega) (by omega) ?_ ?_
      · first | exact Or.inl rfl | exact Or.inr rfl | omega
      · exact ⟨rfl, rfl, rfl, a1, by rw [e9.resolve_right (by omega)]⟩
    · refine G_push x eX11_comesBack_39 ?_
      refine G_istore4 x eX11_comesBack_40 ?_
      exact inner _ _ _ _ _ rfl hV k0 (by omega) (by omega) (by omega) (fun i h i0 i1 i2 j0 j1 hA => hcl i h i0 (by omega) j0 j1 hA) (fun n I1 o4 y0 y1 y2 => ih _ (by omega) _ _ _ _ rfl y1 (by omega) (by omega) y2)
  have start : ∀ (d : Nat) (k : Int) (I1 : gI), d = (I mo 16 - k).toNat → 0 ≤ k → k ≤ I mo 16 → (∀ b j, b ≠ mo + 16 → I1 b j = I b j) → (∀ i, 0 ≤ i → i < k → I1 (mo + 16) i = 0) → G X 2 [some (va_rf (some mo)), some (VI f), some (VI k), none, none] [] T I1 J O 0 0 := by
    intro d
    induction d using Nat.strongRecOn with
    | ind d ih =>
    intro k I1 hd k0 k1 hf hz
    have e16 : I1 mo 16 = I mo 16 := hf _ _ (by omega)
    refine G_iload2 x eX11_comesBack_2 ?_
    refine G_aload0 x eX11_comesBack_3 ?_
    refine G_geti x eX11_comesBack_4 fX11_211 rfl rfl hM.m (fun h4 => ?_)
    rw [e16]
    refine G_rg (fun hr => ?_)
    refine G_icmp_ge x eX11_comesBack_7 (by first | omega | exact hr _ _ | exact hr0 _ _ | exact hrS _) (by first | omega | exact hr _ _ | exact hr0 _ _ | exact hrS _) (fun c7 => ?_) (fun c7 => ?_)
    · refine G_push x eX11_comesBack_23 ?_
      refine G_istore2 x eX11_comesBack_24 ?_
      refine G_aload0 x eX11_comesBack_25 ?_
      refine G_getq x eX11_comesBack_26 fX11_60 rfl rfl hM.m hM.o_waiting ?_
      refine G_push x eX11_comesBack_29 ?_
      refine G_iload1 x eX11_comesBack_30 ?_
      refine G_iast x eX11_comesBack_31 rfl hM.t_waiting (by omega) (by omega) (by omega) (by first | omega | exact hr _ _ | exact hr0 _ _ | exact hrS _) ?_
      refine G_rg (fun hr => ?_)
      refine G_push x eX11_comesBack_32 ?_
      refine G_istore3 x eX11_comesBack_33 ?_
      exact outer _ _ _ _ _ rfl ⟨fun b j b1 b2 => (by rw [uI_a b2]; exact hf b j b1), by omega, uI_s, fun i i0 i1 => ⟨by rw [show i = 0 by omega, uI_s]; exact h2, by rw [show i = 0 by omega, uI_s]; exact h3, fun _ => by omega⟩, fun g g0 g1 => Or.inl (by rw [uI_a (by omega)]; exact hz g g0 (by omega)), by rw [sm_0 _ (fun i i0 i1 => by rw [uI_a (by omega)]; exact hz i i0 (by omega))]; rfl⟩ (by omega) (by omega) (fun i h i0 i1 => by omega)
    · refine G_aload0 x eX11_comesBack_10 ?_
      refine G_getq x eX11_comesBack_11 fX11_57 rfl rfl hM.m hM.o_met ?_
      refine G_iload2 x eX11_comesBack_14 ?_
      refine G_push x eX11_comesBack_15 ?_
      refine G_zast x eX11_comesBack_16 rfl hM.t_met (by omega) (by omega) (by omega) (by first | omega | exact hr _ _ | exact hr0 _ _ | exact hrS _) ?_
      refine G_rg (fun hr => ?_)
      refine G_iinc2 x eX11_comesBack_17 ?_
      refine G_goto x eX11_comesBack_20 ?_
      exact ih _ (by omega) _ _ rfl (by omega) (by omega) (fun b j hb => by rw [uI_a hb]; exact hf b j hb) (fun i i0 i1 => by { by_cases e : i = k; · { rw [e, uI_s] }; · { rw [uI_k e]; exact hz i i0 (by omega) } })
  refine G_rg (fun hr => ?_)
  refine G_push x eX11_comesBack_0 ?_
  refine G_istore2 x eX11_comesBack_1 ?_
  exact start _ _ _ rfl (by omega) (by omega) (fun _ _ _ => rfl) (fun i i0 i1 => by omega)
/-- isReady: what it looks at -/
def rdy (A : Int → Int → Prop) (K : Int → Prop) (N f : Int) : Prop := ∀ g, 0 ≤ g → g < N → A f g → K g
set_option maxRecDepth 20000 in
theorem ct_X11_isReady {T : gT} {I : gI} {J : gJ} {O : gO} {mo : Nat} {f w : Int} (hM : MoAt T O mo) (h0 : 0 ≤ I mo 16) (h1 : I mo 16 ≤ 120) (h2 : 0 ≤ f) (h3 : f < I mo 16) (h4 : ∀ g, 0 ≤ g → g < I mo 16 → 0 ≤ I (mo + 9) g ∧ I (mo + 9) g < 144) (hw : w = 0 ∨ w = 1) : Ct yX11_isReady cX11_isReady 5 (some .boolean) [va_rf (some mo), VI f, VI w] 0 0 0 0 T I J O (pv (some (VI (b01 (rdy (mA I mo) (fun g => I (mo + 15) g ≠ 0 ∨ (w = 1 ∧ I (mo + 14) g ≠ 0)) (I mo 16) f)))) T I J O) := by
  refine Ct.of (by decide) [some (va_rf (some mo)), some (VI f), some (VI w), none, none] (gEn1 (List.forall_mem_cons.mpr ⟨cat_VR _, List.forall_mem_cons.mpr ⟨cat_VI _, List.forall_mem_cons.mpr ⟨cat_VI _, fun _ h => nomatch h⟩⟩⟩) rfl (Nat.le_of_ble_eq_true rfl) rfl) ?_
  intro X x en rm ini hr hz
  have hr0 := hr
  have loop : ∀ (d : Nat) (k z : Int), d = (I mo 16 - k).toNat → 0 ≤ k → k ≤ I mo 16 → z = b01 (∀ g, 0 ≤ g → g < k → mA I mo f g → I (mo + 15) g ≠ 0 ∨ (w = 1 ∧ I (mo + 14) g ≠ 0)) → G X 5 [some (va_rf (some mo)), some (VI f), some (VI w), some (VI z), some (VI k)] [] T I J O 0 0 := by
    intro d
    induction d using Nat.strongRecOn with
    | ind d ih =>
    intro k z hd k0 k1 hz
    have hzb : z = 0 ∨ z = 1 := hz ▸ b01_b
    have q9 := fun h => h4 k k0 h
    have ht : k < I mo 16 → z ≠ 0 → (mA I mo f k → I (mo + 15) k ≠ 0 ∨ (w = 1 ∧ I (mo + 14) k ≠ 0)) → G X 5 [some (va_rf (some mo)), some (VI f), some (VI w), some (VI 1), some (VI (k + 1))] [] T I J O 0 0 := fun hk z1 z2 => by
      refine ih _ (by omega) _ _ rfl (by omega) (by omega) (b01_t ?_).symm
      intro g g0 g1
      by_cases e : g = k
      · rw [e]; exact z2
      · exact b01_1.mp (hz.symm.trans (by omega : z = 1)) g g0 (by omega)
    have hf : k < I mo 16 → (z = 0 ∨ (mA I mo f k ∧ ¬ (I (mo + 15) k ≠ 0 ∨ (w = 1 ∧ I (mo + 14) k ≠ 0)))) → G X 5 [some (va_rf (some mo)), some (VI f), some (VI w), some (VI 0), some (VI (k + 1))] [] T I J O 0 0 := fun hk z1 => by
      refine ih _ (by omega) _ _ rfl (by omega) (by omega) (b01_f ?_).symm
      intro hg
      rcases z1 with z1 | z1
      · rw [z1] at hz
        have := b01_t (p := ∀ g, 0 ≤ g → g < k → mA I mo f g → I (mo + 15) g ≠ 0 ∨ (w = 1 ∧ I (mo + 14) g ≠ 0)) (fun g g0 g1 => hg g g0 (by omega))
        omega
      · exact z1.2 (hg k k0 (by omega) z1.1)
    refine G_rg (fun hr => ?_)
    refine G_iload4 x eX11_isReady_5 ?_
    refine G_aload0 x eX11_isReady_7 ?_
    refine G_geti x eX11_isReady_8 fX11_211 rfl rfl hM.m (fun h8 => ?_)
    refine G_icmp_ge x eX11_isReady_11 (by first | omega | exact hr _ _ | exact hr0 _ _ | exact hrS _) (by first | omega | exact hr _ _ | exact hr0 _ _ | exact hrS _) (fun c11 => ?_) (fun c11 => ?_)
    · refine G_iload3 x eX11_isReady_75 ?_
      refine G_zreturn x en eX11_isReady_76 (by omega) (by omega) ?_ ?_
      · first | exact Or.inl rfl | exact Or.inr rfl | omega
      · rw [hz, show k = I mo 16 by omega]; exact pv_i
    · refine G_iload3 x eX11_isReady_14 ?_
      refine G_if_eq x eX11_isReady_15 (by first | omega | exact hr _ _ | exact hr0 _ _ | exact hrS _) (fun c15 => ?_) (fun c15 => ?_)
      · refine G_push x eX11_isReady_67 ?_
        refine G_istore3 x eX11_isReady_68 ?_
        refine G_iinc4 x eX11_isReady_69 ?_
        refine G_goto x eX11_isReady_72 ?_
        first | exact ht (by omega) (by omega) (fun hA => absurd c36 hA) | exact ht (by omega) (by omega) (fun _ => by omega) | exact hf (by omega) (Or.inl (by omega)) | exact hf (by omega) (Or.inr ⟨c36, by omega⟩)
      · refine G_aload0 x eX11_isReady_18 ?_
        refine G_getq x eX11_isReady_19 fX11_47 rfl rfl hM.m hM.o_refers ?_
        refine G_push x eX11_isReady_22 ?_
        refine G_iload1 x eX11_isReady_25 ?_
        refine G_imul x eX11_isReady_26 ?_
        refine G_aload0 x eX11_isReady_27 ?_
        refine G_getq x eX11_isReady_28 fX11_34 rfl rfl hM.m hM.o_formulas ?_
        refine G_iload4 x eX11_isReady_31 ?_
        have q8 := q9 (by omega)
        refine G_iald x eX11_isReady_33 rfl hM.t_formulas (by omega) (by omega) (by omega) (fun h33 => ?_)
        refine G_iadd x eX11_isReady_34 ?_
        refine G_zald x eX11_isReady_35 rfl hM.t_refers (by omega) (by omega) (by omega) (fun h35 => ?_)
        refine G_if_eq x eX11_isReady_36 (by first | omega | exact hr _ _ | exact hr0 _ _ | exact hrS _) (fun c36 => ?_) (fun c36 => ?_)
        · refine G_push x eX11_isReady_63 ?_
          refine G_goto x eX11_isReady_64 ?_
          refine G_istore3 x eX11_isReady_68 ?_
          refine G_iinc4 x eX11_isReady_69 ?_
          refine G_goto x eX11_isReady_72 ?_
          first | exact ht (by omega) (by omega) (fun hA => absurd c36 hA) | exact ht (by omega) (by omega) (fun _ => by omega) | exact hf (by omega) (Or.inl (by omega)) | exact hf (by omega) (Or.inr ⟨c36, by omega⟩)
        · refine G_aload0 x eX11_isReady_39 ?_
          refine G_getq x eX11_isReady_40 fX11_54 rfl rfl hM.m hM.o_known ?_
          refine G_iload4 x eX11_isReady_43 ?_
          refine G_zald x eX11_isReady_45 rfl hM.t_known (by omega) (by omega) (by omega) (fun h45 => ?_)
          refine G_if_ne x eX11_isReady_46 (by first | omega | exact hr _ _ | exact hr0 _ _ | exact hrS _) (fun c46 => ?_) (fun c46 => ?_)
          · refine G_push x eX11_isReady_63 ?_
            refine G_goto x eX11_isReady_64 ?_
            refine G_istore3 x eX11_isReady_68 ?_
            refine G_iinc4 x eX11_isReady_69 ?_
            refine G_goto x eX11_isReady_72 ?_
            first | exact ht (by omega) (by omega) (fun hA => absurd c36 hA) | exact ht (by omega) (by omega) (fun _ => by omega) | exact hf (by omega) (Or.inl (by omega)) | exact hf (by omega) (Or.inr ⟨c36, by omega⟩)
          · refine G_iload2 x eX11_isReady_49 ?_
            refine G_if_eq x eX11_isReady_50 (by first | omega | exact hr _ _ | exact hr0 _ _ | exact hrS _) (fun c50 => ?_) (fun c50 => ?_)
            · refine G_push x eX11_isReady_67 ?_
              refine G_istore3 x eX11_isReady_68 ?_
              refine G_iinc4 x eX11_isReady_69 ?_
              refine G_goto x eX11_isReady_72 ?_
              first | exact ht (by omega) (by omega) (fun hA => absurd c36 hA) | exact ht (by omega) (by omega) (fun _ => by omega) | exact hf (by omega) (Or.inl (by omega)) | exact hf (by omega) (Or.inr ⟨c36, by omega⟩)
            · refine G_aload0 x eX11_isReady_53 ?_
              refine G_getq x eX11_isReady_54 fX11_51 rfl rfl hM.m hM.o_cyclic ?_
              refine G_iload4 x eX11_isReady_57 ?_
              refine G_zald x eX11_isReady_59 rfl hM.t_cyclic (by omega) (by omega) (by omega) (fun h59 => ?_)
              refine G_if_eq x eX11_isReady_60 (by first | omega | exact hr _ _ | exact hr0 _ _ | exact hrS _) (fun c60 => ?_) (fun c60 => ?_)
              · refine G_push x eX11_isReady_67 ?_
                refine G_istore3 x eX11_isReady_68 ?_
                refine G_iinc4 x eX11_isReady_69 ?_
                refine G_goto x eX11_isReady_72 ?_
                first | exact ht (by omega) (by omega) (fun hA => absurd c36 hA) | exact ht (by omega) (by omega) (fun _ => by omega) | exact hf (by omega) (Or.inl (by omega)) | exact hf (by omega) (Or.inr ⟨c36, by omega⟩)
              · refine G_push x eX11_isReady_63 ?_
                refine G_goto x eX11_isReady_64 ?_
                refine G_istore3 x eX11_isReady_68 ?_
                refine G_iinc4 x eX11_isReady_69 ?_
                refine G_goto x eX11_isReady_72 ?_
                first | exact ht (by omega) (by omega) (fun hA => absurd c36 hA) | exact ht (by omega) (by omega) (fun _ => by omega) | exact hf (by omega) (Or.inl (by omega)) | exact hf (by omega) (Or.inr ⟨c36, by omega⟩)
  refine G_rg (fun hr => ?_)
  refine G_push x eX11_isReady_0 ?_
  refine G_istore3 x eX11_isReady_1 ?_
  refine G_push x eX11_isReady_2 ?_
  refine G_istore4 x eX11_isReady_3 ?_
  exact loop _ _ _ rfl (by omega) (by omega) (b01_t (fun g g0 g1 => by omega)).symm
