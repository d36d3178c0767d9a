/-! the order of calculation -/
def oDn (g : Int → Int) (k c : Int) : Prop := ∃ i, 0 ≤ i ∧ i < k ∧ g i = c
def oRd (S : Int → Int) (r : Int) (g : Int → Int) (k c : Int) : Prop := isFm S r c ∧ ¬ cyS S r c ∧ ¬ oDn g k c ∧ ∀ d, rfC S r c d → oDn g k d
def OrP (S : Int → Int) (r : Int) (g : Int → Int) (n : Int) : Prop := 0 ≤ n ∧ ∀ k, 0 ≤ k → k < n → oRd S r g k (g k) ∧ ∀ c, oRd S r g k c → g k ≤ c
def Ord (S : Int → Int) (r : Int) (g : Int → Int) (n : Int) : Prop := OrP S r g n ∧ ∀ c, ¬ oRd S r g n c
theorem oDn_c {g g' : Int → Int} {k c : Int} (h : ∀ i, 0 ≤ i → i < k → g i = g' i) : oDn g k c ↔ oDn g' k c := ⟨fun ⟨i, a, b, e⟩ => ⟨i, a, b, by rw [← h i a b]; exact e⟩, fun ⟨i, a, b, e⟩ => ⟨i, a, b, by rw [h i a b]; exact e⟩⟩
theorem oRd_c {S : Int → Int} {r : Int} {g g' : Int → Int} {k c : Int} (h : ∀ i, 0 ≤ i → i < k → g i = g' i) : oRd S r g k c ↔ oRd S r g' k c := by
  unfold oRd
  simp only [oDn_c h]
theorem Ord.u {S : Int → Int} {r : Int} {g g' : Int → Int} {n n' : Int} (h : Ord S r g n) (h' : Ord S r g' n') : n = n' ∧ ∀ i, 0 ≤ i → i < n → g i = g' i := by
  have key : ∀ k : Nat, ((k : Int) ≤ n → (k : Int) ≤ n' → ∀ i, 0 ≤ i → i < (k : Int) → g i = g' i) := by
    intro k
    induction k with
    | zero => intro _ _ i a b; omega
    | succ k ih =>
      intro k1 k2 i a b
      have ih := ih (by omega) (by omega)
      by_cases e : i = k
      · subst e
        have p := h.1.2 k (by omega) (by omega)
        have q := h'.1.2 k (by omega) (by omega)
        have x := p.2 (g' k) ((oRd_c ih).mpr q.1)
        have y := q.2 (g k) ((oRd_c ih).mp p.1)
        omega
      · exact ih i a (by omega)
  have n0 := h.1.1
  have n0' := h'.1.1
  rcases (by omega : n < n' ∨ n = n' ∨ n' < n) with q | q | q
  · have e := key n.toNat (by omega) (by omega)
    have p := (h'.1.2 n n0 q).1
    exact absurd ((oRd_c (fun i a b => e i a (by omega))).mpr p) (h.2 _)
  · exact ⟨q, fun i a b => key n.toNat (by omega) (by omega) i a (by omega)⟩
  · have e := key n'.toNat (by omega) (by omega)
    have p := (h.1.2 n' n0' q).1
    exact absurd ((oRd_c (fun i a b => e i a (by omega))).mp p) (h'.2 _)
noncomputable def orS (S : Int → Int) (r : Int) : (Int → Int) × Int := Classical.epsilon (fun p => Ord S r p.1 p.2)
theorem or_eq {S : Int → Int} {r n : Int} {g : Int → Int} (h : Ord S r g n) : n = (orS S r).2 ∧ ∀ i, 0 ≤ i → i < n → g i = (orS S r).1 i := Ord.u h (Classical.epsilon_spec (p := fun p : (Int → Int) × Int => Ord S r p.1 p.2) ⟨(g, n), h⟩)
abbrev told9 (c : Int) : Int := 100 * (c / 12) + c % 12
/-- orders, under way -/
def oIv (I I1 : gI) (mo : Nat) (S : Int → Int) (r : Int) (g : Int → Int) (n : Int) : Prop := (∀ b j, b ≠ mo + 15 → b ≠ mo + 18 → I1 b j = I b j) ∧ OrP S r g n ∧ (∀ f, 0 ≤ f → f < I mo 16 → (I1 (mo + 15) f = 0 ∧ ¬ oDn g n (I (mo + 9) f)) ∨ (I1 (mo + 15) f = 1 ∧ oDn g n (I (mo + 9) f))) ∧ (∀ k, 0 ≤ k → k < n → I1 (mo + 18) k = told9 (g k)) ∧ sm (I1 (mo + 15)) (I mo 16).toNat = n
theorem oIv.add {I I1 : gI} {mo : Nat} {S : Int → Int} {r : Int} {g : Int → Int} {n f : Int} (h : oIv I I1 mo S r g n) (hA : gvA I mo S r) (f0 : 0 ≤ f) (f1 : f < I mo 16) (hz : I1 (mo + 15) f = 0) (hr : oRd S r g n (I (mo + 9) f)) (hl : ∀ c, oRd S r g n c → I (mo + 9) f ≤ c) :
    oIv I (uI (uI I1 (mo + 15) f 1) (mo + 18) n (told9 (I (mo + 9) f))) mo S r (fun i => if i = n then I (mo + 9) f else g i) (n + 1) ∧ n < I mo 16 := by
  obtain ⟨h1, h2, h3, h4, h5⟩ := h
  have n0 := h2.1
  have e15 : ∀ j, (uI (uI I1 (mo + 15) f 1) (mo + 18) n (told9 (I (mo + 9) f))) (mo + 15) j = if j = f then 1 else I1 (mo + 15) j := fun j => by
    rw [uI_a (by omega)]
    by_cases e : j = f
    · rw [if_pos e, e, uI_s]
    · rw [if_neg e, uI_k e]
  have eg : ∀ i, 0 ≤ i → i < n → g i = (fun i => if i = n then I (mo + 9) f else g i) i := fun i a b => by show _ = if i = n then _ else _; rw [if_neg (by omega)]
  have en : (fun i => if i = n then I (mo + 9) f else g i) n = I (mo + 9) f := if_pos rfl
  have hdn : ∀ c, oDn (fun i => if i = n then I (mo + 9) f else g i) (n + 1) c ↔ oDn g n c ∨ c = I (mo + 9) f := fun c => by
    constructor
    · rintro ⟨i, a, b, e⟩
      by_cases ei : i = n
      · rw [ei, en] at e; exact Or.inr e.symm
      · exact Or.inl ⟨i, a, by omega, by rw [eg i a (by omega)]; exact e⟩
    · rintro (⟨i, a, b, e⟩ | e)
      · exact ⟨i, a, by omega, by rw [← eg i a b]; exact e⟩
      · exact ⟨n, n0, by omega, by rw [en]; exact e.symm⟩
  have hs : sm ((uI (uI I1 (mo + 15) f 1) (mo + 18) n (told9 (I (mo + 9) f))) (mo + 15)) (I mo 16).toNat = n + 1 := by
    rw [funext e15, sm_u _ f0 (by omega), h5, hz]
    omega
  refine ⟨⟨fun b j b1 b2 => by rw [uI_a b2, uI_a b1]; exact h1 b j b1 b2, ⟨by omega, fun k k0 k1 => ?_⟩, fun f' a b => ?_, fun k k0 k1 => ?_, hs⟩, ?_⟩
  · by_cases e : k = n
    · subst e
      rw [en]
      exact ⟨(oRd_c eg).mp hr, fun c hc => hl c ((oRd_c eg).mpr hc)⟩
    · have q := h2.2 k k0 (by omega)
      have egk : ∀ i, 0 ≤ i → i < k → g i = (fun i => if i = n then I (mo + 9) f else g i) i := fun i a b => eg i a (by omega)
      rw [← eg k k0 (by omega)]
      exact ⟨(oRd_c egk).mp q.1, fun c hc => q.2 c ((oRd_c egk).mpr hc)⟩
  · rw [e15]
    by_cases e : f' = f
    · subst e
      rw [if_pos rfl]
      exact Or.inr ⟨rfl, (hdn _).mpr (Or.inr rfl)⟩
    · rw [if_neg e]
      rcases h3 f' a b with q | q
      · refine Or.inl ⟨q.1, fun z => ?_⟩
        rcases (hdn _).mp z with y | y
        · exact q.2 y
        · exact e (hA.inj a b f0 f1 y)
      · exact Or.inr ⟨q.1, (hdn _).mpr (Or.inl q.2)⟩
  · by_cases e : k = n
    · subst e
      rw [uI_s, en]
    · rw [uI_k e, uI_a (by omega), ← eg k k0 (by omega)]
      exact h4 k k0 (by omega)
  · have := (sm_b (m := (uI (uI I1 (mo + 15) f 1) (mo + 18) n (told9 (I (mo + 9) f))) (mo + 15)) (I mo 16).toNat (fun i a b => by
      rw [e15]
      by_cases e : i = f
      · rw [if_pos e]; exact Or.inr rfl
      · rw [if_neg e]
        rcases h3 i a (by omega) with q | q
        · exact Or.inl q.1
        · exact Or.inr q.1)).2
    omega
theorem oIv.n {I I1 : gI} {mo : Nat} {S : Int → Int} {r : Int} {g : Int → Int} {n : Int} (h : oIv I I1 mo S r g n) (h0 : 0 ≤ I mo 16) : 0 ≤ n ∧ n ≤ I mo 16 := by
  have := (sm_b (m := I1 (mo + 15)) (I mo 16).toNat (fun i a b => by
    rcases h.2.2.1 i a (by omega) with q | q
    · exact Or.inl q.1
    · exact Or.inr q.1)).2
  have := h.2.2.2.2
  exact ⟨h.2.1.1, by omega⟩
theorem oIv.A {I I1 : gI} {mo : Nat} {S : Int → Int} {r : Int} {g : Int → Int} {n : Int} (h : oIv I I1 mo S r g n) (hA : gvA I mo S r) : gvA I1 mo S r := hA.c (fun b j q => h.1 b j (by omega) (by omega))
theorem oIv.kn {I I1 : gI} {mo : Nat} {S : Int → Int} {r : Int} {g : Int → Int} {n d : Int} (h : oIv I I1 mo S r g n) (hA : gvA I mo S r) (hd : isFm S r d) : Kn I1 mo d ↔ oDn g n d := by
  have e16 : I1 mo 16 = I mo 16 := h.1 _ _ (by omega) (by omega)
  have e9 : ∀ j, I1 (mo + 9) j = I (mo + 9) j := fun j => h.1 _ _ (by omega) (by omega)
  constructor
  · rintro ⟨i, a, b, c, e⟩
    rw [e16] at b
    rw [e9] at c
    rcases h.2.2.1 i a b with q | q
    · omega
    · rw [← c]; exact q.2
  · intro z
    obtain ⟨i, a, b, c⟩ := hA.2.1.2.2.2.2 d hd.1.1 hd.1.b.2 hd
    refine ⟨i, a, by rw [e16]; exact b, by rw [e9]; exact c, ?_⟩
    rcases h.2.2.1 i a b with q | q
    · rw [c] at q; exact absurd z q.2
    · exact q.1
def odP (T : gT) (I : gI) (J : gJ) (O : gO) (mo : Nat) (S : Int → Int) (r : Int) : gP := fun v T' I' J' O' => T' = T ∧ J' = J ∧ O' = O ∧ (∀ b j, b ≠ mo + 15 → b ≠ mo + 18 → I' b j = I b j) ∧ v = some (VI (orS S r).2) ∧ (0 ≤ (orS S r).2 ∧ (orS S r).2 ≤ 120) ∧ ∀ k, 0 ≤ k → k < (orS S r).2 → I' (mo + 18) k = told9 ((orS S r).1 k)
set_option maxHeartbeats 8000000 in
set_option maxRecDepth 20000 in
theorem ct_X11_orders {T : gT} {I : gI} {J : gJ} {O : gO} {mo : Nat} {S : Int → Int} {r : Int} (hM : MoAt T O mo) (hA : gvA I mo S r) (hn : I mo 16 ≤ 120) : Ct yX11_orders cX11_orders 4 (some .int) [va_rf (some mo)] 1 24 0 0 T I J O (odP T I J O mo S r) := by
  refine Ct.of (by decide) [some (va_rf (some mo)), none, none, none] (gEn1 (List.forall_mem_cons.mpr ⟨cat_VR _, fun _ h => nomatch h⟩) rfl (Nat.le_of_ble_eq_true rfl) rfl) ?_
  intro X x en rm ini hr hz
  have hr0 := hr
  have hn0 := hA.2.1.1
  have hbF : ∀ g, 0 ≤ g → g < I mo 16 → 0 ≤ I (mo + 9) g ∧ I (mo + 9) g < 144 := fun g a b => ⟨(hA.2.1.2.2.2.1 g a b).1, (hA.2.1.2.2.2.1 g a b).2.1⟩
  have inner : ∀ (d : Nat) (f n : Int) (g : Int → Int) (I1 : gI), d = (I mo 16 - f).toNat → 0 ≤ f → f ≤ I mo 16 → oIv I I1 mo S r g n → (∀ i, 0 ≤ i → i < f → ¬ oRd S r g n (I (mo + 9) i)) →
      (∀ (o3 : Option Value), (∀ c, ¬ oRd S r g n c) → G X 27 [some (va_rf (some mo)), some (VI n), some (VI 0), o3] [] T I1 J O 0 0) →
      (∀ (g : Int → Int) (I1 : gI) (o3 : Option Value), n < I mo 16 → oIv I I1 mo S r g (n + 1) → G X 27 [some (va_rf (some mo)), some (VI (n + 1)), some (VI 1), o3] [] T I1 J O 0 0) →
      G X 35 [some (va_rf (some mo)), some (VI n), some (VI 0), some (VI f)] [] T I1 J O 0 0 := by
    intro d
    induction d using Nat.strongRecOn with
    | ind d ih =>
    intro f n g I1 hd f0 f1 hV hno k0 k1
    have e16 : I1 mo 16 = I mo 16 := hV.1 _ _ (by omega) (by omega)
    have hnb := hV.n hn0
    refine G_iload3 x eX11_orders_35 ?_
    refine G_aload0 x eX11_orders_36 ?_
    refine G_geti x eX11_orders_37 fX11_211 rfl rfl hM.m (fun h37 => ?_)
    rw [e16]
    refine G_icmp_ge x eX11_orders_40 (by first | omega | exact hr _ _ | exact hr0 _ _ | exact hrS _) (by first | omega | exact hr _ _ | exact hr0 _ _ | exact hrS _) (fun c40 => ?_) (fun c40 => ?_)
    · refine G_rg (fun hr => ?_)
      refine G_goto x eX11_orders_120 ?_
      exact k0 _ (fun c hc => by obtain ⟨i, a, b, e⟩ := hA.2.1.2.2.2.2 c hc.1.1.1 hc.1.1.b.2 hc.1; rw [← e] at hc; exact hno i a (by omega) hc)
    · have e9 : I1 (mo + 9) f = I (mo + 9) f := hV.1 _ _ (by omega) (by omega)
      have hcy : I1 (mo + 14) f = b01 (cyS S r (I (mo + 9) f)) := by rw [hV.1 _ _ (by omega) (by omega)]; exact hA.2.2.2.2 f f0 (by omega)
      have hA1 := hV.A hA
      have hkb := hV.2.2.1 f f0 (by omega)
      have hkb2 : I1 (mo + 15) f = 0 ∨ I1 (mo + 15) f = 1 := hkb.imp And.left And.left
      have qf := (hA.2.1.2.2.2.1 f f0 (by omega)).2.2
      have hb9 := hbF f f0 (by omega)
      have skip : ¬ oRd S r g n (I (mo + 9) f) → G X 35 [some (va_rf (some mo)), some (VI n), some (VI 0), some (VI (f + 1))] [] T I1 J O 0 0 := fun z => ih _ (by omega) _ _ _ _ rfl (by omega) (by omega) hV (fun i a b => by
        by_cases e : i = f
        · subst e; exact z
        · exact hno i a (by omega)) k0 k1
      refine G_iload2 x eX11_orders_43 ?_
      refine G_if_ne x eX11_orders_44 (by first | omega | exact hr _ _ | exact hr0 _ _ | exact hrS _) (fun c44 => ?_) (fun c44 => ?_)
      · omega
      refine G_aload0 x eX11_orders_47 ?_
      refine G_getq x eX11_orders_48 fX11_54 rfl rfl hM.m hM.o_known ?_
      refine G_iload3 x eX11_orders_51 ?_
      refine G_zald x eX11_orders_52 rfl hM.t_known (by omega) (by omega) (by omega) (fun h52 => ?_)
      refine G_if_ne x eX11_orders_53 (by first | omega | exact hr _ _ | exact hr0 _ _ | exact hrS _) (fun c53 => ?_) (fun c53 => ?_)
      · refine G_rg (fun hr => ?_)
        refine G_iinc3 x eX11_orders_114 ?_
        refine G_goto x eX11_orders_117 ?_
        exact skip (fun z => by rcases hkb with q | q; exact c53 q.1; exact z.2.2.1 q.2)
      · have hnd : ¬ oDn g n (I (mo + 9) f) := by rcases hkb with q | q; exact q.2; omega
        refine G_aload0 x eX11_orders_56 ?_
        refine G_getq x eX11_orders_57 fX11_51 rfl rfl hM.m hM.o_cyclic ?_
        refine G_iload3 x eX11_orders_60 ?_
        refine G_zald x eX11_orders_61 rfl hM.t_cyclic (by omega) (by omega) (by omega) (fun h61 => ?_)
        rw [hcy]
        refine G_if_ne x eX11_orders_62 (by have := b01_b (p := cyS S r (I (mo + 9) f)); omega) (fun c62 => ?_) (fun c62 => ?_)
        · have hc : cyS S r (I (mo + 9) f) := Classical.byContradiction fun z => c62 (b01_f z)
          refine G_rg (fun hr => ?_)
          refine G_iinc3 x eX11_orders_114 ?_
          refine G_goto x eX11_orders_117 ?_
          exact skip (fun z => z.2.1 hc)
        · have hc : ¬ cyS S r (I (mo + 9) f) := fun z => by rw [b01_t z] at c62; omega
          have hrd := hA1.rdy (w := 0) (fun g a b => (hV.2.2.1 g a (by omega)).imp And.left And.left) f0 (by omega)
          rw [e9] at hrd
          have hrd2 : (∀ d, rfC S r (I (mo + 9) f) d → ((0 : Int) = 1 ∧ cyS S r d) ∨ Kn I1 mo d) ↔ oRd S r g n (I (mo + 9) f) := ⟨fun z => ⟨qf, hc, hnd, fun d hd => (hV.kn hA hd.2.1).mp ((z d hd).resolve_left (fun y => by omega))⟩, fun z d hd => Or.inr ((hV.kn hA hd.2.1).mpr (z.2.2.2 d hd))⟩
          refine G_aload0 x eX11_orders_65 ?_
          refine G_iload3 x eX11_orders_66 ?_
          refine G_push x eX11_orders_67 ?_
          refine G_cV x eX11_orders_68 kX11_226 im_yX11_isReady se_yX11_isReady rm hM.m (ct_X11_isReady hM (by omega) (by omega) (by omega) (by omega) (fun g g0 g1 => by rw [hV.1 _ _ (by omega) (by omega)]; exact hbF g g0 (by omega)) (Or.inl rfl)) rfl ?_
          rw [b01_e (hrd.trans hrd2)]
          refine G_if_eq x eX11_orders_71 (by have := b01_b (p := oRd S r g n (I (mo + 9) f)); omega) (fun c71 => ?_) (fun c71 => ?_)
          · refine G_rg (fun hr => ?_)
            refine G_iinc3 x eX11_orders_114 ?_
            refine G_goto x eX11_orders_117 ?_
            exact skip (fun z => by rw [b01_t z] at c71; omega)
          · have hry : oRd S r g n (I (mo + 9) f) := Classical.byContradiction fun z => c71 (b01_f z)
            have had := hV.add hA f0 (by omega) (by omega) hry (fun c hc => by
              obtain ⟨i, a, b, e⟩ := hA.2.1.2.2.2.2 c hc.1.1.1 hc.1.1.b.2 hc.1
              rw [← e] at hc ⊢
              by_cases q : i < f
              · exact absurd hc (hno i a q)
              · by_cases q2 : i = f
                · rw [q2]; exact Int.le_refl _
                · have := hA.2.1.lt f0 (by omega : f < i) b
                  omega)
            have hn9 := had.2
            refine G_aload0 x eX11_orders_74 ?_
            refine G_getq x eX11_orders_75 fX11_54 rfl rfl hM.m hM.o_known ?_
            refine G_iload3 x eX11_orders_78 ?_
            refine G_push x eX11_orders_79 ?_
            refine G_zast x eX11_orders_80 rfl hM.t_known (by omega) (by omega) (by omega) (by first | omega | exact hr _ _ | exact hr0 _ _ | exact hrS _) ?_
            refine G_rg (fun hr => ?_)
            refine G_aload0 x eX11_orders_81 ?_
            refine G_getq x eX11_orders_82 fX11_63 rfl rfl hM.m hM.o_ordered ?_
            refine G_iload1 x eX11_orders_85 ?_
            refine G_push x eX11_orders_86 ?_
            refine G_aload0 x eX11_orders_88 ?_
            refine G_getq x eX11_orders_89 fX11_34 rfl rfl hM.m hM.o_formulas ?_
            refine G_iload3 x eX11_orders_92 ?_
            refine G_iald x eX11_orders_93 rfl hM.t_formulas (by omega) (by omega) (by omega) (fun h93 => ?_)
            rw [uI_a (by omega), e9]
            refine G_push x eX11_orders_94 ?_
            refine G_idivn x eX11_orders_96 (by omega) (by omega) (by omega) (by omega) ?_
            refine G_imul x eX11_orders_97 ?_
            refine G_aload0 x eX11_orders_98 ?_
            refine G_getq x eX11_orders_99 fX11_34 rfl rfl hM.m hM.o_formulas ?_
            refine G_iload3 x eX11_orders_102 ?_
            refine G_iald x eX11_orders_103 rfl hM.t_formulas (by omega) (by omega) (by omega) (fun h103 => ?_)
            rw [uI_a (by omega), e9]
            refine G_push x eX11_orders_104 ?_
            refine G_iremn x eX11_orders_106 (by omega) (by omega) (by omega) (by omega) ?_
            refine G_iadd x eX11_orders_107 ?_
            refine G_iast x eX11_orders_108 rfl hM.t_ordered (by omega) (by omega) (by omega) (by first | omega | exact hr _ _ | exact hr0 _ _ | exact hrS _) ?_
            refine G_rg (fun hr => ?_)
            refine G_rg (fun hr => ?_)
            refine G_iinc1 x eX11_orders_109 ?_
            refine G_push x eX11_orders_112 ?_
            refine G_istore2 x eX11_orders_113 ?_
            refine G_iinc3 x eX11_orders_114 ?_
            refine G_goto x eX11_orders_117 ?_
            refine G_iload3 x eX11_orders_35 ?_
            refine G_aload0 x eX11_orders_36 ?_
            refine G_geti x eX11_orders_37 fX11_211 rfl rfl hM.m (fun h37 => ?_)
            refine G_icmp_ge x eX11_orders_40 (by first | omega | exact hr _ _ | exact hr0 _ _ | exact hrS _) (by first | omega | exact hr _ _ | exact hr0 _ _ | exact hrS _) (fun c40 => ?_) (fun c40 => ?_)
            · refine G_goto x eX11_orders_120 ?_
              exact k1 _ _ _ hn9 had.1
            · refine G_iload2 x eX11_orders_43 ?_
              refine G_if_ne x eX11_orders_44 (by first | omega | exact hr _ _ | exact hr0 _ _ | exact hrS _) (fun c44 => ?_) (fun c44 => ?_)
              · refine G_goto x eX11_orders_120 ?_
                exact k1 _ _ _ hn9 had.1
              · omega
  have outer : ∀ (d : Nat) (n more : Int) (g : Int → Int) (I1 : gI) (o3 : Option Value), d = (I mo 16 - n).toNat → (more = 1 ∨ more = 0 ∧ ∀ c, ¬ oRd S r g n c) → oIv I I1 mo S r g n → G X 27 [some (va_rf (some mo)), some (VI n), some (VI more), o3] [] T I1 J O 0 0 := by
    intro d
    induction d using Nat.strongRecOn with
    | ind d ih =>
    intro n more g I1 o3 hd hm hV
    have hnb := hV.n hn0
    have fin : (∀ c, ¬ oRd S r g n c) → odP T I J O mo S r (some (VI n)) T I1 J O := fun z => by
      have e := or_eq (show Ord S r g n from ⟨hV.2.1, z⟩)
      refine ⟨rfl, rfl, rfl, hV.1, by rw [e.1], by rw [← e.1]; omega, fun k k0 k1 => ?_⟩
      rw [← e.1] at k1
      rw [hV.2.2.2.1 k k0 k1, e.2 k k0 k1]
    have stop : ∀ o3, (∀ c, ¬ oRd S r g n c) → G X 27 [some (va_rf (some mo)), some (VI n), some (VI 0), o3] [] T I1 J O 0 0 := by
      intro o3 z
      refine G_rg (fun hr => ?_)
      refine G_iload2 x eX11_orders_27 ?_
      refine G_if_eq x eX11_orders_28 (by first | omega | exact hr _ _ | exact hr0 _ _ | exact hrS _) (fun c28 => ?_) (fun c28 => ?_)
      · refine G_iload1 x eX11_orders_123 ?_
        refine G_ireturn x en eX11_orders_124 (by omega) (by omega) ?_
        exact fin z
      · omega
    rcases hm with hm | hm
    · subst hm
      refine G_rg (fun hr => ?_)
      refine G_iload2 x eX11_orders_27 ?_
      refine G_if_eq x eX11_orders_28 (by first | omega | exact hr _ _ | exact hr0 _ _ | exact hrS _) (fun c28 => ?_) (fun c28 => ?_)
      · omega
      · refine G_push x eX11_orders_31 ?_
        refine G_istore2 x eX11_orders_32 ?_
        refine G_push x eX11_orders_33 ?_
        refine G_istore3 x eX11_orders_34 ?_
        exact inner _ _ _ _ _ rfl (by omega) (by omega) hV (fun i a b => by omega) stop (fun g I1 o3 hlt h => ih _ (by omega) _ _ _ _ _ rfl (Or.inl rfl) h)
    · obtain ⟨hm, hz⟩ := hm
      subst hm
      exact stop _ hz
  have start : ∀ (d : Nat) (k : Int) (I1 : gI), d = (I mo 16 - k).toNat → 0 ≤ k → k ≤ I mo 16 → (∀ b j, b ≠ mo + 15 → I1 b j = I b j) → (∀ i, 0 ≤ i → i < k → I1 (mo + 15) i = 0) → G X 2 [some (va_rf (some mo)), some (VI k), none, none] [] T I1 J O 0 0 := by
    intro d
    induction d using Nat.strongRecOn with
    | ind d ih =>
    intro k I1 hd k0 k1 hf hz
    have e16 : I1 mo 16 = I mo 16 := hf _ _ (by omega)
    refine G_iload1 x eX11_orders_2 ?_
    refine G_aload0 x eX11_orders_3 ?_
    refine G_geti x eX11_orders_4 fX11_211 rfl rfl hM.m (fun h4 => ?_)
    rw [e16]
    refine G_rg (fun hr => ?_)
    refine G_icmp_ge x eX11_orders_7 (by first | omega | exact hr _ _ | exact hr0 _ _ | exact hrS _) (by first | omega | exact hr _ _ | exact hr0 _ _ | exact hrS _) (fun c7 => ?_) (fun c7 => ?_)
    · refine G_push x eX11_orders_23 ?_
      refine G_istore1 x eX11_orders_24 ?_
      refine G_push x eX11_orders_25 ?_
      refine G_istore2 x eX11_orders_26 ?_
      exact outer _ _ _ (fun _ => 0) _ _ rfl (Or.inl rfl) ⟨fun b j b1 _ => hf b j b1, ⟨by omega, fun k a b => by omega⟩, fun f a b => Or.inl ⟨hz f a (by omega), fun ⟨i, p, q, _⟩ => by omega⟩, fun k a b => by omega, sm_0 _ (fun i a b => hz i a (by omega))⟩
    · refine G_aload0 x eX11_orders_10 ?_
      refine G_getq x eX11_orders_11 fX11_54 rfl rfl hM.m hM.o_known ?_
      refine G_iload1 x eX11_orders_14 ?_
      refine G_push x eX11_orders_15 ?_
      refine G_zast x eX11_orders_16 rfl hM.t_known (by omega) (by omega) (by omega) (by first | omega | exact hr _ _ | exact hr0 _ _ | exact hrS _) ?_
      refine G_rg (fun hr => ?_)
      refine G_iinc1 x eX11_orders_17 ?_
      refine G_goto x eX11_orders_20 ?_
      exact ih _ (by omega) _ _ rfl (by omega) (by omega) (fun b j hb => by rw [uI_a hb]; exact hf b j hb) (fun i i0 i1 => by { by_cases e : i = k; · { rw [e, uI_s] }; · { rw [uI_k e]; exact hz i i0 (by omega) } })
  refine G_rg (fun hr => ?_)
  refine G_push x eX11_orders_0 ?_
  refine G_istore1 x eX11_orders_1 ?_
  exact start _ _ _ rfl (by omega) (by omega) (fun _ _ _ => rfl) (fun i i0 i1 => by omega)
noncomputable def orA (S : Int → Int) (r k : Int) : Int := if 0 ≤ k ∧ k < (orS S r).2 then told9 ((orS S r).1 k) else -1
set_option maxRecDepth 20000 in
theorem ct_X11_order {T : gT} {I : gI} {J : gJ} {O : gO} {mo : Nat} {r k : Int} (hM : MoAt T O mo) (h0 : in32 r) (h1 : in32 k) (hf : 0 ≤ r → r ≤ 2 → fmOk (I (mo + 1)) r) : Ct yX11_order cX11_order 4 (some .int) [va_rf (some mo), VI r, VI k] 5 117 0 0 T I J O (if 0 ≤ r ∧ r ≤ 2 then mSay T I J O mo (orA (I (mo + 1)) r k) 0 else mSay T I J O mo 0 1) := by
  refine Ct.of (by decide) [some (va_rf (some mo)), some (VI r), some (VI k), none] (gEn1 (List.forall_mem_cons.mpr ⟨cat_VR _, List.forall_mem_cons.mpr ⟨cat_VI _, List.forall_mem_cons.mpr ⟨cat_VI _, fun _ h => nomatch h⟩⟩⟩) rfl (Nat.le_of_ble_eq_true rfl) rfl) ?_
  intro X x en rm ini hr hz
  have hr0 := hr
  refine G_iload1 x eX11_order_0 ?_
  refine G_cS x eX11_order_1 kX11_127 sm_yX11_isReplica rm (ct_X11_isReplica (by first | omega | exact hr _ _ | exact hr0 _ _)) rfl ?_
  refine G_ifb_ne x eX11_order_4 (fun c4 => ?_) (fun c4 => ?_)
  · have hf := hf c4.1 c4.2
    rw [if_pos c4] at en
    refine G_aload0 x eX11_order_13 ?_
    refine G_iload1 x eX11_order_14 ?_
    refine G_cVg x eX11_order_15 kX11_223 im_yX11_gathers se_yX11_gathers rm hM.m (ct_X11_gathers hM c4.1 c4.2 hf) rfl (fun v15 T15 I15 J15 O15 p15 => ?_)
    refine G_rg (fun hr => ?_)
    have hA := gaP.A p15
    obtain ⟨q1, q2, q3, q4, q5, -⟩ := p15
    subst q1
    subst q2
    subst q3
    have hn := hA.2.1.n hf
    refine G_aload0 x eX11_order_18 ?_
    refine G_cVg x eX11_order_19 kX11_281 im_yX11_orders se_yX11_orders rm hM.m (ct_X11_orders hM hA hn) rfl (fun v19 T19 I19 J19 O19 p19 => ?_)
    refine G_rg (fun hr => ?_)
    obtain ⟨rfl, rfl, rfl, o1, rfl, o2, o3⟩ := p19
    have hfr : gFr I I19 mo := q4.tr (fun b j z => o1 b j (by omega) (by omega))
    generalize hgn : (orS (I (mo + 1)) r).2 = n at *
    unfold orA at en
    rw [hgn] at en
    refine G_istore3 x eX11_order_22 ?_
    refine G_aload0 x eX11_order_23 ?_
    refine G_iload2 x eX11_order_24 ?_
    refine G_push x eX11_order_25 ?_
    refine G_iload3 x eX11_order_26 ?_
    refine G_push x eX11_order_27 ?_
    refine G_isub x eX11_order_28 ?_
    refine G_cS x eX11_order_29 kX11_87 sm_yX11_in rm (ct_X11_in (by first | omega | exact hr _ _ | exact hr0 _ _) (by first | omega | exact hr _ _ | exact hr0 _ _) (by first | omega | exact hr _ _ | exact hr0 _ _)) rfl ?_
    refine G_ifb_eq x eX11_order_32 (fun c32 => ?_) (fun c32 => ?_)
    · rw [if_neg (by omega)] at en
      refine G_push x eX11_order_44 ?_
      refine G_cV x eX11_order_45 kX11_83 im_yX11_tells se_yX11_tells rm hM.m (ct_X11_tells hM (by first | omega | exact hr _ _ | exact hr0 _ _)) rfl ?_
      refine G_rg (fun hr => ?_)
      refine G_ireturn x en eX11_order_48 (by omega) (by omega) ?_
      exact gSay hfr q5
    · rw [if_pos (by omega)] at en
      refine G_aload0 x eX11_order_35 ?_
      refine G_getq x eX11_order_36 fX11_63 rfl rfl hM.m hM.o_ordered ?_
      refine G_iload2 x eX11_order_39 ?_
      refine G_iald x eX11_order_40 rfl hM.t_ordered (by omega) (by omega) (by omega) (fun h40 => ?_)
      rw [o3 k (by omega) (by omega)] at h40 ⊢
      refine G_goto x eX11_order_41 ?_
      refine G_cV x eX11_order_45 kX11_83 im_yX11_tells se_yX11_tells rm hM.m (ct_X11_tells hM h40) rfl ?_
      refine G_rg (fun hr => ?_)
      refine G_ireturn x en eX11_order_48 (by omega) (by omega) ?_
      exact gSay hfr q5
  · rw [if_neg c4] at en
    refine G_aload0 x eX11_order_7 ?_
    refine G_push x eX11_order_8 ?_
    refine G_cV x eX11_order_9 kX11_131 im_yX11_fails se_yX11_fails rm hM.m (ct_X11_fails hM (by first | omega | exact hr _ _ | exact hr0 _ _)) rfl ?_
    refine G_rg (fun hr => ?_)
    refine G_ireturn x en eX11_order_12 (by omega) (by omega) ?_
    exact gSay (fun _ _ _ => rfl) (fun _ _ _ _ => rfl)
