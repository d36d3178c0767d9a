/-! what formulas refer to -/
theorem CsIs.iff {B : Int → Int64} {R R' : Int → Int → Prop} (h : CsIs B R) (e : ∀ s c, 0 ≤ s → s ≤ 144 → 0 ≤ c → c < 192 → (R s c ↔ R' s c)) : CsIs B R' := fun s c s0 s1 c0 c1 => (h s c s0 s1 c0 c1).trans (e s c s0 s1 c0 c1)
def rcA (a b row col d : Int) : Prop := (min (a % 12) (b % 12) ≤ d % 12 ∧ d % 12 ≤ max (a % 12) (b % 12)) ∧ min (a / 12) (b / 12) ≤ d / 12 ∧ (d / 12 < row ∨ (d / 12 = row ∧ d % 12 < col))
def caP (T : gT) (I : gI) (J : gJ) (O : gO) (cs : Nat) (R : Int → Int → Prop) : gP := fun v T' I' J' O' => v = none ∧ T' = T ∧ I' = I ∧ O' = O ∧ (∀ b j, b ≠ cs + 1 → J' b j = J b j) ∧ CsIs (J' (cs + 1)) R
set_option maxHeartbeats 4000000 in
set_option maxRecDepth 20000 in
theorem ct_X0_addRectangle {T : gT} {I : gI} {J : gJ} {O : gO} {ca : Nat} {s a b : Int} {R : Int → Int → Prop} (hM : CaAt T O ca) (hR : CsIs (J (ca + 6 + 1)) R) (s0 : 0 ≤ s) (s1 : s ≤ 144) (h2 : 0 ≤ a ∧ a < 144) (h3 : 0 ≤ b ∧ b < 144) : Ct yX0_addRectangle cX0_addRectangle 8 none [va_rf (some ca), VI s, VI a, VI b] 2 42 0 0 T I J O (caP T I J O (ca + 6) (fun s' c' => R s' c' ∨ (s' = s ∧ inR a b c'))) := by
  refine Ct.of (by decide) [some (va_rf (some ca)), some (VI s), some (VI a), some (VI b), none, none, none, none] (gEn1 (List.forall_mem_cons.mpr ⟨cat_VR _, List.forall_mem_cons.mpr ⟨cat_VI _, List.forall_mem_cons.mpr ⟨cat_VI _, List.forall_mem_cons.mpr ⟨cat_VI _, fun _ h => nomatch h⟩⟩⟩⟩) rfl (Nat.le_of_ble_eq_true rfl) rfl) ?_
  intro X x en rm ini hr hz
  have hr0 := hr
  have inner : ∀ (d : Nat) (row col : Int) (J1 : gJ), col + d = max (a % 12) (b % 12) + 1 → min (a % 12) (b % 12) ≤ col → min (a / 12) (b / 12) ≤ row → row ≤ max (a / 12) (b / 12) → (∀ b j, b ≠ ca + 6 + 1 → J1 b j = J b j) → CsIs (J1 (ca + 6 + 1)) (fun s' c' => R s' c' ∨ (s' = s ∧ 0 ≤ c' ∧ rcA a b row col c')) → (∀ J2 y, (∀ b j, b ≠ ca + 6 + 1 → J2 b j = J b j) → CsIs (J2 (ca + 6 + 1)) (fun s' c' => R s' c' ∨ (s' = s ∧ 0 ≤ c' ∧ rcA a b (row + 1) (min (a % 12) (b % 12)) c')) → G X 88 [some (va_rf (some ca)), some (VI s), some (VI a), some (VI b), some (VI (max (a / 12) (b / 12))), some (VI (max (a % 12) (b % 12))), some (VI row), y] [] T I J2 O 0 0) → G X 59 [some (va_rf (some ca)), some (VI s), some (VI a), some (VI b), some (VI (max (a / 12) (b / 12))), some (VI (max (a % 12) (b % 12))), some (VI row), some (VI col)] [] T I J1 O 0 0 := by
    intro d
    induction d with
    | zero =>
      intro row col J1 hd q0 w0 w1 k1 k2 kk
      have kk := kk J1 (some (VI col)) k1 (k2.iff (fun s' c' _ _ _ _ => or_congr Iff.rfl (and_congr Iff.rfl (and_congr Iff.rfl (by unfold rcA; omega)))))
      refine G_rg (fun hr => ?_)
      refine G_iload7 x eX0_addRectangle_59 ?_
      refine G_iload5 x eX0_addRectangle_61 ?_
      refine G_icmp_gt x eX0_addRectangle_63 (by first | omega | exact hr _ _ | exact hr0 _ _ | exact hrS _) (by first | omega | exact hr _ _ | exact hr0 _ _ | exact hrS _) (fun c63 => ?_) (fun c63 => ?_)
      · exact kk
      · omega
    | succ d ih =>
      intro row col J1 hd q0 w0 w1 k1 k2 kk
      have cC := ct_X1_put (I := I) (c := row * 12 + col) hM.s_references k2 s0 s1 (by omega) (by omega)
      refine G_rg (fun hr => ?_)
      refine G_iload7 x eX0_addRectangle_59 ?_
      refine G_iload5 x eX0_addRectangle_61 ?_
      refine G_icmp_gt x eX0_addRectangle_63 (by first | omega | exact hr _ _ | exact hr0 _ _ | exact hrS _) (by first | omega | exact hr _ _ | exact hr0 _ _ | exact hrS _) (fun c63 => ?_) (fun c63 => ?_)
      · omega
      · refine G_aload0 x eX0_addRectangle_66 ?_
        refine G_getq x eX0_addRectangle_67 fX0_33 rfl rfl hM.m hM.o_references ?_
        refine G_iload1 x eX0_addRectangle_70 ?_
        refine G_iload6 x eX0_addRectangle_71 ?_
        refine G_push x eX0_addRectangle_73 ?_
        refine G_imul x eX0_addRectangle_75 ?_
        refine G_iload7 x eX0_addRectangle_76 ?_
        refine G_iadd x eX0_addRectangle_78 ?_
        refine G_cVg x eX0_addRectangle_79 kX0_118 im_yX1_put se_yX1_put rm hM.s_references.m cC rfl (fun v79 T79 I79 J79 O79 p79 => ?_)
        refine G_rg (fun hr => ?_)
        obtain ⟨rfl, rfl, rfl, rfl, u1, u2⟩ := p79
        refine G_iinc7 x eX0_addRectangle_82 ?_
        refine G_goto x eX0_addRectangle_85 ?_
        exact ih row (col + 1) _ (by omega) (by omega) w0 w1 (fun b j hb => (u1 b j hb).trans (k1 b j hb)) (u2.iff (fun s' c' _ _ c0 _ => by unfold rcA; constructor <;> intro z <;> (rcases z with z | z) <;> first | (rcases z with z | z; exact Or.inl z; exact Or.inr ⟨z.1, z.2.1, by omega⟩) | exact Or.inr ⟨z.1, c0, by omega⟩ | exact Or.inl (Or.inl z) | (by_cases q : c' = row * 12 + col; exact Or.inr ⟨z.1, q⟩; exact Or.inl (Or.inr ⟨z.1, z.2.1, by omega⟩)))) kk
  have outer : ∀ (d : Nat) (row : Int) (J1 : gJ) (y : Option Value), row + d = max (a / 12) (b / 12) + 1 → min (a / 12) (b / 12) ≤ row → (∀ b j, b ≠ ca + 6 + 1 → J1 b j = J b j) → CsIs (J1 (ca + 6 + 1)) (fun s' c' => R s' c' ∨ (s' = s ∧ 0 ≤ c' ∧ rcA a b row (min (a % 12) (b % 12)) c')) → G X 39 [some (va_rf (some ca)), some (VI s), some (VI a), some (VI b), some (VI (max (a / 12) (b / 12))), some (VI (max (a % 12) (b % 12))), some (VI row), y] [] T I J1 O 0 0 := by
    intro d
    induction d with
    | zero =>
      intro row J1 y hd w0 k1 k2
      refine G_rg (fun hr => ?_)
      refine G_iload6 x eX0_addRectangle_39 ?_
      refine G_iload4 x eX0_addRectangle_41 ?_
      refine G_icmp_gt x eX0_addRectangle_43 (by first | omega | exact hr _ _ | exact hr0 _ _ | exact hrS _) (by first | omega | exact hr _ _ | exact hr0 _ _ | exact hrS _) (fun c43 => ?_) (fun c43 => ?_)
      · refine G_return x en eX0_addRectangle_94 (by omega) (by omega) ?_
        exact ⟨rfl, rfl, rfl, rfl, k1, k2.iff (fun s' c' _ _ c0 _ => or_congr Iff.rfl (and_congr Iff.rfl (by unfold rcA inR; omega)))⟩
      · omega
    | succ d ih =>
      intro row J1 y hd w0 k1 k2
      have nx := inner (max (a % 12) (b % 12) + 1 - min (a % 12) (b % 12)).toNat row (min (a % 12) (b % 12)) J1 (by omega) (by omega) w0 (by omega) k1 k2 (fun J2 y m1 m2 => by
        have z := ih (row + 1) J2 y (by omega) (by omega) m1 m2
        refine G_iinc6 x eX0_addRectangle_88 ?_
        refine G_goto x eX0_addRectangle_91 ?_
        exact z)
      refine G_rg (fun hr => ?_)
      refine G_iload6 x eX0_addRectangle_39 ?_
      refine G_iload4 x eX0_addRectangle_41 ?_
      refine G_icmp_gt x eX0_addRectangle_43 (by first | omega | exact hr _ _ | exact hr0 _ _ | exact hrS _) (by first | omega | exact hr _ _ | exact hr0 _ _ | exact hrS _) (fun c43 => ?_) (fun c43 => ?_)
      · omega
      · refine G_iload2 x eX0_addRectangle_46 ?_
        refine G_push x eX0_addRectangle_47 ?_
        refine G_iremn x eX0_addRectangle_49 (by omega) (by omega) (by omega) (by omega) ?_
        refine G_iload3 x eX0_addRectangle_50 ?_
        refine G_push x eX0_addRectangle_51 ?_
        refine G_iremn x eX0_addRectangle_53 (by omega) (by omega) (by omega) (by omega) ?_
        refine G_cS x eX0_addRectangle_54 kX0_150 sm_yJ9_min_7cf53 rm (ct_J9_min_7cf53 (by first | omega | exact hr _ _ | exact hr0 _ _ | exact hrS _) (by first | omega | exact hr _ _ | exact hr0 _ _ | exact hrS _)) rfl ?_
        refine G_istore7 x eX0_addRectangle_57 ?_
        exact nx
  have s0 := outer (max (a / 12) (b / 12) + 1 - min (a / 12) (b / 12)).toNat (min (a / 12) (b / 12)) J none (by omega) (by omega) (fun _ _ _ => rfl) (hR.iff (fun s' c' _ _ c0 _ => ⟨Or.inl, fun z => z.elim id (fun z => by exfalso; have := z.2.2; unfold rcA at this; omega)⟩))
  refine G_rg (fun hr => ?_)
  refine G_iload2 x eX0_addRectangle_0 ?_
  refine G_push x eX0_addRectangle_1 ?_
  refine G_idivn x eX0_addRectangle_3 (by omega) (by omega) (by omega) (by omega) ?_
  refine G_iload3 x eX0_addRectangle_4 ?_
  refine G_push x eX0_addRectangle_5 ?_
  refine G_idivn x eX0_addRectangle_7 (by omega) (by omega) (by omega) (by omega) ?_
  refine G_cS x eX0_addRectangle_8 kX0_144 sm_yJ9_max_7cf53 rm (ct_J9_max_7cf53 (by first | omega | exact hr _ _ | exact hr0 _ _ | exact hrS _) (by first | omega | exact hr _ _ | exact hr0 _ _ | exact hrS _)) rfl ?_
  refine G_istore4 x eX0_addRectangle_11 ?_
  refine G_iload2 x eX0_addRectangle_13 ?_
  refine G_push x eX0_addRectangle_14 ?_
  refine G_iremn x eX0_addRectangle_16 (by omega) (by omega) (by omega) (by omega) ?_
  refine G_iload3 x eX0_addRectangle_17 ?_
  refine G_push x eX0_addRectangle_18 ?_
  refine G_iremn x eX0_addRectangle_20 (by omega) (by omega) (by omega) (by omega) ?_
  refine G_cS x eX0_addRectangle_21 kX0_144 sm_yJ9_max_7cf53 rm (ct_J9_max_7cf53 (by first | omega | exact hr _ _ | exact hr0 _ _ | exact hrS _) (by first | omega | exact hr _ _ | exact hr0 _ _ | exact hrS _)) rfl ?_
  refine G_istore5 x eX0_addRectangle_24 ?_
  refine G_iload2 x eX0_addRectangle_26 ?_
  refine G_push x eX0_addRectangle_27 ?_
  refine G_idivn x eX0_addRectangle_29 (by omega) (by omega) (by omega) (by omega) ?_
  refine G_iload3 x eX0_addRectangle_30 ?_
  refine G_push x eX0_addRectangle_31 ?_
  refine G_idivn x eX0_addRectangle_33 (by omega) (by omega) (by omega) (by omega) ?_
  refine G_cS x eX0_addRectangle_34 kX0_150 sm_yJ9_min_7cf53 rm (ct_J9_min_7cf53 (by first | omega | exact hr _ _ | exact hr0 _ _ | exact hrS _) (by first | omega | exact hr _ _ | exact hr0 _ _ | exact hrS _)) rfl ?_
  refine G_istore6 x eX0_addRectangle_37 ?_
  exact s0
def adR (a b d : Int) : Prop := (a ≠ -1 ∧ b ≠ -1 ∧ inR a b d) ∨ (a ≠ -1 ∧ b = -1 ∧ d = a) ∨ (a = -1 ∧ b ≠ -1 ∧ d = b)
set_option maxRecDepth 20000 in
theorem ct_X0_addReferences {T : gT} {I : gI} {J : gJ} {O : gO} {ca : Nat} {s a b : Int} {R : Int → Int → Prop} (hM : CaAt T O ca) (hR : CsIs (J (ca + 6 + 1)) R) (s0 : 0 ≤ s) (s1 : s ≤ 144) (h2 : a = -1 ∨ (0 ≤ a ∧ a < 144)) (h3 : b = -1 ∨ (0 ≤ b ∧ b < 144)) : Ct yX0_addReferences cX0_addReferences 4 none [va_rf (some ca), VI s, VI a, VI b] 3 69 0 0 T I J O (caP T I J O (ca + 6) (fun s' c' => R s' c' ∨ (s' = s ∧ adR a b c'))) := by
  refine Ct.of (by decide) [some (va_rf (some ca)), some (VI s), some (VI a), some (VI b)] (gEn1 (List.forall_mem_cons.mpr ⟨cat_VR _, List.forall_mem_cons.mpr ⟨cat_VI _, List.forall_mem_cons.mpr ⟨cat_VI _, List.forall_mem_cons.mpr ⟨cat_VI _, fun _ h => nomatch h⟩⟩⟩⟩) rfl (Nat.le_of_ble_eq_true rfl) rfl) ?_
  intro X x en rm ini hr hz
  have hr0 := hr
  by_cases q1 : a = -1
  · by_cases q2 : b = -1
    · refine G_rg (fun hr => ?_)
      refine G_iload2 x eX0_addReferences_0 ?_
      refine G_push x eX0_addReferences_1 ?_
      refine G_icmp_eq x eX0_addReferences_2 (by first | omega | exact hr _ _ | exact hr0 _ _ | exact hrS _) (by first | omega | exact hr _ _ | exact hr0 _ _ | exact hrS _) (fun c2 => ?_) (fun c2 => ?_)
      · refine G_iload2 x eX0_addReferences_20 ?_
        refine G_push x eX0_addReferences_21 ?_
        refine G_icmp_eq x eX0_addReferences_22 (by first | omega | exact hr _ _ | exact hr0 _ _ | exact hrS _) (by first | omega | exact hr _ _ | exact hr0 _ _ | exact hrS _) (fun c22 => ?_) (fun c22 => ?_)
        · refine G_iload3 x eX0_addReferences_37 ?_
          refine G_push x eX0_addReferences_38 ?_
          refine G_icmp_eq x eX0_addReferences_39 (by first | omega | exact hr _ _ | exact hr0 _ _ | exact hrS _) (by first | omega | exact hr _ _ | exact hr0 _ _ | exact hrS _) (fun c39 => ?_) (fun c39 => ?_)
          · refine G_return x en eX0_addReferences_51 (by omega) (by omega) ?_
            exact ⟨rfl, rfl, rfl, rfl, fun _ _ _ => rfl, hR.iff (fun s' c' _ _ _ _ => ⟨Or.inl, fun z => z.elim id (fun z => by exfalso; have := z.2; unfold adR at this; omega)⟩)⟩
          · omega
        · omega
      · refine G_iload3 x eX0_addReferences_5 ?_
        refine G_push x eX0_addReferences_6 ?_
        refine G_icmp_eq x eX0_addReferences_7 (by first | omega | exact hr _ _ | exact hr0 _ _ | exact hrS _) (by first | omega | exact hr _ _ | exact hr0 _ _ | exact hrS _) (fun c7 => ?_) (fun c7 => ?_)
        · refine G_iload2 x eX0_addReferences_20 ?_
          refine G_push x eX0_addReferences_21 ?_
          refine G_icmp_eq x eX0_addReferences_22 (by first | omega | exact hr _ _ | exact hr0 _ _ | exact hrS _) (by first | omega | exact hr _ _ | exact hr0 _ _ | exact hrS _) (fun c22 => ?_) (fun c22 => ?_)
          · refine G_iload3 x eX0_addReferences_37 ?_
            refine G_push x eX0_addReferences_38 ?_
            refine G_icmp_eq x eX0_addReferences_39 (by first | omega | exact hr _ _ | exact hr0 _ _ | exact hrS _) (by first | omega | exact hr _ _ | exact hr0 _ _ | exact hrS _) (fun c39 => ?_) (fun c39 => ?_)
            · refine G_return x en eX0_addReferences_51 (by omega) (by omega) ?_
              exact ⟨rfl, rfl, rfl, rfl, fun _ _ _ => rfl, hR.iff (fun s' c' _ _ _ _ => ⟨Or.inl, fun z => z.elim id (fun z => by exfalso; have := z.2; unfold adR at this; omega)⟩)⟩
            · omega
          · omega
        · omega
    · have cC := ct_X1_put (I := I) (c := b) hM.s_references hR s0 s1 (by omega) (by omega)
      refine G_rg (fun hr => ?_)
      refine G_iload2 x eX0_addReferences_0 ?_
      refine G_push x eX0_addReferences_1 ?_
      refine G_icmp_eq x eX0_addReferences_2 (by first | omega | exact hr _ _ | exact hr0 _ _ | exact hrS _) (by first | omega | exact hr _ _ | exact hr0 _ _ | exact hrS _) (fun c2 => ?_) (fun c2 => ?_)
      · refine G_iload2 x eX0_addReferences_20 ?_
        refine G_push x eX0_addReferences_21 ?_
        refine G_icmp_eq x eX0_addReferences_22 (by first | omega | exact hr _ _ | exact hr0 _ _ | exact hrS _) (by first | omega | exact hr _ _ | exact hr0 _ _ | exact hrS _) (fun c22 => ?_) (fun c22 => ?_)
        · refine G_iload3 x eX0_addReferences_37 ?_
          refine G_push x eX0_addReferences_38 ?_
          refine G_icmp_eq x eX0_addReferences_39 (by first | omega | exact hr _ _ | exact hr0 _ _ | exact hrS _) (by first | omega | exact hr _ _ | exact hr0 _ _ | exact hrS _) (fun c39 => ?_) (fun c39 => ?_)
          · try obtain ⟨rfl, rfl, rfl, rfl, u1, u2⟩ := p48
            refine G_return x en eX0_addReferences_51 (by omega) (by omega) ?_
            first | (exfalso; omega) | exact ⟨rfl, rfl, rfl, rfl, u1, u2.iff (fun s' c' _ _ _ _ => or_congr Iff.rfl (and_congr Iff.rfl (by unfold adR; omega)))⟩
          · refine G_aload0 x eX0_addReferences_42 ?_
            refine G_getq x eX0_addReferences_43 fX0_33 rfl rfl hM.m hM.o_references ?_
            refine G_iload1 x eX0_addReferences_46 ?_
            refine G_iload3 x eX0_addReferences_47 ?_
            refine G_cVg x eX0_addReferences_48 kX0_118 im_yX1_put se_yX1_put rm hM.s_references.m cC rfl (fun v48 T48 I48 J48 O48 p48 => ?_)
            refine G_rg (fun hr => ?_)
            try obtain ⟨rfl, rfl, rfl, rfl, u1, u2⟩ := p48
            refine G_return x en eX0_addReferences_51 (by omega) (by omega) ?_
            first | (exfalso; omega) | exact ⟨rfl, rfl, rfl, rfl, u1, u2.iff (fun s' c' _ _ _ _ => or_congr Iff.rfl (and_congr Iff.rfl (by unfold adR; omega)))⟩
        · omega
      · refine G_iload3 x eX0_addReferences_5 ?_
        refine G_push x eX0_addReferences_6 ?_
        refine G_icmp_eq x eX0_addReferences_7 (by first | omega | exact hr _ _ | exact hr0 _ _ | exact hrS _) (by first | omega | exact hr _ _ | exact hr0 _ _ | exact hrS _) (fun c7 => ?_) (fun c7 => ?_)
        · refine G_iload2 x eX0_addReferences_20 ?_
          refine G_push x eX0_addReferences_21 ?_
          refine G_icmp_eq x eX0_addReferences_22 (by first | omega | exact hr _ _ | exact hr0 _ _ | exact hrS _) (by first | omega | exact hr _ _ | exact hr0 _ _ | exact hrS _) (fun c22 => ?_) (fun c22 => ?_)
          · refine G_iload3 x eX0_addReferences_37 ?_
            refine G_push x eX0_addReferences_38 ?_
            refine G_icmp_eq x eX0_addReferences_39 (by first | omega | exact hr _ _ | exact hr0 _ _ | exact hrS _) (by first | omega | exact hr _ _ | exact hr0 _ _ | exact hrS _) (fun c39 => ?_) (fun c39 => ?_)
            · try obtain ⟨rfl, rfl, rfl, rfl, u1, u2⟩ := p48
              refine G_return x en eX0_addReferences_51 (by omega) (by omega) ?_
              first | (exfalso; omega) | exact ⟨rfl, rfl, rfl, rfl, u1, u2.iff (fun s' c' _ _ _ _ => or_congr Iff.rfl (and_congr Iff.rfl (by unfold adR; omega)))⟩
            · refine G_aload0 x eX0_addReferences_42 ?_
              refine G_getq x eX0_addReferences_43 fX0_33 rfl rfl hM.m hM.o_references ?_
              refine G_iload1 x eX0_addReferences_46 ?_
              refine G_iload3 x eX0_addReferences_47 ?_
              refine G_cVg x eX0_addReferences_48 kX0_118 im_yX1_put se_yX1_put rm hM.s_references.m cC rfl (fun v48 T48 I48 J48 O48 p48 => ?_)
              refine G_rg (fun hr => ?_)
              try obtain ⟨rfl, rfl, rfl, rfl, u1, u2⟩ := p48
              refine G_return x en eX0_addReferences_51 (by omega) (by omega) ?_
              first | (exfalso; omega) | exact ⟨rfl, rfl, rfl, rfl, u1, u2.iff (fun s' c' _ _ _ _ => or_congr Iff.rfl (and_congr Iff.rfl (by unfold adR; omega)))⟩
          · omega
        · omega
  · by_cases q2 : b = -1
    · have cC := ct_X1_put (I := I) (c := a) hM.s_references hR s0 s1 (by omega) (by omega)
      refine G_rg (fun hr => ?_)
      refine G_iload2 x eX0_addReferences_0 ?_
      refine G_push x eX0_addReferences_1 ?_
      refine G_icmp_eq x eX0_addReferences_2 (by first | omega | exact hr _ _ | exact hr0 _ _ | exact hrS _) (by first | omega | exact hr _ _ | exact hr0 _ _ | exact hrS _) (fun c2 => ?_) (fun c2 => ?_)
      · refine G_iload2 x eX0_addReferences_20 ?_
        refine G_push x eX0_addReferences_21 ?_
        refine G_icmp_eq x eX0_addReferences_22 (by first | omega | exact hr _ _ | exact hr0 _ _ | exact hrS _) (by first | omega | exact hr _ _ | exact hr0 _ _ | exact hrS _) (fun c22 => ?_) (fun c22 => ?_)
        · omega
        · refine G_aload0 x eX0_addReferences_25 ?_
          refine G_getq x eX0_addReferences_26 fX0_33 rfl rfl hM.m hM.o_references ?_
          refine G_iload1 x eX0_addReferences_29 ?_
          refine G_iload2 x eX0_addReferences_30 ?_
          refine G_cVg x eX0_addReferences_31 kX0_118 im_yX1_put se_yX1_put rm hM.s_references.m cC rfl (fun v31 T31 I31 J31 O31 p31 => ?_)
          refine G_rg (fun hr => ?_)
          obtain ⟨rfl, rfl, rfl, rfl, u1, u2⟩ := p31
          refine G_goto x eX0_addReferences_34 ?_
          refine G_return x en eX0_addReferences_51 (by omega) (by omega) ?_
          exact ⟨rfl, rfl, rfl, rfl, u1, u2.iff (fun s' c' _ _ _ _ => or_congr Iff.rfl (and_congr Iff.rfl (by unfold adR; omega)))⟩
      · refine G_iload3 x eX0_addReferences_5 ?_
        refine G_push x eX0_addReferences_6 ?_
        refine G_icmp_eq x eX0_addReferences_7 (by first | omega | exact hr _ _ | exact hr0 _ _ | exact hrS _) (by first | omega | exact hr _ _ | exact hr0 _ _ | exact hrS _) (fun c7 => ?_) (fun c7 => ?_)
        · refine G_iload2 x eX0_addReferences_20 ?_
          refine G_push x eX0_addReferences_21 ?_
          refine G_icmp_eq x eX0_addReferences_22 (by first | omega | exact hr _ _ | exact hr0 _ _ | exact hrS _) (by first | omega | exact hr _ _ | exact hr0 _ _ | exact hrS _) (fun c22 => ?_) (fun c22 => ?_)
          · omega
          · refine G_aload0 x eX0_addReferences_25 ?_
            refine G_getq x eX0_addReferences_26 fX0_33 rfl rfl hM.m hM.o_references ?_
            refine G_iload1 x eX0_addReferences_29 ?_
            refine G_iload2 x eX0_addReferences_30 ?_
            refine G_cVg x eX0_addReferences_31 kX0_118 im_yX1_put se_yX1_put rm hM.s_references.m cC rfl (fun v31 T31 I31 J31 O31 p31 => ?_)
            refine G_rg (fun hr => ?_)
            obtain ⟨rfl, rfl, rfl, rfl, u1, u2⟩ := p31
            refine G_goto x eX0_addReferences_34 ?_
            refine G_return x en eX0_addReferences_51 (by omega) (by omega) ?_
            exact ⟨rfl, rfl, rfl, rfl, u1, u2.iff (fun s' c' _ _ _ _ => or_congr Iff.rfl (and_congr Iff.rfl (by unfold adR; omega)))⟩
        · omega
    · have cC := ct_X0_addRectangle (I := I) hM hR s0 s1 (by omega) (show 0 ≤ b ∧ b < 144 by omega) (a := a)
      refine G_rg (fun hr => ?_)
      refine G_iload2 x eX0_addReferences_0 ?_
      refine G_push x eX0_addReferences_1 ?_
      refine G_icmp_eq x eX0_addReferences_2 (by first | omega | exact hr _ _ | exact hr0 _ _ | exact hrS _) (by first | omega | exact hr _ _ | exact hr0 _ _ | exact hrS _) (fun c2 => ?_) (fun c2 => ?_)
      · omega
      · refine G_iload3 x eX0_addReferences_5 ?_
        refine G_push x eX0_addReferences_6 ?_
        refine G_icmp_eq x eX0_addReferences_7 (by first | omega | exact hr _ _ | exact hr0 _ _ | exact hrS _) (by first | omega | exact hr _ _ | exact hr0 _ _ | exact hrS _) (fun c7 => ?_) (fun c7 => ?_)
        · omega
        · refine G_aload0 x eX0_addReferences_10 ?_
          refine G_iload1 x eX0_addReferences_11 ?_
          refine G_iload2 x eX0_addReferences_12 ?_
          refine G_iload3 x eX0_addReferences_13 ?_
          refine G_cVg x eX0_addReferences_14 kX0_141 im_yX0_addRectangle se_yX0_addRectangle rm hM.m cC rfl (fun v14 T14 I14 J14 O14 p14 => ?_)
          refine G_rg (fun hr => ?_)
          obtain ⟨rfl, rfl, rfl, rfl, u1, u2⟩ := p14
          refine G_goto x eX0_addReferences_17 ?_
          refine G_return x en eX0_addReferences_51 (by omega) (by omega) ?_
          exact ⟨rfl, rfl, rfl, rfl, u1, u2.iff (fun s' c' _ _ _ _ => or_congr Iff.rfl (and_congr Iff.rfl (by unfold adR; constructor; exact fun z => Or.inl ⟨q1, q2, z⟩; exact fun z => by rcases z with z | z | z; exact z.2.2; exact absurd z.2.1 q2; exact absurd z.1 q1)))⟩
/-- what a factor refers to -/
def fcR (S : Int → Int) (r : Int) (y : Int × Int × Int × Int) (d : Int) : Prop := y.2.1 ≠ 0 ∧ adR (snS S r (10000 + y.2.2.1)) (snS S r (10000 + y.2.2.2)) d
theorem rfK_f {S : Int → Int} {r id d : Int} {k : Nat} {y : Int × Int × Int × Int} (hy : faOk y) (ht : tkA S id k (facT y.2.1 y.2.2.1 y.2.2.2)) (d0 : 0 ≤ d) : (∃ i : Int, (k : Int) ≤ i ∧ i < k + ((facT y.2.1 y.2.2.1 y.2.2.2).length : Nat) ∧ rfK S r id i d) ↔ fcR S r y d := by
  obtain ⟨-, hy⟩ := hy
  have g : ∀ x, snS S r x = -1 ∨ 0 ≤ snS S r x := fun x => (@snS_b S r x).imp (fun z => z) (fun z => z.1)
  rcases hy with ⟨e1, e2, e3⟩ | ⟨e1, e2, e3⟩ | ⟨e1, e2, e3⟩
  · have hf : facT y.2.1 y.2.2.1 y.2.2.2 = [y.2.2.1] := if_pos e1
    rw [hf] at ht ⊢
    have t0 : S (3 + 32 * id + (8 + (k : Int))) = y.2.2.1 := ht 0 _ rfl
    constructor
    · rintro ⟨i, i0, i1, h⟩
      have ei : i = k := by simp only [List.length_cons, List.length_nil] at i1; omega
      subst ei
      unfold rfK at h
      rw [t0] at h
      omega
    · intro h; exact absurd e1 h.1
  · have hf : facT y.2.1 y.2.2.1 y.2.2.2 = [10000 + y.2.2.1] := by unfold facT; rw [if_neg (by omega), if_pos e1]
    rw [hf] at ht ⊢
    have t0 : S (3 + 32 * id + (8 + (k : Int))) = 10000 + y.2.2.1 := ht 0 _ rfl
    have gg := g (10000 + y.2.2.1)
    have ed : fcR S r y d ↔ snS S r (10000 + y.2.2.1) = d := by
      unfold fcR adR inR
      rw [e3]
      generalize snS S r (10000 + y.2.2.1) = a at *
      omega
    rw [ed]
    constructor
    · rintro ⟨i, i0, i1, h⟩
      have ei : i = k := by simp only [List.length_cons, List.length_nil] at i1; omega
      subst ei
      unfold rfK at h
      rw [t0] at h
      rcases h with h | h
      · exact h.2
      · omega
    · intro h
      refine ⟨k, by omega, by simp only [List.length_cons, List.length_nil]; omega, Or.inl ?_⟩
      rw [t0]
      exact ⟨by omega, h⟩
  · have hf : facT y.2.1 y.2.2.1 y.2.2.2 = [-4, 10000 + y.2.2.1, 10000 + y.2.2.2] := by unfold facT; rw [if_neg (by omega), if_neg (by omega)]
    rw [hf] at ht ⊢
    have t0 : S (3 + 32 * id + (8 + (k : Int))) = -4 := ht 0 _ rfl
    have t1 : S (3 + 32 * id + (8 + ((k : Int) + 1))) = 10000 + y.2.2.1 := by have := ht 1 _ rfl; rw [show (8 : Int) + ((k + 1 : Nat) : Int) = 8 + (k + 1) by omega] at this; exact this
    have t2 : S (3 + 32 * id + (8 + ((k : Int) + 2))) = 10000 + y.2.2.2 := by have := ht 2 _ rfl; rw [show (8 : Int) + ((k + 2 : Nat) : Int) = 8 + (k + 2) by omega] at this; exact this
    have ga := g (10000 + y.2.2.1)
    have gb := g (10000 + y.2.2.2)
    have k0 : rfK S r id k d ↔ (snS S r (10000 + y.2.2.1) ≠ -1 ∧ snS S r (10000 + y.2.2.2) ≠ -1 ∧ inR (snS S r (10000 + y.2.2.1)) (snS S r (10000 + y.2.2.2)) d) := by
      unfold rfK
      rw [show 8 + (k : Int) + 1 = 8 + (k + 1) by omega, show 8 + (k : Int) + 2 = 8 + (k + 2) by omega, t0, t1, t2]
      exact ⟨fun z => z.elim (fun z => by omega) (fun z => z.2), fun z => Or.inr ⟨rfl, z⟩⟩
    have k1 : rfK S r id (k + 1) d ↔ snS S r (10000 + y.2.2.1) = d := by
      unfold rfK
      rw [t1]
      exact ⟨fun z => z.elim (fun z => z.2) (fun z => by omega), fun z => Or.inl ⟨by omega, z⟩⟩
    have k2 : rfK S r id (k + 2) d ↔ snS S r (10000 + y.2.2.2) = d := by
      unfold rfK
      rw [t2]
      exact ⟨fun z => z.elim (fun z => z.2) (fun z => by omega), fun z => Or.inl ⟨by omega, z⟩⟩
    have three : (∃ i : Int, (k : Int) ≤ i ∧ i < k + (([-4, 10000 + y.2.2.1, 10000 + y.2.2.2] : List Int).length : Nat) ∧ rfK S r id i d) ↔ (rfK S r id k d ∨ rfK S r id (k + 1) d ∨ rfK S r id (k + 2) d) := by
      constructor
      · rintro ⟨i, i0, i1, h⟩
        simp only [List.length_cons, List.length_nil] at i1
        rcases (by omega : i = k ∨ i = k + 1 ∨ i = k + 2) with e | e | e <;> rw [e] at h
        · exact Or.inl h
        · exact Or.inr (Or.inl h)
        · exact Or.inr (Or.inr h)
      · rintro (h | h | h)
        · exact ⟨_, by omega, by simp only [List.length_cons, List.length_nil]; omega, h⟩
        · exact ⟨_, by omega, by simp only [List.length_cons, List.length_nil]; omega, h⟩
        · exact ⟨_, by omega, by simp only [List.length_cons, List.length_nil]; omega, h⟩
    rw [three, k0, k1, k2]
    unfold fcR adR inR
    generalize snS S r (10000 + y.2.2.1) = a at *
    generalize snS S r (10000 + y.2.2.2) = b at *
    omega
theorem rfU_l {S : Int → Int} {r id d : Int} (d0 : 0 ≤ d) (l : List (Int × Int × Int × Int)) : ∀ (k : Nat), (∀ z ∈ l, faOk z) → tkA S id k (tks l) → ((∃ i : Int, (k : Int) ≤ i ∧ i < k + ((tks l).length : Nat) ∧ rfK S r id i d) ↔ ∃ y ∈ l, fcR S r y d) := by
  induction l with
  | nil =>
    intro k _ _
    constructor
    · rintro ⟨i, i0, i1, _⟩; simp [tks] at i1; omega
    · rintro ⟨y, hy, _⟩; cases hy
  | cons y l ih =>
    intro k hok ht
    have hy := hok y List.mem_cons_self
    cases l with
    | nil =>
      have := rfK_f (r := r) (d := d) hy ht d0
      exact this.trans ⟨fun z => ⟨y, List.mem_cons_self, z⟩, fun ⟨w, hw, z⟩ => by rcases List.mem_cons.mp hw with e | e; rw [← e]; exact z; cases e⟩
    | cons z l =>
      rw [tks_n] at ht ⊢
      obtain ⟨ta, tb⟩ := ht.app
      have tc := tb 0 _ rfl
      have td : tkA S id (k + (facT y.2.1 y.2.2.1 y.2.2.2).length + 1) (tks (z :: l)) := fun i v hv => by
        have := tb (i + 1) v hv
        rw [show k + (facT y.2.1 y.2.2.1 y.2.2.2).length + (i + 1) = k + (facT y.2.1 y.2.2.1 y.2.2.2).length + 1 + i by omega] at this
        exact this
      have A := rfK_f (r := r) (d := d) hy ta d0
      have Bq := ih (k + (facT y.2.1 y.2.2.1 y.2.2.2).length + 1) (fun w hw => hok w (List.mem_cons_of_mem _ hw)) td
      have hop := (hok z (List.mem_cons_of_mem _ List.mem_cons_self)).1
      have ho : opT z.1 = -1 ∨ opT z.1 = -2 ∨ opT z.1 = -3 := by unfold opT; split; exact Or.inl rfl; split; exact Or.inr (Or.inl rfl); exact Or.inr (Or.inr rfl)
      have hno : ¬ rfK S r id ((k + (facT y.2.1 y.2.2.1 y.2.2.2).length + 0 : Nat) : Int) d := fun h => by
        unfold rfK at h
        rw [tc] at h
        omega
      rw [List.length_append, List.length_cons]
      constructor
      · rintro ⟨i, i0, i1, h⟩
        rcases (by omega : i < k + ((facT y.2.1 y.2.2.1 y.2.2.2).length : Nat) ∨ i = ((k + (facT y.2.1 y.2.2.1 y.2.2.2).length + 0 : Nat) : Int) ∨ ((k + (facT y.2.1 y.2.2.1 y.2.2.2).length + 1 : Nat) : Int) ≤ i) with q | q | q
        · exact ⟨y, List.mem_cons_self, A.mp ⟨i, i0, q, h⟩⟩
        · rw [q] at h; exact absurd h hno
        · obtain ⟨w, hw, z⟩ := Bq.mp ⟨i, q, by omega, h⟩
          exact ⟨w, List.mem_cons_of_mem _ hw, z⟩
      · rintro ⟨w, hw, h⟩
        rcases List.mem_cons.mp hw with e | e
        · rw [e] at h
          obtain ⟨i, a, b, c⟩ := A.mpr h
          exact ⟨i, a, by omega, c⟩
        · obtain ⟨i, a, b, c⟩ := Bq.mpr ⟨w, e, h⟩
          exact ⟨i, by omega, by omega, c⟩
/-- .. and a formula -/
theorem rfS_l {S : Int → Int} {r id d : Int} {fl : List (Int × Int × Int × Int)} (h : fmlAt S id fl) (d0 : 0 ≤ d) : rfS S r id d ↔ ∃ y ∈ fl, fcR S r y d := by
  obtain ⟨a1, a2, a3, a4, a5⟩ := h
  rw [← rfU_l d0 fl 0 a4 (fun i v hv => by rw [show 0 + i = i by omega]; exact a2 i v hv)]
  unfold rfS rfU
  rw [a1]
  exact ⟨fun ⟨i, p, q, z⟩ => ⟨i, by omega, by omega, z⟩, fun ⟨i, p, q, z⟩ => ⟨i, by omega, by omega, z⟩⟩
theorem rfS_b {S : Int → Int} {r id d : Int} {fl : List (Int × Int × Int × Int)} (h : fmlAt S id fl) (d0 : 0 ≤ d) (hr : rfS S r id d) : d < 144 := by
  obtain ⟨y, -, hy⟩ := (rfS_l h d0).mp hr
  have sb : ∀ x, snS S r x = -1 ∨ (0 ≤ snS S r x ∧ snS S r x < 144) := fun x => (@snS_b S r x).imp (fun z => z) (fun z => z.b)
  have s1 := sb (10000 + y.2.2.1)
  have s2 := sb (10000 + y.2.2.2)
  have hy := hy.2
  unfold adR inR at hy
  omega
/-- the references of a replica -/
def rfR (S : Int → Int) (r : Int) (s c : Int) : Prop := (s < 144 ∧ isFm S r s ∧ rfS S r (idS S r s) c ∧ c < 144) ∨ (s = 144 ∧ isFm S r c)
def rfR1 (S : Int → Int) (r : Int) (fc : Int → Int) (f : Int) (s c : Int) : Prop := (∃ g, 0 ≤ g ∧ g < f ∧ fc g = s ∧ rfS S r (idS S r s) c ∧ c < 144) ∨ (s = 144 ∧ ∃ g, 0 ≤ g ∧ g < f ∧ fc g = c)
theorem fl_le {fl : List (Int × Int × Int × Int)} (h : flOk fl) : fl.length ≤ 24 := by
  have : ∀ l : List (Int × Int × Int × Int), (l.length : Int) ≤ flW l := by
    intro l
    induction l with
    | nil => show (0 : Int) ≤ 0; omega
    | cons y l ih =>
      have hf : 1 ≤ faW y.2.1 y.2.2.1 := by unfold faW; have := @dgT_l y.2.2.1; split; omega; split <;> omega
      cases l with
      | nil => show ((1 : Nat) : Int) ≤ faW y.2.1 y.2.2.1; omega
      | cons z l => show (((z :: l).length + 1 : Nat) : Int) ≤ faW y.2.1 y.2.2.1 + 1 + flW (z :: l); omega
  have h1 := this fl
  have h2 := h.2.2
  omega
def frP (T : gT) (I : gI) (J : gJ) (O : gO) (ca : Nat) (S : Int → Int) (r : Int) : gP := fun v T' I' J' O' => v = none ∧ T' = T ∧ I' = I ∧ O' = O ∧ (∀ b j, b ≠ ca + 6 + 1 → J' b j = J b j) ∧ CsIs (J' (ca + 6 + 1)) (rfR S r)
set_option maxHeartbeats 8000000 in
set_option maxRecDepth 20000 in
theorem ct_X0_findReferences {T : gT} {I : gI} {J : gJ} {O : gO} {B p ca : Nat} {S : Int → Int} {r : Int} (hP : RpAt T O p) (hca : ca = p + 15) (hL : LkR I p S r) (hc1 : cr1 B T I O ca S r 144) (hf : fmOk S r) : Ct yX0_findReferences cX0_findReferences 7 none [va_rf (some ca), va_rf (some p)] 4 92 0 0 T I J O (frP T I J O ca S r) := by
  refine Ct.of (by decide) [some (va_rf (some ca)), some (va_rf (some p)), none, none, none, none, none] (gEn1 (List.forall_mem_cons.mpr ⟨cat_VR _, List.forall_mem_cons.mpr ⟨cat_VR _, fun _ h => nomatch h⟩⟩) rfl (Nat.le_of_ble_eq_true rfl) rfl) ?_
  intro X x en rm ini hr hz
  have hr0 := hr
  have hM : CaAt T O ca := by rw [hca]; exact hP.s_calculation
  obtain ⟨hE, hFs, -⟩ := hc1
  have n9 := hE.n hf
  have n8 := hE.1
  -- one formula's factors
  have inner : ∀ (d k : Nat) (f : Int) (fa : Nat) (fl : List (Int × Int × Int × Int)) (R : Int → Int → Prop) (J1 : gJ) (y5 y6 : Option Value), 0 ≤ f → f < I ca 4 → fmG T I O fa fl → flOk fl → k + d = fl.length → (∀ b j, b ≠ ca + 6 + 1 → J1 b j = J b j) → CsIs (J1 (ca + 6 + 1)) (fun s c => R s c ∨ (s = I (ca + 3) f ∧ ∃ i y, i < k ∧ fl[i]? = some y ∧ fcR S r y c)) → (∀ J2 z5 z6, (∀ b j, b ≠ ca + 6 + 1 → J2 b j = J b j) → CsIs (J2 (ca + 6 + 1)) (fun s c => R s c ∨ (s = I (ca + 3) f ∧ ∃ y ∈ fl, fcR S r y c)) → G X 105 [some (va_rf (some ca)), some (va_rf (some p)), some (VI f), some (va_rf (some fa)), some (VI ((fl.length : Nat) : Int)), z5, z6] [] T I J2 O 0 0) → G X 43 [some (va_rf (some ca)), some (va_rf (some p)), some (VI f), some (va_rf (some fa)), some (VI (k : Int)), y5, y6] [] T I J1 O 0 0 := by
    intro d
    induction d with
    | zero =>
      intro k f fa fl R J1 y5 y6 f0 f1 hF hfl hd k1 k2 kk
      have hF1 := hF.1
      have hl24 := fl_le hfl
      have ek : k = fl.length := by omega
      subst ek
      have kk := kk J1 y5 y6 k1 (k2.iff (fun s c _ _ _ _ => or_congr Iff.rfl (and_congr Iff.rfl ⟨fun ⟨i, y, _, h1, h2⟩ => ⟨y, List.mem_of_getElem? h1, h2⟩, fun ⟨y, h1, h2⟩ => by obtain ⟨i, hi⟩ := List.getElem?_of_mem h1; exact ⟨i, y, (List.getElem?_eq_some_iff.mp hi).1, hi, h2⟩⟩)))
      refine G_rg (fun hr => ?_)
      refine G_iload4 x eX0_findReferences_43 ?_
      refine G_aload3 x eX0_findReferences_45 ?_
      refine G_cV x eX0_findReferences_46 kX0_122 im_yX3_factors se_yX3_factors rm hF1 (ct_X3_factors hF (fl_le hfl)) rfl ?_
      refine G_icmp_ge x eX0_findReferences_49 (by first | omega | exact hr _ _ | exact hr0 _ _ | exact hrS _) (by first | omega | exact hr _ _ | exact hr0 _ _ | exact hrS _) (fun c49 => ?_) (fun c49 => ?_)
      · exact kk
      · omega
    | succ d ih =>
      intro k f fa fl R J1 y5 y6 f0 f1 hF hfl hd k1 k2 kk
      have hF1 := hF.1
      have hl24 := fl_le hfl
      obtain ⟨y, hk⟩ : ∃ y, fl[k]? = some y := ⟨fl[k], List.getElem?_eq_getElem (by omega)⟩
      have hy := hfl.2.1 y (List.mem_of_getElem? hk)
      have hcb := hE.2.2.2.1 f f0 f1
      have add : ∀ (P : Int → Prop), (∀ c, 0 ≤ c → (P c ↔ fcR S r y c)) → ∀ (J2 : gJ), CsIs (J2 (ca + 6 + 1)) (fun s c => (R s c ∨ (s = I (ca + 3) f ∧ ∃ i y, i < k ∧ fl[i]? = some y ∧ fcR S r y c)) ∨ (s = I (ca + 3) f ∧ P c)) → CsIs (J2 (ca + 6 + 1)) (fun s c => R s c ∨ (s = I (ca + 3) f ∧ ∃ i y, i < k + 1 ∧ fl[i]? = some y ∧ fcR S r y c)) := fun P hPc J2 h => h.iff (fun s c _ _ c0 _ => by
        constructor
        · rintro ((h | ⟨h, i, y', h1, h2, h3⟩) | ⟨h, h1⟩)
          · exact Or.inl h
          · exact Or.inr ⟨h, i, y', by omega, h2, h3⟩
          · exact Or.inr ⟨h, k, y, by omega, hk, (hPc c c0).mp h1⟩
        · rintro (h | ⟨h, i, y', h1, h2, h3⟩)
          · exact Or.inl (Or.inl h)
          · by_cases q : i = k
            · rw [q, hk] at h2
              cases h2
              exact Or.inr ⟨h, (hPc c c0).mpr h3⟩
            · exact Or.inl (Or.inr ⟨h, i, y', by omega, h2, h3⟩))
      have nx : ∀ J2 z5 z6, (∀ b j, b ≠ ca + 6 + 1 → J2 b j = J b j) → CsIs (J2 (ca + 6 + 1)) (fun s c => R s c ∨ (s = I (ca + 3) f ∧ ∃ i y, i < k + 1 ∧ fl[i]? = some y ∧ fcR S r y c)) → G X 43 [some (va_rf (some ca)), some (va_rf (some p)), some (VI f), some (va_rf (some fa)), some (VI ((k : Int) + 1)), z5, z6] [] T I J2 O 0 0 := fun J2 z5 z6 m1 m2 => by
        have := ih (k + 1) f fa fl R J2 z5 z6 f0 f1 hF hfl (by omega) m1 m2 kk
        rw [show ((k + 1 : Nat) : Int) = (k : Int) + 1 by omega] at this
        exact this
      by_cases q0 : y.2.1 = 0
      · have nx := nx J1 y5 y6 k1 (add (fun _ => False) (fun c _ => ⟨fun z => z.elim, fun z => z.1 q0⟩) J1 (k2.iff (fun s c _ _ _ _ => ⟨Or.inl, fun z => z.elim id (fun z => z.2.elim)⟩)))
        refine G_rg (fun hr => ?_)
        refine G_iload4 x eX0_findReferences_43 ?_
        refine G_aload3 x eX0_findReferences_45 ?_
        refine G_cV x eX0_findReferences_46 kX0_122 im_yX3_factors se_yX3_factors rm hF1 (ct_X3_factors hF (fl_le hfl)) rfl ?_
        refine G_icmp_ge x eX0_findReferences_49 (by first | omega | exact hr _ _ | exact hr0 _ _ | exact hrS _) (by first | omega | exact hr _ _ | exact hr0 _ _ | exact hrS _) (fun c49 => ?_) (fun c49 => ?_)
        · omega
        · refine G_aload3 x eX0_findReferences_52 ?_
          refine G_iload4 x eX0_findReferences_53 ?_
          refine G_cV x eX0_findReferences_55 kX0_125 im_yX3_kindOf se_yX3_kindOf rm hF1 (ct_X3_kindOf hF (fl_le hfl) hk) rfl ?_
          refine G_if_eq x eX0_findReferences_58 (by first | omega | exact hr _ _ | exact hr0 _ _ | exact hrS _) (fun c58 => ?_) (fun c58 => ?_)
          · refine G_iinc4 x eX0_findReferences_99 ?_
            refine G_goto x eX0_findReferences_102 ?_
            exact nx
          · contradiction
      · obtain ⟨-, hy2⟩ := hy
        have hb : (0 ≤ y.2.2.1 ∧ y.2.2.1 < 144) ∧ 0 ≤ y.2.2.2 ∧ y.2.2.2 < 144 := by omega
        have sb : ∀ x, snS S r x = -1 ∨ (0 ≤ snS S r x ∧ snS S r x < 144) := fun x => (@snS_b S r x).imp (fun z => z) (fun z => z.b)
        have cC := ct_X0_addReferences (I := I) (s := I (ca + 3) f) hM k2 hcb.1 (by omega) (sb (10000 + y.2.2.1)) (sb (10000 + y.2.2.2))
        refine G_rg (fun hr => ?_)
        refine G_iload4 x eX0_findReferences_43 ?_
        refine G_aload3 x eX0_findReferences_45 ?_
        refine G_cV x eX0_findReferences_46 kX0_122 im_yX3_factors se_yX3_factors rm hF1 (ct_X3_factors hF (fl_le hfl)) rfl ?_
        refine G_icmp_ge x eX0_findReferences_49 (by first | omega | exact hr _ _ | exact hr0 _ _ | exact hrS _) (by first | omega | exact hr _ _ | exact hr0 _ _ | exact hrS _) (fun c49 => ?_) (fun c49 => ?_)
        · omega
        · refine G_aload3 x eX0_findReferences_52 ?_
          refine G_iload4 x eX0_findReferences_53 ?_
          refine G_cV x eX0_findReferences_55 kX0_125 im_yX3_kindOf se_yX3_kindOf rm hF1 (ct_X3_kindOf hF (fl_le hfl) hk) rfl ?_
          refine G_if_eq x eX0_findReferences_58 (by first | omega | exact hr _ _ | exact hr0 _ _ | exact hrS _) (fun c58 => ?_) (fun c58 => ?_)
          · try obtain ⟨rfl, rfl, rfl, rfl, u1, u2⟩ := p96
            refine G_iinc4 x eX0_findReferences_99 ?_
            refine G_goto x eX0_findReferences_102 ?_
            first | contradiction | exact nx _ _ _ (fun b j hb => (u1 b j hb).trans (k1 b j hb)) (add (adR (snS S r (10000 + y.2.2.1)) (snS S r (10000 + y.2.2.2))) (fun c _ => ⟨fun z => ⟨q0, z⟩, fun z => z.2⟩) _ u2)
          · refine G_aload1 x eX0_findReferences_61 ?_
            refine G_aload3 x eX0_findReferences_62 ?_
            refine G_iload4 x eX0_findReferences_63 ?_
            refine G_cV x eX0_findReferences_65 kX0_128 im_yX3_firstOf se_yX3_firstOf rm hF1 (ct_X3_firstOf hF (fl_le hfl) hk) rfl ?_
            refine G_cV x eX0_findReferences_68 kX0_131 im_yX8_cellOf se_yX8_cellOf rm hP.m (ct_X8_cellOf hP hL hb.1.1 hb.1.2) rfl ?_
            refine G_istore5 x eX0_findReferences_71 ?_
            refine G_aload1 x eX0_findReferences_73 ?_
            refine G_aload3 x eX0_findReferences_74 ?_
            refine G_iload4 x eX0_findReferences_75 ?_
            refine G_cV x eX0_findReferences_77 kX0_134 im_yX3_secondOf se_yX3_secondOf rm hF1 (ct_X3_secondOf hF (fl_le hfl) hk) rfl ?_
            refine G_cV x eX0_findReferences_80 kX0_131 im_yX8_cellOf se_yX8_cellOf rm hP.m (ct_X8_cellOf hP hL hb.2.1 hb.2.2) rfl ?_
            refine G_istore6 x eX0_findReferences_83 ?_
            refine G_aload0 x eX0_findReferences_85 ?_
            refine G_aload0 x eX0_findReferences_86 ?_
            refine G_getq x eX0_findReferences_87 fX0_18 rfl rfl hM.m hM.o_formulaCells ?_
            refine G_iload2 x eX0_findReferences_90 ?_
            refine G_iald x eX0_findReferences_91 rfl hM.t_formulaCells (by omega) (by omega) (by omega) (fun h91 => ?_)
            refine G_iload5 x eX0_findReferences_92 ?_
            refine G_iload6 x eX0_findReferences_94 ?_
            refine G_cVg x eX0_findReferences_96 kX0_137 im_yX0_addReferences se_yX0_addReferences rm hM.m cC rfl (fun v96 T96 I96 J96 O96 p96 => ?_)
            refine G_rg (fun hr => ?_)
            try obtain ⟨rfl, rfl, rfl, rfl, u1, u2⟩ := p96
            refine G_iinc4 x eX0_findReferences_99 ?_
            refine G_goto x eX0_findReferences_102 ?_
            first | contradiction | exact nx _ _ _ (fun b j hb => (u1 b j hb).trans (k1 b j hb)) (add (adR (snS S r (10000 + y.2.2.1)) (snS S r (10000 + y.2.2.2))) (fun c _ => ⟨fun z => ⟨q0, z⟩, fun z => z.2⟩) _ u2)
  have outer : ∀ (d : Nat) (f : Int) (J1 : gJ) (y3 y4 y5 y6 : Option Value), f + d = I ca 4 → 0 ≤ f → (∀ b j, b ≠ ca + 6 + 1 → J1 b j = J b j) → CsIs (J1 (ca + 6 + 1)) (rfR1 S r (I (ca + 3)) f) → G X 9 [some (va_rf (some ca)), some (va_rf (some p)), some (VI f), y3, y4, y5, y6] [] T I J1 O 0 0 := by
    intro d
    induction d with
    | zero =>
      intro f J1 y3 y4 y5 y6 hd f0 k1 k2
      have ef : f = I ca 4 := by omega
      subst ef
      refine G_rg (fun hr => ?_)
      refine G_iload2 x eX0_findReferences_9 ?_
      refine G_aload0 x eX0_findReferences_10 ?_
      refine G_geti x eX0_findReferences_11 fX0_80 rfl rfl hM.m (fun h11 => ?_)
      refine G_icmp_ge x eX0_findReferences_14 (by first | omega | exact hr _ _ | exact hr0 _ _ | exact hrS _) (by first | omega | exact hr _ _ | exact hr0 _ _ | exact hrS _) (fun c14 => ?_) (fun c14 => ?_)
      · refine G_return x en eX0_findReferences_111 (by omega) (by omega) ?_
        exact ⟨rfl, rfl, rfl, rfl, k1, k2.iff (fun s c s0 s1 c0 c1 => ⟨fun z => by rcases z with ⟨g, g0, g1, g2, g3, g4⟩ | ⟨e, g, g0, g1, g2⟩; (have h9 := hE.2.2.2.1 g g0 g1; rw [g2] at h9; exact Or.inl ⟨h9.2.1, h9.2.2, g3, g4⟩); (have h9 := hE.2.2.2.1 g g0 g1; rw [g2] at h9; exact Or.inr ⟨e, h9.2.2⟩), fun z => by rcases z with ⟨a1, a2, a3, a4⟩ | ⟨a1, a2⟩; (obtain ⟨g, g0, g1, g2⟩ := hE.2.2.2.2 s s0 a1 a2; exact Or.inl ⟨g, g0, g1, g2, a3, a4⟩); (obtain ⟨g, g0, g1, g2⟩ := hE.2.2.2.2 c c0 a2.1.b.2 a2; exact Or.inr ⟨a1, g, g0, g1, g2⟩)⟩)⟩
      · omega
    | succ d ih =>
      intro f J1 y3 y4 y5 y6 hd f0 k1 k2
      have hcb := hE.2.2.2.1 f f0 (by omega)
      obtain ⟨fa, fl, a1, a2, a3⟩ := hFs f f0 (by omega)
      have hF := a2.1
      have hF1 := hF.1
      have cP := ct_X1_put (I := I) (s := 144) (c := I (ca + 3) f) hM.s_references k2 (by omega) (by omega) hcb.1 hcb.2.1
      have nx : ∀ J2, (∀ b j, b ≠ ca + 6 + 1 → J2 b j = J b j) → CsIs (J2 (ca + 6 + 1)) (fun s' c' => rfR1 S r (I (ca + 3)) f s' c' ∨ (s' = 144 ∧ c' = I (ca + 3) f)) → ∀ (y5 y6 : Option Value), G X 43 [some (va_rf (some ca)), some (va_rf (some p)), some (VI f), some (va_rf (some fa)), some (VI 0), y5, y6] [] T I J2 O 0 0 := fun J2 m1 m2 y5 y6 =>
        inner fl.length 0 f fa fl _ J2 y5 y6 f0 (by omega) hF a3.2.2 (by omega) m1 (m2.iff (fun s c _ _ _ _ => ⟨Or.inl, fun z => z.elim (fun z => z) (fun z => by obtain ⟨-, i, y, h, -⟩ := z; omega)⟩)) (fun J3 z5 z6 n1 n2 => by
          have z := ih (f + 1) J3 (some (va_rf (some fa))) (some (VI ((fl.length : Nat) : Int))) z5 z6 (by omega) (by omega) n1 (n2.iff (fun s c s0 s1 c0 c1 => by
            rw [← rfS_l a3 c0]
            constructor
            · rintro (((⟨g, g0, g1, g2, g3⟩ | ⟨e, g, g0, g1, g2⟩) | ⟨e1, e2⟩) | ⟨e1, e2⟩)
              · exact Or.inl ⟨g, g0, by omega, g2, g3⟩
              · exact Or.inr ⟨e, g, g0, by omega, g2⟩
              · exact Or.inr ⟨e1, f, f0, by omega, e2.symm⟩
              · exact Or.inl ⟨f, f0, by omega, e1.symm, by rw [e1]; exact e2, rfS_b a3 c0 e2⟩
            · rintro (⟨g, g0, g1, g2, g3, g4⟩ | ⟨e, g, g0, g1, g2⟩)
              · by_cases q : g = f
                · rw [q] at g2; exact Or.inr ⟨g2.symm, by rw [g2]; exact g3⟩
                · exact Or.inl (Or.inl (Or.inl ⟨g, g0, by omega, g2, g3, g4⟩))
              · by_cases q : g = f
                · rw [q] at g2; exact Or.inl (Or.inr ⟨e, g2.symm⟩)
                · exact Or.inl (Or.inl (Or.inr ⟨e, g, g0, by omega, g2⟩))))
          refine G_iinc2 x eX0_findReferences_105 ?_
          refine G_goto x eX0_findReferences_108 ?_
          exact z)
      refine G_rg (fun hr => ?_)
      refine G_iload2 x eX0_findReferences_9 ?_
      refine G_aload0 x eX0_findReferences_10 ?_
      refine G_geti x eX0_findReferences_11 fX0_80 rfl rfl hM.m (fun h11 => ?_)
      refine G_icmp_ge x eX0_findReferences_14 (by first | omega | exact hr _ _ | exact hr0 _ _ | exact hrS _) (by first | omega | exact hr _ _ | exact hr0 _ _ | exact hrS _) (fun c14 => ?_) (fun c14 => ?_)
      · omega
      · refine G_aload0 x eX0_findReferences_17 ?_
        refine G_getq x eX0_findReferences_18 fX0_33 rfl rfl hM.m hM.o_references ?_
        refine G_push x eX0_findReferences_21 ?_
        refine G_aload0 x eX0_findReferences_24 ?_
        refine G_getq x eX0_findReferences_25 fX0_18 rfl rfl hM.m hM.o_formulaCells ?_
        refine G_iload2 x eX0_findReferences_28 ?_
        refine G_iald x eX0_findReferences_29 rfl hM.t_formulaCells (by omega) (by omega) (by omega) (fun h29 => ?_)
        refine G_cVg x eX0_findReferences_30 kX0_118 im_yX1_put se_yX1_put rm hM.s_references.m cP rfl (fun v30 T30 I30 J30 O30 p30 => ?_)
        refine G_rg (fun hr => ?_)
        obtain ⟨rfl, rfl, rfl, rfl, u1, u2⟩ := p30
        refine G_aload0 x eX0_findReferences_33 ?_
        refine G_getq x eX0_findReferences_34 fX0_23 rfl rfl hM.m hM.o_formulas ?_
        refine G_iload2 x eX0_findReferences_37 ?_
        refine G_aald x eX0_findReferences_38 rfl hM.t_formulas (fun _ => rfl) (by omega) (by omega) (by omega) ?_
        rw [a1]
        refine G_astore3 x eX0_findReferences_39 ?_
        refine G_push x eX0_findReferences_40 ?_
        refine G_istore4 x eX0_findReferences_41 ?_
        exact nx _ (fun b j hb => (u1 b j hb).trans (k1 b j hb)) u2 _ _
  refine G_rg (fun hr => ?_)
  refine G_aload0 x eX0_findReferences_0 ?_
  refine G_getq x eX0_findReferences_1 fX0_33 rfl rfl hM.m hM.o_references ?_
  refine G_cVg x eX0_findReferences_4 kX0_115 im_yX1_empty se_yX1_empty rm hM.s_references.m (ct_X1_empty hM.s_references) rfl (fun v4 T4 I4 J4 O4 p4 => ?_)
  refine G_rg (fun hr => ?_)
  obtain ⟨rfl, rfl, rfl, rfl, u1, u2⟩ := p4
  refine G_push x eX0_findReferences_7 ?_
  refine G_istore2 x eX0_findReferences_8 ?_
  exact outer (I4 ca 4).toNat 0 _ _ _ _ _ (by omega) (by omega) u1 (u2.iff (fun s c _ _ _ _ => ⟨fun z => z.elim, fun z => by rcases z with ⟨g, g0, g1, _⟩ | ⟨_, g, g0, g1, _⟩ <;> omega⟩))
