/-! what formulas refer to -/
theorem CsIs.iff {B : Int → Int64} {R R' : Int → Int → Prop} (h : CsIs B R) (e : ∀ s c, 0 ≤ s → s ≤ 144 → 0 ≤ c → c < 192 → (R s c ↔ R' s c)) : CsIs B R' := fun s c s0 s1 c0 c1 => (h s c s0 s1 c0 c1).trans (e s c s0 s1 c0 c1)
def rcA (a b row col d : Int) : Prop := (min (a % 12) (b % 12) ≤ d % 12 ∧ d % 12 ≤ max (a % 12) (b % 12)) ∧ min (a / 12) (b / 12) ≤ d / 12 ∧ (d / 12 < row ∨ (d / 12 = row ∧ d % 12 < col))
def caP (T : gT) (I : gI) (J : gJ) (O : gO) (cs : Nat) (R : Int → Int → Prop) : gP := fun v T' I' J' O' => v = none ∧ T' = T ∧ I' = I ∧ O' = O ∧ (∀ b j, b ≠ cs + 1 → J' b j = J b j) ∧ CsIs (J' (cs + 1)) R
set_option maxHeartbeats 4000000 in
set_option maxRecDepth 20000 in
theorem ct_X0_addRectangle {T : gT} {I : gI} {J : gJ} {O : gO} {ca : Nat} {s a b : Int} {R : Int → Int → Prop} (hM : CaAt T O ca) (hR : CsIs (J (ca + 6 + 1)) R) (s0 : 0 ≤ s) (s1 : s ≤ 144) (h2 : 0 ≤ a ∧ a < 144) (h3 : 0 ≤ b ∧ b < 144) : Ct yX0_addRectangle cX0_addRectangle 8 none [va_rf (some ca), VI s, VI a, VI b] 2 42 0 0 T I J O (caP T I J O (ca + 6) (fun s' c' => R s' c' ∨ (s' = s ∧ inR a b c'))) := by
  refine Ct.of (by decide) [some (va_rf (some ca)), some (VI s), some (VI a), some (VI b), none, none, none, none] (gEn1 (List.forall_mem_cons.mpr ⟨cat_VR _, List.forall_mem_cons.mpr ⟨cat_VI _, List.forall_mem_cons.mpr ⟨cat_VI _, List.forall_mem_cons.mpr ⟨cat_VI _, fun _ h => nomatch h⟩⟩⟩⟩) rfl (Nat.le_of_ble_eq_true rfl) rfl) ?_
  intro X x en rm ini hr hz
  have hr0 := hr
  have inner : ∀ (d : Nat) (row col : Int) (J1 : gJ), col + d = max (a % 12) (b % 12) + 1 → min (a % 12) (b % 12) ≤ col → min (a / 12) (b / 12) ≤ row → row ≤ max (a / 12) (b / 12) → (∀ b j, b ≠ ca + 6 + 1 → J1 b j = J b j) → CsIs (J1 (ca + 6 + 1)) (fun s' c' => R s' c' ∨ (s' = s ∧ 0 ≤ c' ∧ rcA a b row col c')) → (∀ J2 y, (∀ b j, b ≠ ca + 6 + 1 → J2 b j = J b j) → CsIs (J2 (ca + 6 + 1)) (fun s' c' => R s' c' ∨ (s' = s ∧ 0 ≤ c' ∧ rcA a b (row + 1) (min (a % 12) (b % 12)) c')) → G X 88 [some (va_rf (some ca)), some (VI s), some (VI a), some (VI b), some (VI (max (a / 12) (b / 12))), some (VI (max (a % 12) (b % 12))), some (VI row), y] [] T I J2 O 0 0) → G X 59 [some (va_rf (some ca)), some (VI s), some (VI a), some (VI b), some (VI (max (a / 12) (b / 12))), some (VI (max (a % 12) (b % 12))), some (VI row), some (VI col)] [] T I J1 O 0 0 := by
    intro d
    induction d with
    | zero =>
      intro row col J1 hd q0 w0 w1 k1 k2 kk
      have kk := kk J1 (some (VI col)) k1 (k2.iff (fun s' c' _ _ _ _ => or_congr Iff.rfl (and_congr Iff.rfl (and_congr Iff.rfl (by unfold rcA; omega)))))
      refine G_rg (fun hr => ?_)
      refine G_iload7 x eX0_addRectangle_59 ?_
      refine G_iload5 x eX0_addRectangle_61 ?_
      refine G_icmp_gt x eX0_addRectangle_63 (by first | omega | exact hr _ _ | exact hr0 _ _ | exact hrS _) (by first | omega | exact hr _ _ | exact hr0 _ _ | exact hrS _) (fun c63 => ?_) (fun c63 => ?_)
      · exact kk
      · omega
    | succ d ih =>
      intro row col J1 hd q0 w0 w1 k1 k2 kk
      have cC := ct_X1_put (I := I) (c := row * 12 + col) hM.s_references k2 s0 s1 (by omega) (by omega)
      refine G_rg (fun hr => ?_)
      refine G_iload7 x eX0_addRectangle_59 ?_
      refine G_iload5 x eX0_addRectangle_61 ?_
      refine G_icmp_gt x eX0_addRectangle_63 (by first | omega | exact hr _ _ | exact hr0 _ _ | exact hrS _) (by first | omega | exact hr _ _ | exact hr0 _ _ | exact hrS _) (fun c63 => ?_) (fun c63 => ?_)
      · omega
      · refine G_aload0 x eX0_addRectangle_66 ?_
        refine G_getq x eX0_addRectangle_67 fX0_33 rfl rfl hM.m hM.o_references ?_
        refine G_iload1 x eX0_addRectangle_70 ?_
        refine G_iload6 x eX0_addRectangle_71 ?_
        refine G_push x eX0_addRectangle_73 ?_
        refine G_imul x eX0_addRectangle_75 ?_
        refine G_iload7 x eX0_addRectangle_76 ?_
        refine G_iadd x eX0_addRectangle_78 ?_
        refine G_cVg x eX0_addRectangle_79 kX0_118 im_yX1_put se_yX1_put rm hM.s_references.m cC rfl (fun v79 T79 I79 J79 O79 p79 => ?_)
        refine G_rg (fun hr => ?_)
        obtain ⟨rfl, rfl, rfl, rfl, u1, u2⟩ := p79
        refine G_iinc7 x eX0_addRectangle_82 ?_
        refine G_goto x eX0_addRectangle_85 ?_
        exact ih row (col + 1) _ (by omega) (by omega) w0 w1 (fun b j hb => (u1 b j hb).trans (k1 b j hb)) (u2.iff (fun s' c' _ _ c0 _ => by unfold rcA; constructor <;> intro z <;> (rcases z with z | z) <;> first | (rcases z with z | z; exact Or.inl z; exact Or.inr ⟨z.1, z.2.1, by omega⟩) | exact Or.inr ⟨z.1, c0, by omega⟩ | exact Or.inl (Or.inl z) | (by_cases q : c' = row * 12 + col; exact Or.inr ⟨z.1, q⟩; exact Or.inl (Or.inr ⟨z.1, z.2.1, by omega⟩)))) kk
  have outer : ∀ (d : Nat) (row : Int) (J1 : gJ) (y : Option Value), row + d = max (a / 12) (b / 12) + 1 → min (a / 12) (b / 12) ≤ row → (∀ b j, b ≠ ca + 6 + 1 → J1 b j = J b j) → CsIs (J1 (ca + 6 + 1)) (fun s' c' => R s' c' ∨ (s' = s ∧ 0 ≤ c' ∧ rcA a b row (min (a % 12) (b % 12)) c')) → G X 39 [some (va_rf (some ca)), some (VI s), some (VI a), some (VI b), some (VI (max (a / 12) (b / 12))), some (VI (max (a % 12) (b % 12))), some (VI row), y] [] T I J1 O 0 0 := by
    intro d
    induction d with
    | zero =>
      intro row J1 y hd w0 k1 k2
      refine G_rg (fun hr => ?_)
      refine G_iload6 x eX0_addRectangle_39 ?_
      refine G_iload4 x eX0_addRectangle_41 ?_
      refine G_icmp_gt x eX0_addRectangle_43 (by first | omega | exact hr _ _ | exact hr0 _ _ | exact hrS _) (by first | omega | exact hr _ _ | exact hr0 _ _ | exact hrS _) (fun c43 => ?_) (fun c43 => ?_)
      · refine G_return x en eX0_addRectangle_94 (by omega) (by omega) ?_
        exact ⟨rfl, rfl, rfl, rfl, k1, k2.iff (fun s' c' _ _ c0 _ => or_congr Iff.rfl (and_congr Iff.rfl (by unfold rcA inR; omega)))⟩
      · omega
    | succ d ih =>
      intro row J1 y hd w0 k1 k2
      have nx := inner (max (a % 12) (b % 12) + 1 - min (a % 12) (b % 12)).toNat row (min (a % 12) (b % 12)) J1 (by omega) (by omega) w0 (by omega) k1 k2 (fun J2 y m1 m2 => by
        have z := ih (row + 1) J2 y (by omega) (by omega) m1 m2
        refine G_iinc6 x eX0_addRectangle_88 ?_
        refine G_goto x eX0_addRectangle_91 ?_
        exact z)
      refine G_rg (fun hr => ?_)
      refine G_iload6 x eX0_addRectangle_39 ?_
      refine G_iload4 x eX0_addRectangle_41 ?_
      refine G_icmp_gt x eX0_addRectangle_43 (by first | omega | exact hr _ _ | exact hr0 _ _ | exact hrS _) (by first | omega | exact hr _ _ | exact hr0 _ _ | exact hrS _) (fun c43 => ?_) (fun c43 => ?_)
      · omega
      · refine G_iload2 x eX0_addRectangle_46 ?_
        refine G_push x eX0_addRectangle_47 ?_
        refine G_iremn x eX0_addRectangle_49 (by omega) (by omega) (by omega) (by omega) ?_
        refine G_iload3 x eX0_addRectangle_50 ?_
        refine G_push x eX0_addRectangle_51 ?_
        refine G_iremn x eX0_addRectangle_53 (by omega) (by omega) (by omega) (by omega) ?_
        refine G_cS x eX0_addRectangle_54 kX0_150 sm_yJ9_min_7cf53 rm (ct_J9_min_7cf53 (by first | omega | exact hr _ _ | exact hr0 _ _ | exact hrS _) (by first | omega | exact hr _ _ | exact hr0 _ _ | exact hrS _)) rfl ?_
        refine G_istore7 x eX0_addRectangle_57 ?_
        exact nx
  have s0 := outer (max (a / 12) (b / 12) + 1 - min (a / 12) (b / 12)).toNat (min (a / 12) (b / 12)) J none (by omega) (by omega) (fun _ _ _ => rfl) (hR.iff (fun s' c' _ _ c0 _ => ⟨Or.inl, fun z => z.elim id (fun z => by exfalso; have := z.2.2; unfold rcA at this; omega)⟩))
  refine G_rg (fun hr => ?_)
  refine G_iload2 x eX0_addRectangle_0 ?_
  refine G_push x eX0_addRectangle_1 ?_
  refine G_idivn x eX0_addRectangle_3 (by omega) (by omega) (by omega) (by omega) ?_
  refine G_iload3 x eX0_addRectangle_4 ?_
  refine G_push x eX0_addRectangle_5 ?_
  refine G_idivn x eX0_addRectangle_7 (by omega) (by omega) (by omega) (by omega) ?_
  refine G_cS x eX0_addRectangle_8 kX0_144 sm_yJ9_max_7cf53 rm (ct_J9_max_7cf53 (by first | omega | exact hr _ _ | exact hr0 _ _ | exact hrS _) (by first | omega | exact hr _ _ | exact hr0 _ _ | exact hrS _)) rfl ?_
  refine G_istore4 x eX0_addRectangle_11 ?_
  refine G_iload2 x eX0_addRectangle_13 ?_
  refine G_push x eX0_addRectangle_14 ?_
  refine G_iremn x eX0_addRectangle_16 (by omega) (by omega) (by omega) (by omega) ?_
  refine G_iload3 x eX0_addRectangle_17 ?_
  refine G_push x eX0_addRectangle_18 ?_
  refine G_iremn x eX0_addRectangle_20 (by omega) (by omega) (by omega) (by omega) ?_
  refine G_cS x eX0_addRectangle_21 kX0_144 sm_yJ9_max_7cf53 rm (ct_J9_max_7cf53 (by first | omega | exact hr _ _ | exact hr0 _ _ | exact hrS _) (by first | omega | exact hr _ _ | exact hr0 _ _ | exact hrS _)) rfl ?_
  refine G_istore5 x eX0_addRectangle_24 ?_
  refine G_iload2 x eX0_addRectangle_26 ?_
  refine G_push x eX0_addRectangle_27 ?_
  refine G_idivn x eX0_addRectangle_29 (by omega) (by omega) (by omega) (by omega) ?_
  refine G_iload3 x eX0_addRectangle_30 ?_
  refine G_push x eX0_addRectangle_31 ?_
  refine G_idivn x eX0_addRectangle_33 (by omega) (by omega) (by omega) (by omega) ?_
  refine G_cS x eX0_addRectangle_34 kX0_150 sm_yJ9_min_7cf53 rm (ct_J9_min_7cf53 (by first | omega | exact hr _ _ | exact hr0 _ _ | exact hrS _) (by first | omega | exact hr _ _ | exact hr0 _ _ | exact hrS _)) rfl ?_
  refine G_istore6 x eX0_addRectangle_37 ?_
  exact s0
