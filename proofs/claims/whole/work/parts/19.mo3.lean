/-- the places of a replica's lines of a kind, and which are shown, but for one -/
abbrev mPl (I : gI) (mo : Nat) (r kd : Int) : Int → Int := fun l => I (mo + 1) (3843 + 270 * r + 6 + 5 * (12 * kd + l))
abbrev mSh (I : gI) (mo : Nat) (r kd w : Int) : Int → Prop := fun l => (I (mo + 1) (3843 + 270 * r + 6 + 5 * (12 * kd + l) + 3) = 1 ∧ I (mo + 1) (3843 + 270 * r + 6 + 5 * (12 * kd + l) + 4) = 0) ∧ l ≠ w
def laysP (T : gT) (I : gI) (J : gJ) (O : gO) (mo p : Nat) (r kd w : Int) : gP := fun v T' I' J' O' => T' = T ∧ J' = J ∧ O' = O ∧ (∀ b, b ≠ p → ∀ j, I' b j = I b j) ∧ ∃ n, v = some (VI n) ∧ En (mPl I mo r kd) (mSh I mo r kd w) 12 (I' p) n
set_option maxRecDepth 20000 in
theorem ct_X11_lays {T : gT} {I : gI} {J : gJ} {O : gO} {mo p : Nat} {r kd w : Int} (hM : MoAt T O mo) (hp : T.2 p = some (.inr (0, 12))) (h0 : 0 ≤ r) (h1 : r < 3) (h2 : 0 ≤ kd) (h3 : kd ≤ 1) (h4 : in32 w) : Ct yX11_lays cX11_lays 9 (some .int) [va_rf (some mo), VI r, VI kd, VI w, va_rf (some p)] 2 43 0 0 T I J O (laysP T I J O mo p r kd w) := by
  refine Ct.of (by decide) [some (va_rf (some mo)), some (VI r), some (VI kd), some (VI w), some (va_rf (some p)), none, none, none, none] (gEn1 (List.forall_mem_cons.mpr ⟨cat_VR _, List.forall_mem_cons.mpr ⟨cat_VI _, List.forall_mem_cons.mpr ⟨cat_VI _, List.forall_mem_cons.mpr ⟨cat_VI _, List.forall_mem_cons.mpr ⟨cat_VR _, fun _ h => nomatch h⟩⟩⟩⟩⟩) rfl (Nat.le_of_ble_eq_true rfl) rfl) ?_
  intro X x en rm ini hr hz
  have hr0 := hr
  have hps : p ≠ mo + 1 := fun e => by have := hM.t_s; rw [← e, hp] at this; simp at this
  -- the inner loop: the place where l goes
  have inner : ∀ (d : Nat) (k : Int) (I1 I2 : gI) (n l : Int), d = k.toNat → 0 ≤ k → k ≤ n → n ≤ l → 0 ≤ l → l < 12 → (∀ b, b ≠ p → ∀ j, I1 b j = I b j) → En (mPl I mo r kd) (mSh I mo r kd w) l (I1 p) n → mSh I mo r kd w l →
      (∀ b, b ≠ p → ∀ j, I2 b j = I b j) → (∀ j, j ≤ k → 0 ≤ j → j < n → I2 p j = I1 p j) → (∀ j, k < j → j ≤ n → I2 p j = I1 p (j - 1)) → (∀ j, k ≤ j → j < n → mPl I mo r kd l < mPl I mo r kd (I1 p j)) →
      (∀ (I3 : gI) (o7 o8 : Option Value), (∀ b, b ≠ p → ∀ j, I3 b j = I b j) → En (mPl I mo r kd) (mSh I mo r kd w) (l + 1) (I3 p) (n + 1) → G X 6 [some (va_rf (some mo)), some (VI r), some (VI kd), some (VI w), some (va_rf (some p)), some (VI (n + 1)), some (VI (l + 1)), o7, o8] [] T I3 J O 0 0) →
      G X 58 [some (va_rf (some mo)), some (VI r), some (VI kd), some (VI w), some (va_rf (some p)), some (VI n), some (VI l), some (VI (mPl I mo r kd l)), some (VI k)] [] T I2 J O 0 0 := by
    intro d
    induction d using Nat.strongRecOn with
    | ind d ih =>
    intro k I1 I2 n l hd hk0 hkn hnl hl0 hl12 hI1 hE hsh hI2 hlow hhi hgt kk
    have hI2s : ∀ j, I2 (mo + 1) j = I (mo + 1) j := hI2 _ (Ne.symm hps)
    have hq : 0 < k → I2 p (k - 1) = I1 p (k - 1) ∧ 0 ≤ I1 p (k - 1) ∧ I1 p (k - 1) < 12 := fun h => by
      have := hE.2.2.2.1 (k - 1) (by omega) (by omega)
      exact ⟨hlow _ (by omega) (by omega) (by omega), this.1, by omega⟩
    have hr9 : in32 (mPl I mo r kd l) := hr _ _
    have hexit : (k = 0 ∨ mPl I mo r kd (I1 p (k - 1)) ≤ mPl I mo r kd l) → G X 109 [some (va_rf (some mo)), some (VI r), some (VI kd), some (VI w), some (va_rf (some p)), some (VI n), some (VI l), some (VI (mPl I mo r kd l)), some (VI k)] [] T I2 J O 0 0 := by
      intro hlo
      refine G_rg (fun hr => ?_)
      refine G_aload4 x eX11_lays_109 ?_
      refine G_iload8 x eX11_lays_111 ?_
      refine G_iload6 x eX11_lays_113 ?_
      refine G_iast x eX11_lays_115 rfl hp (by omega) (by omega) (by omega) (by first | omega | exact hr _ _ | exact hr0 _ _) ?_
      refine G_rg (fun hr => ?_)
      refine G_iinc5 x eX11_lays_116 ?_
      refine G_iinc6 x eX11_lays_119 ?_
      refine G_goto x eX11_lays_122 ?_
      exact kk _ _ _ (fun b hb j => by rw [uI_a hb]; exact hI2 b hb j) (En.ins hE hl0 hsh hk0 hkn hlo hgt (fun j h1 h2 => by rw [uI_k (by omega)]; exact hlow j (by omega) h1 (by omega)) uI_s (fun j h1 h2 => by rw [uI_k (by omega)]; exact hhi j h1 h2))
    refine G_rg (fun hr => ?_)
    refine G_iload8 x eX11_lays_58 ?_
    refine G_if_le x eX11_lays_60 (by first | omega | exact hr _ _ | exact hr0 _ _) (fun c60 => ?_) (fun c60 => ?_)
    · first | exact hexit (Or.inl (by omega)) | (refine hexit (Or.inr ?_); rw [hI2s, hq.1] at c88; simpa using c88)
    · have hq := hq (by omega)
      refine G_aload0 x eX11_lays_63 ?_
      refine G_getq x eX11_lays_64 fX11_7 rfl rfl hM.m hM.o_s ?_
      refine G_iload1 x eX11_lays_67 ?_
      refine G_push x eX11_lays_68 ?_
      refine G_iload2 x eX11_lays_70 ?_
      refine G_imul x eX11_lays_71 ?_
      refine G_aload4 x eX11_lays_72 ?_
      refine G_iload8 x eX11_lays_74 ?_
      refine G_push x eX11_lays_76 ?_
      refine G_isub x eX11_lays_77 ?_
      refine G_iald x eX11_lays_78 rfl hp (by omega) (by omega) (by omega) (fun h78 => ?_)
      refine G_iadd x eX11_lays_79 ?_
      refine G_cS x eX11_lays_80 kX11_72 sm_yX11_lineAt rm ct_X11_lineAt rfl ?_
      refine G_push x eX11_lays_83 ?_
      refine G_iadd0 x eX11_lays_84 ?_
      refine G_iald x eX11_lays_85 rfl hM.t_s (by omega) (by omega) (by omega) (fun h85 => ?_)
      refine G_iload7 x eX11_lays_86 ?_
      refine G_icmp_le x eX11_lays_88 (by first | omega | exact hr _ _ | exact hr0 _ _) (by first | omega | exact hr _ _ | exact hr0 _ _) (fun c88 => ?_) (fun c88 => ?_)
      · first | exact hexit (Or.inl (by omega)) | (refine hexit (Or.inr ?_); rw [hI2s, hq.1] at c88; simpa using c88)
      · refine G_aload4 x eX11_lays_91 ?_
        refine G_iload8 x eX11_lays_93 ?_
        refine G_aload4 x eX11_lays_95 ?_
        refine G_iload8 x eX11_lays_97 ?_
        refine G_push x eX11_lays_99 ?_
        refine G_isub x eX11_lays_100 ?_
        refine G_iald x eX11_lays_101 rfl hp (by omega) (by omega) (by omega) (fun h101 => ?_)
        refine G_iast x eX11_lays_102 rfl hp (by omega) (by omega) (by omega) (by first | omega | exact hr _ _ | exact hr0 _ _) ?_
        refine G_rg (fun hr => ?_)
        refine G_iinc8 x eX11_lays_103 ?_
        refine G_goto x eX11_lays_106 ?_
        refine ih _ (by omega) _ I1 _ n l rfl (by omega) (by omega) hnl hl0 hl12 hI1 hE hsh (fun b hb j => by rw [uI_a hb]; exact hI2 b hb j) (fun j a1 a2 a3 => by rw [uI_k (by omega)]; exact hlow j (by omega) a2 a3) (fun j a1 a2 => ?_) (fun j a1 a2 => ?_) kk; · { by_cases e : j = k; · { subst e; rw [uI_s]; exact hq.1 }; · { rw [uI_k e]; exact hhi j (by omega) a2 } }; · { by_cases e : j = k - 1; · { subst e; rw [hI2s, hq.1] at c88; exact Int.not_le.mp c88 }; · exact hgt j (by omega) a2 }
  have outer : ∀ (d : Nat) (l n : Int) (I1 : gI) (o7 o8 : Option Value), d = (12 - l).toNat → 0 ≤ l → l ≤ 12 → (∀ b, b ≠ p → ∀ j, I1 b j = I b j) → En (mPl I mo r kd) (mSh I mo r kd w) l (I1 p) n → G X 6 [some (va_rf (some mo)), some (VI r), some (VI kd), some (VI w), some (va_rf (some p)), some (VI n), some (VI l), o7, o8] [] T I1 J O 0 0 := by
    intro d
    induction d using Nat.strongRecOn with
    | ind d ih =>
    intro l n I1 o7 o8 hd hl0 hl12 hI1 hE
    have hI1s : ∀ j, I1 (mo + 1) j = I (mo + 1) j := hI1 _ (Ne.symm hps)
    have hnb := hE.1
    have hnl := hE.2.1
    refine G_rg (fun hr => ?_)
    refine G_iload6 x eX11_lays_6 ?_
    refine G_push x eX11_lays_8 ?_
    refine G_icmp_ge x eX11_lays_10 (by first | omega | exact hr _ _ | exact hr0 _ _) (by first | omega | exact hr _ _ | exact hr0 _ _) (fun c10 => ?_) (fun c10 => ?_)
    · refine G_iload5 x eX11_lays_125 ?_
      refine G_ireturn x en eX11_lays_127 (by omega) (by omega) ?_
      exact ⟨rfl, rfl, rfl, hI1, _, rfl, by rw [show (12 : Int) = l by omega]; exact hE⟩
    · refine G_aload0 x eX11_lays_13 ?_
      refine G_iload1 x eX11_lays_14 ?_
      refine G_push x eX11_lays_15 ?_
      refine G_iload2 x eX11_lays_17 ?_
      refine G_imul x eX11_lays_18 ?_
      refine G_iload6 x eX11_lays_19 ?_
      refine G_iadd x eX11_lays_21 ?_
      refine G_cV x eX11_lays_22 kX11_91 im_yX11_isShown se_yX11_isShown rm hM.m (ct_X11_isShown hM (by omega) (by omega) (by omega) (by omega)) rfl ?_
      refine G_ifb_eq x eX11_lays_25 (fun c25 => ?_) (fun c25 => ?_)
      · refine G_iinc6 x eX11_lays_119 ?_
        refine G_goto x eX11_lays_122 ?_
        first | exact ih _ (by omega) _ _ _ _ _ rfl (by omega) (by omega) hI1 (En.skip hE (fun z => c25 (by rw [hI1s, hI1s]; exact z.1))) | exact ih _ (by omega) _ _ _ _ _ rfl (by omega) (by omega) hI1 (En.skip hE (fun z => z.2 c31))
      · refine G_iload6 x eX11_lays_28 ?_
        refine G_iload3 x eX11_lays_30 ?_
        refine G_icmp_eq x eX11_lays_31 (by first | omega | exact hr _ _ | exact hr0 _ _) (by first | omega | exact hr _ _ | exact hr0 _ _) (fun c31 => ?_) (fun c31 => ?_)
        · refine G_iinc6 x eX11_lays_119 ?_
          refine G_goto x eX11_lays_122 ?_
          first | exact ih _ (by omega) _ _ _ _ _ rfl (by omega) (by omega) hI1 (En.skip hE (fun z => c25 (by rw [hI1s, hI1s]; exact z.1))) | exact ih _ (by omega) _ _ _ _ _ rfl (by omega) (by omega) hI1 (En.skip hE (fun z => z.2 c31))
        · refine G_aload0 x eX11_lays_34 ?_
          refine G_getq x eX11_lays_35 fX11_7 rfl rfl hM.m hM.o_s ?_
          refine G_iload1 x eX11_lays_38 ?_
          refine G_push x eX11_lays_39 ?_
          refine G_iload2 x eX11_lays_41 ?_
          refine G_imul x eX11_lays_42 ?_
          refine G_iload6 x eX11_lays_43 ?_
          refine G_iadd x eX11_lays_45 ?_
          refine G_cS x eX11_lays_46 kX11_72 sm_yX11_lineAt rm ct_X11_lineAt rfl ?_
          refine G_push x eX11_lays_49 ?_
          refine G_iadd0 x eX11_lays_50 ?_
          refine G_iald x eX11_lays_51 rfl hM.t_s (by omega) (by omega) (by omega) (fun h51 => ?_)
          refine G_istore7 x eX11_lays_52 ?_
          refine G_iload5 x eX11_lays_54 ?_
          refine G_istore8 x eX11_lays_56 ?_
          rw [hI1s]; exact inner _ n I1 I1 n l rfl hnb (by omega) hnl hl0 (by omega) hI1 hE ⟨⟨by rw [← hI1s]; exact c25.1, by rw [← hI1s]; exact c25.2⟩, c31⟩ hI1 (fun _ _ _ _ => rfl) (fun j a b => by omega) (fun j a b => by omega) (fun I3 o7 o8 hf hE' => ih _ (by omega) _ _ _ _ _ rfl (by omega) (by omega) hf hE')
  refine G_rg (fun hr => ?_)
  refine G_push x eX11_lays_0 ?_
  refine G_istore5 x eX11_lays_1 ?_
  refine G_push x eX11_lays_3 ?_
  refine G_istore6 x eX11_lays_4 ?_
  exact outer _ _ _ _ _ _ rfl (by omega) (by omega) (fun _ _ _ => rfl) En.zero
def looksP (T : gT) (I : gI) (J : gJ) (O : gO) (mo : Nat) (r : Int) : gP := fun v T' I' J' O' => v = none ∧ T' = T ∧ J' = J ∧ O' = O ∧ (∀ b, b ≠ mo + 5 → b ≠ mo + 6 → b ≠ mo → ∀ j, I' b j = I b j) ∧ (∀ j, j ≠ 9 → j ≠ 10 → I' mo j = I mo j) ∧ En (mPl I mo r 0) (mSh I mo r 0 (-1)) 12 (I' (mo + 5)) (I' mo 9) ∧ En (mPl I mo r 1) (mSh I mo r 1 (-1)) 12 (I' (mo + 6)) (I' mo 10)
set_option maxRecDepth 20000 in
theorem ct_X11_looks {T : gT} {I : gI} {J : gJ} {O : gO} {mo : Nat} {r : Int} (hM : MoAt T O mo) (h0 : 0 ≤ r) (h1 : r < 3) : Ct yX11_looks cX11_looks 2 none [va_rf (some mo), VI r] 3 71 0 0 T I J O (looksP T I J O mo r) := by
  refine Ct.of (by decide) [some (va_rf (some mo)), some (VI r)] (gEn1 (List.forall_mem_cons.mpr ⟨cat_VR _, List.forall_mem_cons.mpr ⟨cat_VI _, fun _ h => nomatch h⟩⟩) rfl (Nat.le_of_ble_eq_true rfl) rfl) ?_
  intro X x en rm ini hr hz
  have hr0 := hr
  refine G_aload0 x eX11_looks_0 ?_
  refine G_aload0 x eX11_looks_1 ?_
  refine G_iload1 x eX11_looks_2 ?_
  refine G_push x eX11_looks_3 ?_
  refine G_push x eX11_looks_4 ?_
  refine G_aload0 x eX11_looks_5 ?_
  refine G_getq x eX11_looks_6 fX11_22 rfl rfl hM.m hM.o_rows ?_
  refine G_cVg x eX11_looks_9 kX11_95 im_yX11_lays se_yX11_lays rm hM.m (ct_X11_lays hM hM.t_rows (by omega) (by omega) (by omega) (by omega) (by omega)) rfl (fun v9 T9 I9 J9 O9 p9 => ?_)
  refine G_rg (fun hr => ?_)
  obtain ⟨rfl, rfl, rfl, hf, n, rfl, hE⟩ := p9
  have hEb := hE.2.1
  have hEa := hE.1
  refine G_puti x eX11_looks_12 fX11_99 rfl (Or.inl rfl) rfl hM.m (by first | omega | exact hr _ _ | exact hr0 _ _) ?_
  refine G_rg (fun hr => ?_)
  refine G_aload0 x eX11_looks_15 ?_
  refine G_aload0 x eX11_looks_16 ?_
  refine G_iload1 x eX11_looks_17 ?_
  refine G_push x eX11_looks_18 ?_
  refine G_push x eX11_looks_19 ?_
  refine G_aload0 x eX11_looks_20 ?_
  refine G_getq x eX11_looks_21 fX11_25 rfl rfl hM.m hM.o_columns ?_
  refine G_cVg x eX11_looks_24 kX11_95 im_yX11_lays se_yX11_lays rm hM.m (ct_X11_lays hM hM.t_columns (by omega) (by omega) (by omega) (by omega) (by omega)) rfl (fun v24 T24 I24 J24 O24 p24 => ?_)
  refine G_rg (fun hr => ?_)
  obtain ⟨rfl, rfl, rfl, hf2, n2, rfl, hE2⟩ := p24
  have hEb2 := hE2.2.1
  have hEa2 := hE2.1
  refine G_puti x eX11_looks_27 fX11_102 rfl (Or.inl rfl) rfl hM.m (by first | omega | exact hr _ _ | exact hr0 _ _) ?_
  refine G_rg (fun hr => ?_)
  refine G_return x en eX11_looks_30 (by omega) (by omega) ?_
  have e1 : ∀ j, (uI I9 mo 9 n) (mo + 1) j = I (mo + 1) j := fun j => by rw [uI_a (by omega)]; exact hf _ (by omega) j
  refine ⟨rfl, rfl, rfl, rfl, fun b b1 b2 b3 j => ?_, fun j j1 j2 => ?_, ?_, ?_⟩
  · rw [uI_a b3, hf2 b b2, uI_a b3]; exact hf b b1 j
  · rw [uI_k j2, hf2 _ (by omega), uI_k j1]; exact hf _ (by omega) j
  · rw [uI_k (by omega), hf2 _ (by omega), uI_s]
    have e2 : (uI I24 mo 10 n2) (mo + 5) = I9 (mo + 5) := funext fun j => by rw [uI_a (by omega), hf2 _ (by omega), uI_a (by omega)]
    rw [e2]; exact hE
  · rw [uI_s]
    have e2 : (uI I24 mo 10 n2) (mo + 6) = I24 (mo + 6) := funext fun j => by rw [uI_a (by omega)]
    rw [e2]
    exact En.congr hE2 (fun z _ _ => (e1 _).symm) (fun z _ _ => by show (_ ∧ _) ∧ _ ↔ (_ ∧ _) ∧ _; rw [e1, e1])
def idxOf (f : Int → Int) (n l : Int) (k : Int) : Prop := (k = -1 ∧ ∀ i, 0 ≤ i → i < n → f i ≠ l) ∨ (0 ≤ k ∧ k < n ∧ f k = l ∧ ∀ i, 0 ≤ i → i < k → f i ≠ l)
def posP (T : gT) (I : gI) (J : gJ) (O : gO) (mo : Nat) (r kd l : Int) : gP := fun v T' I' J' O' => T' = T ∧ J' = J ∧ O' = O ∧ (∀ b, b ≠ mo + 7 → ∀ j, I' b j = I b j) ∧ ∃ n k, v = some (VI k) ∧ En (mPl I mo r kd) (mSh I mo r kd (-1)) 12 (I' (mo + 7)) n ∧ idxOf (I' (mo + 7)) n l k
set_option maxRecDepth 20000 in
theorem ct_X11_positionOf {T : gT} {I : gI} {J : gJ} {O : gO} {mo : Nat} {r kd l : Int} (hM : MoAt T O mo) (h0 : 0 ≤ r) (h1 : r < 3) (h2 : 0 ≤ kd) (h3 : kd ≤ 1) (h4 : in32 l) : Ct yX11_positionOf cX11_positionOf 6 (some .int) [va_rf (some mo), VI r, VI kd, VI l] 3 71 0 0 T I J O (posP T I J O mo r kd l) := by
  refine Ct.of (by decide) [some (va_rf (some mo)), some (VI r), some (VI kd), some (VI l), none, none] (gEn1 (List.forall_mem_cons.mpr ⟨cat_VR _, List.forall_mem_cons.mpr ⟨cat_VI _, List.forall_mem_cons.mpr ⟨cat_VI _, List.forall_mem_cons.mpr ⟨cat_VI _, fun _ h => nomatch h⟩⟩⟩⟩) rfl (Nat.le_of_ble_eq_true rfl) rfl) ?_
  intro X x en rm ini hr hz
  have hr0 := hr
  refine G_aload0 x eX11_positionOf_0 ?_
  refine G_iload1 x eX11_positionOf_1 ?_
  refine G_iload2 x eX11_positionOf_2 ?_
  refine G_push x eX11_positionOf_3 ?_
  refine G_aload0 x eX11_positionOf_4 ?_
  refine G_getq x eX11_positionOf_5 fX11_28 rfl rfl hM.m hM.o_some ?_
  refine G_cVg x eX11_positionOf_8 kX11_95 im_yX11_lays se_yX11_lays rm hM.m (ct_X11_lays hM hM.t_some (by omega) (by omega) (by omega) (by omega) (by omega)) rfl (fun v8 T8 I8 J8 O8 p8 => ?_)
  refine G_rg (fun hr => ?_)
  obtain ⟨rfl, rfl, rfl, hf, n, rfl, hE⟩ := p8
  have hEb := hE.2.1
  have hEa := hE.1
  have loop : ∀ (d : Nat) (k : Int), d = (n - k).toNat → 0 ≤ k → k ≤ n → (∀ i, 0 ≤ i → i < k → I8 (mo + 7) i ≠ l) → G X 16 [some (va_rf (some mo)), some (VI r), some (VI kd), some (VI l), some (VI n), some (VI k)] [] T8 I8 J8 O8 0 0 := by
    intro d
    induction d using Nat.strongRecOn with
    | ind d ih =>
    intro k hd hk0 hkn hne
    refine G_rg (fun hr => ?_)
    refine G_iload5 x eX11_positionOf_16 ?_
    refine G_iload4 x eX11_positionOf_18 ?_
    refine G_icmp_ge x eX11_positionOf_20 (by first | omega | exact hr _ _ | exact hr0 _ _) (by first | omega | exact hr _ _ | exact hr0 _ _) (fun c20 => ?_) (fun c20 => ?_)
    · refine G_push x eX11_positionOf_43 ?_
      refine G_ireturn x en eX11_positionOf_44 (by omega) (by omega) ?_
      first | exact ⟨rfl, rfl, rfl, hf, n, k, rfl, hE, Or.inr ⟨hk0, by omega, c31, hne⟩⟩ | exact ⟨rfl, rfl, rfl, hf, n, -1, rfl, hE, Or.inl ⟨rfl, fun i i0 i1 => hne i i0 (by omega)⟩⟩
    · refine G_aload0 x eX11_positionOf_23 ?_
      refine G_getq x eX11_positionOf_24 fX11_28 rfl rfl hM.m hM.o_some ?_
      refine G_iload5 x eX11_positionOf_27 ?_
      refine G_iald x eX11_positionOf_29 rfl hM.t_some (by omega) (by omega) (by omega) (fun h29 => ?_)
      refine G_iload3 x eX11_positionOf_30 ?_
      refine G_icmp_ne x eX11_positionOf_31 (by first | omega | exact hr _ _ | exact hr0 _ _) (by first | omega | exact hr _ _ | exact hr0 _ _) (fun c31 => ?_) (fun c31 => ?_)
      · refine G_iinc5 x eX11_positionOf_37 ?_
        refine G_goto x eX11_positionOf_40 ?_
        exact ih _ (by omega) _ rfl (by omega) (by omega) (fun i i0 i1 => if e : i = k then e ▸ c31 else hne i i0 (by omega))
      · refine G_iload5 x eX11_positionOf_34 ?_
        refine G_ireturn x en eX11_positionOf_36 (by omega) (by omega) ?_
        first | exact ⟨rfl, rfl, rfl, hf, n, k, rfl, hE, Or.inr ⟨hk0, by omega, c31, hne⟩⟩ | exact ⟨rfl, rfl, rfl, hf, n, -1, rfl, hE, Or.inl ⟨rfl, fun i i0 i1 => hne i i0 (by omega)⟩⟩
  refine G_rg (fun hr => ?_)
  refine G_istore4 x eX11_positionOf_11 ?_
  refine G_push x eX11_positionOf_13 ?_
  refine G_istore5 x eX11_positionOf_14 ?_
  exact loop _ _ rfl (by omega) (by omega) (fun i i0 i1 => by omega)
/-- the place between, at a position of the lines that f lists -/
def btw (pl f : Int → Int) (n p : Int) : Int :=
  let low := if p = 0 then 0 else pl (f (p - 1))
  let high := if p = n then low + 2000 else pl (f p)
  if low < (low + high) / 2 then (low + high) / 2 else -1
set_option maxRecDepth 20000 in
theorem ct_X11_between {T : gT} {I : gI} {J : gJ} {O : gO} {mo : Nat} {r kd n p : Int} (hM : MoAt T O mo) (h0 : 0 ≤ r) (h1 : r < 3) (h2 : 0 ≤ kd) (h3 : kd ≤ 1) (h4 : 0 ≤ p) (h5 : p ≤ n) (h6 : n ≤ 12) (h7 : ∀ i, 0 ≤ i → i < n → 0 ≤ I (mo + 7) i ∧ I (mo + 7) i < 12) (h8 : ∀ i, 0 ≤ i → i < n → 0 ≤ mPl I mo r kd (I (mo + 7) i) ∧ mPl I mo r kd (I (mo + 7) i) ≤ 1000000) : Ct yX11_between cX11_between 8 (some .int) [va_rf (some mo), VI r, VI kd, VI n, VI p] 1 21 0 0 T I J O (pv (some (VI (btw (mPl I mo r kd) (I (mo + 7)) n p))) T I J O) := by
  refine Ct.of (by decide) [some (va_rf (some mo)), some (VI r), some (VI kd), some (VI n), some (VI p), none, none, none] (gEn1 (List.forall_mem_cons.mpr ⟨cat_VR _, List.forall_mem_cons.mpr ⟨cat_VI _, List.forall_mem_cons.mpr ⟨cat_VI _, List.forall_mem_cons.mpr ⟨cat_VI _, List.forall_mem_cons.mpr ⟨cat_VI _, fun _ h => nomatch h⟩⟩⟩⟩⟩) rfl (Nat.le_of_ble_eq_true rfl) rfl) ?_
  intro X x en rm ini hr hz
  have hr0 := hr
  refine G_rg (fun hr => ?_)
  refine G_iload4 x eX11_between_0 ?_
  refine G_if_ne x eX11_between_2 (by first | omega | exact hr _ _ | exact hr0 _ _) (fun c2 => ?_) (fun c2 => ?_)
  · have g9 := h7 (p - 1) (by omega) (by omega)
    have g8 : 0 ≤ I (mo + 1) (3843 + 270 * r + 6 + 5 * (12 * kd + I (mo + 7) (p - 1))) ∧ I (mo + 1) (3843 + 270 * r + 6 + 5 * (12 * kd + I (mo + 7) (p - 1))) ≤ 1000000 := h8 (p - 1) (by omega) (by omega)
    refine G_aload0 x eX11_between_9 ?_
    refine G_getq x eX11_between_10 fX11_7 rfl rfl hM.m hM.o_s ?_
    refine G_iload1 x eX11_between_13 ?_
    refine G_push x eX11_between_14 ?_
    refine G_iload2 x eX11_between_16 ?_
    refine G_imul x eX11_between_17 ?_
    refine G_aload0 x eX11_between_18 ?_
    refine G_getq x eX11_between_19 fX11_28 rfl rfl hM.m hM.o_some ?_
    refine G_iload4 x eX11_between_22 ?_
    refine G_push x eX11_between_24 ?_
    refine G_isub x eX11_between_25 ?_
    refine G_iald x eX11_between_26 rfl hM.t_some (by omega) (by omega) (by omega) (fun h26 => ?_)
    refine G_iadd x eX11_between_27 ?_
    refine G_cS x eX11_between_28 kX11_72 sm_yX11_lineAt rm ct_X11_lineAt rfl ?_
    refine G_push x eX11_between_31 ?_
    refine G_iadd0 x eX11_between_32 ?_
    refine G_iald x eX11_between_33 rfl hM.t_s (by omega) (by omega) (by omega) (fun h33 => ?_)
    refine G_istore5 x eX11_between_34 ?_
    refine G_iload4 x eX11_between_36 ?_
    refine G_iload3 x eX11_between_38 ?_
    refine G_icmp_ne x eX11_between_39 (by first | omega | exact hr _ _ | exact hr0 _ _) (by first | omega | exact hr _ _ | exact hr0 _ _) (fun c39 => ?_) (fun c39 => ?_)
    · have g51 := h7 p (by omega) (by omega)
      have g50 : 0 ≤ I (mo + 1) (3843 + 270 * r + 6 + 5 * (12 * kd + I (mo + 7) p)) ∧ I (mo + 1) (3843 + 270 * r + 6 + 5 * (12 * kd + I (mo + 7) p)) ≤ 1000000 := h8 p (by omega) (by omega)
      refine G_aload0 x eX11_between_51 ?_
      refine G_getq x eX11_between_52 fX11_7 rfl rfl hM.m hM.o_s ?_
      refine G_iload1 x eX11_between_55 ?_
      refine G_push x eX11_between_56 ?_
      refine G_iload2 x eX11_between_58 ?_
      refine G_imul x eX11_between_59 ?_
      refine G_aload0 x eX11_between_60 ?_
      refine G_getq x eX11_between_61 fX11_28 rfl rfl hM.m hM.o_some ?_
      refine G_iload4 x eX11_between_64 ?_
      refine G_iald x eX11_between_66 rfl hM.t_some (by omega) (by omega) (by omega) (fun h66 => ?_)
      refine G_iadd x eX11_between_67 ?_
      refine G_cS x eX11_between_68 kX11_72 sm_yX11_lineAt rm ct_X11_lineAt rfl ?_
      refine G_push x eX11_between_71 ?_
      refine G_iadd0 x eX11_between_72 ?_
      refine G_iald x eX11_between_73 rfl hM.t_s (by omega) (by omega) (by omega) (fun h73 => ?_)
      refine G_istore6 x eX11_between_74 ?_
      refine G_iload5 x eX11_between_76 ?_
      refine G_iload6 x eX11_between_78 ?_
      refine G_iadd x eX11_between_80 ?_
      refine G_push x eX11_between_81 ?_
      refine G_idivn x eX11_between_82 (by omega) (by omega) (by omega) (by omega) ?_
      refine G_istore7 x eX11_between_83 ?_
      refine G_iload7 x eX11_between_85 ?_
      refine G_iload5 x eX11_between_87 ?_
      refine G_icmp_le x eX11_between_89 (by first | omega | exact hr _ _ | exact hr0 _ _) (by first | omega | exact hr _ _ | exact hr0 _ _) (fun c89 => ?_) (fun c89 => ?_)
      · refine G_push x eX11_between_97 ?_
        refine G_ireturn x en eX11_between_98 (by omega) (by omega) ?_
        refine ⟨?_, rfl, rfl, rfl, rfl⟩; simp only [btw, mPl]; (repeat' split) <;> first | rfl | omega
      · refine G_iload7 x eX11_between_92 ?_
        refine G_goto x eX11_between_94 ?_
        refine G_ireturn x en eX11_between_98 (by omega) (by omega) ?_
        refine ⟨?_, rfl, rfl, rfl, rfl⟩; simp only [btw, mPl]; (repeat' split) <;> first | rfl | omega
    · refine G_iload5 x eX11_between_42 ?_
      refine G_push x eX11_between_44 ?_
      refine G_iadd x eX11_between_47 ?_
      refine G_goto x eX11_between_48 ?_
      refine G_istore6 x eX11_between_74 ?_
      refine G_iload5 x eX11_between_76 ?_
      refine G_iload6 x eX11_between_78 ?_
      refine G_iadd x eX11_between_80 ?_
      refine G_push x eX11_between_81 ?_
      refine G_idivn x eX11_between_82 (by omega) (by omega) (by omega) (by omega) ?_
      refine G_istore7 x eX11_between_83 ?_
      refine G_iload7 x eX11_between_85 ?_
      refine G_iload5 x eX11_between_87 ?_
      refine G_icmp_le x eX11_between_89 (by first | omega | exact hr _ _ | exact hr0 _ _) (by first | omega | exact hr _ _ | exact hr0 _ _) (fun c89 => ?_) (fun c89 => ?_)
      · refine G_push x eX11_between_97 ?_
        refine G_ireturn x en eX11_between_98 (by omega) (by omega) ?_
        refine ⟨?_, rfl, rfl, rfl, rfl⟩; simp only [btw, mPl]; (repeat' split) <;> first | rfl | omega
      · refine G_iload7 x eX11_between_92 ?_
        refine G_goto x eX11_between_94 ?_
        refine G_ireturn x en eX11_between_98 (by omega) (by omega) ?_
        refine ⟨?_, rfl, rfl, rfl, rfl⟩; simp only [btw, mPl]; (repeat' split) <;> first | rfl | omega
  · refine G_push x eX11_between_5 ?_
    refine G_goto x eX11_between_6 ?_
    refine G_istore5 x eX11_between_34 ?_
    refine G_iload4 x eX11_between_36 ?_
    refine G_iload3 x eX11_between_38 ?_
    refine G_icmp_ne x eX11_between_39 (by first | omega | exact hr _ _ | exact hr0 _ _) (by first | omega | exact hr _ _ | exact hr0 _ _) (fun c39 => ?_) (fun c39 => ?_)
    · have g51 := h7 p (by omega) (by omega)
      have g50 : 0 ≤ I (mo + 1) (3843 + 270 * r + 6 + 5 * (12 * kd + I (mo + 7) p)) ∧ I (mo + 1) (3843 + 270 * r + 6 + 5 * (12 * kd + I (mo + 7) p)) ≤ 1000000 := h8 p (by omega) (by omega)
      refine G_aload0 x eX11_between_51 ?_
      refine G_getq x eX11_between_52 fX11_7 rfl rfl hM.m hM.o_s ?_
      refine G_iload1 x eX11_between_55 ?_
      refine G_push x eX11_between_56 ?_
      refine G_iload2 x eX11_between_58 ?_
      refine G_imul x eX11_between_59 ?_
      refine G_aload0 x eX11_between_60 ?_
      refine G_getq x eX11_between_61 fX11_28 rfl rfl hM.m hM.o_some ?_
      refine G_iload4 x eX11_between_64 ?_
      refine G_iald x eX11_between_66 rfl hM.t_some (by omega) (by omega) (by omega) (fun h66 => ?_)
      refine G_iadd x eX11_between_67 ?_
      refine G_cS x eX11_between_68 kX11_72 sm_yX11_lineAt rm ct_X11_lineAt rfl ?_
      refine G_push x eX11_between_71 ?_
      refine G_iadd0 x eX11_between_72 ?_
      refine G_iald x eX11_between_73 rfl hM.t_s (by omega) (by omega) (by omega) (fun h73 => ?_)
      refine G_istore6 x eX11_between_74 ?_
      refine G_iload5 x eX11_between_76 ?_
      refine G_iload6 x eX11_between_78 ?_
      refine G_iadd x eX11_between_80 ?_
      refine G_push x eX11_between_81 ?_
      refine G_idivn x eX11_between_82 (by omega) (by omega) (by omega) (by omega) ?_
      refine G_istore7 x eX11_between_83 ?_
      refine G_iload7 x eX11_between_85 ?_
      refine G_iload5 x eX11_between_87 ?_
      refine G_icmp_le x eX11_between_89 (by first | omega | exact hr _ _ | exact hr0 _ _) (by first | omega | exact hr _ _ | exact hr0 _ _) (fun c89 => ?_) (fun c89 => ?_)
      · refine G_push x eX11_between_97 ?_
        refine G_ireturn x en eX11_between_98 (by omega) (by omega) ?_
        refine ⟨?_, rfl, rfl, rfl, rfl⟩; simp only [btw, mPl]; (repeat' split) <;> first | rfl | omega
      · refine G_iload7 x eX11_between_92 ?_
        refine G_goto x eX11_between_94 ?_
        refine G_ireturn x en eX11_between_98 (by omega) (by omega) ?_
        refine ⟨?_, rfl, rfl, rfl, rfl⟩; simp only [btw, mPl]; (repeat' split) <;> first | rfl | omega
    · refine G_iload5 x eX11_between_42 ?_
      refine G_push x eX11_between_44 ?_
      refine G_iadd x eX11_between_47 ?_
      refine G_goto x eX11_between_48 ?_
      refine G_istore6 x eX11_between_74 ?_
      refine G_iload5 x eX11_between_76 ?_
      refine G_iload6 x eX11_between_78 ?_
      refine G_iadd x eX11_between_80 ?_
      refine G_push x eX11_between_81 ?_
      refine G_idivn x eX11_between_82 (by omega) (by omega) (by omega) (by omega) ?_
      refine G_istore7 x eX11_between_83 ?_
      refine G_iload7 x eX11_between_85 ?_
      refine G_iload5 x eX11_between_87 ?_
      refine G_icmp_le x eX11_between_89 (by first | omega | exact hr _ _ | exact hr0 _ _) (by first | omega | exact hr _ _ | exact hr0 _ _) (fun c89 => ?_) (fun c89 => ?_)
      · refine G_push x eX11_between_97 ?_
        refine G_ireturn x en eX11_between_98 (by omega) (by omega) ?_
        refine ⟨?_, rfl, rfl, rfl, rfl⟩; simp only [btw, mPl]; (repeat' split) <;> first | rfl | omega
      · refine G_iload7 x eX11_between_92 ?_
        refine G_goto x eX11_between_94 ?_
        refine G_ireturn x en eX11_between_98 (by omega) (by omega) ?_
        refine ⟨?_, rfl, rfl, rfl, rfl⟩; simp only [btw, mPl]; (repeat' split) <;> first | rfl | omega
