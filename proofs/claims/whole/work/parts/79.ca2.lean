/-! a formula calculated by the class -/
noncomputable def fkV (S : Int → Int) (r : Int) (V : Int → Int64) (E : Int → Int) (y : Int × Int × Int × Int) : Int × Int64 := if y.2.1 = 0 then (0, Int64.ofInt y.2.2.1) else if snS S r (10000 + y.2.2.1) = -1 ∨ snS S r (10000 + y.2.2.2) = -1 then (2, 0) else smV V E (snS S r (10000 + y.2.2.1)) (snS S r (10000 + y.2.2.2))
theorem fkV_0 {S : Int → Int} {r : Int} {V : Int → Int64} {E : Int → Int} {y : Int × Int × Int × Int} (h : (fkV S r V E y).1 ≠ 0) : (fkV S r V E y).2 = 0 := by
  unfold fkV at *
  split at h
  · exact absurd rfl h
  · rw [if_neg (by assumption)]
    split at h
    · rw [if_pos (by assumption)]
    · rw [if_neg (by assumption)]
      unfold smV at *
      exact if_neg h
set_option maxRecDepth 20000 in
theorem ct_X0_factorOf {T : gT} {I : gI} {J : gJ} {O : gO} {ca p fa k : Nat} {S : Int → Int} {r : Int} {fl : List (Int × Int × Int × Int)} {y : Int × Int × Int × Int} (hM : CaAt T O ca) (hP : RpAt T O p) (hL : LkR I p S r) (hF : fmG T I O fa fl) (hl : fl.length ≤ 24) (hk : fl[k]? = some y) (hy : faOk y) (h4 : I ca 10 = 0) : Ct yX0_factorOf cX0_factorOf 6 (some .long) [va_rf (some ca), va_rf (some p), va_rf (some fa), VI (k : Int)] 2 50 0 0 T I J O (pv (some (Value.long (fkV S r (vV I ca) (I (ca + 2)) y).2)) T (uI I ca 10 (fkV S r (vV I ca) (I (ca + 2)) y).1) J O) := by
  refine Ct.of (by decide) [some (va_rf (some ca)), some (va_rf (some p)), some (va_rf (some fa)), some (VI (k : Int)), none, none] (gEn1 (List.forall_mem_cons.mpr ⟨cat_VR _, List.forall_mem_cons.mpr ⟨cat_VR _, List.forall_mem_cons.mpr ⟨cat_VR _, List.forall_mem_cons.mpr ⟨cat_VI _, fun _ h => nomatch h⟩⟩⟩⟩) rfl (Nat.le_of_ble_eq_true rfl) rfl) ?_
  intro X x en rm ini hr hz
  have hr0 := hr
  have hF1 : T.2 fa = some (.inl 3) := hF.1
  have hv : fkV S r (vV I ca) (I (ca + 2)) y = if y.2.1 = 0 then (0, Int64.ofInt y.2.2.1) else if snS S r (10000 + y.2.2.1) = -1 ∨ snS S r (10000 + y.2.2.2) = -1 then (2, 0) else smV (vV I ca) (I (ca + 2)) (snS S r (10000 + y.2.2.1)) (snS S r (10000 + y.2.2.2)) := rfl
  generalize fkV S r (vV I ca) (I (ca + 2)) y = res at *
  obtain ⟨-, hy⟩ := hy
  by_cases e1 : y.2.1 = 0
  · rw [if_pos e1] at hv
    refine G_rg (fun hr => ?_)
    refine G_aload2 x eX0_factorOf_0 ?_
    refine G_iload3 x eX0_factorOf_1 ?_
    refine G_cV x eX0_factorOf_2 kX0_125 im_yX3_kindOf se_yX3_kindOf rm hF1 (ct_X3_kindOf hF hl hk) rfl ?_
    refine G_if_ne x eX0_factorOf_5 (by first | omega | exact hr _ _ | exact hr0 _ _ | exact hrS _) (fun c5 => ?_) (fun c5 => ?_)
    · omega
    · refine G_aload2 x eX0_factorOf_8 ?_
      refine G_iload3 x eX0_factorOf_9 ?_
      refine G_cV x eX0_factorOf_10 kX0_128 im_yX3_firstOf se_yX3_firstOf rm hF1 (ct_X3_firstOf hF hl hk) rfl ?_
      refine G_i2l x eX0_factorOf_13 (by first | omega | exact hr _ _ | exact hr0 _ _ | exact hrS _) ?_
      refine G_lreturn x en eX0_factorOf_14 (by omega) (by omega) ?_
      exact ⟨by rw [hv], rfl, by rw [hv]; exact (uI_id h4).symm, rfl, rfl⟩
  · rw [if_neg e1] at hv
    have hb : (0 ≤ y.2.2.1 ∧ y.2.2.1 < 144) ∧ 0 ≤ y.2.2.2 ∧ y.2.2.2 < 144 := by omega
    have s1 : snS S r (10000 + y.2.2.1) = -1 ∨ (0 ≤ snS S r (10000 + y.2.2.1) ∧ snS S r (10000 + y.2.2.1) < 144) := (@snS_b S r (10000 + y.2.2.1)).imp id (fun z => z.b)
    have s2 : snS S r (10000 + y.2.2.2) = -1 ∨ (0 ≤ snS S r (10000 + y.2.2.2) ∧ snS S r (10000 + y.2.2.2) < 144) := (@snS_b S r (10000 + y.2.2.2)).imp id (fun z => z.b)
    have c1 := ct_X8_cellOf (J := J) hP hL hb.1.1 hb.1.2
    have c2 := ct_X8_cellOf (J := J) hP hL hb.2.1 hb.2.2
    generalize snS S r (10000 + y.2.2.1) = a at *
    generalize snS S r (10000 + y.2.2.2) = b at *
    by_cases q : a = -1 ∨ b = -1
    · rw [if_pos q] at hv
      refine G_rg (fun hr => ?_)
      refine G_aload2 x eX0_factorOf_0 ?_
      refine G_iload3 x eX0_factorOf_1 ?_
      refine G_cV x eX0_factorOf_2 kX0_125 im_yX3_kindOf se_yX3_kindOf rm hF1 (ct_X3_kindOf hF hl hk) rfl ?_
      refine G_if_ne x eX0_factorOf_5 (by first | omega | exact hr _ _ | exact hr0 _ _ | exact hrS _) (fun c5 => ?_) (fun c5 => ?_)
      · refine G_aload1 x eX0_factorOf_15 ?_
        refine G_aload2 x eX0_factorOf_16 ?_
        refine G_iload3 x eX0_factorOf_17 ?_
        refine G_cV x eX0_factorOf_18 kX0_128 im_yX3_firstOf se_yX3_firstOf rm hF1 (ct_X3_firstOf hF hl hk) rfl ?_
        refine G_cV x eX0_factorOf_21 kX0_131 im_yX8_cellOf se_yX8_cellOf rm hP.m c1 rfl ?_
        refine G_istore4 x eX0_factorOf_24 ?_
        refine G_aload1 x eX0_factorOf_26 ?_
        refine G_aload2 x eX0_factorOf_27 ?_
        refine G_iload3 x eX0_factorOf_28 ?_
        refine G_cV x eX0_factorOf_29 kX0_134 im_yX3_secondOf se_yX3_secondOf rm hF1 (ct_X3_secondOf hF hl hk) rfl ?_
        refine G_cV x eX0_factorOf_32 kX0_131 im_yX8_cellOf se_yX8_cellOf rm hP.m c2 rfl ?_
        refine G_istore5 x eX0_factorOf_35 ?_
        refine G_iload4 x eX0_factorOf_37 ?_
        refine G_push x eX0_factorOf_39 ?_
        refine G_icmp_eq x eX0_factorOf_40 (by first | omega | exact hr _ _ | exact hr0 _ _ | exact hrS _) (by first | omega | exact hr _ _ | exact hr0 _ _ | exact hrS _) (fun c40 => ?_) (fun c40 => ?_)
        · refine G_aload0 x eX0_factorOf_49 ?_
          refine G_push x eX0_factorOf_50 ?_
          refine G_puti x eX0_factorOf_51 fX0_176 rfl (Or.inl rfl) rfl hM.m (by first | omega | exact hr _ _ | exact hr0 _ _ | exact hrS _) ?_
          refine G_rg (fun hr => ?_)
          refine G_lconst x eX0_factorOf_54 ?_
          refine G_lreturn x en eX0_factorOf_55 (by omega) (by omega) ?_
          exact ⟨by rw [hv]; rfl, rfl, by rw [hv], rfl, rfl⟩
        · refine G_iload5 x eX0_factorOf_43 ?_
          refine G_push x eX0_factorOf_45 ?_
          refine G_icmp_ne x eX0_factorOf_46 (by first | omega | exact hr _ _ | exact hr0 _ _ | exact hrS _) (by first | omega | exact hr _ _ | exact hr0 _ _ | exact hrS _) (fun c46 => ?_) (fun c46 => ?_)
          · omega
          · refine G_aload0 x eX0_factorOf_49 ?_
            refine G_push x eX0_factorOf_50 ?_
            refine G_puti x eX0_factorOf_51 fX0_176 rfl (Or.inl rfl) rfl hM.m (by first | omega | exact hr _ _ | exact hr0 _ _ | exact hrS _) ?_
            refine G_rg (fun hr => ?_)
            refine G_lconst x eX0_factorOf_54 ?_
            refine G_lreturn x en eX0_factorOf_55 (by omega) (by omega) ?_
            exact ⟨by rw [hv]; rfl, rfl, by rw [hv], rfl, rfl⟩
      · contradiction
    · rw [if_neg q] at hv
      refine G_rg (fun hr => ?_)
      refine G_aload2 x eX0_factorOf_0 ?_
      refine G_iload3 x eX0_factorOf_1 ?_
      refine G_cV x eX0_factorOf_2 kX0_125 im_yX3_kindOf se_yX3_kindOf rm hF1 (ct_X3_kindOf hF hl hk) rfl ?_
      refine G_if_ne x eX0_factorOf_5 (by first | omega | exact hr _ _ | exact hr0 _ _ | exact hrS _) (fun c5 => ?_) (fun c5 => ?_)
      · refine G_aload1 x eX0_factorOf_15 ?_
        refine G_aload2 x eX0_factorOf_16 ?_
        refine G_iload3 x eX0_factorOf_17 ?_
        refine G_cV x eX0_factorOf_18 kX0_128 im_yX3_firstOf se_yX3_firstOf rm hF1 (ct_X3_firstOf hF hl hk) rfl ?_
        refine G_cV x eX0_factorOf_21 kX0_131 im_yX8_cellOf se_yX8_cellOf rm hP.m c1 rfl ?_
        refine G_istore4 x eX0_factorOf_24 ?_
        refine G_aload1 x eX0_factorOf_26 ?_
        refine G_aload2 x eX0_factorOf_27 ?_
        refine G_iload3 x eX0_factorOf_28 ?_
        refine G_cV x eX0_factorOf_29 kX0_134 im_yX3_secondOf se_yX3_secondOf rm hF1 (ct_X3_secondOf hF hl hk) rfl ?_
        refine G_cV x eX0_factorOf_32 kX0_131 im_yX8_cellOf se_yX8_cellOf rm hP.m c2 rfl ?_
        refine G_istore5 x eX0_factorOf_35 ?_
        refine G_iload4 x eX0_factorOf_37 ?_
        refine G_push x eX0_factorOf_39 ?_
        refine G_icmp_eq x eX0_factorOf_40 (by first | omega | exact hr _ _ | exact hr0 _ _ | exact hrS _) (by first | omega | exact hr _ _ | exact hr0 _ _ | exact hrS _) (fun c40 => ?_) (fun c40 => ?_)
        · omega
        · refine G_iload5 x eX0_factorOf_43 ?_
          refine G_push x eX0_factorOf_45 ?_
          refine G_icmp_ne x eX0_factorOf_46 (by first | omega | exact hr _ _ | exact hr0 _ _ | exact hrS _) (by first | omega | exact hr _ _ | exact hr0 _ _ | exact hrS _) (fun c46 => ?_) (fun c46 => ?_)
          · refine G_aload0 x eX0_factorOf_56 ?_
            refine G_iload4 x eX0_factorOf_57 ?_
            refine G_iload5 x eX0_factorOf_59 ?_
            refine G_cV x eX0_factorOf_61 kX0_190 im_yX0_sumOf se_yX0_sumOf rm hM.m (ct_X0_sumOf hM (by omega) (by omega) h4) rfl ?_
            refine G_lreturn x en eX0_factorOf_64 (by omega) (by omega) ?_
            exact ⟨by rw [hv], rfl, by rw [hv], rfl, rfl⟩
          · omega
      · contradiction
def suN (su t : Int64) (sg : Int) : Int64 := if sg = 45 then su - t else su + t
noncomputable def clA (S : Int → Int) (r : Int) (V : Int → Int64) (E : Int → Int) : List (Int × Int × Int × Int) → Option (Int64 × Int) → Int64 → Int × Int64
  | [], none, su => (0, su)
  | [], some (t, sg), su => if b01 (far (suN su t sg)) = 1 then (3, 0) else (0, suN su t sg)
  | y :: l, none, su => if (fkV S r V E y).1 = 0 then clA S r V E l (some ((fkV S r V E y).2, y.1)) su else ((fkV S r V E y).1, su)
  | y :: l, some (t, sg), su => if y.1 = 42 then (if (fkV S r V E y).1 = 0 then (if b01 (far (t * (fkV S r V E y).2)) = 1 then (3, su) else clA S r V E l (some (t * (fkV S r V E y).2, sg)) su) else ((fkV S r V E y).1, su)) else (if b01 (far (suN su t sg)) = 1 then (3, 0) else (if (fkV S r V E y).1 = 0 then clA S r V E l (some ((fkV S r V E y).2, y.1)) (suN su t sg) else ((fkV S r V E y).1, suN su t sg)))
theorem clA_n {S : Int → Int} {r : Int} {V : Int → Int64} {E : Int → Int} {l : List (Int × Int × Int × Int)} {t su : Int64} {sg : Int} (h : ∀ y l', l = y :: l' → y.1 ≠ 42) : clA S r V E l (some (t, sg)) su = if b01 (far (suN su t sg)) = 1 then (3, 0) else clA S r V E l none (suN su t sg) := by
  cases l with
  | nil => rfl
  | cons y l =>
    have := h y l rfl
    show (if y.1 = 42 then _ else _) = _
    rw [if_neg this]
    rfl
theorem far0 : ¬ far 0 := by unfold far; decide
theorem suN_0 {su : Int64} {sg : Int} : suN su 0 sg = su := by
  unfold suN
  split
  · exact Int64.sub_zero su
  · exact Int64.add_zero su
set_option maxHeartbeats 8000000 in
set_option maxRecDepth 20000 in
theorem ct_X0_calculateFormula {T : gT} {I : gI} {J : gJ} {O : gO} {ca p fa : Nat} {S : Int → Int} {r c : Int} {fl : List (Int × Int × Int × Int)} (hM : CaAt T O ca) (hP : RpAt T O p) (hL : LkR I p S r) (hF : fmG T I O fa fl) (hl : fl.length ≤ 24) (hok : ∀ y ∈ fl, faOk y) (c0 : 0 ≤ c) (c1 : c < 144) (hca : p + 14 < ca) (hne : fl ≠ []) : Ct yX0_calculateFormula cX0_calculateFormula 10 none [va_rf (some ca), va_rf (some p), VI c, va_rf (some fa)] 3 75 0 0 T I J O (pv none T (uI (uI (uI I ca 10 (clA S r (vV I ca) (I (ca + 2)) fl none 0).1) (ca + 2) c (clA S r (vV I ca) (I (ca + 2)) fl none 0).1) (ca + 1) c (if (clA S r (vV I ca) (I (ca + 2)) fl none 0).1 = 0 then (clA S r (vV I ca) (I (ca + 2)) fl none 0).2.toInt else 0)) J O) := by
  refine Ct.of (by decide) [some (va_rf (some ca)), some (va_rf (some p)), some (VI c), some (va_rf (some fa)), none, none, none, none, none, none] (gEn1 (List.forall_mem_cons.mpr ⟨cat_VR _, List.forall_mem_cons.mpr ⟨cat_VR _, List.forall_mem_cons.mpr ⟨cat_VI _, List.forall_mem_cons.mpr ⟨cat_VR _, fun _ h => nomatch h⟩⟩⟩⟩) rfl (Nat.le_of_ble_eq_true rfl) rfl) ?_
  intro X x en rm ini hr hz
  have hr0 := hr
  have hF1 : T.2 fa = some (.inl 3) := hF.1
  obtain ⟨res, hres⟩ : ∃ res, res = clA S r (vV I ca) (I (ca + 2)) fl none 0 := ⟨_, rfl⟩
  rw [← hres] at en
  have hLe : ∀ e, LkR (uI I ca 10 e) p S r := fun e => hL.c (fun b j b1 b2 => uI_a (by omega) j)
  have hFe : ∀ e, fmG T (uI I ca 10 e) O fa fl := fun e => hF.mv (fun _ _ => rfl) rfl (fun pa j hpa => by
    obtain ⟨-, pa', h2, h3, -⟩ := hF
    have : pa = pa' := by rw [h2] at hpa; cases hpa; rfl
    subst this
    refine uI_a (fun z => ?_) j
    rw [z, hM.m] at h3
    cases h3)
  have eV : ∀ e, vV (uI I ca 10 e) ca = vV I ca := fun e => funext fun j => by unfold vV; rw [uI_a (by omega)]
  have eE : ∀ e, (uI I ca 10 e) (ca + 2) = I (ca + 2) := fun e => uI_f (by omega)
  have cf : ∀ (k : Nat) (y : Int × Int × Int × Int), fl[k]? = some y → Ct yX0_factorOf cX0_factorOf 6 (some .long) [va_rf (some ca), va_rf (some p), va_rf (some fa), VI (k : Int)] 2 50 0 0 T (uI I ca 10 0) J O (pv (some (Value.long (fkV S r (vV I ca) (I (ca + 2)) y).2)) T (uI I ca 10 (fkV S r (vV I ca) (I (ca + 2)) y).1) J O) := fun k y hk => by
    have := ct_X0_factorOf (J := J) hM hP (hLe 0) (hFe 0) hl hk (hok y (List.mem_of_getElem? hk)) uI_s
    rw [eV, eE, uI_uI] at this
    exact this
  -- the end
  have fin : ∀ (e : Int) (su : Int64) (k : Int) (y7 y8 y9 : Option Value), in32 e → e = res.1 → (e = 0 → su = res.2) → ¬ far su → G X 135 [some (va_rf (some ca)), some (va_rf (some p)), some (VI c), some (va_rf (some fa)), some (.long su), none, some (VI k), y7, y8, y9] [] T (uI I ca 10 e) J O 0 0 := by
    intro e su k y7 y8 y9 he h1 h2 h3
    have hb : -1000000000 ≤ su.toInt ∧ su.toInt ≤ 1000000000 := by unfold far at h3; omega
    refine G_rg (fun hr => ?_)
    refine G_aload0 x eX0_calculateFormula_135 ?_
    refine G_getq x eX0_calculateFormula_136 fX0_15 rfl rfl hM.m hM.o_errors ?_
    refine G_iload2 x eX0_calculateFormula_139 ?_
    refine G_aload0 x eX0_calculateFormula_140 ?_
    refine G_geti x eX0_calculateFormula_141 fX0_176 rfl rfl hM.m (fun h141 => ?_)
    rw [uI_s]
    refine G_iast x eX0_calculateFormula_144 rfl hM.t_errors (by omega) (by omega) (by omega) (by first | omega | exact hr _ _ | exact hr0 _ _ | exact hrS _) ?_
    refine G_rg (fun hr => ?_)
    refine G_aload0 x eX0_calculateFormula_145 ?_
    refine G_getq x eX0_calculateFormula_146 fX0_9 rfl rfl hM.m hM.o_values ?_
    refine G_iload2 x eX0_calculateFormula_149 ?_
    refine G_aload0 x eX0_calculateFormula_150 ?_
    refine G_geti x eX0_calculateFormula_151 fX0_176 rfl rfl hM.m (fun h151 => ?_)
    rw [uI_a (by omega), uI_s]
    refine G_if_ne x eX0_calculateFormula_154 (by first | omega | exact hr _ _ | exact hr0 _ _ | exact hrS _) (fun c154 => ?_) (fun c154 => ?_)
    · refine G_push x eX0_calculateFormula_163 ?_
      refine G_iast x eX0_calculateFormula_164 rfl hM.t_values (by omega) (by omega) (by omega) (by first | omega | exact hr _ _ | exact hr0 _ _ | exact hrS _) ?_
      refine G_rg (fun hr => ?_)
      refine G_return x en eX0_calculateFormula_165 (by omega) (by omega) ?_
      first | exact ⟨rfl, rfl, by rw [if_pos (h1.symm.trans (by omega)), ← h1, ← h2 (by omega)], rfl, rfl⟩ | exact ⟨rfl, rfl, by rw [if_neg (fun z => by rw [← h1] at z; omega), ← h1], rfl, rfl⟩
    · refine G_lload4 x eX0_calculateFormula_157 ?_
      refine G_l2i x eX0_calculateFormula_159 ?_
      refine G_goto x eX0_calculateFormula_160 ?_
      refine G_iast x eX0_calculateFormula_164 rfl hM.t_values (by omega) (by omega) (by omega) (by first | omega | exact hr _ _ | exact hr0 _ _ | exact hrS _) ?_
      refine G_rg (fun hr => ?_)
      refine G_return x en eX0_calculateFormula_165 (by omega) (by omega) ?_
      first | exact ⟨rfl, rfl, by rw [if_pos (h1.symm.trans (by omega)), ← h1, ← h2 (by omega)], rfl, rfl⟩ | exact ⟨rfl, rfl, by rw [if_neg (fun z => by rw [← h1] at z; omega), ← h1], rfl, rfl⟩
  have tail : ∀ (k : Int) (t su : Int64) (sg e : Int), in32 e → (∀ su2 e2, su2 = lmV (suN su t sg) → e2 = lmE e (suN su t sg) → G X 11 [some (va_rf (some ca)), some (va_rf (some p)), some (VI c), some (va_rf (some fa)), some (.long su2), none, some (VI k), some (VI (if sg = 45 then 1 else 0)), some (.long t), none] [] T (uI I ca 10 e2) J O 0 0) → G X 108 [some (va_rf (some ca)), some (va_rf (some p)), some (VI c), some (va_rf (some fa)), some (.long su), none, some (VI k), some (VI (if sg = 45 then 1 else 0)), some (.long t), none] [] T (uI I ca 10 e) J O 0 0 := by
    intro k t su sg e he kk
    have k11 := kk _ _ rfl rfl
    by_cases q : sg = 45
    · have eN : suN su t sg = su - t := if_pos q
      rw [eN, if_pos q] at k11
      rw [if_pos q]
      refine G_rg (fun hr => ?_)
      refine G_aload0 x eX0_calculateFormula_108 ?_
      refine G_iload7 x eX0_calculateFormula_109 ?_
      refine G_if_eq x eX0_calculateFormula_111 (by first | omega | exact hr _ _ | exact hr0 _ _ | exact hrS _) (fun c111 => ?_) (fun c111 => ?_)
      · omega
      · refine G_lload4 x eX0_calculateFormula_114 ?_
        refine G_lload8 x eX0_calculateFormula_116 ?_
        refine G_lsub x eX0_calculateFormula_118 ?_
        refine G_goto x eX0_calculateFormula_119 ?_
        refine G_cV x eX0_calculateFormula_127 kX0_186 im_yX0_limited se_yX0_limited rm hM.m (ct_X0_limited hM.m) rfl ?_
        rw [uI_s, uI_uI]
        refine G_lstore4 x eX0_calculateFormula_130 ?_
        refine G_goto x eX0_calculateFormula_132 ?_
        exact k11
    · have eN : suN su t sg = su + t := if_neg q
      rw [eN, if_neg q] at k11
      rw [if_neg q]
      refine G_rg (fun hr => ?_)
      refine G_aload0 x eX0_calculateFormula_108 ?_
      refine G_iload7 x eX0_calculateFormula_109 ?_
      refine G_if_eq x eX0_calculateFormula_111 (by first | omega | exact hr _ _ | exact hr0 _ _ | exact hrS _) (fun c111 => ?_) (fun c111 => ?_)
      · refine G_lload4 x eX0_calculateFormula_122 ?_
        refine G_lload8 x eX0_calculateFormula_124 ?_
        refine G_ladd x eX0_calculateFormula_126 ?_
        refine G_cV x eX0_calculateFormula_127 kX0_186 im_yX0_limited se_yX0_limited rm hM.m (ct_X0_limited hM.m) rfl ?_
        rw [uI_s, uI_uI]
        refine G_lstore4 x eX0_calculateFormula_130 ?_
        refine G_goto x eX0_calculateFormula_132 ?_
        exact k11
      · omega
  have inn : ∀ (d k : Nat) (t su : Int64) (sg e : Int), k + d = fl.length → in32 e → ¬ far su → (e ≠ 0 → res.1 = e ∧ t = 0) → (e = 0 → res.1 = (clA S r (vV I ca) (I (ca + 2)) (fl.drop k) (some (t, sg)) su).1 ∧ ((clA S r (vV I ca) (I (ca + 2)) (fl.drop k) (some (t, sg)) su).1 = 0 → res.2 = (clA S r (vV I ca) (I (ca + 2)) (fl.drop k) (some (t, sg)) su).2)) → G X 58 [some (va_rf (some ca)), some (va_rf (some p)), some (VI c), some (va_rf (some fa)), some (.long su), none, some (VI (k : Int)), some (VI (if sg = 45 then 1 else 0)), some (.long t), none] [] T (uI I ca 10 e) J O 0 0 := by
    intro d
    induction d with
    | zero =>
      intro k t su sg e hd he hsu h1 h2
      have hdn : fl.drop k = [] := List.drop_eq_nil_of_le (by omega)
      rw [hdn] at h2
      have o11 : ∀ (su : Int64) (e : Int) (y7 y8 y9 : Option Value), in32 e → ¬ far su → res.1 = e → (e = 0 → res.2 = su) → G X 11 [some (va_rf (some ca)), some (va_rf (some p)), some (VI c), some (va_rf (some fa)), some (.long su), none, some (VI (k : Int)), y7, y8, y9] [] T (uI I ca 10 e) J O 0 0 := by
        intro su e y7 y8 y9 he hsu h1 h2
        have f9 := fin e su k y7 y8 y9 he h1.symm (fun z => (h2 z).symm) hsu
        refine G_rg (fun hr => ?_)
        refine G_iload6 x eX0_calculateFormula_11 ?_
        refine G_aload3 x eX0_calculateFormula_13 ?_
        refine G_cV x eX0_calculateFormula_14 kX0_122 im_yX3_factors se_yX3_factors rm hF1 (ct_X3_factors (hFe e) hl) rfl ?_
        refine G_icmp_ge x eX0_calculateFormula_17 (by first | omega | exact hr _ _ | exact hr0 _ _ | exact hrS _) (by first | omega | exact hr _ _ | exact hr0 _ _ | exact hrS _) (fun c17 => ?_) (fun c17 => ?_)
        · exact f9
        · omega
      have t108 : G X 108 [some (va_rf (some ca)), some (va_rf (some p)), some (VI c), some (va_rf (some fa)), some (.long su), none, some (VI (k : Int)), some (VI (if sg = 45 then 1 else 0)), some (.long t), none] [] T (uI I ca 10 e) J O 0 0 := by
        refine tail k t su sg e he (fun su2 e2 z1 z2 => ?_)
        by_cases e0 : e = 0
        · subst e0
          have h2 := h2 rfl
          rw [clA_n (fun y' l' hy' => by cases hy')] at h2
          by_cases ef : b01 (far (suN su t sg)) = 1
          · rw [if_pos ef] at h2
            rw [show e2 = 3 from z2.trans (if_pos ef), show su2 = 0 from z1.trans (if_pos ef)]
            exact o11 0 3 _ _ _ (by omega) far0 h2.1 (fun z => by omega)
          · rw [if_neg ef] at h2
            rw [show e2 = 0 from z2.trans (if_neg ef), show su2 = suN su t sg from z1.trans (if_neg ef)]
            exact o11 _ 0 _ _ _ (by omega) (fun z => ef (b01_t z)) h2.1 (fun _ => h2.2 rfl)
        · obtain ⟨h1a, h1b⟩ := h1 e0
          subst h1b
          have ef : ¬ b01 (far (suN su 0 sg)) = 1 := by rw [suN_0, b01_f hsu]; omega
          have w2 : e2 = e := z2.trans (if_neg ef)
          have w1 : su2 = su := (z1.trans (if_neg ef)).trans suN_0
          rw [w1, w2]
          exact o11 _ _ _ _ _ he hsu h1a (fun z => absurd z e0)
      refine G_rg (fun hr => ?_)
      refine G_iload6 x eX0_calculateFormula_58 ?_
      refine G_aload3 x eX0_calculateFormula_60 ?_
      refine G_cV x eX0_calculateFormula_61 kX0_122 im_yX3_factors se_yX3_factors rm hF1 (ct_X3_factors (hFe e) hl) rfl ?_
      refine G_icmp_ge x eX0_calculateFormula_64 (by first | omega | exact hr _ _ | exact hr0 _ _ | exact hrS _) (by first | omega | exact hr _ _ | exact hr0 _ _ | exact hrS _) (fun c64 => ?_) (fun c64 => ?_)
      · exact t108
      · omega
    | succ d ih =>
      intro k t su sg e hd he hsu h1 h2
      obtain ⟨y, hk⟩ : ∃ y, fl[k]? = some y := ⟨fl[k], List.getElem?_eq_getElem (by omega)⟩
      have hdr : fl.drop k = y :: fl.drop (k + 1) := by
        rw [List.drop_eq_getElem_cons (by omega)]
        rw [List.getElem?_eq_getElem (by omega)] at hk
        cases hk; rfl
      rw [hdr] at h2
      have hy := hok y (List.mem_of_getElem? hk)
      -- the next factor begins
      have out : ∀ (su : Int64) (e : Int) (y7 y8 y9 : Option Value), in32 e → ¬ far su → (e ≠ 0 → res.1 = e) → (e = 0 → res.1 = (clA S r (vV I ca) (I (ca + 2)) (y :: fl.drop (k + 1)) none su).1 ∧ ((clA S r (vV I ca) (I (ca + 2)) (y :: fl.drop (k + 1)) none su).1 = 0 → res.2 = (clA S r (vV I ca) (I (ca + 2)) (y :: fl.drop (k + 1)) none su).2)) → G X 11 [some (va_rf (some ca)), some (va_rf (some p)), some (VI c), some (va_rf (some fa)), some (.long su), none, some (VI (k : Int)), y7, y8, y9] [] T (uI I ca 10 e) J O 0 0 := by
        intro su e y7 y8 y9 he hsu h1 h2
        by_cases e0 : e = 0
        · subst e0
          have h2 := h2 rfl
          have hA : clA S r (vV I ca) (I (ca + 2)) (y :: fl.drop (k + 1)) none su = if (fkV S r (vV I ca) (I (ca + 2)) y).1 = 0 then clA S r (vV I ca) (I (ca + 2)) (fl.drop (k + 1)) (some ((fkV S r (vV I ca) (I (ca + 2)) y).2, y.1)) su else ((fkV S r (vV I ca) (I (ca + 2)) y).1, su) := rfl
          rw [hA] at h2
          have n58 : in32 (fkV S r (vV I ca) (I (ca + 2)) y).1 → G X 58 [some (va_rf (some ca)), some (va_rf (some p)), some (VI c), some (va_rf (some fa)), some (.long su), none, some (VI ((k : Int) + 1)), some (VI (if y.1 = 45 then 1 else 0)), some (.long (fkV S r (vV I ca) (I (ca + 2)) y).2), none] [] T (uI I ca 10 (fkV S r (vV I ca) (I (ca + 2)) y).1) J O 0 0 := fun hi => by
            have := ih (k + 1) (fkV S r (vV I ca) (I (ca + 2)) y).2 su y.1 (fkV S r (vV I ca) (I (ca + 2)) y).1 (by omega) hi hsu (fun z => ⟨by rw [if_neg z] at h2; exact h2.1, fkV_0 z⟩) (fun z => by rw [if_pos z] at h2; exact h2)
            rw [show ((k + 1 : Nat) : Int) = (k : Int) + 1 by omega] at this
            exact this
          have sy : in32 y.1 := by have := hy.1; unfold isOp at this; omega
          refine G_rg (fun hr => ?_)
          refine G_iload6 x eX0_calculateFormula_11 ?_
          refine G_aload3 x eX0_calculateFormula_13 ?_
          refine G_cV x eX0_calculateFormula_14 kX0_122 im_yX3_factors se_yX3_factors rm hF1 (ct_X3_factors (hFe 0) hl) rfl ?_
          refine G_icmp_ge x eX0_calculateFormula_17 (by first | omega | exact hr _ _ | exact hr0 _ _ | exact hrS _) (by first | omega | exact hr _ _ | exact hr0 _ _ | exact hrS _) (fun c17 => ?_) (fun c17 => ?_)
          · omega
          · refine G_aload0 x eX0_calculateFormula_20 ?_
            refine G_geti x eX0_calculateFormula_21 fX0_176 rfl rfl hM.m (fun h21 => ?_)
            rw [uI_s]
            refine G_if_ne x eX0_calculateFormula_24 (by first | omega | exact hr _ _ | exact hr0 _ _ | exact hrS _) (fun c24 => ?_) (fun c24 => ?_)
            · omega
            · refine G_aload3 x eX0_calculateFormula_27 ?_
              refine G_iload6 x eX0_calculateFormula_28 ?_
              refine G_cV x eX0_calculateFormula_30 kX0_179 im_yX3_signOf se_yX3_signOf rm hF1 (ct_X3_signOf (hFe 0) hl hk) rfl ?_
              refine G_push x eX0_calculateFormula_33 ?_
              refine G_icmp_ne x eX0_calculateFormula_35 (by first | omega | exact hr _ _ | exact hr0 _ _ | exact hrS _) (by first | omega | exact hr _ _ | exact hr0 _ _ | exact hrS _) (fun c35 => ?_) (fun c35 => ?_)
              · refine G_push x eX0_calculateFormula_42 ?_
                refine G_istore7 x eX0_calculateFormula_43 ?_
                refine G_aload0 x eX0_calculateFormula_45 ?_
                refine G_aload1 x eX0_calculateFormula_46 ?_
                refine G_aload3 x eX0_calculateFormula_47 ?_
                refine G_iload6 x eX0_calculateFormula_48 ?_
                refine G_cV x eX0_calculateFormula_50 kX0_182 im_yX0_factorOf se_yX0_factorOf rm hM.m (cf k y hk) rfl ?_
                refine G_lstore8 x eX0_calculateFormula_53 ?_
                refine G_iinc6 x eX0_calculateFormula_55 ?_
                (refine G_rg (fun hr9 => ?_); have hi := hr9 ca 10; rw [uI_s] at hi; have n := n58 hi; first | (rw [if_pos (by omega)] at n; exact n) | (rw [if_neg (by omega)] at n; exact n))
              · refine G_push x eX0_calculateFormula_38 ?_
                refine G_goto x eX0_calculateFormula_39 ?_
                refine G_istore7 x eX0_calculateFormula_43 ?_
                refine G_aload0 x eX0_calculateFormula_45 ?_
                refine G_aload1 x eX0_calculateFormula_46 ?_
                refine G_aload3 x eX0_calculateFormula_47 ?_
                refine G_iload6 x eX0_calculateFormula_48 ?_
                refine G_cV x eX0_calculateFormula_50 kX0_182 im_yX0_factorOf se_yX0_factorOf rm hM.m (cf k y hk) rfl ?_
                refine G_lstore8 x eX0_calculateFormula_53 ?_
                refine G_iinc6 x eX0_calculateFormula_55 ?_
                (refine G_rg (fun hr9 => ?_); have hi := hr9 ca 10; rw [uI_s] at hi; have n := n58 hi; first | (rw [if_pos (by omega)] at n; exact n) | (rw [if_neg (by omega)] at n; exact n))
        · have h1 := h1 e0
          refine G_rg (fun hr => ?_)
          refine G_iload6 x eX0_calculateFormula_11 ?_
          refine G_aload3 x eX0_calculateFormula_13 ?_
          refine G_cV x eX0_calculateFormula_14 kX0_122 im_yX3_factors se_yX3_factors rm hF1 (ct_X3_factors (hFe e) hl) rfl ?_
          refine G_icmp_ge x eX0_calculateFormula_17 (by first | omega | exact hr _ _ | exact hr0 _ _ | exact hrS _) (by first | omega | exact hr _ _ | exact hr0 _ _ | exact hrS _) (fun c17 => ?_) (fun c17 => ?_)
          · first | (exfalso; omega) | exact fin e su _ _ _ _ he h1.symm (fun z => absurd z e0) hsu
          · refine G_aload0 x eX0_calculateFormula_20 ?_
            refine G_geti x eX0_calculateFormula_21 fX0_176 rfl rfl hM.m (fun h21 => ?_)
            rw [uI_s]
            refine G_if_ne x eX0_calculateFormula_24 (by first | omega | exact hr _ _ | exact hr0 _ _ | exact hrS _) (fun c24 => ?_) (fun c24 => ?_)
            · first | (exfalso; omega) | exact fin e su _ _ _ _ he h1.symm (fun z => absurd z e0) hsu
            · omega
      -- the sum so far
      have t108 : (¬ (e = 0 ∧ y.1 = 42)) → G X 108 [some (va_rf (some ca)), some (va_rf (some p)), some (VI c), some (va_rf (some fa)), some (.long su), none, some (VI (k : Int)), some (VI (if sg = 45 then 1 else 0)), some (.long t), none] [] T (uI I ca 10 e) J O 0 0 := fun hne9 => by
        refine tail k t su sg e he (fun su2 e2 z1 z2 => ?_)
        by_cases e0 : e = 0
        · subst e0
          have h2 := h2 rfl
          rw [clA_n (fun y' l' hy' => by cases hy'; exact fun z => hne9 ⟨rfl, z⟩)] at h2
          by_cases ef : b01 (far (suN su t sg)) = 1
          · rw [if_pos ef] at h2
            have z2 : e2 = 3 := z2.trans (if_pos ef)
            have z1 : su2 = 0 := z1.trans (if_pos ef)
            subst z1 z2
            exact out 0 3 _ _ _ (by omega) far0 (fun _ => h2.1) (fun z => by omega)
          · rw [if_neg ef] at h2
            have z2 : e2 = 0 := z2.trans (if_neg ef)
            have z1 : su2 = suN su t sg := z1.trans (if_neg ef)
            subst z1 z2
            exact out _ 0 _ _ _ (by omega) (fun z => ef (b01_t z)) (fun z => absurd rfl z) (fun _ => h2)
        · obtain ⟨h1a, h1b⟩ := h1 e0
          subst h1b
          have ef : ¬ b01 (far (suN su 0 sg)) = 1 := by rw [suN_0, b01_f hsu]; omega
          have w2 : e2 = e := z2.trans (if_neg ef)
          have w1 : su2 = su := (z1.trans (if_neg ef)).trans suN_0
          rw [w1, w2]
          exact out _ _ _ _ _ he hsu (fun _ => h1a) (fun z => absurd z e0)
      by_cases ec : e = 0 ∧ y.1 = 42
      · obtain ⟨e0, e42⟩ := ec
        subst e0
        have h2 := h2 rfl
        have hA : clA S r (vV I ca) (I (ca + 2)) (y :: fl.drop (k + 1)) (some (t, sg)) su = if (fkV S r (vV I ca) (I (ca + 2)) y).1 = 0 then (if b01 (far (t * (fkV S r (vV I ca) (I (ca + 2)) y).2)) = 1 then (3, su) else clA S r (vV I ca) (I (ca + 2)) (fl.drop (k + 1)) (some (t * (fkV S r (vV I ca) (I (ca + 2)) y).2, sg)) su) else ((fkV S r (vV I ca) (I (ca + 2)) y).1, su) := if_pos e42
        rw [hA] at h2
        have n58 : in32 (fkV S r (vV I ca) (I (ca + 2)) y).1 → G X 58 [some (va_rf (some ca)), some (va_rf (some p)), some (VI c), some (va_rf (some fa)), some (.long su), none, some (VI ((k : Int) + 1)), some (VI (if sg = 45 then 1 else 0)), some (.long (lmV (t * (fkV S r (vV I ca) (I (ca + 2)) y).2))), none] [] T (uI I ca 10 (lmE (fkV S r (vV I ca) (I (ca + 2)) y).1 (t * (fkV S r (vV I ca) (I (ca + 2)) y).2))) J O 0 0 := fun hi => by
          have key : ∀ t2 e2, t2 = lmV (t * (fkV S r (vV I ca) (I (ca + 2)) y).2) → e2 = lmE (fkV S r (vV I ca) (I (ca + 2)) y).1 (t * (fkV S r (vV I ca) (I (ca + 2)) y).2) → G X 58 [some (va_rf (some ca)), some (va_rf (some p)), some (VI c), some (va_rf (some fa)), some (.long su), none, some (VI ((k + 1 : Nat) : Int)), some (VI (if sg = 45 then 1 else 0)), some (.long t2), none] [] T (uI I ca 10 e2) J O 0 0 := fun t2 e2 z1 z2 => by
            by_cases q : (fkV S r (vV I ca) (I (ca + 2)) y).1 = 0
            · rw [if_pos q] at h2
              by_cases ef : b01 (far (t * (fkV S r (vV I ca) (I (ca + 2)) y).2)) = 1
              · rw [if_pos ef] at h2
                have z2 : e2 = 3 := z2.trans (if_pos ef)
                have z1 : t2 = 0 := z1.trans (if_pos ef)
                subst z1 z2
                exact ih (k + 1) 0 su sg 3 (by omega) (by omega) hsu (fun _ => ⟨h2.1, rfl⟩) (fun z => by omega)
              · rw [if_neg ef] at h2
                have z2 : e2 = 0 := (z2.trans (if_neg ef)).trans q
                have z1 : t2 = _ := z1.trans (if_neg ef)
                subst z1 z2
                exact ih (k + 1) _ su sg 0 (by omega) (by omega) hsu (fun z => absurd rfl z) (fun _ => h2)
            · rw [if_neg q] at h2
              have v0 := fkV_0 q
              rw [v0, Int64.mul_zero] at z1 z2
              have ef : ¬ b01 (far 0) = 1 := by rw [b01_f far0]; omega
              have z2 : e2 = (fkV S r (vV I ca) (I (ca + 2)) y).1 := z2.trans (if_neg ef)
              have z1 : t2 = 0 := z1.trans (if_neg ef)
              subst z1 z2
              exact ih (k + 1) 0 su sg _ (by omega) hi hsu (fun _ => ⟨h2.1, rfl⟩) (fun z => absurd z q)
          have := key _ _ rfl rfl
          rw [show ((k + 1 : Nat) : Int) = (k : Int) + 1 by omega] at this
          exact this
        refine G_rg (fun hr => ?_)
        refine G_iload6 x eX0_calculateFormula_58 ?_
        refine G_aload3 x eX0_calculateFormula_60 ?_
        refine G_cV x eX0_calculateFormula_61 kX0_122 im_yX3_factors se_yX3_factors rm hF1 (ct_X3_factors (hFe 0) hl) rfl ?_
        refine G_icmp_ge x eX0_calculateFormula_64 (by first | omega | exact hr _ _ | exact hr0 _ _ | exact hrS _) (by first | omega | exact hr _ _ | exact hr0 _ _ | exact hrS _) (fun c64 => ?_) (fun c64 => ?_)
        · omega
        · refine G_aload0 x eX0_calculateFormula_67 ?_
          refine G_geti x eX0_calculateFormula_68 fX0_176 rfl rfl hM.m (fun h68 => ?_)
          rw [uI_s]
          refine G_if_ne x eX0_calculateFormula_71 (by first | omega | exact hr _ _ | exact hr0 _ _ | exact hrS _) (fun c71 => ?_) (fun c71 => ?_)
          · omega
          · refine G_aload3 x eX0_calculateFormula_74 ?_
            refine G_iload6 x eX0_calculateFormula_75 ?_
            refine G_cV x eX0_calculateFormula_77 kX0_179 im_yX3_signOf se_yX3_signOf rm hF1 (ct_X3_signOf (hFe 0) hl hk) rfl ?_
            refine G_push x eX0_calculateFormula_80 ?_
            refine G_icmp_ne x eX0_calculateFormula_82 (by first | omega | exact hr _ _ | exact hr0 _ _ | exact hrS _) (by first | omega | exact hr _ _ | exact hr0 _ _ | exact hrS _) (fun c82 => ?_) (fun c82 => ?_)
            · omega
            · refine G_aload0 x eX0_calculateFormula_85 ?_
              refine G_lload8 x eX0_calculateFormula_86 ?_
              refine G_aload0 x eX0_calculateFormula_88 ?_
              refine G_aload1 x eX0_calculateFormula_89 ?_
              refine G_aload3 x eX0_calculateFormula_90 ?_
              refine G_iload6 x eX0_calculateFormula_91 ?_
              refine G_cV x eX0_calculateFormula_93 kX0_182 im_yX0_factorOf se_yX0_factorOf rm hM.m (cf k y hk) rfl ?_
              refine G_rg (fun hr9 => ?_)
              refine G_lmul x eX0_calculateFormula_96 ?_
              refine G_cV x eX0_calculateFormula_97 kX0_186 im_yX0_limited se_yX0_limited rm hM.m (ct_X0_limited hM.m) rfl ?_
              rw [uI_s, uI_uI]
              refine G_lstore8 x eX0_calculateFormula_100 ?_
              refine G_iinc6 x eX0_calculateFormula_102 ?_
              refine G_goto x eX0_calculateFormula_105 ?_
              (have hi := hr9 ca 10; rw [uI_s] at hi; exact n58 hi)
      · have t108 := t108 ec
        have sy : in32 y.1 := by have := hy.1; unfold isOp at this; omega
        refine G_rg (fun hr => ?_)
        refine G_iload6 x eX0_calculateFormula_58 ?_
        refine G_aload3 x eX0_calculateFormula_60 ?_
        refine G_cV x eX0_calculateFormula_61 kX0_122 im_yX3_factors se_yX3_factors rm hF1 (ct_X3_factors (hFe e) hl) rfl ?_
        refine G_icmp_ge x eX0_calculateFormula_64 (by first | omega | exact hr _ _ | exact hr0 _ _ | exact hrS _) (by first | omega | exact hr _ _ | exact hr0 _ _ | exact hrS _) (fun c64 => ?_) (fun c64 => ?_)
        · exact t108
        · refine G_aload0 x eX0_calculateFormula_67 ?_
          refine G_geti x eX0_calculateFormula_68 fX0_176 rfl rfl hM.m (fun h68 => ?_)
          rw [uI_s]
          refine G_if_ne x eX0_calculateFormula_71 (by first | omega | exact hr _ _ | exact hr0 _ _ | exact hrS _) (fun c71 => ?_) (fun c71 => ?_)
          · exact t108
          · refine G_aload3 x eX0_calculateFormula_74 ?_
            refine G_iload6 x eX0_calculateFormula_75 ?_
            refine G_cV x eX0_calculateFormula_77 kX0_179 im_yX3_signOf se_yX3_signOf rm hF1 (ct_X3_signOf (hFe e) hl hk) rfl ?_
            refine G_push x eX0_calculateFormula_80 ?_
            refine G_icmp_ne x eX0_calculateFormula_82 (by first | omega | exact hr _ _ | exact hr0 _ _ | exact hrS _) (by first | omega | exact hr _ _ | exact hr0 _ _ | exact hrS _) (fun c82 => ?_) (fun c82 => ?_)
            · exact t108
            · exact absurd ⟨by omega, by omega⟩ ec
  -- the beginning
  have s11 : G X 11 [some (va_rf (some ca)), some (va_rf (some p)), some (VI c), some (va_rf (some fa)), some (.long 0), none, some (VI 0), none, none, none] [] T (uI I ca 10 0) J O 0 0 := by
    obtain ⟨y, l, hyl⟩ : ∃ y l, fl = y :: l := by
      cases fl with
      | nil => exact absurd rfl hne
      | cons y l => exact ⟨y, l, rfl⟩
    have hk : fl[0]? = some y := by rw [hyl]; rfl
    have hlen : 1 ≤ fl.length := by rw [hyl, List.length_cons]; omega
    have hd1 : fl.drop 1 = l := by rw [hyl]; rfl
    have hy := hok y (List.mem_of_getElem? hk)
    have h2 : res = if (fkV S r (vV I ca) (I (ca + 2)) y).1 = 0 then clA S r (vV I ca) (I (ca + 2)) (fl.drop 1) (some ((fkV S r (vV I ca) (I (ca + 2)) y).2, y.1)) 0 else ((fkV S r (vV I ca) (I (ca + 2)) y).1, 0) := by rw [hres, hd1, hyl]; rfl
    have n58 : in32 (fkV S r (vV I ca) (I (ca + 2)) y).1 → G X 58 [some (va_rf (some ca)), some (va_rf (some p)), some (VI c), some (va_rf (some fa)), some (.long 0), none, some (VI (0 + 1)), some (VI (if y.1 = 45 then 1 else 0)), some (.long (fkV S r (vV I ca) (I (ca + 2)) y).2), none] [] T (uI I ca 10 (fkV S r (vV I ca) (I (ca + 2)) y).1) J O 0 0 := fun hi =>
      inn (fl.length - 1) 1 (fkV S r (vV I ca) (I (ca + 2)) y).2 0 y.1 (fkV S r (vV I ca) (I (ca + 2)) y).1 (by omega) hi far0 (fun z => ⟨by rw [h2, if_neg z], fkV_0 z⟩) (fun z => by rw [if_pos z] at h2; rw [h2]; exact ⟨rfl, fun _ => rfl⟩)
    have sy : in32 y.1 := by have := hy.1; unfold isOp at this; omega
    refine G_rg (fun hr => ?_)
    refine G_iload6 x eX0_calculateFormula_11 ?_
    refine G_aload3 x eX0_calculateFormula_13 ?_
    refine G_cV x eX0_calculateFormula_14 kX0_122 im_yX3_factors se_yX3_factors rm hF1 (ct_X3_factors (hFe 0) hl) rfl ?_
    refine G_icmp_ge x eX0_calculateFormula_17 (by first | omega | exact hr _ _ | exact hr0 _ _ | exact hrS _) (by first | omega | exact hr _ _ | exact hr0 _ _ | exact hrS _) (fun c17 => ?_) (fun c17 => ?_)
    · omega
    · refine G_aload0 x eX0_calculateFormula_20 ?_
      refine G_geti x eX0_calculateFormula_21 fX0_176 rfl rfl hM.m (fun h21 => ?_)
      rw [uI_s]
      refine G_if_ne x eX0_calculateFormula_24 (by first | omega | exact hr _ _ | exact hr0 _ _ | exact hrS _) (fun c24 => ?_) (fun c24 => ?_)
      · omega
      · refine G_aload3 x eX0_calculateFormula_27 ?_
        refine G_iload6 x eX0_calculateFormula_28 ?_
        refine G_cV x eX0_calculateFormula_30 kX0_179 im_yX3_signOf se_yX3_signOf rm hF1 (ct_X3_signOf (k := 0) (hFe 0) hl hk) rfl ?_
        refine G_push x eX0_calculateFormula_33 ?_
        refine G_icmp_ne x eX0_calculateFormula_35 (by first | omega | exact hr _ _ | exact hr0 _ _ | exact hrS _) (by first | omega | exact hr _ _ | exact hr0 _ _ | exact hrS _) (fun c35 => ?_) (fun c35 => ?_)
        · refine G_push x eX0_calculateFormula_42 ?_
          refine G_istore7 x eX0_calculateFormula_43 ?_
          refine G_aload0 x eX0_calculateFormula_45 ?_
          refine G_aload1 x eX0_calculateFormula_46 ?_
          refine G_aload3 x eX0_calculateFormula_47 ?_
          refine G_iload6 x eX0_calculateFormula_48 ?_
          refine G_cV x eX0_calculateFormula_50 kX0_182 im_yX0_factorOf se_yX0_factorOf rm hM.m (cf 0 y hk) rfl ?_
          refine G_lstore8 x eX0_calculateFormula_53 ?_
          refine G_iinc6 x eX0_calculateFormula_55 ?_
          (refine G_rg (fun hr9 => ?_); have hi := hr9 ca 10; rw [uI_s] at hi; have n := n58 hi; first | (rw [if_pos (by omega)] at n; exact n) | (rw [if_neg (by omega)] at n; exact n))
        · refine G_push x eX0_calculateFormula_38 ?_
          refine G_goto x eX0_calculateFormula_39 ?_
          refine G_istore7 x eX0_calculateFormula_43 ?_
          refine G_aload0 x eX0_calculateFormula_45 ?_
          refine G_aload1 x eX0_calculateFormula_46 ?_
          refine G_aload3 x eX0_calculateFormula_47 ?_
          refine G_iload6 x eX0_calculateFormula_48 ?_
          refine G_cV x eX0_calculateFormula_50 kX0_182 im_yX0_factorOf se_yX0_factorOf rm hM.m (cf 0 y hk) rfl ?_
          refine G_lstore8 x eX0_calculateFormula_53 ?_
          refine G_iinc6 x eX0_calculateFormula_55 ?_
          (refine G_rg (fun hr9 => ?_); have hi := hr9 ca 10; rw [uI_s] at hi; have n := n58 hi; first | (rw [if_pos (by omega)] at n; exact n) | (rw [if_neg (by omega)] at n; exact n))
  refine G_rg (fun hr => ?_)
  refine G_aload0 x eX0_calculateFormula_0 ?_
  refine G_push x eX0_calculateFormula_1 ?_
  refine G_puti x eX0_calculateFormula_2 fX0_176 rfl (Or.inl rfl) rfl hM.m (by first | omega | exact hr _ _ | exact hr0 _ _ | exact hrS _) ?_
  refine G_rg (fun hr => ?_)
  refine G_lconst x eX0_calculateFormula_5 ?_
  refine G_lstore4 x eX0_calculateFormula_6 ?_
  refine G_push x eX0_calculateFormula_8 ?_
  refine G_istore6 x eX0_calculateFormula_9 ?_
  exact s11
