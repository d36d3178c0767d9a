/-! formulas of the class; where a cell is shown -/
def lnR (I : gI) (ln : Nat) (S : Int → Int) (r kd : Int) : Prop := I ln 6 = rwN S r kd (-1) ∧ ∀ i, 0 ≤ i → i < rwN S r kd (-1) → I (ln + 6) i = rwF S r kd (-1) i
def LkR (I : gI) (p : Nat) (S : Int → Int) (r : Int) : Prop := lnR I (p + 1) S r 0 ∧ lnR I (p + 8) S r 1
theorem lnR.c {I I' : gI} {ln : Nat} {S : Int → Int} {r kd : Int} (h : lnR I ln S r kd) (e : ∀ j, I' ln j = I ln j) (e2 : ∀ j, I' (ln + 6) j = I (ln + 6) j) : lnR I' ln S r kd := ⟨(e 6).trans h.1, fun i a b => (e2 i).trans (h.2 i a b)⟩
theorem LkR.c {I I' : gI} {p : Nat} {S : Int → Int} {r : Int} (h : LkR I p S r) (e : ∀ b j, p < b → b ≤ p + 14 → I' b j = I b j) : LkR I' p S r := ⟨h.1.c (fun j => e _ j (by omega) (by omega)) (fun j => e _ j (by omega) (by omega)), h.2.c (fun j => e _ j (by omega) (by omega)) (fun j => e _ j (by omega) (by omega))⟩
theorem lnR.x {I : gI} {ln : Nat} {S : Int → Int} {r kd l : Int} (h : lnR I ln S r kd) : lnX I ln l = ix (rwF S r kd (-1)) (rwN S r kd (-1)) l := by
  unfold lnX
  rw [h.1]
  exact ix_c h.2
set_option maxRecDepth 20000 in
theorem ct_X8_cellOf {T : gT} {I : gI} {J : gJ} {O : gO} {p : Nat} {S : Int → Int} {r f : Int} (hM : RpAt T O p) (hL : LkR I p S r) (f0 : 0 ≤ f) (f1 : f < 144) : Ct yX8_cellOf cX8_cellOf 4 (some .int) [va_rf (some p), VI f] 1 22 0 0 T I J O (pv (some (VI (snS S r (10000 + f)))) T I J O) := by
  refine Ct.of (by decide) [some (va_rf (some p)), some (VI f), none, none] (gEn1 (List.forall_mem_cons.mpr ⟨cat_VR _, List.forall_mem_cons.mpr ⟨cat_VI _, fun _ h => nomatch h⟩⟩) rfl (Nat.le_of_ble_eq_true rfl) rfl) ?_
  intro X x en rm ini hr hz
  have hr0 := hr
  have b0 := rwB S r 0 (-1)
  have b1 := rwB S r 1 (-1)
  have e0 := hL.1.1
  have e1 := hL.2.1
  have x0 := hL.1.x (l := f / 12)
  have x1 := hL.2.x (l := f % 12)
  have y0 := @ix_b (rwF S r 0 (-1)) (rwN S r 0 (-1)) (f / 12)
  have y1 := @ix_b (rwF S r 1 (-1)) (rwN S r 1 (-1)) (f % 12)
  have es : snS S r (10000 + f) = if ix (rwF S r 0 (-1)) (rwN S r 0 (-1)) (f / 12) = -1 ∨ ix (rwF S r 1 (-1)) (rwN S r 1 (-1)) (f % 12) = -1 then -1 else 12 * ix (rwF S r 0 (-1)) (rwN S r 0 (-1)) (f / 12) + ix (rwF S r 1 (-1)) (rwN S r 1 (-1)) (f % 12) := by
    unfold snS
    rw [show 10000 + f - 10000 = f by omega]
  refine G_rg (fun hr => ?_)
  refine G_aload0 x eX8_cellOf_0 ?_
  refine G_getq x eX8_cellOf_1 fX8_12 rfl rfl hM.m hM.o_rows ?_
  refine G_iload1 x eX8_cellOf_4 ?_
  refine G_push x eX8_cellOf_5 ?_
  refine G_cS x eX8_cellOf_7 kX8_132 sm_yJ9_floorDiv_7cf53 rm (ct_J9_floorDiv_7cf53 (by first | omega | exact hr _ _ | exact hr0 _ _ | exact hrS _) (by first | omega | exact hr _ _ | exact hr0 _ _ | exact hrS _) (by omega) (by omega)) rfl ?_
  refine G_cV x eX8_cellOf_10 kX8_144 im_yX4_positionOf se_yX4_positionOf rm hM.s_rows.m (ct_X4_positionOf hM.s_rows (by first | omega | exact hr _ _ | exact hr0 _ _ | exact hrS _) (by omega) (by omega)) rfl ?_
  rw [show ix (I (p + 1 + 6)) (I (p + 1) 6) (f / 12) = ix (rwF S r 0 (-1)) (rwN S r 0 (-1)) (f / 12) from x0]
  refine G_istore2 x eX8_cellOf_13 ?_
  refine G_aload0 x eX8_cellOf_14 ?_
  refine G_getq x eX8_cellOf_15 fX8_18 rfl rfl hM.m hM.o_columns ?_
  refine G_iload1 x eX8_cellOf_18 ?_
  refine G_push x eX8_cellOf_19 ?_
  refine G_cS x eX8_cellOf_21 kX8_138 sm_yJ9_floorMod_7cf53 rm (ct_J9_floorMod_7cf53 (by first | omega | exact hr _ _ | exact hr0 _ _ | exact hrS _) (by first | omega | exact hr _ _ | exact hr0 _ _ | exact hrS _) (by omega) (by omega)) rfl ?_
  refine G_cV x eX8_cellOf_24 kX8_144 im_yX4_positionOf se_yX4_positionOf rm hM.s_columns.m (ct_X4_positionOf hM.s_columns (by first | omega | exact hr _ _ | exact hr0 _ _ | exact hrS _) (by omega) (by omega)) rfl ?_
  rw [show ix (I (p + 8 + 6)) (I (p + 8) 6) (f % 12) = ix (rwF S r 1 (-1)) (rwN S r 1 (-1)) (f % 12) from x1]
  refine G_istore3 x eX8_cellOf_27 ?_
  refine G_iload2 x eX8_cellOf_28 ?_
  refine G_push x eX8_cellOf_29 ?_
  refine G_icmp_eq x eX8_cellOf_30 (by first | omega | exact hr _ _ | exact hr0 _ _ | exact hrS _) (by first | omega | exact hr _ _ | exact hr0 _ _ | exact hrS _) (fun c30 => ?_) (fun c30 => ?_)
  · refine G_push x eX8_cellOf_38 ?_
    refine G_goto x eX8_cellOf_39 ?_
    refine G_ireturn x en eX8_cellOf_48 (by omega) (by omega) ?_
    exact ⟨by rw [es]; (repeat' split) <;> first | rfl | (exfalso; omega) | (congr 2; omega), rfl, rfl, rfl, rfl⟩
  · refine G_iload3 x eX8_cellOf_33 ?_
    refine G_push x eX8_cellOf_34 ?_
    refine G_icmp_ne x eX8_cellOf_35 (by first | omega | exact hr _ _ | exact hr0 _ _ | exact hrS _) (by first | omega | exact hr _ _ | exact hr0 _ _ | exact hrS _) (fun c35 => ?_) (fun c35 => ?_)
    · refine G_iload2 x eX8_cellOf_42 ?_
      refine G_push x eX8_cellOf_43 ?_
      refine G_imul x eX8_cellOf_45 ?_
      refine G_iload3 x eX8_cellOf_46 ?_
      refine G_iadd x eX8_cellOf_47 ?_
      refine G_ireturn x en eX8_cellOf_48 (by omega) (by omega) ?_
      exact ⟨by rw [es]; (repeat' split) <;> first | rfl | (exfalso; omega) | (congr 2; omega), rfl, rfl, rfl, rfl⟩
    · refine G_push x eX8_cellOf_38 ?_
      refine G_goto x eX8_cellOf_39 ?_
      refine G_ireturn x en eX8_cellOf_48 (by omega) (by omega) ?_
      exact ⟨by rw [es]; (repeat' split) <;> first | rfl | (exfalso; omega) | (congr 2; omega), rfl, rfl, rfl, rfl⟩
/-- a formula's object holds these factors -/
def fmG (T : gT) (I : gI) (O : gO) (fa : Nat) (fl : List (Int × Int × Int × Int)) : Prop := T.2 fa = some (.inl 3) ∧ ∃ pa, O fa 0 = some pa ∧ T.2 pa = some (.inr (0, 4 * fl.length)) ∧ ∀ (k : Nat) (y : Int × Int × Int × Int), fl[k]? = some y → I pa (4 * k) = y.1 ∧ I pa (4 * k + 1) = y.2.1 ∧ I pa (4 * k + 2) = y.2.2.1 ∧ I pa (4 * k + 3) = y.2.2.2
theorem fmG.mv {T T' : gT} {I I' : gI} {O O' : gO} {fa : Nat} {fl : List (Int × Int × Int × Int)} (h : fmG T I O fa fl) (e1 : ∀ b, T.2 b = some (.inl 3) ∨ (∃ n, T.2 b = some (.inr (0, 4 * n))) → T'.2 b = T.2 b) (e2 : O' fa 0 = O fa 0) (e3 : ∀ pa j, O fa 0 = some pa → I' pa j = I pa j) : fmG T' I' O' fa fl := by
  obtain ⟨h1, pa, h2, h3, h4⟩ := h
  exact ⟨(e1 fa (Or.inl h1)).trans h1, pa, e2.trans h2, (e1 pa (Or.inr ⟨_, h3⟩)).trans h3, fun k y hk => by rw [e3 pa _ h2, e3 pa _ h2, e3 pa _ h2, e3 pa _ h2]; exact h4 k y hk⟩
set_option maxRecDepth 20000 in
theorem ct_X3_factors {T : gT} {I : gI} {J : gJ} {O : gO} {fa : Nat} {fl : List (Int × Int × Int × Int)} (hF : fmG T I O fa fl) (hl : fl.length ≤ 24) : Ct yX3_factors cX3_factors 1 (some .int) [va_rf (some fa)] 0 0 0 0 T I J O (pv (some (VI (fl.length : Nat))) T I J O) := by
  refine Ct.of (by decide) [some (va_rf (some fa))] (gEn1 (List.forall_mem_cons.mpr ⟨cat_VR _, fun _ h => nomatch h⟩) rfl (Nat.le_of_ble_eq_true rfl) rfl) ?_
  intro X x en rm ini hr hz
  have hr0 := hr
  obtain ⟨h1, pa, h2, h3, h4⟩ := hF
  refine G_aload0 x eX3_factors_0 ?_
  refine G_getq x eX3_factors_1 fX3_9 rfl rfl h1 h2 ?_
  refine G_alen x eX3_factors_4 rfl h3 (fun _ => rfl) ?_
  refine G_push x eX3_factors_5 ?_
  refine G_idivn x eX3_factors_6 (by omega) (by omega) (by omega) (by omega) ?_
  rw [show ((4 * fl.length : Nat) : Int) / 4 = (fl.length : Nat) by omega]
  refine G_rg (fun hr => ?_)
  refine G_ireturn x en eX3_factors_7 (by omega) (by omega) ?_
  first | exact pv_i | (refine ⟨?_, rfl, rfl, rfl, rfl⟩; split <;> first | rfl | omega)
set_option maxRecDepth 20000 in
theorem ct_X3_partAt {T : gT} {I : gI} {J : gJ} {O : gO} {fa pa n : Nat} {i : Int} (h1 : T.2 fa = some (.inl 3)) (h2 : O fa 0 = some pa) (h3 : T.2 pa = some (.inr (0, n))) (hn : n ≤ 100) (i0 : 0 ≤ i) (i1 : i < n) : Ct yX3_partAt cX3_partAt 2 (some .int) [va_rf (some fa), VI i] 0 0 0 0 T I J O (pv (some (VI (I pa i))) T I J O) := by
  refine Ct.of (by decide) [some (va_rf (some fa)), some (VI i)] (gEn1 (List.forall_mem_cons.mpr ⟨cat_VR _, List.forall_mem_cons.mpr ⟨cat_VI _, fun _ h => nomatch h⟩⟩) rfl (Nat.le_of_ble_eq_true rfl) rfl) ?_
  intro X x en rm ini hr hz
  have hr0 := hr
  refine G_rg (fun hr => ?_)
  refine G_iload1 x eX3_partAt_0 ?_
  refine G_if_lt x eX3_partAt_1 (by first | omega | exact hr _ _ | exact hr0 _ _ | exact hrS _) (fun c1 => ?_) (fun c1 => ?_)
  · refine G_push x eX3_partAt_13 ?_
    refine G_goto x eX3_partAt_14 ?_
    refine G_ireturn x en eX3_partAt_23 (by omega) (by omega) ?_
    first | exact pv_i | (exfalso; omega)
  · refine G_iload1 x eX3_partAt_4 ?_
    refine G_aload0 x eX3_partAt_5 ?_
    refine G_getq x eX3_partAt_6 fX3_9 rfl rfl h1 h2 ?_
    refine G_alen x eX3_partAt_9 rfl h3 (fun _ => rfl) ?_
    refine G_icmp_lt x eX3_partAt_10 (by first | omega | exact hr _ _ | exact hr0 _ _ | exact hrS _) (by first | omega | exact hr _ _ | exact hr0 _ _ | exact hrS _) (fun c10 => ?_) (fun c10 => ?_)
    · refine G_aload0 x eX3_partAt_17 ?_
      refine G_getq x eX3_partAt_18 fX3_9 rfl rfl h1 h2 ?_
      refine G_iload1 x eX3_partAt_21 ?_
      refine G_iald x eX3_partAt_22 rfl h3 (by omega) (by omega) (by omega) (fun h22 => ?_)
      refine G_ireturn x en eX3_partAt_23 (by omega) (by omega) ?_
      first | exact pv_i | (exfalso; omega)
    · refine G_push x eX3_partAt_13 ?_
      refine G_goto x eX3_partAt_14 ?_
      refine G_ireturn x en eX3_partAt_23 (by omega) (by omega) ?_
      first | exact pv_i | (exfalso; omega)
theorem fl_lt {fl : List (Int × Int × Int × Int)} {k : Nat} {y : Int × Int × Int × Int} (h : fl[k]? = some y) : k < fl.length := (List.getElem?_eq_some_iff.mp h).1
set_option maxRecDepth 20000 in
theorem ct_X3_signOf {T : gT} {I : gI} {J : gJ} {O : gO} {fa k : Nat} {fl : List (Int × Int × Int × Int)} {y : Int × Int × Int × Int} (hF : fmG T I O fa fl) (hl : fl.length ≤ 24) (hk : fl[k]? = some y) : Ct yX3_signOf cX3_signOf 2 (some .int) [va_rf (some fa), VI (k : Int)] 1 21 0 0 T I J O (pv (some (VI y.1)) T I J O) := by
  refine Ct.of (by decide) [some (va_rf (some fa)), some (VI (k : Int))] (gEn1 (List.forall_mem_cons.mpr ⟨cat_VR _, List.forall_mem_cons.mpr ⟨cat_VI _, fun _ h => nomatch h⟩⟩) rfl (Nat.le_of_ble_eq_true rfl) rfl) ?_
  intro X x en rm ini hr hz
  have hr0 := hr
  obtain ⟨h1, pa, h2, h3, h4⟩ := hF
  have kl := fl_lt hk
  have h5 := h4 k y hk
  refine G_rg (fun hr => ?_)
  refine G_aload0 x eX3_signOf_0 ?_
  refine G_iload1 x eX3_signOf_1 ?_
  refine G_push x eX3_signOf_2 ?_
  refine G_imul x eX3_signOf_3 ?_
  refine G_cV x eX3_signOf_4 kX3_15 im_yX3_partAt se_yX3_partAt rm h1 (ct_X3_partAt h1 h2 h3 (by omega) (by omega) (by omega)) rfl ?_
  rw [show (k : Int) * 4 = 4 * k by omega, h5.1]
  refine G_ireturn x en eX3_signOf_7 (by omega) (by omega) ?_
  first | exact pv_i | (refine ⟨?_, rfl, rfl, rfl, rfl⟩; split <;> first | rfl | omega)
set_option maxRecDepth 20000 in
theorem ct_X3_kindOf {T : gT} {I : gI} {J : gJ} {O : gO} {fa k : Nat} {fl : List (Int × Int × Int × Int)} {y : Int × Int × Int × Int} (hF : fmG T I O fa fl) (hl : fl.length ≤ 24) (hk : fl[k]? = some y) : Ct yX3_kindOf cX3_kindOf 2 (some .int) [va_rf (some fa), VI (k : Int)] 1 21 0 0 T I J O (pv (some (VI y.2.1)) T I J O) := by
  refine Ct.of (by decide) [some (va_rf (some fa)), some (VI (k : Int))] (gEn1 (List.forall_mem_cons.mpr ⟨cat_VR _, List.forall_mem_cons.mpr ⟨cat_VI _, fun _ h => nomatch h⟩⟩) rfl (Nat.le_of_ble_eq_true rfl) rfl) ?_
  intro X x en rm ini hr hz
  have hr0 := hr
  obtain ⟨h1, pa, h2, h3, h4⟩ := hF
  have kl := fl_lt hk
  have h5 := h4 k y hk
  refine G_rg (fun hr => ?_)
  refine G_aload0 x eX3_kindOf_0 ?_
  refine G_iload1 x eX3_kindOf_1 ?_
  refine G_push x eX3_kindOf_2 ?_
  refine G_imul x eX3_kindOf_3 ?_
  refine G_push x eX3_kindOf_4 ?_
  refine G_iadd x eX3_kindOf_5 ?_
  refine G_cV x eX3_kindOf_6 kX3_15 im_yX3_partAt se_yX3_partAt rm h1 (ct_X3_partAt h1 h2 h3 (by omega) (by omega) (by omega)) rfl ?_
  rw [show (k : Int) * 4 + 1 = 4 * k + 1 by omega, h5.2.1]
  refine G_ireturn x en eX3_kindOf_9 (by omega) (by omega) ?_
  first | exact pv_i | (refine ⟨?_, rfl, rfl, rfl, rfl⟩; split <;> first | rfl | omega)
set_option maxRecDepth 20000 in
theorem ct_X3_firstOf {T : gT} {I : gI} {J : gJ} {O : gO} {fa k : Nat} {fl : List (Int × Int × Int × Int)} {y : Int × Int × Int × Int} (hF : fmG T I O fa fl) (hl : fl.length ≤ 24) (hk : fl[k]? = some y) : Ct yX3_firstOf cX3_firstOf 2 (some .int) [va_rf (some fa), VI (k : Int)] 1 21 0 0 T I J O (pv (some (VI y.2.2.1)) T I J O) := by
  refine Ct.of (by decide) [some (va_rf (some fa)), some (VI (k : Int))] (gEn1 (List.forall_mem_cons.mpr ⟨cat_VR _, List.forall_mem_cons.mpr ⟨cat_VI _, fun _ h => nomatch h⟩⟩) rfl (Nat.le_of_ble_eq_true rfl) rfl) ?_
  intro X x en rm ini hr hz
  have hr0 := hr
  obtain ⟨h1, pa, h2, h3, h4⟩ := hF
  have kl := fl_lt hk
  have h5 := h4 k y hk
  refine G_rg (fun hr => ?_)
  refine G_aload0 x eX3_firstOf_0 ?_
  refine G_iload1 x eX3_firstOf_1 ?_
  refine G_push x eX3_firstOf_2 ?_
  refine G_imul x eX3_firstOf_3 ?_
  refine G_push x eX3_firstOf_4 ?_
  refine G_iadd x eX3_firstOf_5 ?_
  refine G_cV x eX3_firstOf_6 kX3_15 im_yX3_partAt se_yX3_partAt rm h1 (ct_X3_partAt h1 h2 h3 (by omega) (by omega) (by omega)) rfl ?_
  rw [show (k : Int) * 4 + 2 = 4 * k + 2 by omega, h5.2.2.1]
  refine G_ireturn x en eX3_firstOf_9 (by omega) (by omega) ?_
  first | exact pv_i | (refine ⟨?_, rfl, rfl, rfl, rfl⟩; split <;> first | rfl | omega)
set_option maxRecDepth 20000 in
theorem ct_X3_secondOf {T : gT} {I : gI} {J : gJ} {O : gO} {fa k : Nat} {fl : List (Int × Int × Int × Int)} {y : Int × Int × Int × Int} (hF : fmG T I O fa fl) (hl : fl.length ≤ 24) (hk : fl[k]? = some y) : Ct yX3_secondOf cX3_secondOf 2 (some .int) [va_rf (some fa), VI (k : Int)] 1 21 0 0 T I J O (pv (some (VI y.2.2.2)) T I J O) := by
  refine Ct.of (by decide) [some (va_rf (some fa)), some (VI (k : Int))] (gEn1 (List.forall_mem_cons.mpr ⟨cat_VR _, List.forall_mem_cons.mpr ⟨cat_VI _, fun _ h => nomatch h⟩⟩) rfl (Nat.le_of_ble_eq_true rfl) rfl) ?_
  intro X x en rm ini hr hz
  have hr0 := hr
  obtain ⟨h1, pa, h2, h3, h4⟩ := hF
  have kl := fl_lt hk
  have h5 := h4 k y hk
  refine G_rg (fun hr => ?_)
  refine G_aload0 x eX3_secondOf_0 ?_
  refine G_iload1 x eX3_secondOf_1 ?_
  refine G_push x eX3_secondOf_2 ?_
  refine G_imul x eX3_secondOf_3 ?_
  refine G_push x eX3_secondOf_4 ?_
  refine G_iadd x eX3_secondOf_5 ?_
  refine G_cV x eX3_secondOf_6 kX3_15 im_yX3_partAt se_yX3_partAt rm h1 (ct_X3_partAt h1 h2 h3 (by omega) (by omega) (by omega)) rfl ?_
  rw [show (k : Int) * 4 + 3 = 4 * k + 3 by omega, h5.2.2.2]
  refine G_ireturn x en eX3_secondOf_9 (by omega) (by omega) ?_
  first | exact pv_i | (refine ⟨?_, rfl, rfl, rfl, rfl⟩; split <;> first | rfl | omega)
set_option maxRecDepth 20000 in
theorem ct_X3_appendCell {T : gT} {I : gI} {J : gJ} {O : gO} {tx p : Nat} {S : Int → Int} {r f : Int} (hX : TxAt T O tx) (hM : RpAt T O p) (hL : LkR I p S r) (f0 : 0 ≤ f) (f1 : f < 144) (n0 : 0 ≤ I tx 1) (n1 : I tx 1 + (cnT S r f).length ≤ 24) : Ct yX3_appendCell cX3_appendCell 4 none [va_rf (some tx), va_rf (some p), VI f] 2 45 0 0 T I J O (pv none T (apC I tx (cnT S r f)) J O) := by
  refine Ct.of (by decide) [some (va_rf (some tx)), some (va_rf (some p)), some (VI f), none] (gEn1 (List.forall_mem_cons.mpr ⟨cat_VR _, List.forall_mem_cons.mpr ⟨cat_VR _, List.forall_mem_cons.mpr ⟨cat_VI _, fun _ h => nomatch h⟩⟩⟩) rfl (Nat.le_of_ble_eq_true rfl) rfl) ?_
  intro X x en rm ini hr hz
  have hr0 := hr
  have hs := @snS_b S r (10000 + f)
  have hb : snS S r (10000 + f) = -1 ∨ (0 ≤ snS S r (10000 + f) ∧ snS S r (10000 + f) < 144) := hs.imp id (fun z => z.b)
  unfold cnT at n1
  have hc : cnT S r f = if snS S r (10000 + f) = -1 ∨ 8 < snS S r (10000 + f) / 12 then [35] else [65 + snS S r (10000 + f) % 12, 49 + snS S r (10000 + f) / 12] := rfl
  refine G_rg (fun hr => ?_)
  refine G_aload1 x eX3_appendCell_0 ?_
  refine G_iload2 x eX3_appendCell_1 ?_
  refine G_cV x eX3_appendCell_2 kX3_48 im_yX8_cellOf se_yX8_cellOf rm hM.m (ct_X8_cellOf hM hL f0 f1) rfl ?_
  generalize snS S r (10000 + f) = z at *
  refine G_istore3 x eX3_appendCell_5 ?_
  refine G_iload3 x eX3_appendCell_6 ?_
  refine G_push x eX3_appendCell_7 ?_
  refine G_icmp_eq x eX3_appendCell_8 (by first | omega | exact hr _ _ | exact hr0 _ _ | exact hrS _) (by first | omega | exact hr _ _ | exact hr0 _ _ | exact hrS _) (fun c8 => ?_) (fun c8 => ?_)
  · rw [if_pos (by omega)] at n1 hc
    simp only [List.length_cons, List.length_nil] at n1
    refine G_aload0 x eX3_appendCell_20 ?_
    refine G_push x eX3_appendCell_21 ?_
    refine G_cVv x eX3_appendCell_23 kX3_26 im_yX9_append se_yX9_append rm hX.m (ct_X9_append hX (by omega) (by omega) (by omega) (by omega)) rfl ?_
    refine G_goto x eX3_appendCell_26 ?_
    refine G_return x en eX3_appendCell_51 (by omega) (by omega) ?_
    exact ⟨rfl, rfl, by rw [hc]; rfl, rfl, rfl⟩
  · refine G_iload3 x eX3_appendCell_11 ?_
    refine G_push x eX3_appendCell_12 ?_
    refine G_idivn x eX3_appendCell_14 (by omega) (by omega) (by omega) (by omega) ?_
    refine G_push x eX3_appendCell_15 ?_
    refine G_icmp_lt x eX3_appendCell_17 (by first | omega | exact hr _ _ | exact hr0 _ _ | exact hrS _) (by first | omega | exact hr _ _ | exact hr0 _ _ | exact hrS _) (fun c17 => ?_) (fun c17 => ?_)
    · rw [if_neg (by omega)] at n1 hc
      simp only [List.length_cons, List.length_nil] at n1
      refine G_aload0 x eX3_appendCell_29 ?_
      refine G_push x eX3_appendCell_30 ?_
      refine G_iload3 x eX3_appendCell_32 ?_
      refine G_push x eX3_appendCell_33 ?_
      refine G_iremn x eX3_appendCell_35 (by omega) (by omega) (by omega) (by omega) ?_
      refine G_iadd x eX3_appendCell_36 ?_
      refine G_cVv x eX3_appendCell_37 kX3_26 im_yX9_append se_yX9_append rm hX.m (ct_X9_append hX (by omega) (by omega) (by omega) (by omega)) rfl ?_
      refine G_aload0 x eX3_appendCell_40 ?_
      refine G_push x eX3_appendCell_41 ?_
      refine G_iload3 x eX3_appendCell_43 ?_
      refine G_push x eX3_appendCell_44 ?_
      refine G_idivn x eX3_appendCell_46 (by omega) (by omega) (by omega) (by omega) ?_
      refine G_iadd x eX3_appendCell_47 ?_
      refine G_cVv x eX3_appendCell_48 kX3_26 im_yX9_append se_yX9_append rm hX.m (ct_X9_append hX (by omega) (by omega) (by rw [ap1_n]; omega) (by rw [ap1_n]; omega)) rfl ?_
      refine G_return x en eX3_appendCell_51 (by omega) (by omega) ?_
      exact ⟨rfl, rfl, by rw [hc]; rfl, rfl, rfl⟩
    · rw [if_pos (by omega)] at n1 hc
      simp only [List.length_cons, List.length_nil] at n1
      refine G_aload0 x eX3_appendCell_20 ?_
      refine G_push x eX3_appendCell_21 ?_
      refine G_cVv x eX3_appendCell_23 kX3_26 im_yX9_append se_yX9_append rm hX.m (ct_X9_append hX (by omega) (by omega) (by omega) (by omega)) rfl ?_
      refine G_goto x eX3_appendCell_26 ?_
      refine G_return x en eX3_appendCell_51 (by omega) (by omega) ?_
      exact ⟨rfl, rfl, by rw [hc]; rfl, rfl, rfl⟩
noncomputable def wtR (S : Int → Int) (r : Int) : List (Int × Int × Int × Int) → List Int
  | [] => []
  | y :: l => y.1 :: wtT S r (y :: l)
theorem wtT_c {S : Int → Int} {r : Int} {y : Int × Int × Int × Int} {l : List (Int × Int × Int × Int)} : wtT S r (y :: l) = faT S r y.2.1 y.2.2.1 y.2.2.2 ++ wtR S r l := by
  cases l with
  | nil => show faT S r _ _ _ = faT S r _ _ _ ++ []; rw [List.append_nil]
  | cons z l => rfl
theorem fmG.tx {T : gT} {I : gI} {O : gO} {fa tx : Nat} {fl : List (Int × Int × Int × Int)} {w : List Int} (h : fmG T I O fa fl) (hX : TxAt T O tx) : fmG T (apC I tx w) O fa fl := by
  have h' := h
  obtain ⟨h1, pa, h2, h3, h4⟩ := h'
  refine h.mv (fun _ _ => rfl) rfl (fun q j hq => ?_)
  have : q = pa := by rw [h2] at hq; cases hq; rfl
  subst this
  refine apC_o (fun e => ?_) (Or.inl fun e => ?_)
  · rw [e, hX.t_characters] at h3; cases h3
  · rw [e, hX.m] at h3; cases h3
set_option maxHeartbeats 4000000 in
set_option maxRecDepth 20000 in
theorem ct_X3_appendTo {T : gT} {I : gI} {J : gJ} {O : gO} {tx p fa : Nat} {S : Int → Int} {r : Int} {fl : List (Int × Int × Int × Int)} (hF : fmG T I O fa fl) (hl : fl.length ≤ 24) (hok : ∀ y ∈ fl, faOk y) (hX : TxAt T O tx) (hM : RpAt T O p) (hL : LkR I p S r) (hd : tx + 1 < p) (n0 : 0 ≤ I tx 1) (n1 : I tx 1 + (wtT S r fl).length ≤ 24) (hne : fl ≠ []) : Ct yX3_appendTo cX3_appendTo 4 none [va_rf (some fa), va_rf (some tx), va_rf (some p)] 3 68 0 0 T I J O (pv none T (apC I tx (wtT S r fl)) J O) := by
  refine Ct.of (by decide) [some (va_rf (some fa)), some (va_rf (some tx)), some (va_rf (some p)), none] (gEn1 (List.forall_mem_cons.mpr ⟨cat_VR _, List.forall_mem_cons.mpr ⟨cat_VR _, List.forall_mem_cons.mpr ⟨cat_VR _, fun _ h => nomatch h⟩⟩⟩) rfl (Nat.le_of_ble_eq_true rfl) rfl) ?_
  intro X x en rm ini hr hz
  have hr0 := hr
  have hLk : ∀ w, LkR (apC I tx w) p S r := fun w => hL.c (fun b j b1 b2 => apC_o (by omega) (Or.inl (by omega)))
  have hF1 : T.2 fa = some (.inl 3) := hF.1
  -- one factor
  have fac : ∀ (k : Nat) (pre : List Int) (y : Int × Int × Int × Int), fl[k]? = some y → pre ++ (faT S r y.2.1 y.2.2.1 y.2.2.2 ++ wtR S r (fl.drop (k + 1))) = wtT S r fl → G X 2 [some (va_rf (some fa)), some (va_rf (some tx)), some (va_rf (some p)), some (VI ((k + 1 : Nat) : Int))] [] T (apC I tx (pre ++ faT S r y.2.1 y.2.2.1 y.2.2.2)) J O 0 0 → G X 23 [some (va_rf (some fa)), some (va_rf (some tx)), some (va_rf (some p)), some (VI (k : Int))] [] T (apC I tx pre) J O 0 0 := by
    intro k pre y hk he hn
    have kl := fl_lt hk
    have hy := hok y (List.mem_of_getElem? hk)
    have len : (pre.length : Int) + (faT S r y.2.1 y.2.2.1 y.2.2.2).length ≤ (wtT S r fl).length := by
      rw [← he]
      simp only [List.length_append]
      omega
    have ln : (apC I tx pre) tx 1 = I tx 1 + pre.length := apC_n
    have hFp := hF.tx (w := pre) hX
    rw [apC_app] at hn
    rw [show ((k + 1 : Nat) : Int) = (k : Int) + 1 by omega] at hn
    obtain ⟨hy1, hy2⟩ := hy
    rcases hy2 with ⟨e1, e2, e3⟩ | ⟨e1, e2, e3⟩ | ⟨e1, e2, e3⟩
    · rw [show faT S r y.2.1 y.2.2.1 y.2.2.2 = dgT y.2.2.1 by unfold faT; rw [if_pos e1]] at hn len
      refine G_rg (fun hr => ?_)
      refine G_aload0 x eX3_appendTo_23 ?_
      refine G_iload3 x eX3_appendTo_24 ?_
      refine G_cV x eX3_appendTo_25 kX3_32 im_yX3_kindOf se_yX3_kindOf rm hF1 (ct_X3_kindOf hFp hl hk) rfl ?_
      refine G_if_ne x eX3_appendTo_28 (by first | omega | exact hr _ _ | exact hr0 _ _ | exact hrS _) (fun c28 => ?_) (fun c28 => ?_)
      · omega
      · refine G_aload1 x eX3_appendTo_31 ?_
        refine G_aload0 x eX3_appendTo_32 ?_
        refine G_iload3 x eX3_appendTo_33 ?_
        refine G_cV x eX3_appendTo_34 kX3_35 im_yX3_firstOf se_yX3_firstOf rm hF1 (ct_X3_firstOf hFp hl hk) rfl ?_
        refine G_cVv x eX3_appendTo_37 kX3_38 im_yX9_appendNumber se_yX9_appendNumber rm hX.m (ct_X9_appendNumber hX e2.1 e2.2 (by omega) (by omega)) rfl ?_
        refine G_goto x eX3_appendTo_40 ?_
        refine G_iinc3 x eX3_appendTo_109 ?_
        refine G_goto x eX3_appendTo_112 ?_
        exact hn
    · rw [show faT S r y.2.1 y.2.2.1 y.2.2.2 = cnT S r y.2.2.1 by unfold faT; rw [if_neg (by omega), if_pos e1]] at hn len
      refine G_rg (fun hr => ?_)
      refine G_aload0 x eX3_appendTo_23 ?_
      refine G_iload3 x eX3_appendTo_24 ?_
      refine G_cV x eX3_appendTo_25 kX3_32 im_yX3_kindOf se_yX3_kindOf rm hF1 (ct_X3_kindOf hFp hl hk) rfl ?_
      refine G_if_ne x eX3_appendTo_28 (by first | omega | exact hr _ _ | exact hr0 _ _ | exact hrS _) (fun c28 => ?_) (fun c28 => ?_)
      · refine G_aload0 x eX3_appendTo_43 ?_
        refine G_iload3 x eX3_appendTo_44 ?_
        refine G_cV x eX3_appendTo_45 kX3_32 im_yX3_kindOf se_yX3_kindOf rm hF1 (ct_X3_kindOf hFp hl hk) rfl ?_
        refine G_push x eX3_appendTo_48 ?_
        refine G_icmp_ne x eX3_appendTo_49 (by first | omega | exact hr _ _ | exact hr0 _ _ | exact hrS _) (by first | omega | exact hr _ _ | exact hr0 _ _ | exact hrS _) (fun c49 => ?_) (fun c49 => ?_)
        · omega
        · refine G_aload1 x eX3_appendTo_52 ?_
          refine G_aload2 x eX3_appendTo_53 ?_
          refine G_aload0 x eX3_appendTo_54 ?_
          refine G_iload3 x eX3_appendTo_55 ?_
          refine G_cV x eX3_appendTo_56 kX3_35 im_yX3_firstOf se_yX3_firstOf rm hF1 (ct_X3_firstOf hFp hl hk) rfl ?_
          refine G_cSg x eX3_appendTo_59 kX3_41 sm_yX3_appendCell rm (ct_X3_appendCell hX hM (hLk pre) e2.1 e2.2 (by omega) (by omega)) rfl (fun v59 T59 I59 J59 O59 p59 => ?_)
          refine G_rg (fun hr => ?_)
          obtain ⟨rfl, rfl, rfl, rfl, rfl⟩ := p59
          refine G_goto x eX3_appendTo_62 ?_
          refine G_iinc3 x eX3_appendTo_109 ?_
          refine G_goto x eX3_appendTo_112 ?_
          exact hn
      · omega
    · rw [show faT S r y.2.1 y.2.2.1 y.2.2.2 = 83 :: 40 :: (cnT S r y.2.2.1 ++ 58 :: (cnT S r y.2.2.2 ++ [41])) by unfold faT; rw [if_neg (by omega), if_neg (by omega)]] at hn len
      have ca := (@cnT_l S r y.2.2.1)
      have cb := (@cnT_l S r y.2.2.2)
      simp only [List.length_cons, List.length_append, List.length_nil] at len
      have l2 : (apC I tx (pre ++ [83, 40])) tx 1 = I tx 1 + pre.length + 2 := by rw [apC_n, List.length_append]; simp only [List.length_cons, List.length_nil]; omega
      have l3 : (apC I tx (pre ++ [83, 40] ++ cnT S r y.2.2.1)) tx 1 = I tx 1 + pre.length + 2 + (cnT S r y.2.2.1).length := by rw [apC_n, List.length_append, List.length_append]; simp only [List.length_cons, List.length_nil]; omega
      have l4 : (apC I tx (pre ++ [83, 40] ++ cnT S r y.2.2.1 ++ [58])) tx 1 = I tx 1 + pre.length + 3 + (cnT S r y.2.2.1).length := by rw [apC_n, List.length_append, List.length_append, List.length_append]; simp only [List.length_cons, List.length_nil]; omega
      have l5 : (apC I tx (pre ++ [83, 40] ++ cnT S r y.2.2.1 ++ [58] ++ cnT S r y.2.2.2)) tx 1 = I tx 1 + pre.length + 3 + (cnT S r y.2.2.1).length + (cnT S r y.2.2.2).length := by rw [apC_n, List.length_append, List.length_append, List.length_append, List.length_append]; simp only [List.length_cons, List.length_nil]; omega
      have s2 : ap1 (ap1 (apC I tx pre) tx 83) tx 40 = apC I tx (pre ++ [83, 40]) := by rw [apC_app]; rfl
      have s4 : ap1 (apC I tx (pre ++ [83, 40] ++ cnT S r y.2.2.1)) tx 58 = apC I tx (pre ++ [83, 40] ++ cnT S r y.2.2.1 ++ [58]) := by rw [apC_app (b := [58])]; rfl
      have s6 : ap1 (apC I tx (pre ++ [83, 40] ++ cnT S r y.2.2.1 ++ [58] ++ cnT S r y.2.2.2)) tx 41 = apC (apC I tx pre) tx (83 :: 40 :: (cnT S r y.2.2.1 ++ 58 :: (cnT S r y.2.2.2 ++ [41]))) := by
        rw [← apC_app, show pre ++ 83 :: 40 :: (cnT S r y.2.2.1 ++ 58 :: (cnT S r y.2.2.2 ++ [41])) = (pre ++ [83, 40] ++ cnT S r y.2.2.1 ++ [58] ++ cnT S r y.2.2.2) ++ [41] by simp, apC_app (b := [41])]
        rfl
      rw [← s6] at hn
      have hF2 := hF.tx (w := pre ++ [83, 40]) hX
      have hF4 := hF.tx (w := pre ++ [83, 40] ++ cnT S r y.2.2.1 ++ [58]) hX
      refine G_rg (fun hr => ?_)
      refine G_aload0 x eX3_appendTo_23 ?_
      refine G_iload3 x eX3_appendTo_24 ?_
      refine G_cV x eX3_appendTo_25 kX3_32 im_yX3_kindOf se_yX3_kindOf rm hF1 (ct_X3_kindOf hFp hl hk) rfl ?_
      refine G_if_ne x eX3_appendTo_28 (by first | omega | exact hr _ _ | exact hr0 _ _ | exact hrS _) (fun c28 => ?_) (fun c28 => ?_)
      · refine G_aload0 x eX3_appendTo_43 ?_
        refine G_iload3 x eX3_appendTo_44 ?_
        refine G_cV x eX3_appendTo_45 kX3_32 im_yX3_kindOf se_yX3_kindOf rm hF1 (ct_X3_kindOf hFp hl hk) rfl ?_
        refine G_push x eX3_appendTo_48 ?_
        refine G_icmp_ne x eX3_appendTo_49 (by first | omega | exact hr _ _ | exact hr0 _ _ | exact hrS _) (by first | omega | exact hr _ _ | exact hr0 _ _ | exact hrS _) (fun c49 => ?_) (fun c49 => ?_)
        · refine G_aload1 x eX3_appendTo_65 ?_
          refine G_push x eX3_appendTo_66 ?_
          refine G_cVv x eX3_appendTo_68 kX3_26 im_yX9_append se_yX9_append rm hX.m (ct_X9_append hX (by omega) (by omega) (by omega) (by omega)) rfl ?_
          refine G_aload1 x eX3_appendTo_71 ?_
          refine G_push x eX3_appendTo_72 ?_
          refine G_cVv x eX3_appendTo_74 kX3_26 im_yX9_append se_yX9_append rm hX.m (ct_X9_append hX (by omega) (by omega) (by rw [ap1_n]; omega) (by rw [ap1_n]; omega)) rfl ?_
          rw [s2]
          refine G_aload1 x eX3_appendTo_77 ?_
          refine G_aload2 x eX3_appendTo_78 ?_
          refine G_aload0 x eX3_appendTo_79 ?_
          refine G_iload3 x eX3_appendTo_80 ?_
          refine G_cV x eX3_appendTo_81 kX3_35 im_yX3_firstOf se_yX3_firstOf rm hF1 (ct_X3_firstOf hF2 hl hk) rfl ?_
          refine G_cSg x eX3_appendTo_84 kX3_41 sm_yX3_appendCell rm (ct_X3_appendCell hX hM (hLk _) e2.1 e2.2 (by rw [l2]; omega) (by rw [l2]; omega)) rfl (fun v84 T84 I84 J84 O84 p84 => ?_)
          refine G_rg (fun hr => ?_)
          obtain ⟨rfl, rfl, rfl, rfl, rfl⟩ := p84
          rw [← apC_app]
          refine G_aload1 x eX3_appendTo_87 ?_
          refine G_push x eX3_appendTo_88 ?_
          refine G_cVv x eX3_appendTo_90 kX3_26 im_yX9_append se_yX9_append rm hX.m (ct_X9_append hX (by omega) (by omega) (by rw [l3]; omega) (by rw [l3]; omega)) rfl ?_
          rw [s4]
          refine G_aload1 x eX3_appendTo_93 ?_
          refine G_aload2 x eX3_appendTo_94 ?_
          refine G_aload0 x eX3_appendTo_95 ?_
          refine G_iload3 x eX3_appendTo_96 ?_
          refine G_cV x eX3_appendTo_97 kX3_45 im_yX3_secondOf se_yX3_secondOf rm hF1 (ct_X3_secondOf hF4 hl hk) rfl ?_
          refine G_cSg x eX3_appendTo_100 kX3_41 sm_yX3_appendCell rm (ct_X3_appendCell hX hM (hLk _) e3.1 e3.2 (by rw [l4]; omega) (by rw [l4]; omega)) rfl (fun v100 T100 I100 J100 O100 p100 => ?_)
          refine G_rg (fun hr => ?_)
          obtain ⟨rfl, rfl, rfl, rfl, rfl⟩ := p100
          rw [← apC_app]
          refine G_aload1 x eX3_appendTo_103 ?_
          refine G_push x eX3_appendTo_104 ?_
          refine G_cVv x eX3_appendTo_106 kX3_26 im_yX9_append se_yX9_append rm hX.m (ct_X9_append hX (by omega) (by omega) (by rw [l5]; omega) (by rw [l5]; omega)) rfl ?_
          refine G_iinc3 x eX3_appendTo_109 ?_
          refine G_goto x eX3_appendTo_112 ?_
          exact hn
        · omega
      · omega
  have loop : ∀ (d k : Nat) (pre : List Int), k + d = fl.length → 1 ≤ k → pre ++ wtR S r (fl.drop k) = wtT S r fl → G X 2 [some (va_rf (some fa)), some (va_rf (some tx)), some (va_rf (some p)), some (VI (k : Int))] [] T (apC I tx pre) J O 0 0 := by
    intro d
    induction d with
    | zero =>
      intro k pre hd k0 he
      rw [List.drop_eq_nil_of_le (by omega)] at he
      have he : pre ++ [] = wtT S r fl := he
      rw [List.append_nil] at he
      refine G_rg (fun hr => ?_)
      refine G_iload3 x eX3_appendTo_2 ?_
      refine G_aload0 x eX3_appendTo_3 ?_
      refine G_cV x eX3_appendTo_4 kX3_19 im_yX3_factors se_yX3_factors rm hF1 (ct_X3_factors (hF.tx hX) hl) rfl ?_
      refine G_icmp_ge x eX3_appendTo_7 (by first | omega | exact hr _ _ | exact hr0 _ _ | exact hrS _) (by first | omega | exact hr _ _ | exact hr0 _ _ | exact hrS _) (fun c7 => ?_) (fun c7 => ?_)
      · refine G_return x en eX3_appendTo_115 (by omega) (by omega) ?_
        exact ⟨rfl, rfl, by rw [he], rfl, rfl⟩
      · omega
    | succ d ih =>
      intro k pre hd k0 he
      obtain ⟨y, hk⟩ : ∃ y, fl[k]? = some y := ⟨fl[k], List.getElem?_eq_getElem (by omega)⟩
      have hdr : fl.drop k = y :: fl.drop (k + 1) := by
        rw [List.drop_eq_getElem_cons (by omega)]
        rw [List.getElem?_eq_getElem (by omega)] at hk
        cases hk; rfl
      rw [hdr] at he
      have he : pre ++ (y.1 :: wtT S r (y :: fl.drop (k + 1))) = wtT S r fl := he
      rw [wtT_c] at he
      have he2 : (pre ++ [y.1]) ++ (faT S r y.2.1 y.2.2.1 y.2.2.2 ++ wtR S r (fl.drop (k + 1))) = wtT S r fl := by rw [← he]; simp
      have hy := hok y (List.mem_of_getElem? hk)
      have hlen : (pre.length : Int) + 1 ≤ (wtT S r fl).length := by rw [← he2]; simp only [List.length_append, List.length_cons, List.length_nil]; omega
      have ln : (apC I tx pre) tx 1 = I tx 1 + pre.length := apC_n
      have hF2 := fac k (pre ++ [y.1]) y hk he2 (ih (k + 1) _ (by omega) (by omega) (by rw [← he2]; simp))
      rw [apC_app] at hF2
      have hy1 := hy.1
      have cy : 0 ≤ y.1 ∧ y.1 < 65536 := by unfold isOp at hy1; omega
      refine G_rg (fun hr => ?_)
      refine G_iload3 x eX3_appendTo_2 ?_
      refine G_aload0 x eX3_appendTo_3 ?_
      refine G_cV x eX3_appendTo_4 kX3_19 im_yX3_factors se_yX3_factors rm hF1 (ct_X3_factors (hF.tx hX) hl) rfl ?_
      refine G_icmp_ge x eX3_appendTo_7 (by first | omega | exact hr _ _ | exact hr0 _ _ | exact hrS _) (by first | omega | exact hr _ _ | exact hr0 _ _ | exact hrS _) (fun c7 => ?_) (fun c7 => ?_)
      · omega
      · refine G_iload3 x eX3_appendTo_10 ?_
        refine G_if_le x eX3_appendTo_11 (by first | omega | exact hr _ _ | exact hr0 _ _ | exact hrS _) (fun c11 => ?_) (fun c11 => ?_)
        · first | (exfalso; omega) | exact hF2
        · refine G_aload1 x eX3_appendTo_14 ?_
          refine G_aload0 x eX3_appendTo_15 ?_
          refine G_iload3 x eX3_appendTo_16 ?_
          refine G_cV x eX3_appendTo_17 kX3_23 im_yX3_signOf se_yX3_signOf rm hF1 (ct_X3_signOf (hF.tx hX) hl hk) rfl ?_
          refine G_cVv x eX3_appendTo_20 kX3_26 im_yX9_append se_yX9_append rm hX.m (ct_X9_append hX cy.1 cy.2 (by omega) (by omega)) rfl ?_
          first | (exfalso; omega) | exact hF2
  obtain ⟨y, hk⟩ : ∃ y, fl[0]? = some y := by
    cases fl with
    | nil => exact absurd rfl hne
    | cons y l => exact ⟨y, rfl⟩
  have kl := fl_lt hk
  have hdr : fl = y :: fl.drop 1 := by
    cases fl with
    | nil => exact absurd rfl hne
    | cons z l => cases hk; rfl
  have he : ([] : List Int) ++ (faT S r y.2.1 y.2.2.1 y.2.2.2 ++ wtR S r (fl.drop (0 + 1))) = wtT S r fl := by
    show faT S r y.2.1 y.2.2.1 y.2.2.2 ++ wtR S r (fl.drop 1) = wtT S r fl
    rw [← wtT_c, ← hdr]
  have hF2 := fac 0 [] y hk he (loop (fl.length - 1) 1 _ (by omega) (by omega) (by rw [← he]; simp))
  refine G_rg (fun hr => ?_)
  refine G_push x eX3_appendTo_0 ?_
  refine G_istore3 x eX3_appendTo_1 ?_
  refine G_iload3 x eX3_appendTo_2 ?_
  refine G_aload0 x eX3_appendTo_3 ?_
  refine G_cV x eX3_appendTo_4 kX3_19 im_yX3_factors se_yX3_factors rm hF1 (ct_X3_factors hF hl) rfl ?_
  refine G_icmp_ge x eX3_appendTo_7 (by first | omega | exact hr _ _ | exact hr0 _ _ | exact hrS _) (by first | omega | exact hr _ _ | exact hr0 _ _ | exact hrS _) (fun c7 => ?_) (fun c7 => ?_)
  · omega
  · refine G_iload3 x eX3_appendTo_10 ?_
    refine G_if_le x eX3_appendTo_11 (by first | omega | exact hr _ _ | exact hr0 _ _ | exact hrS _) (fun c11 => ?_) (fun c11 => ?_)
    · exact hF2
    · omega
