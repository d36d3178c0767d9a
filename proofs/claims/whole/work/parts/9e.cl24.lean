/-! checksums -/
set_option maxRecDepth 20000 in
theorem ct_X10_mixed {T : gT} {I : gI} {J : gJ} {O : gO} {a b : Int64} : Ct yX10_mixed cX10_mixed 4 (some .long) [Value.long a, Value.long b] 0 0 0 0 T I J O (pv (some (Value.long (mx a b))) T I J O) := by
  refine Ct.of (by decide) [some (Value.long a), none, some (Value.long b), none] (gEnL rfl (Nat.le_of_ble_eq_true rfl) rfl) ?_
  intro X x en rm ini hr hz
  have hr0 := hr
  refine G_rg (fun hr => ?_)
  refine G_ldc2 x klX10_327 eX10_mixed_0 ?_
  refine G_lload0 x eX10_mixed_3 ?_
  refine G_lmul x eX10_mixed_4 ?_
  refine G_lload2 x eX10_mixed_5 ?_
  refine G_ladd x eX10_mixed_6 ?_
  refine G_lreturn x en eX10_mixed_7 (by omega) (by omega) ?_
  first | exact pv_i | (refine ⟨?_, rfl, rfl, rfl, rfl⟩; split <;> first | rfl | omega)
set_option maxRecDepth 20000 in
theorem ct_X10_mixedLines {T : gT} {I : gI} {J : gJ} {O : gO} {ln : Nat} {S : Int → Int} {r kd : Int} {h : Int64} (hM : LnAt T O ln) (ht : lnTb I ln S r kd) : Ct yX10_mixedLines cX10_mixedLines 7 (some .long) [Value.long h, va_rf (some ln)] 1 23 0 0 T I J O (pv (some (Value.long (mlM S r kd h))) T I J O) := by
  refine Ct.of (by decide) [some (Value.long h), none, some (va_rf (some ln)), none, none, none, none] (gEnL rfl (Nat.le_of_ble_eq_true rfl) rfl) ?_
  intro X x en rm ini hr hz
  have hr0 := hr
  have eR := ht.R.1
  have b0 := (rwE S r kd (-1)).1
  have b1 := (rwE S r kd (-1)).2.1
  have loop : ∀ (d k : Nat) (o6 : Option Value), (k : Int) + d = rwN S r kd (-1) → G X 13 [some (Value.long h), none, some (va_rf (some ln)), some (Value.long (lnM S r kd (mxI h (rwN S r kd (-1))) k)), none, some (VI (k : Int)), o6] [] T I J O 0 0 := by
    intro d
    induction d with
    | zero =>
      intro k o6 hd
      have hk : (rwN S r kd (-1)).toNat = k := by omega
      refine G_rg (fun hr => ?_)
      refine G_iload5 x eX10_mixedLines_13 ?_
      refine G_aload2 x eX10_mixedLines_15 ?_
      refine G_cV x eX10_mixedLines_16 kX10_47 im_yX4_count se_yX4_count rm hM.m (ct_X4_count hM) rfl ?_
      refine G_icmp_ge x eX10_mixedLines_19 (by first | omega | exact hr _ _ | exact hr0 _ _ | exact hrS _) (by first | omega | exact hr _ _ | exact hr0 _ _ | exact hrS _) (fun c19 => ?_) (fun c19 => ?_)
      · refine G_lload3 x eX10_mixedLines_56 ?_
        refine G_lreturn x en eX10_mixedLines_57 (by omega) (by omega) ?_
        exact ⟨by unfold mlM; rw [hk], rfl, rfl, rfl, rfl⟩
      · exfalso; omega
    | succ d ih =>
      intro k o6 hd
      have hl := rwF_b (S := S) (r := r) (kd := kd) (q := (k : Int)) (by omega) (by omega)
      have eA := ht.R.A9 (p := (k : Int))
      rw [if_pos (by omega)] at eA
      have cA := ct_X4_numberAt (I := I) (J := J) (p := (k : Int)) hM (by omega) (by omega)
      rw [eA] at cA
      have cP := ct_X4_placeOf (I := I) (J := J) (l := rwF S r kd (-1) (k : Int)) hM (by omega)
      have eP : I (ln + 1) (rwF S r kd (-1) (k : Int)) = plS S r kd (rwF S r kd (-1) (k : Int)) := (ht.1 _ hl.1 hl.2).1
      have hi := hr (ln + 1) (rwF S r kd (-1) (k : Int))
      rw [if_pos hl, eP] at cP
      rw [eP] at hi
      have ih := ih (k + 1) (some (VI (rwF S r kd (-1) (k : Int)))) (by omega)
      rw [show ((k + 1 : Nat) : Int) = (k : Int) + 1 by omega, show lnM S r kd (mxI h (rwN S r kd (-1))) (k + 1) = mx (mx (lnM S r kd (mxI h (rwN S r kd (-1))) k) (Int64.ofInt (rwF S r kd (-1) (k : Int)))) (Int64.ofInt (plS S r kd (rwF S r kd (-1) (k : Int)))) from rfl] at ih
      refine G_rg (fun hr => ?_)
      refine G_iload5 x eX10_mixedLines_13 ?_
      refine G_aload2 x eX10_mixedLines_15 ?_
      refine G_cV x eX10_mixedLines_16 kX10_47 im_yX4_count se_yX4_count rm hM.m (ct_X4_count hM) rfl ?_
      refine G_icmp_ge x eX10_mixedLines_19 (by first | omega | exact hr _ _ | exact hr0 _ _ | exact hrS _) (by first | omega | exact hr _ _ | exact hr0 _ _ | exact hrS _) (fun c19 => ?_) (fun c19 => ?_)
      · exfalso; omega
      · refine G_aload2 x eX10_mixedLines_22 ?_
        refine G_iload5 x eX10_mixedLines_23 ?_
        refine G_cV x eX10_mixedLines_25 kX10_76 im_yX4_numberAt se_yX4_numberAt rm hM.m cA rfl ?_
        refine G_istore6 x eX10_mixedLines_28 ?_
        refine G_lload3 x eX10_mixedLines_30 ?_
        refine G_iload6 x eX10_mixedLines_31 ?_
        refine G_i2l x eX10_mixedLines_33 (by first | omega | exact hr _ _ | exact hr0 _ _ | exact hrS _) ?_
        refine G_cS x eX10_mixedLines_34 kX10_247 sm_yX10_mixed rm (ct_X10_mixed) rfl ?_
        refine G_lstore3 x eX10_mixedLines_37 ?_
        refine G_lload3 x eX10_mixedLines_38 ?_
        refine G_aload2 x eX10_mixedLines_39 ?_
        refine G_iload6 x eX10_mixedLines_40 ?_
        refine G_cV x eX10_mixedLines_42 kX10_89 im_yX4_placeOf se_yX4_placeOf rm hM.m cP rfl ?_
        refine G_i2l x eX10_mixedLines_45 hi ?_
        refine G_cS x eX10_mixedLines_46 kX10_247 sm_yX10_mixed rm (ct_X10_mixed) rfl ?_
        refine G_lstore3 x eX10_mixedLines_49 ?_
        refine G_iinc5 x eX10_mixedLines_50 ?_
        refine G_goto x eX10_mixedLines_53 ?_
        exact ih
  have hl := loop (rwN S r kd (-1)).toNat 0 none (by omega)
  refine G_lload0 x eX10_mixedLines_0 ?_
  refine G_aload2 x eX10_mixedLines_1 ?_
  refine G_cV x eX10_mixedLines_2 kX10_47 im_yX4_count se_yX4_count rm hM.m (ct_X4_count hM) rfl ?_
  rw [eR]
  refine G_i2l x eX10_mixedLines_5 (by first | omega | exact hr _ _ | exact hr0 _ _ | exact hrS _) ?_
  refine G_cS x eX10_mixedLines_6 kX10_247 sm_yX10_mixed rm (ct_X10_mixed) rfl ?_
  refine G_lstore3 x eX10_mixedLines_9 ?_
  refine G_push x eX10_mixedLines_10 ?_
  refine G_istore5 x eX10_mixedLines_11 ?_
  exact hl
set_option maxRecDepth 20000 in
theorem ct_X10_mixedOrder {T : gT} {I : gI} {J : gJ} {O : gO} {ca : Nat} {S : Int → Int} {r : Int} {h : Int64} (hM : CaAt T O ca) (hA : CaR I J ca S r) : Ct yX10_mixedOrder cX10_mixedOrder 6 (some .long) [Value.long h, va_rf (some ca)] 2 43 0 0 T I J O (pv (some (Value.long (orM S r (mxI h (ncS S r)) (orS S r).2.toNat))) T I J O) := by
  refine Ct.of (by decide) [some (Value.long h), none, some (va_rf (some ca)), none, none, none] (gEnL rfl (Nat.le_of_ble_eq_true rfl) rfl) ?_
  intro X x en rm ini hr hz
  have hr0 := hr
  have hO := hA.2.2.1
  have hn := hO.n
  have he := or_eq hO
  have loop : ∀ (d k : Nat), (k : Int) + d = I ca 6 → G X 13 [some (Value.long h), none, some (va_rf (some ca)), some (Value.long (orM S r (mxI h (ncS S r)) k)), none, some (VI (k : Int))] [] T I J O 0 0 := by
    intro d
    induction d with
    | zero =>
      intro k hd
      have hk : (orS S r).2.toNat = k := by omega
      refine G_rg (fun hr => ?_)
      refine G_iload5 x eX10_mixedOrder_13 ?_
      refine G_aload2 x eX10_mixedOrder_15 ?_
      refine G_cV x eX10_mixedOrder_16 kX10_329 im_yX0_orderedCount se_yX0_orderedCount rm hM.m (ct_X0_orderedCount hM) rfl ?_
      refine G_icmp_ge x eX10_mixedOrder_19 (by first | omega | exact hr _ _ | exact hr0 _ _ | exact hrS _) (by first | omega | exact hr _ _ | exact hr0 _ _ | exact hrS _) (fun c19 => ?_) (fun c19 => ?_)
      · refine G_lload3 x eX10_mixedOrder_40 ?_
        refine G_lreturn x en eX10_mixedOrder_41 (by omega) (by omega) ?_
        exact ⟨by rw [hk], rfl, rfl, rfl, rfl⟩
      · exfalso; omega
    | succ d ih =>
      intro k hd
      have hb := hn.2 (k : Int) (by omega) (by omega)
      have eo : orA S r (k : Int) = told9 ((orS S r).1 (k : Int)) := if_pos (by omega)
      rw [he.2 (k : Int) (by omega) (by omega)] at hb
      have hi : in32 (orA S r (k : Int)) := by
        rw [eo]
        simp only [told9]
        omega
      have ih := ih (k + 1) (by omega)
      rw [show ((k + 1 : Nat) : Int) = (k : Int) + 1 by omega, show orM S r (mxI h (ncS S r)) (k + 1) = mx (orM S r (mxI h (ncS S r)) k) (Int64.ofInt (told9 ((orS S r).1 (k : Int)))) from rfl, ← eo] at ih
      refine G_rg (fun hr => ?_)
      refine G_iload5 x eX10_mixedOrder_13 ?_
      refine G_aload2 x eX10_mixedOrder_15 ?_
      refine G_cV x eX10_mixedOrder_16 kX10_329 im_yX0_orderedCount se_yX0_orderedCount rm hM.m (ct_X0_orderedCount hM) rfl ?_
      refine G_icmp_ge x eX10_mixedOrder_19 (by first | omega | exact hr _ _ | exact hr0 _ _ | exact hrS _) (by first | omega | exact hr _ _ | exact hr0 _ _ | exact hrS _) (fun c19 => ?_) (fun c19 => ?_)
      · exfalso; omega
      · refine G_lload3 x eX10_mixedOrder_22 ?_
        refine G_aload2 x eX10_mixedOrder_23 ?_
        refine G_iload5 x eX10_mixedOrder_24 ?_
        refine G_cS x eX10_mixedOrder_26 kX10_166 sm_yX10_toldOrder rm (ct_X10_toldOrder hM hA (by omega)) rfl ?_
        refine G_i2l x eX10_mixedOrder_29 hi ?_
        refine G_cS x eX10_mixedOrder_30 kX10_247 sm_yX10_mixed rm (ct_X10_mixed) rfl ?_
        refine G_lstore3 x eX10_mixedOrder_33 ?_
        refine G_iinc5 x eX10_mixedOrder_34 ?_
        refine G_goto x eX10_mixedOrder_37 ?_
        exact ih
  have hl := loop (I ca 6).toNat 0 (by omega)
  refine G_lload0 x eX10_mixedOrder_0 ?_
  refine G_aload2 x eX10_mixedOrder_1 ?_
  refine G_cV x eX10_mixedOrder_2 kX10_163 im_yX0_cycleCount se_yX0_cycleCount rm hM.m (ct_X0_cycleCount hM) rfl ?_
  refine G_i2l x eX10_mixedOrder_5 (by first | omega | exact hr _ _ | exact hr0 _ _ | exact hrS _) ?_
  rw [hA.2.2.2.1]
  refine G_cS x eX10_mixedOrder_6 kX10_247 sm_yX10_mixed rm (ct_X10_mixed) rfl ?_
  refine G_lstore3 x eX10_mixedOrder_9 ?_
  refine G_push x eX10_mixedOrder_10 ?_
  refine G_istore5 x eX10_mixedOrder_11 ?_
  exact hl
theorem tl_in {B : Nat} {T : gT} {I : gI} {O : gO} {p : Nat} {S : Int → Int} {r c w : Int} (hR : RpR B T I O p S r) (hW : clW S r) (hc : inC S r c) (hr : ∀ a k, in32 (I a k)) (w0 : 0 ≤ w) (w1 : w ≤ 3) : in32 (tlS S r c w) := by
  have z : ∀ v : Int, -1 ≤ v → v ≤ 3 → in32 v := fun v a b => by omega
  rcases hR.wr hc with ⟨e1, e2⟩ | ⟨e1, a, e2, e3⟩
  · unfold tlS
    rcases (by omega : w = 0 ∨ w = 1 ∨ w = 2 ∨ w = 3) with e | e | e | e
    · rw [if_pos e, if_pos e1]; exact z _ (by decide) (by decide)
    · rw [if_neg (by omega), if_pos e, if_pos e1]; exact z _ (by decide) (by decide)
    · rw [if_neg (by omega), if_neg (by omega), if_pos e, if_pos e1]; exact z _ (by decide) (by decide)
    · rw [if_neg (by omega), if_neg (by omega), if_neg (by omega), if_pos e, if_pos (Or.inl e1)]; exact z _ (by decide) (by decide)
  · have hk := hW.id hc (by omega)
    rcases e3.2.2.2 with ⟨-, co, -, h1⟩ | ⟨h1, -⟩
    · have i0 := hr co 0
      rw [h1.2.2.1] at i0
      have i1 := hr co 1
      rw [h1.2.2.2.1] at i1
      have i2 := hr a 1
      rw [e3.2.2.1.2.1] at i2
      unfold tlS
      rcases (by omega : w = 0 ∨ w = 1 ∨ w = 2 ∨ w = 3) with e | e | e | e
      · rw [if_pos e, if_neg (by omega)]; exact i0
      · rw [if_neg (by omega), if_pos e, if_neg (by omega)]; exact i2
      · rw [if_neg (by omega), if_neg (by omega), if_pos e, if_neg (by omega)]; omega
      · rw [if_neg (by omega), if_neg (by omega), if_neg (by omega), if_pos e]
        by_cases q : S (3 + 32 * idS S r c + 5) = 1
        · rw [if_neg (by omega)]
          rw [if_pos q] at i1
          exact i1
        · rw [if_pos (Or.inr q)]
          exact z _ (by decide) (by decide)
    · exact absurd hk h1
set_option maxHeartbeats 4000000 in
set_option maxRecDepth 20000 in
theorem ct_X10_mixedCells {T : gT} {I : gI} {J : gJ} {O : gO} {B p ca : Nat} {S : Int → Int} {r : Int} {h : Int64} (hM : RpAt T O p) (hR : RpR B T I O p S r) (hW : clW S r) (hCa : CaAt T O ca) (hA : CaR I J ca S r) (hf : fmOk S r) : Ct yX10_mixedCells cX10_mixedCells 10 (some .long) [Value.long h, va_rf (some p), va_rf (some ca)] 5 109 0 0 T I J O (pv (some (Value.long (gdM S r h (rwN S r 0 (-1)).toNat))) T I J O) := by
  refine Ct.of (by decide) [some (Value.long h), none, some (va_rf (some p)), some (va_rf (some ca)), none, none, none, none, none, none] (gEnL rfl (Nat.le_of_ble_eq_true rfl) rfl) ?_
  intro X x en rm ini hr hz
  have hr0 := hr
  have e0 := hR.2.2.1.R.1
  have e1 := hR.2.2.2.1.R.1
  have b0 := (rwE S r 0 (-1)).1
  have b1 := (rwE S r 0 (-1)).2.1
  have b2 := (rwE S r 1 (-1)).1
  have b3 := (rwE S r 1 (-1)).2.1
  have hrA := hr
  have wl : ∀ (d k row col : Nat) (h0 : Int64), k + d = 4 → inC S r (12 * (row : Int) + col) → (row : Int) < 12 → (col : Int) < 12 → (∀ o9, G X 21 [some (Value.long h), none, some (va_rf (some p)), some (va_rf (some ca)), some (Value.long (ceM S r (12 * (row : Int) + col) h0)), none, some (VI (row : Int)), some (VI ((col : Int) + 1)), some (VI (12 * (row : Int) + col)), o9] [] T I J O 0 0) → G X 46 [some (Value.long h), none, some (va_rf (some p)), some (va_rf (some ca)), some (Value.long (tlM S r (12 * (row : Int) + col) h0 k)), none, some (VI (row : Int)), some (VI (col : Int)), some (VI (12 * (row : Int) + col)), some (VI (k : Int))] [] T I J O 0 0 := by
    intro d
    induction d with
    | zero =>
      intro k row col h0 hd hc hr1 hc1 kk
      have hk : k = 4 := by omega
      subst hk
      have hcb := hc.b
      have hv := vl_eq hf hA.2.1 _ hc
      have kk := kk (some (VI 4))
      rw [show ceM S r (12 * (row : Int) + col) h0 = mx (mx (tlM S r (12 * (row : Int) + col) h0 4) ((vlP S r).1 (12 * (row : Int) + col))) (Int64.ofInt ((vlP S r).2 (12 * (row : Int) + col))) from rfl, ← hv.1, ← hv.2] at kk
      refine G_rg (fun hr => ?_)
      refine G_iload9 x eX10_mixedCells_46 ?_
      refine G_push x eX10_mixedCells_48 ?_
      refine G_icmp_gt x eX10_mixedCells_49 (by first | omega | exact hr _ _ | exact hr0 _ _ | exact hrS _) (by first | omega | exact hr _ _ | exact hr0 _ _ | exact hrS _) (fun c49 => ?_) (fun c49 => ?_)
      · refine G_lload4 x eX10_mixedCells_74 ?_
        refine G_aload3 x eX10_mixedCells_76 ?_
        refine G_iload8 x eX10_mixedCells_77 ?_
        refine G_cV x eX10_mixedCells_79 kX10_136 im_yX0_valueAt se_yX0_valueAt rm hCa.m (ct_X0_valueAt hCa hcb.1 hcb.2) rfl ?_
        refine G_i2l x eX10_mixedCells_82 (by first | omega | exact hr _ _ | exact hr0 _ _ | exact hrS _) ?_
        refine G_cS x eX10_mixedCells_83 kX10_247 sm_yX10_mixed rm (ct_X10_mixed) rfl ?_
        refine G_lstore4 x eX10_mixedCells_86 ?_
        refine G_lload4 x eX10_mixedCells_88 ?_
        refine G_aload3 x eX10_mixedCells_90 ?_
        refine G_iload8 x eX10_mixedCells_91 ?_
        refine G_cV x eX10_mixedCells_93 kX10_139 im_yX0_errorAt se_yX0_errorAt rm hCa.m (ct_X0_errorAt hCa hcb.1 hcb.2) rfl ?_
        refine G_i2l x eX10_mixedCells_96 (by first | omega | exact hr _ _ | exact hr0 _ _ | exact hrS _) ?_
        refine G_cS x eX10_mixedCells_97 kX10_247 sm_yX10_mixed rm (ct_X10_mixed) rfl ?_
        refine G_lstore4 x eX10_mixedCells_100 ?_
        refine G_iinc7 x eX10_mixedCells_102 ?_
        refine G_goto x eX10_mixedCells_105 ?_
        exact kk
      · exfalso; omega
    | succ d ih =>
      intro k row col h0 hd hc hr1 hc1 kk
      have ih := ih (k + 1) row col h0 (by omega) hc hr1 hc1 kk
      have hi := tl_in hR hW hc hrA (w := (k : Int)) (by omega) (by omega)
      rw [show ((k + 1 : Nat) : Int) = (k : Int) + 1 by omega, show tlM S r (12 * (row : Int) + col) h0 (k + 1) = mx (tlM S r (12 * (row : Int) + col) h0 k) (Int64.ofInt (tlS S r (12 * (row : Int) + col) (k : Int))) from rfl] at ih
      refine G_rg (fun hr => ?_)
      refine G_iload9 x eX10_mixedCells_46 ?_
      refine G_push x eX10_mixedCells_48 ?_
      refine G_icmp_gt x eX10_mixedCells_49 (by first | omega | exact hr _ _ | exact hr0 _ _ | exact hrS _) (by first | omega | exact hr _ _ | exact hr0 _ _ | exact hrS _) (fun c49 => ?_) (fun c49 => ?_)
      · exfalso; omega
      · refine G_lload4 x eX10_mixedCells_52 ?_
        refine G_aload2 x eX10_mixedCells_54 ?_
        refine G_iload8 x eX10_mixedCells_55 ?_
        refine G_iload9 x eX10_mixedCells_57 ?_
        refine G_cS x eX10_mixedCells_59 kX10_118 sm_yX10_aboutContent rm (ct_X10_aboutContent hM hR hW hc (by omega) (by omega)) rfl ?_
        refine G_i2l x eX10_mixedCells_62 hi ?_
        refine G_cS x eX10_mixedCells_63 kX10_247 sm_yX10_mixed rm (ct_X10_mixed) rfl ?_
        refine G_lstore4 x eX10_mixedCells_66 ?_
        refine G_iinc9 x eX10_mixedCells_68 ?_
        refine G_goto x eX10_mixedCells_71 ?_
        exact ih
  have cl : ∀ (d k row : Nat) (h1 : Int64) (o8 o9 : Option Value), (k : Int) + d = rwN S r 1 (-1) → (row : Int) < rwN S r 0 (-1) → (∀ o7 o8 o9, G X 6 [some (Value.long h), none, some (va_rf (some p)), some (va_rf (some ca)), some (Value.long (rwM S r (row : Int) h1 (rwN S r 1 (-1)).toNat)), none, some (VI ((row : Int) + 1)), o7, o8, o9] [] T I J O 0 0) → G X 21 [some (Value.long h), none, some (va_rf (some p)), some (va_rf (some ca)), some (Value.long (rwM S r (row : Int) h1 k)), none, some (VI (row : Int)), some (VI (k : Int)), o8, o9] [] T I J O 0 0 := by
    intro d
    induction d with
    | zero =>
      intro k row h1 o8 o9 hd hr1 kk
      have kk := kk (some (VI (k : Int))) o8 o9
      rw [show (rwN S r 1 (-1)).toNat = k by omega] at kk
      refine G_rg (fun hr => ?_)
      refine G_iload7 x eX10_mixedCells_21 ?_
      refine G_aload2 x eX10_mixedCells_23 ?_
      refine G_getq x eX10_mixedCells_24 fX10_209 rfl rfl hM.m hM.o_columns ?_
      refine G_cV x eX10_mixedCells_27 kX10_47 im_yX4_count se_yX4_count rm hM.s_columns.m (ct_X4_count hM.s_columns) rfl ?_
      refine G_icmp_ge x eX10_mixedCells_30 (by first | omega | exact hr _ _ | exact hr0 _ _ | exact hrS _) (by first | omega | exact hr _ _ | exact hr0 _ _ | exact hrS _) (fun c30 => ?_) (fun c30 => ?_)
      · refine G_iinc6 x eX10_mixedCells_108 ?_
        refine G_goto x eX10_mixedCells_111 ?_
        exact kk
      · exfalso; omega
    | succ d ih =>
      intro k row h1 o8 o9 hd hr1 kk
      have hc : inC S r (12 * (row : Int) + k) := inC.of ⟨⟨by omega, hr1⟩, by omega, by omega⟩
      have hw := wl 4 0 row k (rwM S r (row : Int) h1 k) rfl hc (by omega) (by omega) (fun o9 => by
        have ih := ih (k + 1) row h1 (some (VI (12 * (row : Int) + k))) o9 (by omega) hr1 kk
        rw [show ((k + 1 : Nat) : Int) = (k : Int) + 1 by omega] at ih
        exact ih)
      refine G_rg (fun hr => ?_)
      refine G_iload7 x eX10_mixedCells_21 ?_
      refine G_aload2 x eX10_mixedCells_23 ?_
      refine G_getq x eX10_mixedCells_24 fX10_209 rfl rfl hM.m hM.o_columns ?_
      refine G_cV x eX10_mixedCells_27 kX10_47 im_yX4_count se_yX4_count rm hM.s_columns.m (ct_X4_count hM.s_columns) rfl ?_
      refine G_icmp_ge x eX10_mixedCells_30 (by first | omega | exact hr _ _ | exact hr0 _ _ | exact hrS _) (by first | omega | exact hr _ _ | exact hr0 _ _ | exact hrS _) (fun c30 => ?_) (fun c30 => ?_)
      · exfalso; omega
      · refine G_iload6 x eX10_mixedCells_33 ?_
        refine G_push x eX10_mixedCells_35 ?_
        refine G_imul x eX10_mixedCells_37 ?_
        refine G_iload7 x eX10_mixedCells_38 ?_
        refine G_iadd x eX10_mixedCells_40 ?_
        rw [show (row : Int) * 12 + k = 12 * (row : Int) + k by omega]
        refine G_istore8 x eX10_mixedCells_41 ?_
        refine G_push x eX10_mixedCells_43 ?_
        refine G_istore9 x eX10_mixedCells_44 ?_
        exact hw
  have rl : ∀ (d k : Nat) (o7 o8 o9 : Option Value), (k : Int) + d = rwN S r 0 (-1) → G X 6 [some (Value.long h), none, some (va_rf (some p)), some (va_rf (some ca)), some (Value.long (gdM S r h k)), none, some (VI (k : Int)), o7, o8, o9] [] T I J O 0 0 := by
    intro d
    induction d with
    | zero =>
      intro k o7 o8 o9 hd
      have hk : (rwN S r 0 (-1)).toNat = k := by omega
      refine G_rg (fun hr => ?_)
      refine G_iload6 x eX10_mixedCells_6 ?_
      refine G_aload2 x eX10_mixedCells_8 ?_
      refine G_getq x eX10_mixedCells_9 fX10_201 rfl rfl hM.m hM.o_rows ?_
      refine G_cV x eX10_mixedCells_12 kX10_47 im_yX4_count se_yX4_count rm hM.s_rows.m (ct_X4_count hM.s_rows) rfl ?_
      refine G_icmp_ge x eX10_mixedCells_15 (by first | omega | exact hr _ _ | exact hr0 _ _ | exact hrS _) (by first | omega | exact hr _ _ | exact hr0 _ _ | exact hrS _) (fun c15 => ?_) (fun c15 => ?_)
      · refine G_lload4 x eX10_mixedCells_114 ?_
        refine G_lreturn x en eX10_mixedCells_116 (by omega) (by omega) ?_
        exact ⟨by rw [hk], rfl, rfl, rfl, rfl⟩
      · exfalso; omega
    | succ d ih =>
      intro k o7 o8 o9 hd
      have hw := cl (rwN S r 1 (-1)).toNat 0 k (gdM S r h k) o8 o9 (by omega) (by omega) (fun o7 o8 o9 => by
        have ih := ih (k + 1) o7 o8 o9 (by omega)
        rw [show ((k + 1 : Nat) : Int) = (k : Int) + 1 by omega] at ih
        exact ih)
      refine G_rg (fun hr => ?_)
      refine G_iload6 x eX10_mixedCells_6 ?_
      refine G_aload2 x eX10_mixedCells_8 ?_
      refine G_getq x eX10_mixedCells_9 fX10_201 rfl rfl hM.m hM.o_rows ?_
      refine G_cV x eX10_mixedCells_12 kX10_47 im_yX4_count se_yX4_count rm hM.s_rows.m (ct_X4_count hM.s_rows) rfl ?_
      refine G_icmp_ge x eX10_mixedCells_15 (by first | omega | exact hr _ _ | exact hr0 _ _ | exact hrS _) (by first | omega | exact hr _ _ | exact hr0 _ _ | exact hrS _) (fun c15 => ?_) (fun c15 => ?_)
      · exfalso; omega
      · refine G_push x eX10_mixedCells_18 ?_
        refine G_istore7 x eX10_mixedCells_19 ?_
        exact hw
  have hl := rl (rwN S r 0 (-1)).toNat 0 none none none (by omega)
  refine G_lload0 x eX10_mixedCells_0 ?_
  refine G_lstore4 x eX10_mixedCells_1 ?_
  refine G_push x eX10_mixedCells_3 ?_
  refine G_istore6 x eX10_mixedCells_4 ?_
  exact hl
set_option maxRecDepth 20000 in
theorem ct_q_checksum {T : gT} {I : gI} {J : gJ} {O : gO} {B ss : Nat} {S : Int → Int} {n : Int} {Rc Xt : Int → Int} {L : Int} (hW : WW B ss T I J O S n Rc Xt L) (hI : Inv S) (n0 : 0 ≤ n) (n1 : n ≤ 4) (hX : txW Xt L) : Ct yX10_checksum cX10_checksum 6 (some .long) [va_rf (some ss)] 6 150 0 0 T I J O (cRet B ss T I J O 0 (Value.long (csS S L n)) S n Rc Xt L) := by
  refine Ct.of (by decide) [some (va_rf (some ss)), none, none, none, none, none] (gEn1 (List.forall_mem_cons.mpr ⟨cat_VR _, fun _ h => nomatch h⟩) rfl (Nat.le_of_ble_eq_true rfl) rfl) ?_
  intro X x en rm ini hr hz
  have hr0 := hr
  have hS := hW.1.1
  have hZ := hS.z
  have hss := hZ.m
  have hL1 := hX.1
  have loop : ∀ (d r : Nat) (I1 : gI) (J1 : gJ) (O1 : gO) (o4 o5 : Option Value), r + d = 3 → WW B ss T I1 J1 O1 S n Rc Xt L → FrC ss T T I I1 J J1 O O1 → G X 6 [some (va_rf (some ss)), some (Value.long (csM S r)), none, some (VI (r : Int)), o4, o5] [] T I1 J1 O1 0 0 := by
    intro d
    induction d with
    | zero =>
      intro r I1 J1 O1 o4 o5 hd hW1 hF1
      have hr3 : r = 3 := by omega
      subst hr3
      have hZ1 := hW1.1.1.z
      have hTx := hZ1.s_text
      have hRc := hZ1.s_records
      have cL := ct_X9_length (I := I1) (J := J1) hTx
      rw [hW1.2.2.2.1] at cL
      have cC := ct_X7_count (I := I1) (J := J1) hRc
      rw [hW1.2.2.1.1] at cC
      refine G_rg (fun hr => ?_)
      refine G_iload3 x eX10_checksum_6 ?_
      refine G_push x eX10_checksum_7 ?_
      refine G_icmp_ge x eX10_checksum_8 (by first | omega | exact hr _ _ | exact hr0 _ _ | exact hrS _) (by first | omega | exact hr _ _ | exact hr0 _ _ | exact hrS _) (fun c8 => ?_) (fun c8 => ?_)
      · refine G_lload1 x eX10_checksum_134 ?_
        refine G_aload0 x eX10_checksum_135 ?_
        refine G_getq x eX10_checksum_136 fX10_25 rfl rfl hZ1.m hZ1.o_text ?_
        refine G_cV x eX10_checksum_139 kX10_160 im_yX9_length se_yX9_length rm hZ1.s_text.m cL rfl ?_
        refine G_i2l x eX10_checksum_142 (by first | omega | exact hr _ _ | exact hr0 _ _ | exact hrS _) ?_
        refine G_cS x eX10_checksum_143 kX10_247 sm_yX10_mixed rm (ct_X10_mixed) rfl ?_
        refine G_lstore1 x eX10_checksum_146 ?_
        refine G_lload1 x eX10_checksum_147 ?_
        refine G_aload0 x eX10_checksum_148 ?_
        refine G_getq x eX10_checksum_149 fX10_18 rfl rfl hZ1.m hZ1.o_records ?_
        refine G_cV x eX10_checksum_152 kX10_239 im_yX7_count se_yX7_count rm hZ1.s_records.m cC rfl ?_
        refine G_i2l x eX10_checksum_155 (by first | omega | exact hr _ _ | exact hr0 _ _ | exact hrS _) ?_
        refine G_cS x eX10_checksum_156 kX10_247 sm_yX10_mixed rm (ct_X10_mixed) rfl ?_
        refine G_lreturn x en eX10_checksum_159 (by omega) (by omega) ?_
        exact ⟨rfl, rfl, hF1, hW1⟩
      · exfalso; omega
    | succ d ih =>
      intro r I1 J1 O1 o4 o5 hd hW1 hF1
      have hS1 := hW1.1.1
      have hZ1 := hS1.z
      have r0' : (0 : Int) ≤ (r : Int) := by omega
      have r1' : (r : Int) ≤ 2 := by omega
      obtain ⟨hR, hG, hC⟩ := hW1.2.1 (r : Int) r0' r1'
      have hpp := hS1.rp (r := (r : Int)) r0' r1'
      have hp := hpp.1
      have hbp := rpA_b (ss := ss) r0' r1'
      have hBs := hW1.1.2.1
      have hck := hI.ck r0' r1'
      have hf := hI.f r0' r1'
      have hcn := hR.2.1 (r : Int) r0' r1'
      rw [cIx_s] at hcn
      have cG := ct_X8_logLength (I := I1) (J := J1) hp (by rw [hR.1.1]; exact r0') (by rw [hR.1.1]; exact r1')
      rw [hR.1.1, hcn] at cG
      have tail : ∀ (h9 : Int64) (o5 : Option Value), h9 = msM S (r : Int) (mxI (mxI (csM S r) (S (3843 + 270 * (r : Int) + 0))) (S (r : Int))) 3 → G X 80 [some (va_rf (some ss)), some (Value.long h9), none, some (VI (r : Int)), some (va_rf (some (rpA ss (r : Int)))), o5] [] T I1 J1 O1 0 0 := by
        intro h9 o5 e9
        refine G_lload1 x eX10_checksum_80 ?_
        refine G_aload4 x eX10_checksum_81 ?_
        refine G_getq x eX10_checksum_83 fX10_201 rfl rfl hp.m hp.o_rows ?_
        refine G_cS x eX10_checksum_86 kX10_251 sm_yX10_mixedLines rm (ct_X10_mixedLines (S := S) (r := (r : Int)) (kd := 0) hp.s_rows hR.2.2.1) rfl ?_
        refine G_lstore1 x eX10_checksum_89 ?_
        refine G_lload1 x eX10_checksum_90 ?_
        refine G_aload4 x eX10_checksum_91 ?_
        refine G_getq x eX10_checksum_93 fX10_209 rfl rfl hp.m hp.o_columns ?_
        refine G_cS x eX10_checksum_96 kX10_251 sm_yX10_mixedLines rm (ct_X10_mixedLines (S := S) (r := (r : Int)) (kd := 1) hp.s_columns hR.2.2.2.1) rfl ?_
        refine G_lstore1 x eX10_checksum_99 ?_
        refine G_aload4 x eX10_checksum_100 ?_
        refine G_getq x eX10_checksum_102 fX10_122 rfl rfl hp.m hp.o_calculation ?_
        refine G_aload4 x eX10_checksum_105 ?_
        refine G_cVg x eX10_checksum_107 kX10_126 im_yX0_upToDate se_yX0_upToDate rm hp.s_calculation.m (ct_X0_upToDate hp rfl (by omega) hR (hI.cw r0' r1') (hI.fm r0' r1') r0' r1' (fun c hc => hI.nf r0' r1' hc) hC) rfl (fun v107 T107 I107 J107 O107 p107 => ?_)
        refine G_rg (fun hr => ?_)
        obtain ⟨hW2, hF2⟩ := hW1.ut hI r0' r1' p107
        obtain ⟨rfl, e1, -, -, -, hA, -⟩ := p107
        obtain rfl := e1.symm
        have hp2 := (hW2.1.1.rp r0' r1').1
        have hCa := hp2.s_calculation
        have hR2 := (hW2.2.1 (r : Int) r0' r1').1
        have hZ2 := hW2.1.1.z
        have ih := ih (r + 1) I107 J107 O107 (some (va_rf (some (rpA ss (r : Int))))) (some (va_rf (some (rpA ss (r : Int) + 15)))) (by omega) hW2 (hF1.tr hF2)
        rw [show ((r + 1 : Nat) : Int) = (r : Int) + 1 by omega, show csM S (r + 1) = orM S (r : Int) (mxI (gdM S (r : Int) (mlM S (r : Int) 1 (mlM S (r : Int) 0 (msM S (r : Int) (mxI (mxI (csM S r) (S (3843 + 270 * (r : Int) + 0))) (S (r : Int))) 3))) (rwN S (r : Int) 0 (-1)).toNat) (ncS S (r : Int))) (orS S (r : Int)).2.toNat from rfl, ← e9] at ih
        refine G_astore5 x eX10_checksum_110 ?_
        refine G_rg (fun hr => ?_)
        refine G_lload1 x eX10_checksum_112 ?_
        refine G_aload4 x eX10_checksum_113 ?_
        refine G_aload5 x eX10_checksum_115 ?_
        refine G_cS x eX10_checksum_117 kX10_255 sm_yX10_mixedCells rm (ct_X10_mixedCells hp2 hR2 (hI.cw r0' r1') hCa hA (hI.fm r0' r1')) rfl ?_
        refine G_lstore1 x eX10_checksum_120 ?_
        refine G_lload1 x eX10_checksum_121 ?_
        refine G_aload5 x eX10_checksum_122 ?_
        refine G_cS x eX10_checksum_124 kX10_259 sm_yX10_mixedOrder rm (ct_X10_mixedOrder hCa hA) rfl ?_
        refine G_lstore1 x eX10_checksum_127 ?_
        refine G_iinc3 x eX10_checksum_128 ?_
        refine G_goto x eX10_checksum_131 ?_
        exact ih
      have ms : ∀ (d k : Nat), k + d = 3 → G X 44 [some (va_rf (some ss)), some (Value.long (msM S (r : Int) (mxI (mxI (csM S r) (S (3843 + 270 * (r : Int) + 0))) (S (r : Int))) k)), none, some (VI (r : Int)), some (va_rf (some (rpA ss (r : Int)))), some (VI (k : Int))] [] T I1 J1 O1 0 0 := by
        intro d
        induction d with
        | zero =>
          intro k hk
          have hk3 : k = 3 := by omega
          subst hk3
          have tl := tail _ (some (VI ((3 : Nat) : Int))) rfl
          refine G_rg (fun hr => ?_)
          refine G_iload5 x eX10_checksum_44 ?_
          refine G_push x eX10_checksum_46 ?_
          refine G_icmp_ge x eX10_checksum_47 (by first | omega | exact hr _ _ | exact hr0 _ _ | exact hrS _) (by first | omega | exact hr _ _ | exact hr0 _ _ | exact hrS _) (fun c47 => ?_) (fun c47 => ?_)
          · exact tl
          · exfalso; omega
        | succ d ih2 =>
          intro k hk
          have ih2 := ih2 (k + 1) (by omega)
          by_cases e : (k : Int) = (r : Int)
          · rw [show msM S (r : Int) (mxI (mxI (csM S r) (S (3843 + 270 * (r : Int) + 0))) (S (r : Int))) (k + 1) = msM S (r : Int) (mxI (mxI (csM S r) (S (3843 + 270 * (r : Int) + 0))) (S (r : Int))) k from if_pos e, show ((k + 1 : Nat) : Int) = (k : Int) + 1 by omega] at ih2
            refine G_rg (fun hr => ?_)
            refine G_iload5 x eX10_checksum_44 ?_
            refine G_push x eX10_checksum_46 ?_
            refine G_icmp_ge x eX10_checksum_47 (by first | omega | exact hr _ _ | exact hr0 _ _ | exact hrS _) (by first | omega | exact hr _ _ | exact hr0 _ _ | exact hrS _) (fun c47 => ?_) (fun c47 => ?_)
            · exfalso; omega
            · refine G_iload5 x eX10_checksum_50 ?_
              refine G_iload3 x eX10_checksum_52 ?_
              refine G_icmp_eq x eX10_checksum_53 (by first | omega | exact hr _ _ | exact hr0 _ _ | exact hrS _) (by first | omega | exact hr _ _ | exact hr0 _ _ | exact hrS _) (fun c53 => ?_) (fun c53 => ?_)
              · refine G_iinc5 x eX10_checksum_74 ?_
                refine G_goto x eX10_checksum_77 ?_
                exact ih2
              · exfalso; omega
          · have k0' : (0 : Int) ≤ (k : Int) := by omega
            have k1' : (k : Int) ≤ 2 := by omega
            obtain ⟨hR3, -, -⟩ := hW1.2.1 (k : Int) k0' k1'
            have hq := hS1.rp (r := (k : Int)) k0' k1'
            have hqf := hR3.2.1 (k : Int) k0' k1'
            rw [cIx_s] at hqf
            have hqb := hI.1 (r : Int) (k : Int) r0' r1' k0' k1'
            have cK := ct_X8_lacking (I := I1) (J := J1) hp hq.1 (by rw [hR3.1.1]; exact k0') (by rw [hR3.1.1]; exact k1')
            rw [hR3.1.1, hqf, hR.2.1 (k : Int) k0' k1', cIx_n e] at cK
            rw [cIx_n e] at hqb
            rw [show msM S (r : Int) (mxI (mxI (csM S r) (S (3843 + 270 * (r : Int) + 0))) (S (r : Int))) (k + 1) = mx (msM S (r : Int) (mxI (mxI (csM S r) (S (3843 + 270 * (r : Int) + 0))) (S (r : Int))) k) (Int64.ofInt (S (k : Int) - S (3843 + 270 * (r : Int) + (1 + (k : Int))))) from if_neg e, show ((k + 1 : Nat) : Int) = (k : Int) + 1 by omega] at ih2
            refine G_rg (fun hr => ?_)
            refine G_iload5 x eX10_checksum_44 ?_
            refine G_push x eX10_checksum_46 ?_
            refine G_icmp_ge x eX10_checksum_47 (by first | omega | exact hr _ _ | exact hr0 _ _ | exact hrS _) (by first | omega | exact hr _ _ | exact hr0 _ _ | exact hrS _) (fun c47 => ?_) (fun c47 => ?_)
            · exfalso; omega
            · refine G_iload5 x eX10_checksum_50 ?_
              refine G_iload3 x eX10_checksum_52 ?_
              refine G_icmp_eq x eX10_checksum_53 (by first | omega | exact hr _ _ | exact hr0 _ _ | exact hrS _) (by first | omega | exact hr _ _ | exact hr0 _ _ | exact hrS _) (fun c53 => ?_) (fun c53 => ?_)
              · refine G_iinc5 x eX10_checksum_74 ?_
                refine G_goto x eX10_checksum_77 ?_
                first | exact ih2 | (exfalso; omega)
              · refine G_lload1 x eX10_checksum_56 ?_
                refine G_aload4 x eX10_checksum_57 ?_
                refine G_aload0 x eX10_checksum_59 ?_
                refine G_getq x eX10_checksum_60 fX10_11 rfl rfl hZ1.m hZ1.o_replicas ?_
                refine G_iload5 x eX10_checksum_63 ?_
                refine G_aald x eX10_checksum_65 rfl hZ1.t_replicas (fun _ => rfl) (by omega) (by omega) (by omega) ?_
                rw [hq.2]
                refine G_cV x eX10_checksum_66 kX10_182 im_yX8_lacking se_yX8_lacking rm hp.m cK rfl ?_
                refine G_i2l x eX10_checksum_69 (by first | omega | exact hr _ _ | exact hr0 _ _ | exact hrS _) ?_
                refine G_cS x eX10_checksum_70 kX10_247 sm_yX10_mixed rm (ct_X10_mixed) rfl ?_
                refine G_lstore1 x eX10_checksum_73 ?_
                refine G_iinc5 x eX10_checksum_74 ?_
                refine G_goto x eX10_checksum_77 ?_
                first | exact ih2 | (exfalso; omega)
      have m0 := ms 3 0 rfl
      refine G_iload3 x eX10_checksum_6 ?_
      refine G_push x eX10_checksum_7 ?_
      refine G_icmp_ge x eX10_checksum_8 (by omega) (by omega) (fun c8 => absurd c8 (by omega)) (fun c8 => ?_)
      refine G_aload0 x eX10_checksum_11 ?_
      refine G_getq x eX10_checksum_12 fX10_11 rfl rfl hZ1.m hZ1.o_replicas ?_
      refine G_iload3 x eX10_checksum_15 ?_
      refine G_aald x eX10_checksum_16 rfl hZ1.t_replicas (fun _ => rfl) (by omega) (by omega) (by omega) ?_
      rw [hpp.2]
      refine G_astore4 x eX10_checksum_17 ?_
      refine G_lload1 x eX10_checksum_19 ?_
      refine G_aload4 x eX10_checksum_20 ?_
      refine G_geti x eX10_checksum_22 fX10_186 rfl rfl hp.m (fun h22 => ?_)
      rw [hR.1.2]
      refine G_i2l x eX10_checksum_25 (by first | omega | exact hr _ _ | exact hr0 _ _ | exact hrS _) ?_
      refine G_cS x eX10_checksum_26 kX10_247 sm_yX10_mixed rm (ct_X10_mixed) rfl ?_
      refine G_lstore1 x eX10_checksum_29 ?_
      refine G_lload1 x eX10_checksum_30 ?_
      refine G_aload4 x eX10_checksum_31 ?_
      refine G_cV x eX10_checksum_33 kX10_190 im_yX8_logLength se_yX8_logLength rm hp.m cG rfl ?_
      refine G_i2l x eX10_checksum_36 (by first | omega | exact hr _ _ | exact hr0 _ _ | exact hrS _) ?_
      refine G_cS x eX10_checksum_37 kX10_247 sm_yX10_mixed rm (ct_X10_mixed) rfl ?_
      refine G_lstore1 x eX10_checksum_40 ?_
      refine G_push x eX10_checksum_41 ?_
      refine G_istore5 x eX10_checksum_42 ?_
      have ee : (3843 + 270 * (r : Int) + 0) = 3843 + 270 * (r : Int) := by omega
      rw [ee] at m0
      exact m0
  have hl := loop 3 0 I J O none none rfl hW FrC.rf
  refine G_ldc2 x klX10_245 eX10_checksum_0 ?_
  refine G_lstore1 x eX10_checksum_3 ?_
  refine G_push x eX10_checksum_4 ?_
  refine G_istore3 x eX10_checksum_5 ?_
  exact hl
