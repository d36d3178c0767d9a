/-! reading, in the class -/
noncomputable abbrev rcN (I : gI) (tx : Nat) (S : Int → Int) (r a : Int) : Int × Int := nmP (I (tx + 1)) (I tx 1) (rwF S r 0 (-1)) (rwN S r 0 (-1)) (rwF S r 1 (-1)) (rwN S r 1 (-1)) a
noncomputable abbrev rcF (I : gI) (tx : Nat) (S : Int → Int) (r a : Int) : Int × Int × Int × Int := facP (I (tx + 1)) (I tx 1) (rwF S r 0 (-1)) (rwN S r 0 (-1)) (rwF S r 1 (-1)) (rwN S r 1 (-1)) a
theorem ch_32 {I : gI} {tx : Nat} {i : Int} (hr : ∀ a k, in32 (I a k)) : in32 (ch (I (tx + 1)) (I tx 1) i) := by
  unfold ch
  split
  · exact hr _ _
  · omega
set_option maxRecDepth 20000 in
theorem ct_X6_readSign {T : gT} {I : gI} {J : gJ} {O : gO} {rd tx : Nat} {s : Int} (hM : RdAt T O rd) (hX : TxAt T O tx) (hl : I tx 1 ≤ 24) (hs : in32 s) (h0 : 0 ≤ I rd 2) (h1 : I rd 2 ≤ 100) : Ct yX6_readSign cX6_readSign 3 (some .boolean) [va_rf (some rd), va_rf (some tx), VI s] 1 21 0 0 T I J O (pv (some (VI (if ch (I (tx + 1)) (I tx 1) (I rd 2) = s then 1 else 0))) T (if ch (I (tx + 1)) (I tx 1) (I rd 2) = s then uI I rd 2 (I rd 2 + 1) else I) J O) := by
  refine Ct.of (by decide) [some (va_rf (some rd)), some (va_rf (some tx)), some (VI s)] (gEn1 (List.forall_mem_cons.mpr ⟨cat_VR _, List.forall_mem_cons.mpr ⟨cat_VR _, List.forall_mem_cons.mpr ⟨cat_VI _, fun _ h => nomatch h⟩⟩⟩) rfl (Nat.le_of_ble_eq_true rfl) rfl) ?_
  intro X x en rm ini hr hz
  have hr0 := hr
  have hc : in32 (ch (I (tx + 1)) (I tx 1) (I rd 2)) := ch_32 hr
  refine G_rg (fun hr => ?_)
  refine G_aload1 x eX6_readSign_0 ?_
  refine G_aload0 x eX6_readSign_1 ?_
  refine G_geti x eX6_readSign_2 fX6_21 rfl rfl hM.m (fun h2 => ?_)
  refine G_cV x eX6_readSign_5 kX6_34 im_yX9_at se_yX9_at rm hX.m (ct_X9_at hX (by first | omega | exact hr _ _ | exact hr0 _ _ | exact hrS _) hl) rfl ?_
  refine G_iload2 x eX6_readSign_8 ?_
  refine G_icmp_eq x eX6_readSign_9 (by first | omega | exact hr _ _ | exact hr0 _ _ | exact hrS _) (by first | omega | exact hr _ _ | exact hr0 _ _ | exact hrS _) (fun c9 => ?_) (fun c9 => ?_)
  · refine G_aload0 x eX6_readSign_14 ?_
    refine G_dup x eX6_readSign_15 (by first | rfl | exact cat_rf _) ?_
    refine G_geti x eX6_readSign_16 fX6_21 rfl rfl hM.m (fun h16 => ?_)
    refine G_push x eX6_readSign_19 ?_
    refine G_iadd x eX6_readSign_20 ?_
    refine G_puti x eX6_readSign_21 fX6_21 rfl (Or.inl rfl) rfl hM.m (by first | omega | exact hr _ _ | exact hr0 _ _ | exact hrS _) ?_
    refine G_rg (fun hr => ?_)
    refine G_push x eX6_readSign_24 ?_
    refine G_zreturn x en eX6_readSign_25 (by omega) (by omega) ?_ ?_
    · first | exact Or.inl rfl | exact Or.inr rfl | omega
    · first | exact ⟨by rw [if_pos (by assumption)], rfl, by rw [if_pos (by assumption)], rfl, rfl⟩ | exact ⟨by rw [if_neg (by assumption)], rfl, by rw [if_neg (by assumption)], rfl, rfl⟩
  · refine G_push x eX6_readSign_12 ?_
    refine G_zreturn x en eX6_readSign_13 (by omega) (by omega) ?_ ?_
    · first | exact Or.inl rfl | exact Or.inr rfl | omega
    · first | exact ⟨by rw [if_pos (by assumption)], rfl, by rw [if_pos (by assumption)], rfl, rfl⟩ | exact ⟨by rw [if_neg (by assumption)], rfl, by rw [if_neg (by assumption)], rfl, rfl⟩
theorem nmD_v {X : Int → Int} {L : Int} (k : Nat) : ∀ a v : Int, 0 ≤ v → v + 1 ≤ 10 ^ (4 - k) → k ≤ 4 → 0 ≤ (nmD X L k a v).2 ∧ (nmD X L k a v).2 ≤ 9999 := by
  induction k with
  | zero => intro a v h0 h1 _; exact ⟨h0, by show v ≤ 9999; omega⟩
  | succ k ih =>
    intro a v h0 h1 hk
    unfold nmD
    by_cases q : 48 ≤ ch X L a ∧ ch X L a ≤ 57
    · rw [if_pos q]
      refine ih _ _ (by omega) ?_ (by omega)
      have e : (10 : Int) ^ (4 - k) = 10 * 10 ^ (4 - (k + 1)) := by rw [show 4 - k = (4 - (k + 1)) + 1 by omega, Int.pow_succ]; omega
      omega
    · rw [if_neg q]
      refine ⟨h0, ?_⟩
      have : (10 : Int) ^ (4 - (k + 1)) ≤ 1000 := by
        rcases (by omega : k = 0 ∨ k = 1 ∨ k = 2 ∨ k = 3) with e | e | e | e <;> subst e <;> decide
      omega
set_option maxRecDepth 20000 in
theorem ct_X6_readNumber {T : gT} {I : gI} {J : gJ} {O : gO} {rd tx : Nat} (hM : RdAt T O rd) (hX : TxAt T O tx) (hl : I tx 1 ≤ 24) (h0 : 0 ≤ I rd 2) (h1 : I rd 2 ≤ 100) (hd : tx + 1 < rd) : Ct yX6_readNumber cX6_readNumber 4 (some .int) [va_rf (some rd), va_rf (some tx)] 1 21 0 0 T I J O (pv (some (VI (nmD (I (tx + 1)) (I tx 1) 4 (I rd 2) 0).2)) T (uI I rd 2 (nmD (I (tx + 1)) (I tx 1) 4 (I rd 2) 0).1) J O) := by
  refine Ct.of (by decide) [some (va_rf (some rd)), some (va_rf (some tx)), none, none] (gEn1 (List.forall_mem_cons.mpr ⟨cat_VR _, List.forall_mem_cons.mpr ⟨cat_VR _, fun _ h => nomatch h⟩⟩) rfl (Nat.le_of_ble_eq_true rfl) rfl) ?_
  intro X x en rm ini hr hz
  have hr0 := hr
  generalize hres : nmD (I (tx + 1)) (I tx 1) 4 (I rd 2) 0 = res at *
  have loop : ∀ (d k : Nat) (a v : Int) (I1 : gI), k + d = 4 → I1 = uI I rd 2 a → 0 ≤ a → a ≤ I rd 2 + k → 0 ≤ v → v + 1 ≤ 10 ^ k → res = nmD (I (tx + 1)) (I tx 1) d a v → G X 4 [some (va_rf (some rd)), some (va_rf (some tx)), some (VI v), some (VI (k : Int))] [] T I1 J O 0 0 := by
    intro d
    induction d with
    | zero =>
      intro k a v I1 hd he a0 a1 v0 v1 hn
      have v2 : v ≤ 9999 := by have : k = 4 := by omega
                               subst this; omega
      refine G_rg (fun hr => ?_)
      refine G_iload3 x eX6_readNumber_4 ?_
      refine G_push x eX6_readNumber_5 ?_
      refine G_icmp_ge x eX6_readNumber_6 (by first | omega | exact hr _ _ | exact hr0 _ _ | exact hrS _) (by first | omega | exact hr _ _ | exact hr0 _ _ | exact hrS _) (fun c6 => ?_) (fun c6 => ?_)
      · refine G_iload2 x eX6_readNumber_56 ?_
        refine G_ireturn x en eX6_readNumber_57 (by omega) (by omega) ?_
        exact ⟨by rw [hn]; rfl, rfl, by rw [hn, he]; rfl, rfl, rfl⟩
      · omega
    | succ d ih =>
      intro k a v I1 hd2 he a0 a1 v0 v1 hn
      have k3 : k = 0 ∨ k = 1 ∨ k = 2 ∨ k = 3 := by omega
      have v2 : v ≤ 999 := by rcases k3 with e | e | e | e <;> subst e <;> omega
      have v3 : (10 : Int) ^ (k + 1) = 10 * 10 ^ k := by rw [Int.pow_succ]; omega
      have ei : I1 rd 2 = a := by rw [he, uI_s]
      have ex : I1 (tx + 1) = I (tx + 1) := by rw [he]; exact uI_f (by omega)
      have en1 : I1 tx 1 = I tx 1 := by rw [he]; exact uI_a (by omega) _
      have hc : in32 (ch (I (tx + 1)) (I tx 1) a) := ch_32 hr
      unfold nmD at hn
      refine G_rg (fun hr => ?_)
      refine G_iload3 x eX6_readNumber_4 ?_
      refine G_push x eX6_readNumber_5 ?_
      refine G_icmp_ge x eX6_readNumber_6 (by first | omega | exact hr _ _ | exact hr0 _ _ | exact hrS _) (by first | omega | exact hr _ _ | exact hr0 _ _ | exact hrS _) (fun c6 => ?_) (fun c6 => ?_)
      · refine G_iload2 x eX6_readNumber_56 ?_
        refine G_ireturn x en eX6_readNumber_57 (by omega) (by omega) ?_
        first | (exfalso; omega) | exact ⟨by rw [hn, if_neg (by assumption)], rfl, by rw [hn, if_neg (by assumption), he], rfl, rfl⟩
      · refine G_aload1 x eX6_readNumber_9 ?_
        refine G_aload0 x eX6_readNumber_10 ?_
        refine G_geti x eX6_readNumber_11 fX6_21 rfl rfl hM.m (fun h11 => ?_)
        refine G_cV x eX6_readNumber_14 kX6_34 im_yX9_at se_yX9_at rm hX.m (ct_X9_at hX (by first | omega | exact hr _ _ | exact hr0 _ _ | exact hrS _) (by omega)) rfl ?_
        rw [ex, en1, ei]
        refine G_cS x eX6_readNumber_17 kX6_47 sm_yX6_isDigit rm (ct_X6_isDigit hc) rfl ?_
        refine G_ifb_eq x eX6_readNumber_20 (fun c20 => ?_) (fun c20 => ?_)
        · refine G_iload2 x eX6_readNumber_56 ?_
          refine G_ireturn x en eX6_readNumber_57 (by omega) (by omega) ?_
          first | (exfalso; omega) | exact ⟨by rw [hn, if_neg (by assumption)], rfl, by rw [hn, if_neg (by assumption), he], rfl, rfl⟩
        · refine G_iload2 x eX6_readNumber_23 ?_
          refine G_push x eX6_readNumber_24 ?_
          refine G_imul x eX6_readNumber_26 ?_
          refine G_aload1 x eX6_readNumber_27 ?_
          refine G_aload0 x eX6_readNumber_28 ?_
          refine G_geti x eX6_readNumber_29 fX6_21 rfl rfl hM.m (fun h29 => ?_)
          refine G_cV x eX6_readNumber_32 kX6_34 im_yX9_at se_yX9_at rm hX.m (ct_X9_at hX (by first | omega | exact hr _ _ | exact hr0 _ _ | exact hrS _) (by omega)) rfl ?_
          rw [ex, en1, ei]
          refine G_iadd x eX6_readNumber_35 ?_
          refine G_push x eX6_readNumber_36 ?_
          refine G_isub x eX6_readNumber_38 ?_
          refine G_istore2 x eX6_readNumber_39 ?_
          refine G_aload0 x eX6_readNumber_40 ?_
          refine G_dup x eX6_readNumber_41 (by first | rfl | exact cat_rf _) ?_
          refine G_geti x eX6_readNumber_42 fX6_21 rfl rfl hM.m (fun h42 => ?_)
          rw [ei]
          refine G_push x eX6_readNumber_45 ?_
          refine G_iadd x eX6_readNumber_46 ?_
          refine G_puti x eX6_readNumber_47 fX6_21 rfl (Or.inl rfl) rfl hM.m (by first | omega | exact hr _ _ | exact hr0 _ _ | exact hrS _) ?_
          refine G_rg (fun hr => ?_)
          refine G_iinc3 x eX6_readNumber_50 ?_
          refine G_goto x eX6_readNumber_53 ?_
          refine ih (k + 1) (a + 1) _ _ (by omega) (by rw [he]; exact uI_uI) (by omega) (by omega) (by omega) (by omega) (by rw [hn, if_pos (by assumption)]; congr 1; omega)
  have s0 := loop 4 0 (I rd 2) 0 I (by omega) (uI_id rfl).symm h0 (by omega) (by omega) (by omega) hres.symm
  refine G_push x eX6_readNumber_0 ?_
  refine G_istore2 x eX6_readNumber_1 ?_
  refine G_push x eX6_readNumber_2 ?_
  refine G_istore3 x eX6_readNumber_3 ?_
  exact s0
theorem lnR.A {I : gI} {ln : Nat} {S : Int → Int} {r kd q : Int} (h : lnR I ln S r kd) : lnA I ln q = if 0 ≤ q ∧ q < rwN S r kd (-1) then rwF S r kd (-1) q else -1 := by
  unfold lnA
  rw [h.1]
  split
  · next e => exact h.2 q e.1 e.2
  · rfl
theorem rwF_b {S : Int → Int} {r kd q : Int} (h0 : 0 ≤ q) (h1 : q < rwN S r kd (-1)) : 0 ≤ rwF S r kd (-1) q ∧ rwF S r kd (-1) q < 12 := ⟨((rwE S r kd (-1)).2.2.2.1 q h0 h1).1, ((rwE S r kd (-1)).2.2.2.1 q h0 h1).2.1⟩
set_option maxHeartbeats 4000000 in
set_option maxRecDepth 20000 in
theorem ct_X6_readCell {T : gT} {I : gI} {J : gJ} {O : gO} {rd tx p : Nat} {S : Int → Int} {r : Int} (hM : RdAt T O rd) (hX : TxAt T O tx) (hP : RpAt T O p) (hL : LkR I p S r) (hl : I tx 1 ≤ 24) (h0 : 0 ≤ I rd 2) (h1 : I rd 2 ≤ 100) (hd : tx + 1 < rd) (hd2 : rd + 1 < p) (hch : ∀ i, -1 ≤ ch (I (tx + 1)) (I tx 1) i ∧ ch (I (tx + 1)) (I tx 1) i < 65536) : Ct yX6_readCell cX6_readCell 6 (some .int) [va_rf (some rd), va_rf (some tx), va_rf (some p)] 1 21 0 0 T I J O (pv (some (VI (rcN I tx S r (I rd 2)).2)) T (uI I rd 2 (rcN I tx S r (I rd 2)).1) J O) := by
  refine Ct.of (by decide) [some (va_rf (some rd)), some (va_rf (some tx)), some (va_rf (some p)), none, none, none] (gEn1 (List.forall_mem_cons.mpr ⟨cat_VR _, List.forall_mem_cons.mpr ⟨cat_VR _, List.forall_mem_cons.mpr ⟨cat_VR _, fun _ h => nomatch h⟩⟩⟩) rfl (Nat.le_of_ble_eq_true rfl) rfl) ?_
  intro X x en rm ini hr hz
  have hr0 := hr
  have b0 := rwB S r 0 (-1)
  have b1 := rwB S r 1 (-1)
  have e0 := hL.1.1
  have e1 := hL.2.1
  have hL2 : LkR (uI I rd 2 (I rd 2 + 1)) p S r := hL.c (fun b j b1 b2 => uI_a (by omega) j)
  have hc : ∀ i, in32 (ch (I (tx + 1)) (I tx 1) i) := fun i => ch_32 hr
  have hc1 := hc (I rd 2)
  have hc2 := hc (I rd 2 + 1)
  have hh1 := hch (I rd 2)
  have hh2 := hch (I rd 2 + 1)
  have hA := hL.2.A (q := ch (I (tx + 1)) (I tx 1) (I rd 2) - 65)
  have hB := hL2.1.A (q := ch (I (tx + 1)) (I tx 1) (I rd 2 + 1) - 49)
  have eB : (uI I rd 2 (I rd 2 + 1)) (p + 1) 6 = I (p + 1) 6 := uI_a (by omega) _
  have ex : (uI I rd 2 (I rd 2 + 1)) (tx + 1) = I (tx + 1) := uI_f (by omega)
  have ex1 : (uI I rd 2 (I rd 2 + 1)) tx 1 = I tx 1 := uI_a (by omega) _
  have hN : rcN I tx S r (I rd 2) = if 65 ≤ ch (I (tx + 1)) (I tx 1) (I rd 2) ∧ ch (I (tx + 1)) (I tx 1) (I rd 2) < 65 + rwN S r 1 (-1) then (if 49 ≤ ch (I (tx + 1)) (I tx 1) (I rd 2 + 1) ∧ ch (I (tx + 1)) (I tx 1) (I rd 2 + 1) ≤ 57 ∧ ch (I (tx + 1)) (I tx 1) (I rd 2 + 1) - 49 < rwN S r 0 (-1) then (I rd 2 + 2, 12 * rwF S r 0 (-1) (ch (I (tx + 1)) (I tx 1) (I rd 2 + 1) - 49) + rwF S r 1 (-1) (ch (I (tx + 1)) (I tx 1) (I rd 2) - 65)) else (I rd 2 + 1, -1)) else (I rd 2, -1) := rfl
  generalize rcN I tx S r (I rd 2) = res at *
  by_cases q1 : 65 ≤ ch (I (tx + 1)) (I tx 1) (I rd 2) ∧ ch (I (tx + 1)) (I tx 1) (I rd 2) < 65 + rwN S r 1 (-1)
  · rw [if_pos q1] at hN
    rw [if_pos (by omega)] at hA
    have gA := rwF_b (S := S) (r := r) (kd := 1) (q := ch (I (tx + 1)) (I tx 1) (I rd 2) - 65) (by omega) (by omega)
    by_cases q2 : 49 ≤ ch (I (tx + 1)) (I tx 1) (I rd 2 + 1) ∧ ch (I (tx + 1)) (I tx 1) (I rd 2 + 1) ≤ 57 ∧ ch (I (tx + 1)) (I tx 1) (I rd 2 + 1) - 49 < rwN S r 0 (-1)
    · rw [if_pos q2] at hN
      rw [if_pos (by omega)] at hB
      have gB := rwF_b (S := S) (r := r) (kd := 0) (q := ch (I (tx + 1)) (I tx 1) (I rd 2 + 1) - 49) (by omega) (by omega)
      refine G_rg (fun hr => ?_)
      refine G_aload2 x eX6_readCell_0 ?_
      refine G_getq x eX6_readCell_1 fX6_70 rfl rfl hP.m hP.o_columns ?_
      refine G_aload1 x eX6_readCell_4 ?_
      refine G_aload0 x eX6_readCell_5 ?_
      refine G_geti x eX6_readCell_6 fX6_21 rfl rfl hM.m (fun h6 => ?_)
      refine G_cV x eX6_readCell_9 kX6_34 im_yX9_at se_yX9_at rm hX.m (ct_X9_at hX (by first | omega | exact hr _ _ | exact hr0 _ _ | exact hrS _) hl) rfl ?_
      refine G_push x eX6_readCell_12 ?_
      refine G_isub x eX6_readCell_14 ?_
      refine G_cV x eX6_readCell_15 kX6_76 im_yX4_numberAt se_yX4_numberAt rm hP.s_columns.m (ct_X4_numberAt hP.s_columns (by first | omega | exact hr _ _ | exact hr0 _ _ | exact hrS _) (by omega)) rfl ?_
      rw [hA]
      refine G_istore3 x eX6_readCell_18 ?_
      refine G_iload3 x eX6_readCell_19 ?_
      refine G_push x eX6_readCell_20 ?_
      refine G_icmp_ne x eX6_readCell_21 (by first | omega | exact hr _ _ | exact hr0 _ _ | exact hrS _) (by first | omega | exact hr _ _ | exact hr0 _ _ | exact hrS _) (fun c21 => ?_) (fun c21 => ?_)
      · refine G_aload0 x eX6_readCell_26 ?_
        refine G_dup x eX6_readCell_27 (by first | rfl | exact cat_rf _) ?_
        refine G_geti x eX6_readCell_28 fX6_21 rfl rfl hM.m (fun h28 => ?_)
        refine G_push x eX6_readCell_31 ?_
        refine G_iadd x eX6_readCell_32 ?_
        refine G_puti x eX6_readCell_33 fX6_21 rfl (Or.inl rfl) rfl hM.m (by first | omega | exact hr _ _ | exact hr0 _ _ | exact hrS _) ?_
        refine G_rg (fun hr => ?_)
        refine G_aload1 x eX6_readCell_36 ?_
        refine G_aload0 x eX6_readCell_37 ?_
        refine G_geti x eX6_readCell_38 fX6_21 rfl rfl hM.m (fun h38 => ?_)
        rw [uI_s]
        refine G_cV x eX6_readCell_41 kX6_34 im_yX9_at se_yX9_at rm hX.m (ct_X9_at hX (by first | omega | exact hr _ _ | exact hr0 _ _ | exact hrS _) (by omega)) rfl ?_
        rw [ex, ex1]
        refine G_istore4 x eX6_readCell_44 ?_
        refine G_iload4 x eX6_readCell_46 ?_
        refine G_cS x eX6_readCell_48 kX6_47 sm_yX6_isDigit rm (ct_X6_isDigit hc2) rfl ?_
        refine G_ifb_eq x eX6_readCell_51 (fun c51 => ?_) (fun c51 => ?_)
        · omega
        · refine G_aload2 x eX6_readCell_54 ?_
          refine G_getq x eX6_readCell_55 fX6_81 rfl rfl hP.m hP.o_rows ?_
          refine G_iload4 x eX6_readCell_58 ?_
          refine G_push x eX6_readCell_60 ?_
          refine G_isub x eX6_readCell_62 ?_
          refine G_cV x eX6_readCell_63 kX6_76 im_yX4_numberAt se_yX4_numberAt rm hP.s_rows.m (ct_X4_numberAt hP.s_rows (by first | omega | exact hr _ _ | exact hr0 _ _ | exact hrS _) (by omega)) rfl ?_
          rw [hB]
          refine G_goto x eX6_readCell_66 ?_
          refine G_istore5 x eX6_readCell_70 ?_
          refine G_iload5 x eX6_readCell_72 ?_
          refine G_push x eX6_readCell_74 ?_
          refine G_icmp_ne x eX6_readCell_75 (by first | omega | exact hr _ _ | exact hr0 _ _ | exact hrS _) (by first | omega | exact hr _ _ | exact hr0 _ _ | exact hrS _) (fun c75 => ?_) (fun c75 => ?_)
          · refine G_aload0 x eX6_readCell_80 ?_
            refine G_dup x eX6_readCell_81 (by first | rfl | exact cat_rf _) ?_
            refine G_geti x eX6_readCell_82 fX6_21 rfl rfl hM.m (fun h82 => ?_)
            rw [uI_s]
            refine G_push x eX6_readCell_85 ?_
            refine G_iadd x eX6_readCell_86 ?_
            refine G_puti x eX6_readCell_87 fX6_21 rfl (Or.inl rfl) rfl hM.m (by first | omega | exact hr _ _ | exact hr0 _ _ | exact hrS _) ?_
            refine G_rg (fun hr => ?_)
            refine G_iload5 x eX6_readCell_90 ?_
            refine G_push x eX6_readCell_92 ?_
            refine G_imul x eX6_readCell_94 ?_
            refine G_iload3 x eX6_readCell_95 ?_
            refine G_iadd x eX6_readCell_96 ?_
            refine G_ireturn x en eX6_readCell_97 (by omega) (by omega) ?_
            exact ⟨by rw [hN]; show some (VI _) = some (VI _); congr 2; omega, rfl, by rw [hN, uI_uI, show I rd 2 + 1 + 1 = I rd 2 + 2 by omega], rfl, rfl⟩
          · omega
      · omega
    · rw [if_neg q2] at hN
      refine G_rg (fun hr => ?_)
      refine G_aload2 x eX6_readCell_0 ?_
      refine G_getq x eX6_readCell_1 fX6_70 rfl rfl hP.m hP.o_columns ?_
      refine G_aload1 x eX6_readCell_4 ?_
      refine G_aload0 x eX6_readCell_5 ?_
      refine G_geti x eX6_readCell_6 fX6_21 rfl rfl hM.m (fun h6 => ?_)
      refine G_cV x eX6_readCell_9 kX6_34 im_yX9_at se_yX9_at rm hX.m (ct_X9_at hX (by first | omega | exact hr _ _ | exact hr0 _ _ | exact hrS _) hl) rfl ?_
      refine G_push x eX6_readCell_12 ?_
      refine G_isub x eX6_readCell_14 ?_
      refine G_cV x eX6_readCell_15 kX6_76 im_yX4_numberAt se_yX4_numberAt rm hP.s_columns.m (ct_X4_numberAt hP.s_columns (by first | omega | exact hr _ _ | exact hr0 _ _ | exact hrS _) (by omega)) rfl ?_
      rw [hA]
      refine G_istore3 x eX6_readCell_18 ?_
      refine G_iload3 x eX6_readCell_19 ?_
      refine G_push x eX6_readCell_20 ?_
      refine G_icmp_ne x eX6_readCell_21 (by first | omega | exact hr _ _ | exact hr0 _ _ | exact hrS _) (by first | omega | exact hr _ _ | exact hr0 _ _ | exact hrS _) (fun c21 => ?_) (fun c21 => ?_)
      · refine G_aload0 x eX6_readCell_26 ?_
        refine G_dup x eX6_readCell_27 (by first | rfl | exact cat_rf _) ?_
        refine G_geti x eX6_readCell_28 fX6_21 rfl rfl hM.m (fun h28 => ?_)
        refine G_push x eX6_readCell_31 ?_
        refine G_iadd x eX6_readCell_32 ?_
        refine G_puti x eX6_readCell_33 fX6_21 rfl (Or.inl rfl) rfl hM.m (by first | omega | exact hr _ _ | exact hr0 _ _ | exact hrS _) ?_
        refine G_rg (fun hr => ?_)
        refine G_aload1 x eX6_readCell_36 ?_
        refine G_aload0 x eX6_readCell_37 ?_
        refine G_geti x eX6_readCell_38 fX6_21 rfl rfl hM.m (fun h38 => ?_)
        rw [uI_s]
        refine G_cV x eX6_readCell_41 kX6_34 im_yX9_at se_yX9_at rm hX.m (ct_X9_at hX (by first | omega | exact hr _ _ | exact hr0 _ _ | exact hrS _) (by omega)) rfl ?_
        rw [ex, ex1]
        refine G_istore4 x eX6_readCell_44 ?_
        refine G_iload4 x eX6_readCell_46 ?_
        refine G_cS x eX6_readCell_48 kX6_47 sm_yX6_isDigit rm (ct_X6_isDigit hc2) rfl ?_
        refine G_ifb_eq x eX6_readCell_51 (fun c51 => ?_) (fun c51 => ?_)
        · refine G_push x eX6_readCell_69 ?_
          refine G_istore5 x eX6_readCell_70 ?_
          refine G_iload5 x eX6_readCell_72 ?_
          refine G_push x eX6_readCell_74 ?_
          refine G_icmp_ne x eX6_readCell_75 (by first | omega | exact hr _ _ | exact hr0 _ _ | exact hrS _) (by first | omega | exact hr _ _ | exact hr0 _ _ | exact hrS _) (fun c75 => ?_) (fun c75 => ?_)
          · omega
          · refine G_push x eX6_readCell_78 ?_
            refine G_ireturn x en eX6_readCell_79 (by omega) (by omega) ?_
            exact ⟨by rw [hN], rfl, by rw [hN], rfl, rfl⟩
        · refine G_aload2 x eX6_readCell_54 ?_
          refine G_getq x eX6_readCell_55 fX6_81 rfl rfl hP.m hP.o_rows ?_
          refine G_iload4 x eX6_readCell_58 ?_
          refine G_push x eX6_readCell_60 ?_
          refine G_isub x eX6_readCell_62 ?_
          refine G_cV x eX6_readCell_63 kX6_76 im_yX4_numberAt se_yX4_numberAt rm hP.s_rows.m (ct_X4_numberAt hP.s_rows (by first | omega | exact hr _ _ | exact hr0 _ _ | exact hrS _) (by omega)) rfl ?_
          rw [hB, if_neg (by omega)]
          refine G_goto x eX6_readCell_66 ?_
          refine G_istore5 x eX6_readCell_70 ?_
          refine G_iload5 x eX6_readCell_72 ?_
          refine G_push x eX6_readCell_74 ?_
          refine G_icmp_ne x eX6_readCell_75 (by first | omega | exact hr _ _ | exact hr0 _ _ | exact hrS _) (by first | omega | exact hr _ _ | exact hr0 _ _ | exact hrS _) (fun c75 => ?_) (fun c75 => ?_)
          · omega
          · refine G_push x eX6_readCell_78 ?_
            refine G_ireturn x en eX6_readCell_79 (by omega) (by omega) ?_
            exact ⟨by rw [hN], rfl, by rw [hN], rfl, rfl⟩
      · omega
  · rw [if_neg q1] at hN
    rw [if_neg (by omega)] at hA
    refine G_rg (fun hr => ?_)
    refine G_aload2 x eX6_readCell_0 ?_
    refine G_getq x eX6_readCell_1 fX6_70 rfl rfl hP.m hP.o_columns ?_
    refine G_aload1 x eX6_readCell_4 ?_
    refine G_aload0 x eX6_readCell_5 ?_
    refine G_geti x eX6_readCell_6 fX6_21 rfl rfl hM.m (fun h6 => ?_)
    refine G_cV x eX6_readCell_9 kX6_34 im_yX9_at se_yX9_at rm hX.m (ct_X9_at hX (by first | omega | exact hr _ _ | exact hr0 _ _ | exact hrS _) hl) rfl ?_
    refine G_push x eX6_readCell_12 ?_
    refine G_isub x eX6_readCell_14 ?_
    refine G_cV x eX6_readCell_15 kX6_76 im_yX4_numberAt se_yX4_numberAt rm hP.s_columns.m (ct_X4_numberAt hP.s_columns (by first | omega | exact hr _ _ | exact hr0 _ _ | exact hrS _) (by omega)) rfl ?_
    rw [hA]
    refine G_istore3 x eX6_readCell_18 ?_
    refine G_iload3 x eX6_readCell_19 ?_
    refine G_push x eX6_readCell_20 ?_
    refine G_icmp_ne x eX6_readCell_21 (by first | omega | exact hr _ _ | exact hr0 _ _ | exact hrS _) (by first | omega | exact hr _ _ | exact hr0 _ _ | exact hrS _) (fun c21 => ?_) (fun c21 => ?_)
    · omega
    · refine G_push x eX6_readCell_24 ?_
      refine G_ireturn x en eX6_readCell_25 (by omega) (by omega) ?_
      exact ⟨by rw [hN], rfl, by rw [hN]; exact (uI_id rfl).symm, rfl, rfl⟩
/-- one more factor -/
def adF (I : gI) (rd : Nat) (sg k f s : Int) : gI := uI (uI (uI (uI (uI I (rd + 1) (I rd 1 * 4) sg) (rd + 1) (I rd 1 * 4 + 1) k) (rd + 1) (I rd 1 * 4 + 2) f) (rd + 1) (I rd 1 * 4 + 3) s) rd 1 (I rd 1 + 1)
set_option maxRecDepth 20000 in
theorem ct_X6_addFactor {T : gT} {I : gI} {J : gJ} {O : gO} {rd : Nat} {sg k f s : Int} (hM : RdAt T O rd) (h0 : 0 ≤ I rd 1) (h1 : I rd 1 ≤ 12) (a0 : in32 sg) (a1 : in32 k) (a2 : in32 f) (a3 : in32 s) : Ct yX6_addFactor cX6_addFactor 6 none [va_rf (some rd), VI sg, VI k, VI f, VI s] 0 0 0 0 T I J O (pv none T (adF I rd sg k f s) J O) := by
  refine Ct.of (by decide) [some (va_rf (some rd)), some (VI sg), some (VI k), some (VI f), some (VI s), none] (gEn1 (List.forall_mem_cons.mpr ⟨cat_VR _, List.forall_mem_cons.mpr ⟨cat_VI _, List.forall_mem_cons.mpr ⟨cat_VI _, List.forall_mem_cons.mpr ⟨cat_VI _, List.forall_mem_cons.mpr ⟨cat_VI _, fun _ h => nomatch h⟩⟩⟩⟩⟩) rfl (Nat.le_of_ble_eq_true rfl) rfl) ?_
  intro X x en rm ini hr hz
  have hr0 := hr
  refine G_rg (fun hr => ?_)
  refine G_aload0 x eX6_addFactor_0 ?_
  refine G_geti x eX6_addFactor_1 fX6_17 rfl rfl hM.m (fun h1 => ?_)
  refine G_push x eX6_addFactor_4 ?_
  refine G_imul x eX6_addFactor_5 ?_
  refine G_istore5 x eX6_addFactor_6 ?_
  refine G_iload5 x eX6_addFactor_8 ?_
  refine G_push x eX6_addFactor_10 ?_
  refine G_iadd x eX6_addFactor_11 ?_
  refine G_aload0 x eX6_addFactor_12 ?_
  refine G_getq x eX6_addFactor_13 fX6_13 rfl rfl hM.m hM.o_parts ?_
  refine G_alen x eX6_addFactor_16 rfl hM.t_parts (fun _ => rfl) ?_
  refine G_icmp_le x eX6_addFactor_17 (by first | omega | exact hr _ _ | exact hr0 _ _ | exact hrS _) (by first | omega | exact hr _ _ | exact hr0 _ _ | exact hrS _) (fun c17 => ?_) (fun c17 => ?_)
  · refine G_aload0 x eX6_addFactor_21 ?_
    refine G_getq x eX6_addFactor_22 fX6_13 rfl rfl hM.m hM.o_parts ?_
    refine G_iload5 x eX6_addFactor_25 ?_
    refine G_iload1 x eX6_addFactor_27 ?_
    refine G_iast x eX6_addFactor_28 rfl hM.t_parts (by omega) (by omega) (by omega) (by first | omega | exact hr _ _ | exact hr0 _ _ | exact hrS _) ?_
    refine G_rg (fun hr => ?_)
    refine G_aload0 x eX6_addFactor_29 ?_
    refine G_getq x eX6_addFactor_30 fX6_13 rfl rfl hM.m hM.o_parts ?_
    refine G_iload5 x eX6_addFactor_33 ?_
    refine G_push x eX6_addFactor_35 ?_
    refine G_iadd x eX6_addFactor_36 ?_
    refine G_iload2 x eX6_addFactor_37 ?_
    refine G_iast x eX6_addFactor_38 rfl hM.t_parts (by omega) (by omega) (by omega) (by first | omega | exact hr _ _ | exact hr0 _ _ | exact hrS _) ?_
    refine G_rg (fun hr => ?_)
    refine G_aload0 x eX6_addFactor_39 ?_
    refine G_getq x eX6_addFactor_40 fX6_13 rfl rfl hM.m hM.o_parts ?_
    refine G_iload5 x eX6_addFactor_43 ?_
    refine G_push x eX6_addFactor_45 ?_
    refine G_iadd x eX6_addFactor_46 ?_
    refine G_iload3 x eX6_addFactor_47 ?_
    refine G_iast x eX6_addFactor_48 rfl hM.t_parts (by omega) (by omega) (by omega) (by first | omega | exact hr _ _ | exact hr0 _ _ | exact hrS _) ?_
    refine G_rg (fun hr => ?_)
    refine G_aload0 x eX6_addFactor_49 ?_
    refine G_getq x eX6_addFactor_50 fX6_13 rfl rfl hM.m hM.o_parts ?_
    refine G_iload5 x eX6_addFactor_53 ?_
    refine G_push x eX6_addFactor_55 ?_
    refine G_iadd x eX6_addFactor_56 ?_
    refine G_iload4 x eX6_addFactor_57 ?_
    refine G_iast x eX6_addFactor_59 rfl hM.t_parts (by omega) (by omega) (by omega) (by first | omega | exact hr _ _ | exact hr0 _ _ | exact hrS _) ?_
    refine G_rg (fun hr => ?_)
    refine G_aload0 x eX6_addFactor_60 ?_
    refine G_dup x eX6_addFactor_61 (by first | rfl | exact cat_rf _) ?_
    refine G_geti x eX6_addFactor_62 fX6_17 rfl rfl hM.m (fun h62 => ?_)
    rw [uI_a (by omega), uI_a (by omega), uI_a (by omega), uI_a (by omega)]
    refine G_push x eX6_addFactor_65 ?_
    refine G_iadd x eX6_addFactor_66 ?_
    refine G_puti x eX6_addFactor_67 fX6_17 rfl (Or.inl rfl) rfl hM.m (by first | omega | exact hr _ _ | exact hr0 _ _ | exact hrS _) ?_
    refine G_rg (fun hr => ?_)
    refine G_return x en eX6_addFactor_70 (by omega) (by omega) ?_
    first | exact pv_i | (exfalso; omega)
  · refine G_return x en eX6_addFactor_20 (by omega) (by omega) ?_
    first | exact pv_i | (exfalso; omega)
theorem rs_t {T : gT} {I : gI} {J : gJ} {O : gO} {rd tx : Nat} {s a : Int} (hM : RdAt T O rd) (hX : TxAt T O tx) (hl : I tx 1 ≤ 24) (hs : in32 s) (h0 : 0 ≤ a) (h1 : a ≤ 100) (hd : tx + 1 < rd) (hc : ch (I (tx + 1)) (I tx 1) a = s) : Ct yX6_readSign cX6_readSign 3 (some .boolean) [va_rf (some rd), va_rf (some tx), VI s] 1 21 0 0 T (uI I rd 2 a) J O (pv (some (VI (if ch (I (tx + 1)) (I tx 1) a = s then 1 else 0))) T (uI I rd 2 (a + 1)) J O) := by
  have := ct_X6_readSign (J := J) (I := uI I rd 2 a) hM hX (s := s) (by rw [uI_a (by omega)]; exact hl) hs (by rw [uI_s]; exact h0) (by rw [uI_s]; exact h1)
  rw [uI_s, uI_f (by omega), uI_a (by omega), uI_uI, if_pos (c := ch (I (tx + 1)) (I tx 1) a = s) (t := uI I rd 2 (a + 1)) hc] at this
  exact this
theorem rs_f {T : gT} {I : gI} {J : gJ} {O : gO} {rd tx : Nat} {s a : Int} (hM : RdAt T O rd) (hX : TxAt T O tx) (hl : I tx 1 ≤ 24) (hs : in32 s) (h0 : 0 ≤ a) (h1 : a ≤ 100) (hd : tx + 1 < rd) (hc : ¬ ch (I (tx + 1)) (I tx 1) a = s) : Ct yX6_readSign cX6_readSign 3 (some .boolean) [va_rf (some rd), va_rf (some tx), VI s] 1 21 0 0 T (uI I rd 2 a) J O (pv (some (VI (if ch (I (tx + 1)) (I tx 1) a = s then 1 else 0))) T (uI I rd 2 a) J O) := by
  have := ct_X6_readSign (J := J) (I := uI I rd 2 a) hM hX (s := s) (by rw [uI_a (by omega)]; exact hl) hs (by rw [uI_s]; exact h0) (by rw [uI_s]; exact h1)
  rw [uI_s, uI_f (by omega), uI_a (by omega), uI_uI, if_neg (c := ch (I (tx + 1)) (I tx 1) a = s) (t := uI I rd 2 (a + 1)) hc] at this
  exact this
theorem rc_x {T : gT} {I : gI} {J : gJ} {O : gO} {rd tx p : Nat} {S : Int → Int} {r a : Int} (hM : RdAt T O rd) (hX : TxAt T O tx) (hP : RpAt T O p) (hL : LkR I p S r) (hl : I tx 1 ≤ 24) (h0 : 0 ≤ a) (h1 : a ≤ 100) (hd : tx + 1 < rd) (hd2 : rd + 1 < p) (hch : ∀ i, -1 ≤ ch (I (tx + 1)) (I tx 1) i ∧ ch (I (tx + 1)) (I tx 1) i < 65536) : Ct yX6_readCell cX6_readCell 6 (some .int) [va_rf (some rd), va_rf (some tx), va_rf (some p)] 1 21 0 0 T (uI I rd 2 a) J O (pv (some (VI (rcN I tx S r a).2)) T (uI I rd 2 (rcN I tx S r a).1) J O) := by
  have ex : (uI I rd 2 a) (tx + 1) = I (tx + 1) := uI_f (by omega)
  have ex1 : (uI I rd 2 a) tx 1 = I tx 1 := uI_a (by omega) _
  have := ct_X6_readCell (J := J) (I := uI I rd 2 a) (S := S) (r := r) hM hX hP (hL.c (fun b j b1 b2 => uI_a (by omega) j)) (by rw [ex1]; exact hl) (by rw [uI_s]; exact h0) (by rw [uI_s]; exact h1) hd hd2 (by rw [ex, ex1]; exact hch)
  rw [uI_s, uI_uI] at this
  unfold rcN at this ⊢
  rw [ex, ex1] at this
  exact this
theorem rc_32 {S : Int → Int} {r : Int} {X : Int → Int} {L a : Int} : -1 ≤ (nmP X L (rwF S r 0 (-1)) (rwN S r 0 (-1)) (rwF S r 1 (-1)) (rwN S r 1 (-1)) a).2 ∧ (nmP X L (rwF S r 0 (-1)) (rwN S r 0 (-1)) (rwF S r 1 (-1)) (rwN S r 1 (-1)) a).2 < 144 := by
  unfold nmP
  split
  · next h =>
    split
    · next h2 =>
      have g1 := rwF_b (S := S) (r := r) (kd := 0) (q := ch X L (a + 1) - 49) (by omega) (by omega)
      have g2 := rwF_b (S := S) (r := r) (kd := 1) (q := ch X L a - 65) (by omega) (by omega)
      show -1 ≤ 12 * _ + _ ∧ 12 * _ + _ < (144 : Int)
      omega
    · exact ⟨by show (-1 : Int) ≤ -1; omega, by show (-1 : Int) < 144; omega⟩
  · exact ⟨by show (-1 : Int) ≤ -1; omega, by show (-1 : Int) < 144; omega⟩
noncomputable abbrev rcS (I : gI) (tx : Nat) (S : Int → Int) (r a : Int) : Int × Int × Int × Int := sumP (I (tx + 1)) (I tx 1) (rwF S r 0 (-1)) (rwN S r 0 (-1)) (rwF S r 1 (-1)) (rwN S r 1 (-1)) a
noncomputable def rfO (I : gI) (rd : Nat) (sg : Int) (f : Int × Int × Int × Int) : gI := if f.2.1 = -1 then uI I rd 2 f.1 else adF (uI I rd 2 f.1) rd sg f.2.1 f.2.2.1 f.2.2.2
set_option maxHeartbeats 4000000 in
set_option maxRecDepth 20000 in
theorem ct_X6_readSum {T : gT} {I : gI} {J : gJ} {O : gO} {rd tx p : Nat} {S : Int → Int} {r sg : Int} (hM : RdAt T O rd) (hX : TxAt T O tx) (hP : RpAt T O p) (hL : LkR I p S r) (hl : I tx 1 ≤ 24) (h0 : 0 ≤ I rd 2) (h1 : I rd 2 ≤ 24) (hd : tx + 1 < rd) (hd2 : rd + 1 < p) (hch : ∀ i, -1 ≤ ch (I (tx + 1)) (I tx 1) i ∧ ch (I (tx + 1)) (I tx 1) i < 65536) (hsg : in32 sg) (f0 : 0 ≤ I rd 1) (f1 : I rd 1 ≤ 12) (hS : ch (I (tx + 1)) (I tx 1) (I rd 2) = 83) : Ct yX6_readSum cX6_readSum 6 (some .boolean) [va_rf (some rd), va_rf (some tx), va_rf (some p), VI sg] 2 46 0 0 T I J O (pv (some (VI (if (rcS I tx S r (I rd 2)).2.1 = -1 then 0 else 1))) T (rfO I rd sg (rcS I tx S r (I rd 2))) J O) := by
  refine Ct.of (by decide) [some (va_rf (some rd)), some (va_rf (some tx)), some (va_rf (some p)), some (VI sg), none, none] (gEn1 (List.forall_mem_cons.mpr ⟨cat_VR _, List.forall_mem_cons.mpr ⟨cat_VR _, List.forall_mem_cons.mpr ⟨cat_VR _, List.forall_mem_cons.mpr ⟨cat_VI _, fun _ h => nomatch h⟩⟩⟩⟩) rfl (Nat.le_of_ble_eq_true rfl) rfl) ?_
  intro X x en rm ini hr hz
  have hr0 := hr
  have hN : rcS I tx S r (I rd 2) = (if ch (I (tx + 1)) (I tx 1) (I rd 2 + 1) = 40 then
    if (rcN I tx S r (I rd 2 + 2)).2 = -1 then ((rcN I tx S r (I rd 2 + 2)).1, -1, 0, 0)
    else if ch (I (tx + 1)) (I tx 1) (I rd 2 + 4) = 58 then
      if (rcN I tx S r (I rd 2 + 5)).2 = -1 then ((rcN I tx S r (I rd 2 + 5)).1, -1, 0, 0)
      else if ch (I (tx + 1)) (I tx 1) (I rd 2 + 7) = 41 then (I rd 2 + 8, 2, (rcN I tx S r (I rd 2 + 2)).2, (rcN I tx S r (I rd 2 + 5)).2)
      else (I rd 2 + 7, -1, 0, 0)
    else (I rd 2 + 4, -1, 0, 0)
  else (I rd 2 + 1, -1, 0, 0)) := rfl
  have nb2 : (rcN I tx S r (I rd 2 + 2)).2 ≠ -1 → (rcN I tx S r (I rd 2 + 2)).1 = I rd 2 + 2 + 2 := fun h => ((@nmP_b _ _ _ _ _ _ (I rd 2 + 2)).2.2 h).1
  have nb5 : (rcN I tx S r (I rd 2 + 5)).2 ≠ -1 → (rcN I tx S r (I rd 2 + 5)).1 = I rd 2 + 5 + 2 := fun h => ((@nmP_b _ _ _ _ _ _ (I rd 2 + 5)).2.2 h).1
  have v2 : -1 ≤ (rcN I tx S r (I rd 2 + 2)).2 ∧ (rcN I tx S r (I rd 2 + 2)).2 < 144 := rc_32
  have v5 : -1 ≤ (rcN I tx S r (I rd 2 + 5)).2 ∧ (rcN I tx S r (I rd 2 + 5)).2 < 144 := rc_32
  have r0 := rs_t (J := J) (s := 83) (a := I rd 2) hM hX hl (by omega) h0 (by omega) hd hS
  have n2 := rc_x (J := J) (a := I rd 2 + 1 + 1) hM hX hP hL hl (by omega) (by omega) hd hd2 hch
  rw [show I rd 2 + 1 + 1 = I rd 2 + 2 by omega] at n2
  have n5 := rc_x (J := J) (a := I rd 2 + 4 + 1) hM hX hP hL hl (by omega) (by omega) hd hd2 hch
  rw [show I rd 2 + 4 + 1 = I rd 2 + 5 by omega] at n5
  rw [uI_id rfl] at r0
  generalize rcS I tx S r (I rd 2) = sp at *
  generalize rcN I tx S r (I rd 2 + 2) = m2 at *
  generalize rcN I tx S r (I rd 2 + 5) = m5 at *
  have fail : ∀ z, sp = (z, -1, 0, 0) → pv (some (VI (if sp.2.1 = -1 then 0 else 1))) T (rfO I rd sg sp) J O (some (VI 0)) T (uI I rd 2 z) J O := fun z hz => by
    rw [hz]
    exact ⟨rfl, rfl, by unfold rfO; rw [if_pos rfl], rfl, rfl⟩
  by_cases q1 : ch (I (tx + 1)) (I tx 1) (I rd 2 + 1) = 40
  · rw [if_pos q1] at hN
    have r1 := rs_t (J := J) (s := 40) (a := I rd 2 + 1) hM hX hl (by omega) (by omega) (by omega) hd q1
    rw [show I rd 2 + 1 + 1 = I rd 2 + 2 by omega] at r1
    by_cases q2 : m2.2 = -1
    · rw [if_pos q2] at hN
      refine G_rg (fun hr => ?_)
      refine G_aload0 x eX6_readSum_0 ?_
      refine G_aload1 x eX6_readSum_1 ?_
      refine G_push x eX6_readSum_2 ?_
      refine G_cV x eX6_readSum_4 kX6_66 im_yX6_readSign se_yX6_readSign rm hM.m r0 rfl ?_
      refine G_ifb_eq x eX6_readSum_7 (fun c7 => ?_) (fun c7 => ?_)
      · contradiction
      · refine G_aload0 x eX6_readSum_10 ?_
        refine G_aload1 x eX6_readSum_11 ?_
        refine G_push x eX6_readSum_12 ?_
        refine G_cV x eX6_readSum_14 kX6_66 im_yX6_readSign se_yX6_readSign rm hM.m r1 rfl ?_
        refine G_ifb_ne x eX6_readSum_17 (fun c17 => ?_) (fun c17 => ?_)
        · refine G_aload0 x eX6_readSum_22 ?_
          refine G_aload1 x eX6_readSum_23 ?_
          refine G_aload2 x eX6_readSum_24 ?_
          refine G_cV x eX6_readSum_25 kX6_62 im_yX6_readCell se_yX6_readCell rm hM.m n2 rfl ?_
          refine G_istore4 x eX6_readSum_28 ?_
          refine G_iload4 x eX6_readSum_30 ?_
          refine G_push x eX6_readSum_32 ?_
          rw [q2]
          refine G_icmp_eq x eX6_readSum_33 (by first | omega | exact hr _ _ | exact hr0 _ _ | exact hrS _) (by first | omega | exact hr _ _ | exact hr0 _ _ | exact hrS _) (fun c33 => ?_) (fun c33 => ?_)
          · refine G_push x eX6_readSum_46 ?_
            refine G_zreturn x en eX6_readSum_47 (by omega) (by omega) ?_ ?_
            · first | exact Or.inl rfl | exact Or.inr rfl | omega
            · exact fail _ hN
          · omega
        · contradiction
    · rw [if_neg q2] at hN
      rw [nb2 q2, show I rd 2 + 2 + 2 = I rd 2 + 4 by omega] at n2
      by_cases q3 : ch (I (tx + 1)) (I tx 1) (I rd 2 + 4) = 58
      · rw [if_pos q3] at hN
        have r2 := rs_t (J := J) (s := 58) (a := I rd 2 + 4) hM hX hl (by omega) (by omega) (by omega) hd q3
        rw [show I rd 2 + 4 + 1 = I rd 2 + 5 by omega] at r2
        by_cases q4 : m5.2 = -1
        · rw [if_pos q4] at hN
          refine G_rg (fun hr => ?_)
          refine G_aload0 x eX6_readSum_0 ?_
          refine G_aload1 x eX6_readSum_1 ?_
          refine G_push x eX6_readSum_2 ?_
          refine G_cV x eX6_readSum_4 kX6_66 im_yX6_readSign se_yX6_readSign rm hM.m r0 rfl ?_
          refine G_ifb_eq x eX6_readSum_7 (fun c7 => ?_) (fun c7 => ?_)
          · contradiction
          · refine G_aload0 x eX6_readSum_10 ?_
            refine G_aload1 x eX6_readSum_11 ?_
            refine G_push x eX6_readSum_12 ?_
            refine G_cV x eX6_readSum_14 kX6_66 im_yX6_readSign se_yX6_readSign rm hM.m r1 rfl ?_
            refine G_ifb_ne x eX6_readSum_17 (fun c17 => ?_) (fun c17 => ?_)
            · refine G_aload0 x eX6_readSum_22 ?_
              refine G_aload1 x eX6_readSum_23 ?_
              refine G_aload2 x eX6_readSum_24 ?_
              refine G_cV x eX6_readSum_25 kX6_62 im_yX6_readCell se_yX6_readCell rm hM.m n2 rfl ?_
              refine G_istore4 x eX6_readSum_28 ?_
              refine G_iload4 x eX6_readSum_30 ?_
              refine G_push x eX6_readSum_32 ?_
              refine G_icmp_eq x eX6_readSum_33 (by first | omega | exact hr _ _ | exact hr0 _ _ | exact hrS _) (by first | omega | exact hr _ _ | exact hr0 _ _ | exact hrS _) (fun c33 => ?_) (fun c33 => ?_)
              · first | omega | contradiction
              · refine G_aload0 x eX6_readSum_36 ?_
                refine G_aload1 x eX6_readSum_37 ?_
                refine G_push x eX6_readSum_38 ?_
                refine G_cV x eX6_readSum_40 kX6_66 im_yX6_readSign se_yX6_readSign rm hM.m r2 rfl ?_
                refine G_ifb_ne x eX6_readSum_43 (fun c43 => ?_) (fun c43 => ?_)
                · refine G_aload0 x eX6_readSum_48 ?_
                  refine G_aload1 x eX6_readSum_49 ?_
                  refine G_aload2 x eX6_readSum_50 ?_
                  refine G_cV x eX6_readSum_51 kX6_62 im_yX6_readCell se_yX6_readCell rm hM.m n5 rfl ?_
                  refine G_istore5 x eX6_readSum_54 ?_
                  refine G_iload5 x eX6_readSum_56 ?_
                  refine G_push x eX6_readSum_58 ?_
                  rw [q4]
                  refine G_icmp_eq x eX6_readSum_59 (by first | omega | exact hr _ _ | exact hr0 _ _ | exact hrS _) (by first | omega | exact hr _ _ | exact hr0 _ _ | exact hrS _) (fun c59 => ?_) (fun c59 => ?_)
                  · refine G_push x eX6_readSum_72 ?_
                    refine G_zreturn x en eX6_readSum_73 (by omega) (by omega) ?_ ?_
                    · first | exact Or.inl rfl | exact Or.inr rfl | omega
                    · exact fail _ hN
                  · omega
                · first | omega | contradiction
            · contradiction
        · rw [if_neg q4] at hN
          rw [nb5 q4, show I rd 2 + 5 + 2 = I rd 2 + 7 by omega] at n5
          by_cases q5 : ch (I (tx + 1)) (I tx 1) (I rd 2 + 7) = 41
          · rw [if_pos q5] at hN
            have r3 := rs_t (J := J) (s := 41) (a := I rd 2 + 7) hM hX hl (by omega) (by omega) (by omega) hd q5
            rw [show I rd 2 + 7 + 1 = I rd 2 + 8 by omega] at r3
            refine G_rg (fun hr => ?_)
            refine G_aload0 x eX6_readSum_0 ?_
            refine G_aload1 x eX6_readSum_1 ?_
            refine G_push x eX6_readSum_2 ?_
            refine G_cV x eX6_readSum_4 kX6_66 im_yX6_readSign se_yX6_readSign rm hM.m r0 rfl ?_
            refine G_ifb_eq x eX6_readSum_7 (fun c7 => ?_) (fun c7 => ?_)
            · contradiction
            · refine G_aload0 x eX6_readSum_10 ?_
              refine G_aload1 x eX6_readSum_11 ?_
              refine G_push x eX6_readSum_12 ?_
              refine G_cV x eX6_readSum_14 kX6_66 im_yX6_readSign se_yX6_readSign rm hM.m r1 rfl ?_
              refine G_ifb_ne x eX6_readSum_17 (fun c17 => ?_) (fun c17 => ?_)
              · refine G_aload0 x eX6_readSum_22 ?_
                refine G_aload1 x eX6_readSum_23 ?_
                refine G_aload2 x eX6_readSum_24 ?_
                refine G_cV x eX6_readSum_25 kX6_62 im_yX6_readCell se_yX6_readCell rm hM.m n2 rfl ?_
                refine G_istore4 x eX6_readSum_28 ?_
                refine G_iload4 x eX6_readSum_30 ?_
                refine G_push x eX6_readSum_32 ?_
                refine G_icmp_eq x eX6_readSum_33 (by first | omega | exact hr _ _ | exact hr0 _ _ | exact hrS _) (by first | omega | exact hr _ _ | exact hr0 _ _ | exact hrS _) (fun c33 => ?_) (fun c33 => ?_)
                · first | omega | contradiction
                · refine G_aload0 x eX6_readSum_36 ?_
                  refine G_aload1 x eX6_readSum_37 ?_
                  refine G_push x eX6_readSum_38 ?_
                  refine G_cV x eX6_readSum_40 kX6_66 im_yX6_readSign se_yX6_readSign rm hM.m r2 rfl ?_
                  refine G_ifb_ne x eX6_readSum_43 (fun c43 => ?_) (fun c43 => ?_)
                  · refine G_aload0 x eX6_readSum_48 ?_
                    refine G_aload1 x eX6_readSum_49 ?_
                    refine G_aload2 x eX6_readSum_50 ?_
                    refine G_cV x eX6_readSum_51 kX6_62 im_yX6_readCell se_yX6_readCell rm hM.m n5 rfl ?_
                    refine G_istore5 x eX6_readSum_54 ?_
                    refine G_iload5 x eX6_readSum_56 ?_
                    refine G_push x eX6_readSum_58 ?_
                    refine G_icmp_eq x eX6_readSum_59 (by first | omega | exact hr _ _ | exact hr0 _ _ | exact hrS _) (by first | omega | exact hr _ _ | exact hr0 _ _ | exact hrS _) (fun c59 => ?_) (fun c59 => ?_)
                    · first | omega | contradiction
                    · refine G_aload0 x eX6_readSum_62 ?_
                      refine G_aload1 x eX6_readSum_63 ?_
                      refine G_push x eX6_readSum_64 ?_
                      refine G_cV x eX6_readSum_66 kX6_66 im_yX6_readSign se_yX6_readSign rm hM.m r3 rfl ?_
                      refine G_ifb_ne x eX6_readSum_69 (fun c69 => ?_) (fun c69 => ?_)
                      · refine G_aload0 x eX6_readSum_74 ?_
                        refine G_iload3 x eX6_readSum_75 ?_
                        refine G_push x eX6_readSum_76 ?_
                        refine G_iload4 x eX6_readSum_77 ?_
                        refine G_iload5 x eX6_readSum_79 ?_
                        refine G_cVv x eX6_readSum_81 kX6_55 im_yX6_addFactor se_yX6_addFactor rm hM.m (ct_X6_addFactor hM (by rw [uI_k (by omega)]; exact f0) (by rw [uI_k (by omega)]; exact f1) (by first | omega | exact hr _ _ | exact hr0 _ _ | exact hrS _) (by first | omega | exact hr _ _ | exact hr0 _ _ | exact hrS _) (by first | omega | exact hr _ _ | exact hr0 _ _ | exact hrS _) (by first | omega | exact hr _ _ | exact hr0 _ _ | exact hrS _)) rfl ?_
                        refine G_push x eX6_readSum_84 ?_
                        refine G_zreturn x en eX6_readSum_85 (by omega) (by omega) ?_ ?_
                        · first | exact Or.inl rfl | exact Or.inr rfl | omega
                        · exact ⟨by rw [hN]; rfl, rfl, by rw [hN]; unfold rfO; exact (if_neg (by show ¬ (2 : Int) = -1; omega)).symm, rfl, rfl⟩
                      · first | omega | contradiction
                  · first | omega | contradiction
              · contradiction
          · rw [if_neg q5] at hN
            have r3 := rs_f (J := J) (s := 41) (a := I rd 2 + 7) hM hX hl (by omega) (by omega) (by omega) hd q5
            refine G_rg (fun hr => ?_)
            refine G_aload0 x eX6_readSum_0 ?_
            refine G_aload1 x eX6_readSum_1 ?_
            refine G_push x eX6_readSum_2 ?_
            refine G_cV x eX6_readSum_4 kX6_66 im_yX6_readSign se_yX6_readSign rm hM.m r0 rfl ?_
            refine G_ifb_eq x eX6_readSum_7 (fun c7 => ?_) (fun c7 => ?_)
            · contradiction
            · refine G_aload0 x eX6_readSum_10 ?_
              refine G_aload1 x eX6_readSum_11 ?_
              refine G_push x eX6_readSum_12 ?_
              refine G_cV x eX6_readSum_14 kX6_66 im_yX6_readSign se_yX6_readSign rm hM.m r1 rfl ?_
              refine G_ifb_ne x eX6_readSum_17 (fun c17 => ?_) (fun c17 => ?_)
              · refine G_aload0 x eX6_readSum_22 ?_
                refine G_aload1 x eX6_readSum_23 ?_
                refine G_aload2 x eX6_readSum_24 ?_
                refine G_cV x eX6_readSum_25 kX6_62 im_yX6_readCell se_yX6_readCell rm hM.m n2 rfl ?_
                refine G_istore4 x eX6_readSum_28 ?_
                refine G_iload4 x eX6_readSum_30 ?_
                refine G_push x eX6_readSum_32 ?_
                refine G_icmp_eq x eX6_readSum_33 (by first | omega | exact hr _ _ | exact hr0 _ _ | exact hrS _) (by first | omega | exact hr _ _ | exact hr0 _ _ | exact hrS _) (fun c33 => ?_) (fun c33 => ?_)
                · first | omega | contradiction
                · refine G_aload0 x eX6_readSum_36 ?_
                  refine G_aload1 x eX6_readSum_37 ?_
                  refine G_push x eX6_readSum_38 ?_
                  refine G_cV x eX6_readSum_40 kX6_66 im_yX6_readSign se_yX6_readSign rm hM.m r2 rfl ?_
                  refine G_ifb_ne x eX6_readSum_43 (fun c43 => ?_) (fun c43 => ?_)
                  · refine G_aload0 x eX6_readSum_48 ?_
                    refine G_aload1 x eX6_readSum_49 ?_
                    refine G_aload2 x eX6_readSum_50 ?_
                    refine G_cV x eX6_readSum_51 kX6_62 im_yX6_readCell se_yX6_readCell rm hM.m n5 rfl ?_
                    refine G_istore5 x eX6_readSum_54 ?_
                    refine G_iload5 x eX6_readSum_56 ?_
                    refine G_push x eX6_readSum_58 ?_
                    refine G_icmp_eq x eX6_readSum_59 (by first | omega | exact hr _ _ | exact hr0 _ _ | exact hrS _) (by first | omega | exact hr _ _ | exact hr0 _ _ | exact hrS _) (fun c59 => ?_) (fun c59 => ?_)
                    · refine G_push x eX6_readSum_72 ?_
                      refine G_zreturn x en eX6_readSum_73 (by omega) (by omega) ?_ ?_
                      · first | exact Or.inl rfl | exact Or.inr rfl | omega
                      · first | omega | exact fail _ hN
                    · refine G_aload0 x eX6_readSum_62 ?_
                      refine G_aload1 x eX6_readSum_63 ?_
                      refine G_push x eX6_readSum_64 ?_
                      refine G_cV x eX6_readSum_66 kX6_66 im_yX6_readSign se_yX6_readSign rm hM.m r3 rfl ?_
                      refine G_ifb_ne x eX6_readSum_69 (fun c69 => ?_) (fun c69 => ?_)
                      · contradiction
                      · refine G_push x eX6_readSum_72 ?_
                        refine G_zreturn x en eX6_readSum_73 (by omega) (by omega) ?_ ?_
                        · first | exact Or.inl rfl | exact Or.inr rfl | omega
                        · first | omega | exact fail _ hN
                  · first | omega | contradiction
              · contradiction
      · rw [if_neg q3] at hN
        have r2 := rs_f (J := J) (s := 58) (a := I rd 2 + 4) hM hX hl (by omega) (by omega) (by omega) hd q3
        refine G_rg (fun hr => ?_)
        refine G_aload0 x eX6_readSum_0 ?_
        refine G_aload1 x eX6_readSum_1 ?_
        refine G_push x eX6_readSum_2 ?_
        refine G_cV x eX6_readSum_4 kX6_66 im_yX6_readSign se_yX6_readSign rm hM.m r0 rfl ?_
        refine G_ifb_eq x eX6_readSum_7 (fun c7 => ?_) (fun c7 => ?_)
        · contradiction
        · refine G_aload0 x eX6_readSum_10 ?_
          refine G_aload1 x eX6_readSum_11 ?_
          refine G_push x eX6_readSum_12 ?_
          refine G_cV x eX6_readSum_14 kX6_66 im_yX6_readSign se_yX6_readSign rm hM.m r1 rfl ?_
          refine G_ifb_ne x eX6_readSum_17 (fun c17 => ?_) (fun c17 => ?_)
          · refine G_aload0 x eX6_readSum_22 ?_
            refine G_aload1 x eX6_readSum_23 ?_
            refine G_aload2 x eX6_readSum_24 ?_
            refine G_cV x eX6_readSum_25 kX6_62 im_yX6_readCell se_yX6_readCell rm hM.m n2 rfl ?_
            refine G_istore4 x eX6_readSum_28 ?_
            refine G_iload4 x eX6_readSum_30 ?_
            refine G_push x eX6_readSum_32 ?_
            refine G_icmp_eq x eX6_readSum_33 (by first | omega | exact hr _ _ | exact hr0 _ _ | exact hrS _) (by first | omega | exact hr _ _ | exact hr0 _ _ | exact hrS _) (fun c33 => ?_) (fun c33 => ?_)
            · refine G_push x eX6_readSum_46 ?_
              refine G_zreturn x en eX6_readSum_47 (by omega) (by omega) ?_ ?_
              · first | exact Or.inl rfl | exact Or.inr rfl | omega
              · first | omega | exact fail _ hN
            · refine G_aload0 x eX6_readSum_36 ?_
              refine G_aload1 x eX6_readSum_37 ?_
              refine G_push x eX6_readSum_38 ?_
              refine G_cV x eX6_readSum_40 kX6_66 im_yX6_readSign se_yX6_readSign rm hM.m r2 rfl ?_
              refine G_ifb_ne x eX6_readSum_43 (fun c43 => ?_) (fun c43 => ?_)
              · contradiction
              · refine G_push x eX6_readSum_46 ?_
                refine G_zreturn x en eX6_readSum_47 (by omega) (by omega) ?_ ?_
                · first | exact Or.inl rfl | exact Or.inr rfl | omega
                · first | omega | exact fail _ hN
          · contradiction
  · rw [if_neg q1] at hN
    have r1 := rs_f (J := J) (s := 40) (a := I rd 2 + 1) hM hX hl (by omega) (by omega) (by omega) hd q1
    refine G_rg (fun hr => ?_)
    refine G_aload0 x eX6_readSum_0 ?_
    refine G_aload1 x eX6_readSum_1 ?_
    refine G_push x eX6_readSum_2 ?_
    refine G_cV x eX6_readSum_4 kX6_66 im_yX6_readSign se_yX6_readSign rm hM.m r0 rfl ?_
    refine G_ifb_eq x eX6_readSum_7 (fun c7 => ?_) (fun c7 => ?_)
    · refine G_push x eX6_readSum_20 ?_
      refine G_zreturn x en eX6_readSum_21 (by omega) (by omega) ?_ ?_
      · first | exact Or.inl rfl | exact Or.inr rfl | omega
      · first | exact absurd hS (by assumption) | exact fail _ hN
    · refine G_aload0 x eX6_readSum_10 ?_
      refine G_aload1 x eX6_readSum_11 ?_
      refine G_push x eX6_readSum_12 ?_
      refine G_cV x eX6_readSum_14 kX6_66 im_yX6_readSign se_yX6_readSign rm hM.m r1 rfl ?_
      refine G_ifb_ne x eX6_readSum_17 (fun c17 => ?_) (fun c17 => ?_)
      · contradiction
      · refine G_push x eX6_readSum_20 ?_
        refine G_zreturn x en eX6_readSum_21 (by omega) (by omega) ?_ ?_
        · first | exact Or.inl rfl | exact Or.inr rfl | omega
        · first | exact absurd hS (by assumption) | exact fail _ hN
theorem rfO_f {I : gI} {rd : Nat} {sg : Int} {f : Int × Int × Int × Int} (h : f.2.1 = -1) : rfO I rd sg f = uI I rd 2 f.1 := if_pos h
theorem rfO_t {I : gI} {rd : Nat} {sg : Int} {f : Int × Int × Int × Int} (h : ¬ f.2.1 = -1) : rfO I rd sg f = adF (uI I rd 2 f.1) rd sg f.2.1 f.2.2.1 f.2.2.2 := if_neg h
set_option maxHeartbeats 4000000 in
set_option maxRecDepth 20000 in
theorem ct_X6_readFactor {T : gT} {I : gI} {J : gJ} {O : gO} {rd tx p : Nat} {S : Int → Int} {r sg : Int} (hM : RdAt T O rd) (hX : TxAt T O tx) (hP : RpAt T O p) (hL : LkR I p S r) (hl : I tx 1 ≤ 24) (h0 : 0 ≤ I rd 2) (h1 : I rd 2 ≤ 24) (hd : tx + 1 < rd) (hd2 : rd + 1 < p) (hch : ∀ i, -1 ≤ ch (I (tx + 1)) (I tx 1) i ∧ ch (I (tx + 1)) (I tx 1) i < 65536) (hsg : in32 sg) (f0 : 0 ≤ I rd 1) (f1 : I rd 1 ≤ 12) : Ct yX6_readFactor cX6_readFactor 6 (some .boolean) [va_rf (some rd), va_rf (some tx), va_rf (some p), VI sg] 3 71 0 0 T I J O (pv (some (VI (if (rcF I tx S r (I rd 2)).2.1 = -1 then 0 else 1))) T (rfO I rd sg (rcF I tx S r (I rd 2))) J O) := by
  refine Ct.of (by decide) [some (va_rf (some rd)), some (va_rf (some tx)), some (va_rf (some p)), some (VI sg), none, none] (gEn1 (List.forall_mem_cons.mpr ⟨cat_VR _, List.forall_mem_cons.mpr ⟨cat_VR _, List.forall_mem_cons.mpr ⟨cat_VR _, List.forall_mem_cons.mpr ⟨cat_VI _, fun _ h => nomatch h⟩⟩⟩⟩) rfl (Nat.le_of_ble_eq_true rfl) rfl) ?_
  intro X x en rm ini hr hz
  have hr0 := hr
  have hc : in32 (ch (I (tx + 1)) (I tx 1) (I rd 2)) := ch_32 hr
  have hF : rcF I tx S r (I rd 2) = if 48 ≤ ch (I (tx + 1)) (I tx 1) (I rd 2) ∧ ch (I (tx + 1)) (I tx 1) (I rd 2) ≤ 57 then ((nmD (I (tx + 1)) (I tx 1) 4 (I rd 2) 0).1, 0, (nmD (I (tx + 1)) (I tx 1) 4 (I rd 2) 0).2, 0)
    else if ch (I (tx + 1)) (I tx 1) (I rd 2) = 83 then rcS I tx S r (I rd 2) else (if (rcN I tx S r (I rd 2)).2 = -1 then ((rcN I tx S r (I rd 2)).1, -1, 0, 0) else ((rcN I tx S r (I rd 2)).1, 1, (rcN I tx S r (I rd 2)).2, (rcN I tx S r (I rd 2)).2)) := rfl
  have vN := nmD_v (X := I (tx + 1)) (L := I tx 1) 4 (I rd 2) 0 (by omega) (by omega) (by omega)
  have vC : -1 ≤ (rcN I tx S r (I rd 2)).2 ∧ (rcN I tx S r (I rd 2)).2 < 144 := rc_32
  have cC := ct_X6_readCell (J := J) (S := S) (r := r) hM hX hP hL hl h0 (by omega) hd hd2 hch
  generalize rcF I tx S r (I rd 2) = fp at *
  generalize rcN I tx S r (I rd 2) = mc at *
  by_cases q1 : 48 ≤ ch (I (tx + 1)) (I tx 1) (I rd 2) ∧ ch (I (tx + 1)) (I tx 1) (I rd 2) ≤ 57
  · rw [if_pos q1] at hF
    refine G_rg (fun hr => ?_)
    refine G_aload1 x eX6_readFactor_0 ?_
    refine G_aload0 x eX6_readFactor_1 ?_
    refine G_geti x eX6_readFactor_2 fX6_21 rfl rfl hM.m (fun h2 => ?_)
    refine G_cV x eX6_readFactor_5 kX6_34 im_yX9_at se_yX9_at rm hX.m (ct_X9_at hX (by first | omega | exact hr _ _ | exact hr0 _ _ | exact hrS _) hl) rfl ?_
    refine G_istore4 x eX6_readFactor_8 ?_
    refine G_iload4 x eX6_readFactor_10 ?_
    refine G_cS x eX6_readFactor_12 kX6_47 sm_yX6_isDigit rm (ct_X6_isDigit hc) rfl ?_
    refine G_ifb_eq x eX6_readFactor_15 (fun c15 => ?_) (fun c15 => ?_)
    · contradiction
    · refine G_aload0 x eX6_readFactor_18 ?_
      refine G_iload3 x eX6_readFactor_19 ?_
      refine G_push x eX6_readFactor_20 ?_
      refine G_aload0 x eX6_readFactor_21 ?_
      refine G_aload1 x eX6_readFactor_22 ?_
      refine G_cV x eX6_readFactor_23 kX6_51 im_yX6_readNumber se_yX6_readNumber rm hM.m (ct_X6_readNumber hM hX hl h0 (by omega) hd) rfl ?_
      refine G_push x eX6_readFactor_26 ?_
      refine G_cVv x eX6_readFactor_27 kX6_55 im_yX6_addFactor se_yX6_addFactor rm hM.m (ct_X6_addFactor hM (by rw [uI_k (by omega)]; exact f0) (by rw [uI_k (by omega)]; exact f1) (by first | omega | exact hr _ _ | exact hr0 _ _ | exact hrS _) (by first | omega | exact hr _ _ | exact hr0 _ _ | exact hrS _) (by first | omega | exact hr _ _ | exact hr0 _ _ | exact hrS _) (by first | omega | exact hr _ _ | exact hr0 _ _ | exact hrS _)) rfl ?_
      refine G_push x eX6_readFactor_30 ?_
      refine G_zreturn x en eX6_readFactor_31 (by omega) (by omega) ?_ ?_
      · first | exact Or.inl rfl | exact Or.inr rfl | omega
      · exact ⟨by rw [hF]; rfl, rfl, by rw [hF, rfO_t (by show ¬ (0 : Int) = -1; omega)], rfl, rfl⟩
  · rw [if_neg q1] at hF
    by_cases q2 : ch (I (tx + 1)) (I tx 1) (I rd 2) = 83
    · rw [if_pos q2] at hF
      have cS := ct_X6_readSum (J := J) (S := S) (r := r) (sg := sg) hM hX hP hL hl h0 h1 hd hd2 hch hsg f0 f1 q2
      rw [← hF] at cS
      have vs : in32 (if fp.2.1 = -1 then (0 : Int) else 1) := by split <;> omega
      have e46 : ∀ Ls, G X 46 Ls [VI (if fp.2.1 = -1 then (0 : Int) else 1)] T (rfO I rd sg fp) J O 0 0 := fun Ls => by
        refine G_zreturn x en eX6_readFactor_46 (by omega) (by omega) (by split <;> omega) ?_
        exact pv_i
      refine G_rg (fun hr => ?_)
      refine G_aload1 x eX6_readFactor_0 ?_
      refine G_aload0 x eX6_readFactor_1 ?_
      refine G_geti x eX6_readFactor_2 fX6_21 rfl rfl hM.m (fun h2 => ?_)
      refine G_cV x eX6_readFactor_5 kX6_34 im_yX9_at se_yX9_at rm hX.m (ct_X9_at hX (by first | omega | exact hr _ _ | exact hr0 _ _ | exact hrS _) hl) rfl ?_
      refine G_istore4 x eX6_readFactor_8 ?_
      refine G_iload4 x eX6_readFactor_10 ?_
      refine G_cS x eX6_readFactor_12 kX6_47 sm_yX6_isDigit rm (ct_X6_isDigit hc) rfl ?_
      refine G_ifb_eq x eX6_readFactor_15 (fun c15 => ?_) (fun c15 => ?_)
      · refine G_iload4 x eX6_readFactor_32 ?_
        refine G_push x eX6_readFactor_34 ?_
        refine G_icmp_ne x eX6_readFactor_36 (by first | omega | exact hr _ _ | exact hr0 _ _ | exact hrS _) (by first | omega | exact hr _ _ | exact hr0 _ _ | exact hrS _) (fun c36 => ?_) (fun c36 => ?_)
        · omega
        · refine G_aload0 x eX6_readFactor_39 ?_
          refine G_aload1 x eX6_readFactor_40 ?_
          refine G_aload2 x eX6_readFactor_41 ?_
          refine G_iload3 x eX6_readFactor_42 ?_
          refine G_cV x eX6_readFactor_43 kX6_59 im_yX6_readSum se_yX6_readSum rm hM.m cS rfl ?_
          exact e46 _
      · contradiction
    · rw [if_neg q2] at hF
      by_cases q3 : mc.2 = -1
      · rw [if_pos q3] at hF
        refine G_rg (fun hr => ?_)
        refine G_aload1 x eX6_readFactor_0 ?_
        refine G_aload0 x eX6_readFactor_1 ?_
        refine G_geti x eX6_readFactor_2 fX6_21 rfl rfl hM.m (fun h2 => ?_)
        refine G_cV x eX6_readFactor_5 kX6_34 im_yX9_at se_yX9_at rm hX.m (ct_X9_at hX (by first | omega | exact hr _ _ | exact hr0 _ _ | exact hrS _) hl) rfl ?_
        refine G_istore4 x eX6_readFactor_8 ?_
        refine G_iload4 x eX6_readFactor_10 ?_
        refine G_cS x eX6_readFactor_12 kX6_47 sm_yX6_isDigit rm (ct_X6_isDigit hc) rfl ?_
        refine G_ifb_eq x eX6_readFactor_15 (fun c15 => ?_) (fun c15 => ?_)
        · refine G_iload4 x eX6_readFactor_32 ?_
          refine G_push x eX6_readFactor_34 ?_
          refine G_icmp_ne x eX6_readFactor_36 (by first | omega | exact hr _ _ | exact hr0 _ _ | exact hrS _) (by first | omega | exact hr _ _ | exact hr0 _ _ | exact hrS _) (fun c36 => ?_) (fun c36 => ?_)
          · refine G_aload0 x eX6_readFactor_47 ?_
            refine G_aload1 x eX6_readFactor_48 ?_
            refine G_aload2 x eX6_readFactor_49 ?_
            refine G_cV x eX6_readFactor_50 kX6_62 im_yX6_readCell se_yX6_readCell rm hM.m cC rfl ?_
            refine G_istore5 x eX6_readFactor_53 ?_
            refine G_iload5 x eX6_readFactor_55 ?_
            refine G_push x eX6_readFactor_57 ?_
            rw [q3]
            refine G_icmp_ne x eX6_readFactor_58 (by first | omega | exact hr _ _ | exact hr0 _ _ | exact hrS _) (by first | omega | exact hr _ _ | exact hr0 _ _ | exact hrS _) (fun c58 => ?_) (fun c58 => ?_)
            · omega
            · refine G_push x eX6_readFactor_61 ?_
              refine G_zreturn x en eX6_readFactor_62 (by omega) (by omega) ?_ ?_
              · first | exact Or.inl rfl | exact Or.inr rfl | omega
              · exact ⟨by rw [hF]; rfl, rfl, by rw [hF, rfO_f rfl], rfl, rfl⟩
          · omega
        · contradiction
      · rw [if_neg q3] at hF
        refine G_rg (fun hr => ?_)
        refine G_aload1 x eX6_readFactor_0 ?_
        refine G_aload0 x eX6_readFactor_1 ?_
        refine G_geti x eX6_readFactor_2 fX6_21 rfl rfl hM.m (fun h2 => ?_)
        refine G_cV x eX6_readFactor_5 kX6_34 im_yX9_at se_yX9_at rm hX.m (ct_X9_at hX (by first | omega | exact hr _ _ | exact hr0 _ _ | exact hrS _) hl) rfl ?_
        refine G_istore4 x eX6_readFactor_8 ?_
        refine G_iload4 x eX6_readFactor_10 ?_
        refine G_cS x eX6_readFactor_12 kX6_47 sm_yX6_isDigit rm (ct_X6_isDigit hc) rfl ?_
        refine G_ifb_eq x eX6_readFactor_15 (fun c15 => ?_) (fun c15 => ?_)
        · refine G_iload4 x eX6_readFactor_32 ?_
          refine G_push x eX6_readFactor_34 ?_
          refine G_icmp_ne x eX6_readFactor_36 (by first | omega | exact hr _ _ | exact hr0 _ _ | exact hrS _) (by first | omega | exact hr _ _ | exact hr0 _ _ | exact hrS _) (fun c36 => ?_) (fun c36 => ?_)
          · refine G_aload0 x eX6_readFactor_47 ?_
            refine G_aload1 x eX6_readFactor_48 ?_
            refine G_aload2 x eX6_readFactor_49 ?_
            refine G_cV x eX6_readFactor_50 kX6_62 im_yX6_readCell se_yX6_readCell rm hM.m cC rfl ?_
            refine G_istore5 x eX6_readFactor_53 ?_
            refine G_iload5 x eX6_readFactor_55 ?_
            refine G_push x eX6_readFactor_57 ?_
            refine G_icmp_ne x eX6_readFactor_58 (by first | omega | exact hr _ _ | exact hr0 _ _ | exact hrS _) (by first | omega | exact hr _ _ | exact hr0 _ _ | exact hrS _) (fun c58 => ?_) (fun c58 => ?_)
            · refine G_aload0 x eX6_readFactor_63 ?_
              refine G_iload3 x eX6_readFactor_64 ?_
              refine G_push x eX6_readFactor_65 ?_
              refine G_iload5 x eX6_readFactor_66 ?_
              refine G_iload5 x eX6_readFactor_68 ?_
              refine G_cVv x eX6_readFactor_70 kX6_55 im_yX6_addFactor se_yX6_addFactor rm hM.m (ct_X6_addFactor hM (by rw [uI_k (by omega)]; exact f0) (by rw [uI_k (by omega)]; exact f1) (by first | omega | exact hr _ _ | exact hr0 _ _ | exact hrS _) (by first | omega | exact hr _ _ | exact hr0 _ _ | exact hrS _) (by first | omega | exact hr _ _ | exact hr0 _ _ | exact hrS _) (by first | omega | exact hr _ _ | exact hr0 _ _ | exact hrS _)) rfl ?_
              refine G_push x eX6_readFactor_73 ?_
              refine G_zreturn x en eX6_readFactor_74 (by omega) (by omega) ?_ ?_
              · first | exact Or.inl rfl | exact Or.inr rfl | omega
              · exact ⟨by rw [hF]; rfl, rfl, by rw [hF, rfO_t (by show ¬ (1 : Int) = -1; omega)], rfl, rfl⟩
            · omega
          · omega
        · contradiction
