noncomputable def nmThr (S : Int → Int) (r row col num : Int) : Int := if cellIn S r row col then (if -9999 ≤ num ∧ num ≤ 9999 then (if S r = 40 then 3 else 0) else 2) else 1
noncomputable def clThr (S : Int → Int) (r row col : Int) : Int := if cellIn S r row col then (if S r = 40 then 2 else 0) else 1
noncomputable def wtS (S : Int → Int) (r row col kind num signs : Int) (f : Int → Int) : Int → Int := mksS (wrS S r kind num signs f) r 4 (-1) (rwF S r 0 (-1) row) (rwF S r 1 (-1) col)
theorem lkI.say {T : gT} {I I' : gI} {J J' : gJ} {O : gO} {mo : Nat} {r ans thr : Int} (h : lkI I I' mo r) (hJ : ∀ b, b < mo ∨ mo + 20 < b → ∀ j, J' b j = J b j) : mSay T I J O mo ans thr (some (VI ans)) T (uI I' mo 6 thr) J' O :=
  mSay_i (fun b hb j => ⟨h.1 b (by omega) (by omega) (by omega) j, hJ b hb j⟩) (h.1 _ (by omega) (by omega) (by omega)) (h.1 _ (by omega) (by omega) (by omega)) (h.1 _ (by omega) (by omega) (by omega)) (h.2.1 _ (by omega) (by omega)) (h.2.1 _ (by omega) (by omega))
theorem icP.say {T : gT} {I I' : gI} {J : gJ} {O : gO} {mo : Nat} {r ans thr : Int} (h : (¬ (0 ≤ r ∧ r ≤ 2) ∧ I' = I) ∨ ((0 ≤ r ∧ r ≤ 2) ∧ lkI I I' mo r)) : mSay T I J O mo ans thr (some (VI ans)) T (uI I' mo 6 thr) J O := by
  rcases h with ⟨-, rfl⟩ | ⟨-, h⟩
  · exact mSay_i (fun b hb j => ⟨rfl, rfl⟩) (fun j => rfl) (fun j => rfl) (fun j => rfl) rfl rfl
  · exact h.say (fun _ _ _ => rfl)
theorem icP.lk {I I' : gI} {mo : Nat} {r : Int} (h : (¬ (0 ≤ r ∧ r ≤ 2) ∧ I' = I) ∨ ((0 ≤ r ∧ r ≤ 2) ∧ lkI I I' mo r)) (hr : 0 ≤ r ∧ r ≤ 2) : lkI I I' mo r := by
  rcases h with ⟨h, -⟩ | ⟨-, h⟩
  · exact absurd hr h
  · exact h
set_option maxHeartbeats 1000000 in
set_option maxRecDepth 20000 in
theorem ct_X11_setNumber {T : gT} {I : gI} {J : gJ} {O : gO} {mo : Nat} {r row col num : Int} (hM : MoAt T O mo) (h0 : in32 r) (h1 : in32 row) (h2 : in32 col) (h5 : in32 num) (h3 : 0 ≤ I mo 3 ∧ I mo 3 ≤ 4) (h4 : 0 ≤ r → r ≤ 2 → prOk (I (mo + 1)) r) : Ct yX11_setNumber cX11_setNumber 5 (some .int) [va_rf (some mo), VI r, VI row, VI col, VI num] 5 115 0 0 T I J O (if nmThr (I (mo + 1)) r row col num = 0 then mDo T I J O mo (I (mo + 1) (3843 + 270 * r + 0) + 1) (wtS (I (mo + 1)) r row col 1 num 0 (I (mo + 8))) else mSay T I J O mo 0 (nmThr (I (mo + 1)) r row col num)) := by
  refine Ct.of (by decide) [some (va_rf (some mo)), some (VI r), some (VI row), some (VI col), some (VI num)] (gEn1 (List.forall_mem_cons.mpr ⟨cat_VR _, List.forall_mem_cons.mpr ⟨cat_VI _, List.forall_mem_cons.mpr ⟨cat_VI _, List.forall_mem_cons.mpr ⟨cat_VI _, List.forall_mem_cons.mpr ⟨cat_VI _, fun _ h => nomatch h⟩⟩⟩⟩⟩) rfl (Nat.le_of_ble_eq_true rfl) rfl) ?_
  intro X x en rm ini hr hz
  have hr0 := hr
  refine G_aload0 x eX11_setNumber_0 ?_
  refine G_iload1 x eX11_setNumber_1 ?_
  refine G_iload2 x eX11_setNumber_2 ?_
  refine G_iload3 x eX11_setNumber_3 ?_
  refine G_cVg x eX11_setNumber_4 kX11_159 im_yX11_isCell se_yX11_isCell rm hM.m (ct_X11_isCell hM (by first | omega | exact hr _ _ | exact hr0 _ _) (by first | omega | exact hr _ _ | exact hr0 _ _) (by first | omega | exact hr _ _ | exact hr0 _ _)) rfl (fun v4 T4 I4 J4 O4 p4 => ?_)
  refine G_rg (fun hr => ?_)
  obtain ⟨rfl, rfl, rfl, rfl, hic⟩ := p4
  refine G_ifb_ne x eX11_setNumber_7 (fun c7 => ?_) (fun c7 => ?_)
  · have hlk := icP.lk hic c7.1
    have hs : ∀ j, I4 (mo + 1) j = I (mo + 1) j := hlk.1 _ (by omega) (by omega) (by omega)
    have hpr := h4 c7.1.1 c7.1.2
    have e8 : I4 (mo + 8) = I (mo + 8) := funext fun j => hlk.1 _ (by omega) (by omega) (by omega) j
    have e3 : I4 mo 3 = I mo 3 := hlk.2.1 _ (by omega) (by omega)
    refine G_iload4 x eX11_setNumber_16 ?_
    refine G_push x eX11_setNumber_18 ?_
    refine G_push x eX11_setNumber_21 ?_
    refine G_cS x eX11_setNumber_24 kX11_87 sm_yX11_in rm (ct_X11_in (by first | omega | exact hr _ _ | exact hr0 _ _) (by first | omega | exact hr _ _ | exact hr0 _ _) (by first | omega | exact hr _ _ | exact hr0 _ _)) rfl ?_
    refine G_ifb_ne x eX11_setNumber_27 (fun c27 => ?_) (fun c27 => ?_)
    · have ht : nmThr (I (mo + 1)) r row col num = if I (mo + 1) r = 40 then 3 else 0 := by unfold nmThr; rw [if_pos c7, if_pos c27]
      refine G_aload0 x eX11_setNumber_36 ?_
      refine G_iload1 x eX11_setNumber_37 ?_
      refine G_cV x eX11_setNumber_38 kX11_138 im_yX11_isFull se_yX11_isFull rm hM.m (ct_X11_isFull hM (by omega) (by omega)) rfl ?_
      refine G_ifb_eq x eX11_setNumber_41 (fun c41 => ?_) (fun c41 => ?_)
      · rw [hs] at c41
        refine G_aload0 x eX11_setNumber_52 ?_
        refine G_iload1 x eX11_setNumber_53 ?_
        refine G_iload2 x eX11_setNumber_54 ?_
        refine G_iload3 x eX11_setNumber_55 ?_
        refine G_push x eX11_setNumber_56 ?_
        refine G_iload4 x eX11_setNumber_57 ?_
        refine G_push x eX11_setNumber_59 ?_
        refine G_cVg x eX11_setNumber_60 kX11_162 im_yX11_writes se_yX11_writes rm hM.m (ct_X11_writes (I0 := I) hM c7.1.1 c7.1.2 c7.2.1 c7.2.2 (by omega) (by omega) (by omega) (by omega) hpr c41 hlk.w) rfl (fun v60 T60 I60 J60 O60 p60 => ?_)
        refine G_rg (fun hr => ?_)
        obtain ⟨rfl, hR⟩ := p60
        refine G_ireturn x en eX11_setNumber_63 (by omega) (by omega) ?_
        rw [ht, if_neg c41, if_pos rfl]
        rw [e8] at hR
        exact ⟨rfl, hR⟩
      · rw [hs] at c41
        refine G_aload0 x eX11_setNumber_44 ?_
        refine G_push x eX11_setNumber_45 ?_
        refine G_cV x eX11_setNumber_46 kX11_131 im_yX11_fails se_yX11_fails rm hM.m (ct_X11_fails hM (by first | omega | exact hr _ _ | exact hr0 _ _)) rfl ?_
        refine G_rg (fun hr => ?_)
        refine G_goto x eX11_setNumber_49 ?_
        refine G_ireturn x en eX11_setNumber_63 (by omega) (by omega) ?_
        rw [ht, if_pos c41, if_neg (by omega)]
        exact hlk.say (fun _ _ _ => rfl)
    · refine G_aload0 x eX11_setNumber_30 ?_
      refine G_push x eX11_setNumber_31 ?_
      refine G_cV x eX11_setNumber_32 kX11_131 im_yX11_fails se_yX11_fails rm hM.m (ct_X11_fails hM (by first | omega | exact hr _ _ | exact hr0 _ _)) rfl ?_
      refine G_rg (fun hr => ?_)
      refine G_ireturn x en eX11_setNumber_35 (by omega) (by omega) ?_
      have ht : nmThr (I (mo + 1)) r row col num = 2 := by unfold nmThr; rw [if_pos c7, if_neg c27]
      rw [ht, if_neg (by omega)]
      exact hlk.say (fun _ _ _ => rfl)
  · refine G_aload0 x eX11_setNumber_10 ?_
    refine G_push x eX11_setNumber_11 ?_
    refine G_cV x eX11_setNumber_12 kX11_131 im_yX11_fails se_yX11_fails rm hM.m (ct_X11_fails hM (by first | omega | exact hr _ _ | exact hr0 _ _)) rfl ?_
    refine G_rg (fun hr => ?_)
    refine G_ireturn x en eX11_setNumber_15 (by omega) (by omega) ?_
    have ht : nmThr (I (mo + 1)) r row col num = 1 := by unfold nmThr; rw [if_neg c7]
    rw [ht, if_neg (by omega)]
    exact icP.say hic
set_option maxHeartbeats 1000000 in
set_option maxRecDepth 20000 in
theorem ct_X11_clearCell {T : gT} {I : gI} {J : gJ} {O : gO} {mo : Nat} {r row col : Int} (hM : MoAt T O mo) (h0 : in32 r) (h1 : in32 row) (h2 : in32 col) (h3 : 0 ≤ I mo 3 ∧ I mo 3 ≤ 4) (h4 : 0 ≤ r → r ≤ 2 → prOk (I (mo + 1)) r) : Ct yX11_clearCell cX11_clearCell 4 (some .int) [va_rf (some mo), VI r, VI row, VI col] 5 115 0 0 T I J O (if clThr (I (mo + 1)) r row col = 0 then mDo T I J O mo (I (mo + 1) (3843 + 270 * r + 0) + 1) (wtS (I (mo + 1)) r row col 0 0 0 (I (mo + 8))) else mSay T I J O mo 0 (clThr (I (mo + 1)) r row col)) := by
  refine Ct.of (by decide) [some (va_rf (some mo)), some (VI r), some (VI row), some (VI col)] (gEn1 (List.forall_mem_cons.mpr ⟨cat_VR _, List.forall_mem_cons.mpr ⟨cat_VI _, List.forall_mem_cons.mpr ⟨cat_VI _, List.forall_mem_cons.mpr ⟨cat_VI _, fun _ h => nomatch h⟩⟩⟩⟩) rfl (Nat.le_of_ble_eq_true rfl) rfl) ?_
  intro X x en rm ini hr hz
  have hr0 := hr
  refine G_aload0 x eX11_clearCell_0 ?_
  refine G_iload1 x eX11_clearCell_1 ?_
  refine G_iload2 x eX11_clearCell_2 ?_
  refine G_iload3 x eX11_clearCell_3 ?_
  refine G_cVg x eX11_clearCell_4 kX11_159 im_yX11_isCell se_yX11_isCell rm hM.m (ct_X11_isCell hM (by first | omega | exact hr _ _ | exact hr0 _ _) (by first | omega | exact hr _ _ | exact hr0 _ _) (by first | omega | exact hr _ _ | exact hr0 _ _)) rfl (fun v4 T4 I4 J4 O4 p4 => ?_)
  refine G_rg (fun hr => ?_)
  obtain ⟨rfl, rfl, rfl, rfl, hic⟩ := p4
  refine G_ifb_ne x eX11_clearCell_7 (fun c7 => ?_) (fun c7 => ?_)
  · have hlk := icP.lk hic c7.1
    have hs : ∀ j, I4 (mo + 1) j = I (mo + 1) j := hlk.1 _ (by omega) (by omega) (by omega)
    have hpr := h4 c7.1.1 c7.1.2
    have e8 : I4 (mo + 8) = I (mo + 8) := funext fun j => hlk.1 _ (by omega) (by omega) (by omega) j
    have e3 : I4 mo 3 = I mo 3 := hlk.2.1 _ (by omega) (by omega)
    have ht : clThr (I (mo + 1)) r row col = if I (mo + 1) r = 40 then 2 else 0 := by unfold clThr; rw [if_pos c7]
    refine G_aload0 x eX11_clearCell_16 ?_
    refine G_iload1 x eX11_clearCell_17 ?_
    refine G_cV x eX11_clearCell_18 kX11_138 im_yX11_isFull se_yX11_isFull rm hM.m (ct_X11_isFull hM (by omega) (by omega)) rfl ?_
    refine G_ifb_eq x eX11_clearCell_21 (fun c21 => ?_) (fun c21 => ?_)
    · rw [hs] at c21
      refine G_aload0 x eX11_clearCell_32 ?_
      refine G_iload1 x eX11_clearCell_33 ?_
      refine G_iload2 x eX11_clearCell_34 ?_
      refine G_iload3 x eX11_clearCell_35 ?_
      refine G_push x eX11_clearCell_36 ?_
      refine G_push x eX11_clearCell_37 ?_
      refine G_push x eX11_clearCell_38 ?_
      refine G_cVg x eX11_clearCell_39 kX11_162 im_yX11_writes se_yX11_writes rm hM.m (ct_X11_writes (I0 := I) hM c7.1.1 c7.1.2 c7.2.1 c7.2.2 (by omega) (by omega) (by omega) (by omega) hpr c21 hlk.w) rfl (fun v39 T39 I39 J39 O39 p39 => ?_)
      refine G_rg (fun hr => ?_)
      obtain ⟨rfl, hR⟩ := p39
      refine G_ireturn x en eX11_clearCell_42 (by omega) (by omega) ?_
      rw [ht, if_neg c21, if_pos rfl]
      rw [e8] at hR
      exact ⟨rfl, hR⟩
    · rw [hs] at c21
      refine G_aload0 x eX11_clearCell_24 ?_
      refine G_push x eX11_clearCell_25 ?_
      refine G_cV x eX11_clearCell_26 kX11_131 im_yX11_fails se_yX11_fails rm hM.m (ct_X11_fails hM (by first | omega | exact hr _ _ | exact hr0 _ _)) rfl ?_
      refine G_rg (fun hr => ?_)
      refine G_goto x eX11_clearCell_29 ?_
      refine G_ireturn x en eX11_clearCell_42 (by omega) (by omega) ?_
      rw [ht, if_pos c21, if_neg (by omega)]
      exact hlk.say (fun _ _ _ => rfl)
  · refine G_aload0 x eX11_clearCell_10 ?_
    refine G_push x eX11_clearCell_11 ?_
    refine G_cV x eX11_clearCell_12 kX11_131 im_yX11_fails se_yX11_fails rm hM.m (ct_X11_fails hM (by first | omega | exact hr _ _ | exact hr0 _ _)) rfl ?_
    refine G_rg (fun hr => ?_)
    refine G_ireturn x en eX11_clearCell_15 (by omega) (by omega) ?_
    have ht : clThr (I (mo + 1)) r row col = 1 := by unfold clThr; rw [if_neg c7]
    rw [ht, if_neg (by omega)]
    exact icP.say hic
