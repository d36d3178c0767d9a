noncomputable def rmThr (S : Int → Int) (r kd p : Int) : Int := if 0 ≤ r ∧ r ≤ 2 then (if 0 ≤ p ∧ p < rwN S r kd (-1) then (if S r = 40 then 2 else 0) else 1) else 1
noncomputable def rmS (S : Int → Int) (r kd p : Int) : Int → Int := mksS S r 3 kd (rwF S r kd (-1) p) (-1)
set_option maxHeartbeats 1000000 in
set_option maxRecDepth 20000 in
theorem ct_X11_remove {T : gT} {I : gI} {J : gJ} {O : gO} {mo : Nat} {r b p : Int} (hM : MoAt T O mo) (h0 : in32 r) (h1 : b = 0 ∨ b = 1) (h2 : in32 p) (h3 : 0 ≤ I mo 3 ∧ I mo 3 ≤ 4) (h4 : 0 ≤ r → r ≤ 2 → prOk (I (mo + 1)) r) : Ct yX11_remove cX11_remove 6 (some .int) [va_rf (some mo), VI r, VI b, VI p] 3 76 0 0 T I J O (if rmThr (I (mo + 1)) r b p = 0 then mDo T I J O mo (rwN (I (mo + 1)) r b (-1) - 1) (rmS (I (mo + 1)) r b p) else mSay T I J O mo 0 (rmThr (I (mo + 1)) r b p)) := by
  refine Ct.of (by decide) [some (va_rf (some mo)), some (VI r), some (VI b), some (VI p), none, none] (gEn1 (List.forall_mem_cons.mpr ⟨cat_VR _, List.forall_mem_cons.mpr ⟨cat_VI _, List.forall_mem_cons.mpr ⟨cat_VI _, List.forall_mem_cons.mpr ⟨cat_VI _, fun _ h => nomatch h⟩⟩⟩⟩) rfl (Nat.le_of_ble_eq_true rfl) rfl) ?_
  intro X x en rm ini hr hz
  have hr0 := hr
  refine G_iload2 x eX11_remove_0 ?_
  refine G_cS x eX11_remove_1 kX11_123 sm_yX11_kindOf rm (ct_X11_kindOf (by omega)) rfl ?_
  refine G_istore4 x eX11_remove_4 ?_
  refine G_iload1 x eX11_remove_6 ?_
  refine G_cS x eX11_remove_7 kX11_127 sm_yX11_isReplica rm (ct_X11_isReplica (by first | omega | exact hr _ _ | exact hr0 _ _)) rfl ?_
  refine G_ifb_ne x eX11_remove_10 (fun c10 => ?_) (fun c10 => ?_)
  · obtain ⟨⟨s0, s1⟩, ⟨k0, k1⟩, hk, hc⟩ := h4 c10.1 c10.2
    refine G_aload0 x eX11_remove_19 ?_
    refine G_iload1 x eX11_remove_20 ?_
    refine G_iload4 x eX11_remove_21 ?_
    refine G_push x eX11_remove_23 ?_
    refine G_aload0 x eX11_remove_24 ?_
    refine G_getq x eX11_remove_25 fX11_28 rfl rfl hM.m hM.o_some ?_
    refine G_cVg x eX11_remove_28 kX11_95 im_yX11_lays se_yX11_lays rm hM.m (ct_X11_lays hM hM.t_some (by omega) (by omega) (by omega) (by omega) (by omega)) rfl (fun v28 T28 I28 J28 O28 p28 => ?_)
    refine G_rg (fun hr => ?_)
    obtain ⟨rfl, rfl, rfl, hf, n, rfl, hE⟩ := p28
    have hEb := hE.2.1
    have hEa := hE.1
    have hEc := rw_eq hE
    have hs : ∀ j, I28 (mo + 1) j = I (mo + 1) j := hf _ (by omega)
    refine G_istore5 x eX11_remove_31 ?_
    refine G_iload3 x eX11_remove_33 ?_
    refine G_push x eX11_remove_34 ?_
    refine G_iload5 x eX11_remove_35 ?_
    refine G_push x eX11_remove_37 ?_
    refine G_isub x eX11_remove_38 ?_
    refine G_cS x eX11_remove_39 kX11_87 sm_yX11_in rm (ct_X11_in (by first | omega | exact hr _ _ | exact hr0 _ _) (by first | omega | exact hr _ _ | exact hr0 _ _) (by first | omega | exact hr _ _ | exact hr0 _ _)) rfl ?_
    refine G_ifb_ne x eX11_remove_42 (fun c42 => ?_) (fun c42 => ?_)
    · have hthr : rmThr (I (mo + 1)) r b p = if I (mo + 1) r = 40 then 2 else 0 := by
        unfold rmThr
        rw [if_pos c10, if_pos (by omega)]
      refine G_aload0 x eX11_remove_51 ?_
      refine G_iload1 x eX11_remove_52 ?_
      refine G_cV x eX11_remove_53 kX11_138 im_yX11_isFull se_yX11_isFull rm hM.m (ct_X11_isFull hM (by omega) (by omega)) rfl ?_
      refine G_ifb_eq x eX11_remove_56 (fun c56 => ?_) (fun c56 => ?_)
      · rw [hs] at c56
        have e0 := holdS hs
        have hl := hE.2.2.2.1 p (by omega) (by omega)
        have hls : I28 (mo + 7) p = rwF (I (mo + 1)) r b (-1) p := hEc.2 p (by omega) (by omega)
        refine G_aload0 x eX11_remove_65 ?_
        refine G_cVv x eX11_remove_66 kX11_141 im_yX11_hold se_yX11_hold rm hM.m (ct_X11_hold hM) rfl ?_
        refine G_rg (fun hr => ?_)
        generalize hH : cpI I28 (mo + 3) (mo + 1) 0 0 4653 = H2
        have e1 : H2 (mo + 1) = I (mo + 1) := by rw [← hH, e0]
        have e2 : H2 (mo + 1) r = I (mo + 1) r := by rw [e1]
        have e3 : H2 (mo + 1) (3843 + 270 * r + 0) = I (mo + 1) (3843 + 270 * r + 0) := by rw [e1]
        have e8 : H2 (mo + 7) p = rwF (I (mo + 1)) r b (-1) p := by rw [← hH, cpI_b (by omega)]; exact hls
        rw [hls] at hl
        refine G_aload0 x eX11_remove_69 ?_
        refine G_iload1 x eX11_remove_70 ?_
        refine G_push x eX11_remove_71 ?_
        refine G_iload4 x eX11_remove_72 ?_
        refine G_aload0 x eX11_remove_74 ?_
        refine G_getq x eX11_remove_75 fX11_28 rfl rfl hM.m hM.o_some ?_
        refine G_iload3 x eX11_remove_78 ?_
        refine G_iald x eX11_remove_79 rfl hM.t_some (by omega) (by omega) (by omega) (fun h79 => ?_)
        rw [e8]
        refine G_push x eX11_remove_80 ?_
        refine G_cVv x eX11_remove_81 kX11_144 im_yX11_makes se_yX11_makes rm hM.m (ct_X11_makes hM (by omega) (by omega) (by rw [e2]; exact s0) (by rw [e2]; omega) (by omega) (by omega) (by omega) (by omega) (by omega) (by omega) (by omega) (by rw [e3]; exact k0) (by rw [e3]; exact k1) (by omega)) rfl ?_
        refine G_rg (fun hr => ?_)
        generalize hH3 : mksI H2 mo r 3 b (rwF (I (mo + 1)) r b (-1) p) (-1) = H3
        have e6 : ∀ b9, b9 ≠ mo + 1 → ∀ j, H3 b9 j = H2 b9 j := fun b9 hb9 j => by rw [← hH3, mksI_row, rowI_o hb9]
        have e5 : H3 mo 3 = I mo 3 := by rw [e6 mo (by omega), ← hH, cpI_b (by omega)]; exact hf _ (by omega) _
        refine G_aload0 x eX11_remove_84 ?_
        refine G_iload5 x eX11_remove_85 ?_
        refine G_push x eX11_remove_87 ?_
        refine G_isub x eX11_remove_88 ?_
        refine G_cV x eX11_remove_89 kX11_148 im_yX11_ends se_yX11_ends rm hM.m (ct_X11_ends hM (by omega) (by rw [e5]; omega) (by rw [e5]; omega)) rfl ?_
        refine G_rg (fun hr => ?_)
        refine G_ireturn x en eX11_remove_92 (by omega) (by omega) ?_
        have ht0 : rmThr (I (mo + 1)) r b p = 0 := by rw [hthr, if_neg c56]
        rw [if_pos ht0, ← hEc.1]
        refine mDo_i (I1 := I28) (fun b hb j => hf b (by omega) j) hs (hf _ (by omega)) (hf _ (by omega)) (hf _ (by omega) _) (hf _ (by omega) _) (fun b9 q1 q2 j q3 => by rw [e6 b9 q1, hH]) (fun j q1 q2 => ?_)
        rw [← hH3, mksI_row, rowI_s, e1]
        rfl
      · rw [hs] at c56
        refine G_aload0 x eX11_remove_59 ?_
        refine G_push x eX11_remove_60 ?_
        refine G_cV x eX11_remove_61 kX11_131 im_yX11_fails se_yX11_fails rm hM.m (ct_X11_fails hM (by first | omega | exact hr _ _ | exact hr0 _ _)) rfl ?_
        refine G_rg (fun hr => ?_)
        refine G_ireturn x en eX11_remove_64 (by omega) (by omega) ?_
        rw [hthr, if_pos c56, if_neg (by omega)]
        exact mSay_i (fun b hb j => ⟨hf b (by omega) j, rfl⟩) hs (hf _ (by omega)) (hf _ (by omega)) (hf _ (by omega) _) (hf _ (by omega) _)
    · refine G_aload0 x eX11_remove_45 ?_
      refine G_push x eX11_remove_46 ?_
      refine G_cV x eX11_remove_47 kX11_131 im_yX11_fails se_yX11_fails rm hM.m (ct_X11_fails hM (by first | omega | exact hr _ _ | exact hr0 _ _)) rfl ?_
      refine G_rg (fun hr => ?_)
      refine G_ireturn x en eX11_remove_50 (by omega) (by omega) ?_
      have ht : rmThr (I (mo + 1)) r b p = 1 := by unfold rmThr; rw [if_pos c10, if_neg (by omega)]
      rw [ht, if_neg (by omega)]
      exact mSay_i (fun b hb j => ⟨hf b (by omega) j, rfl⟩) hs (hf _ (by omega)) (hf _ (by omega)) (hf _ (by omega) _) (hf _ (by omega) _)
  · refine G_aload0 x eX11_remove_13 ?_
    refine G_push x eX11_remove_14 ?_
    refine G_cV x eX11_remove_15 kX11_131 im_yX11_fails se_yX11_fails rm hM.m (ct_X11_fails hM (by first | omega | exact hr _ _ | exact hr0 _ _)) rfl ?_
    refine G_rg (fun hr => ?_)
    refine G_ireturn x en eX11_remove_18 (by omega) (by omega) ?_
    have ht : rmThr (I (mo + 1)) r b p = 1 := by unfold rmThr; rw [if_neg c10]
    rw [ht, if_neg (by omega)]
    exact mSay_i (fun b hb j => ⟨rfl, rfl⟩) (fun j => rfl) (fun j => rfl) (fun j => rfl) rfl rfl
noncomputable def mvThr (S : Int → Int) (r kd p q : Int) : Int := if 0 ≤ r ∧ r ≤ 2 then (if (0 ≤ p ∧ p < rwN S r kd (-1)) ∧ 0 ≤ q ∧ q < rwN S r kd (-1) then (if mkPl S r kd (rwF S r kd (-1) p) q = -1 ∨ S r = 40 then 2 else 0) else 1) else 1
noncomputable def mvS (S : Int → Int) (r kd p q : Int) : Int → Int := mksS S r 2 kd (rwF S r kd (-1) p) (mkPl S r kd (rwF S r kd (-1) p) q)
