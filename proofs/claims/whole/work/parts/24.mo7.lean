/-- places of shown lines are small numbers -/
def plOk (S : Int → Int) (r kd : Int) : Prop := ∀ l, 0 ≤ l → l < 12 → shS S r kd (-1) l → 0 ≤ plS S r kd l ∧ plS S r kd l ≤ 1000000
theorem plOk.b {S : Int → Int} {r kd w n : Int} {f : Int → Int} (h : plOk S r kd) (hE : En (plS S r kd) (shS S r kd w) 12 f n) : ∀ i, 0 ≤ i → i < n → 0 ≤ plS S r kd (f i) ∧ plS S r kd (f i) ≤ 1000000 := fun i h1 h2 => by
  have := hE.2.2.2.1 i h1 h2
  exact h _ this.1 this.2.1 ⟨this.2.2.1, by omega⟩
theorem btw_c {pl f g : Int → Int} {n p : Int} (h : ∀ i, 0 ≤ i → i < n → f i = g i) (h0 : 0 ≤ p) (h1 : p ≤ n) : btw pl f n p = btw pl g n p := by
  unfold btw
  by_cases e : p = 0
  · by_cases e2 : p = n
    · simp only [if_pos e, if_pos e2]
    · simp only [if_pos e, if_neg e2, h p h0 (by omega)]
  · by_cases e2 : p = n
    · simp only [if_neg e, if_pos e2, h (p - 1) (by omega) (by omega)]
    · simp only [if_neg e, if_neg e2, h p h0 (by omega), h (p - 1) (by omega) (by omega)]
set_option maxRecDepth 20000 in
theorem ct_X11_shown {T : gT} {I : gI} {J : gJ} {O : gO} {mo : Nat} {r b : Int} (hM : MoAt T O mo) (h0 : in32 r) (h1 : b = 0 ∨ b = 1) : Ct yX11_shown cX11_shown 3 (some .int) [va_rf (some mo), VI r, VI b] 3 71 0 0 T I J O (if 0 ≤ r ∧ r ≤ 2 then mSay T I J O mo (rwN (I (mo + 1)) r b (-1)) 0 else mSay T I J O mo 0 1) := by
  refine Ct.of (by decide) [some (va_rf (some mo)), some (VI r), some (VI b)] (gEn1 (List.forall_mem_cons.mpr ⟨cat_VR _, List.forall_mem_cons.mpr ⟨cat_VI _, List.forall_mem_cons.mpr ⟨cat_VI _, fun _ h => nomatch h⟩⟩⟩) rfl (Nat.le_of_ble_eq_true rfl) rfl) ?_
  intro X x en rm ini hr hz
  have hr0 := hr
  refine G_iload1 x eX11_shown_0 ?_
  refine G_cS x eX11_shown_1 kX11_127 sm_yX11_isReplica rm (ct_X11_isReplica (by first | omega | exact hr _ _ | exact hr0 _ _)) rfl ?_
  refine G_ifb_eq x eX11_shown_4 (fun c4 => ?_) (fun c4 => ?_)
  · refine G_aload0 x eX11_shown_28 ?_
    refine G_push x eX11_shown_29 ?_
    refine G_cV x eX11_shown_30 kX11_131 im_yX11_fails se_yX11_fails rm hM.m (ct_X11_fails hM (by first | omega | exact hr _ _ | exact hr0 _ _)) rfl ?_
    refine G_rg (fun hr => ?_)
    refine G_ireturn x en eX11_shown_33 (by omega) (by omega) ?_
    rw [if_neg c4]
    exact mSay_i (fun b hb j => ⟨rfl, rfl⟩) (fun j => rfl) (fun j => rfl) (fun j => rfl) rfl rfl
  · refine G_aload0 x eX11_shown_7 ?_
    refine G_aload0 x eX11_shown_8 ?_
    refine G_iload1 x eX11_shown_9 ?_
    refine G_iload2 x eX11_shown_10 ?_
    refine G_cS x eX11_shown_11 kX11_123 sm_yX11_kindOf rm (ct_X11_kindOf (by omega)) rfl ?_
    refine G_push x eX11_shown_14 ?_
    refine G_aload0 x eX11_shown_15 ?_
    refine G_getq x eX11_shown_16 fX11_28 rfl rfl hM.m hM.o_some ?_
    refine G_cVg x eX11_shown_19 kX11_95 im_yX11_lays se_yX11_lays rm hM.m (ct_X11_lays hM hM.t_some (by omega) (by omega) (by omega) (by omega) (by omega)) rfl (fun v19 T19 I19 J19 O19 p19 => ?_)
    refine G_rg (fun hr => ?_)
    obtain ⟨rfl, rfl, rfl, hf, n, rfl, hE⟩ := p19
    have hEb := hE.2.1
    have hEa := hE.1
    refine G_cV x eX11_shown_22 kX11_83 im_yX11_tells se_yX11_tells rm hM.m (ct_X11_tells hM (by first | omega | exact hr _ _ | exact hr0 _ _)) rfl ?_
    refine G_rg (fun hr => ?_)
    refine G_goto x eX11_shown_25 ?_
    refine G_ireturn x en eX11_shown_33 (by omega) (by omega) ?_
    rw [if_pos c4, ← (rw_eq hE).1]
    exact mSay_i (fun b hb j => ⟨hf b (by omega) j, rfl⟩) (hf _ (by omega)) (hf _ (by omega)) (hf _ (by omega)) (hf _ (by omega) _) (hf _ (by omega) _)
set_option maxRecDepth 20000 in
theorem ct_X11_line {T : gT} {I : gI} {J : gJ} {O : gO} {mo : Nat} {r b p : Int} (hM : MoAt T O mo) (h0 : in32 r) (h1 : b = 0 ∨ b = 1) (h2 : in32 p) : Ct yX11_line cX11_line 5 (some .int) [va_rf (some mo), VI r, VI b, VI p] 3 71 0 0 T I J O (if 0 ≤ r ∧ r ≤ 2 then mSay T I J O mo (if 0 ≤ p ∧ p < rwN (I (mo + 1)) r b (-1) then rwF (I (mo + 1)) r b (-1) p else -1) 0 else mSay T I J O mo 0 1) := by
  refine Ct.of (by decide) [some (va_rf (some mo)), some (VI r), some (VI b), some (VI p), none] (gEn1 (List.forall_mem_cons.mpr ⟨cat_VR _, List.forall_mem_cons.mpr ⟨cat_VI _, List.forall_mem_cons.mpr ⟨cat_VI _, List.forall_mem_cons.mpr ⟨cat_VI _, fun _ h => nomatch h⟩⟩⟩⟩) rfl (Nat.le_of_ble_eq_true rfl) rfl) ?_
  intro X x en rm ini hr hz
  have hr0 := hr
  refine G_iload1 x eX11_line_0 ?_
  refine G_cS x eX11_line_1 kX11_127 sm_yX11_isReplica rm (ct_X11_isReplica (by first | omega | exact hr _ _ | exact hr0 _ _)) rfl ?_
  refine G_ifb_ne x eX11_line_4 (fun c4 => ?_) (fun c4 => ?_)
  · refine G_aload0 x eX11_line_13 ?_
    refine G_iload1 x eX11_line_14 ?_
    refine G_iload2 x eX11_line_15 ?_
    refine G_cS x eX11_line_16 kX11_123 sm_yX11_kindOf rm (ct_X11_kindOf (by omega)) rfl ?_
    refine G_push x eX11_line_19 ?_
    refine G_aload0 x eX11_line_20 ?_
    refine G_getq x eX11_line_21 fX11_28 rfl rfl hM.m hM.o_some ?_
    refine G_cVg x eX11_line_24 kX11_95 im_yX11_lays se_yX11_lays rm hM.m (ct_X11_lays hM hM.t_some (by omega) (by omega) (by omega) (by omega) (by omega)) rfl (fun v24 T24 I24 J24 O24 p24 => ?_)
    refine G_rg (fun hr => ?_)
    obtain ⟨rfl, rfl, rfl, hf, n, rfl, hE⟩ := p24
    have hEb := hE.2.1
    have hEa := hE.1
    have hEc := rw_eq hE
    refine G_istore4 x eX11_line_27 ?_
    refine G_aload0 x eX11_line_29 ?_
    refine G_iload3 x eX11_line_30 ?_
    refine G_push x eX11_line_31 ?_
    refine G_iload4 x eX11_line_32 ?_
    refine G_push x eX11_line_34 ?_
    refine G_isub x eX11_line_35 ?_
    refine G_cS x eX11_line_36 kX11_87 sm_yX11_in rm (ct_X11_in (by first | omega | exact hr _ _ | exact hr0 _ _) (by first | omega | exact hr _ _ | exact hr0 _ _) (by first | omega | exact hr _ _ | exact hr0 _ _)) rfl ?_
    refine G_ifb_eq x eX11_line_39 (fun c39 => ?_) (fun c39 => ?_)
    · refine G_push x eX11_line_51 ?_
      refine G_cV x eX11_line_52 kX11_83 im_yX11_tells se_yX11_tells rm hM.m (ct_X11_tells hM (by first | omega | exact hr _ _ | exact hr0 _ _)) rfl ?_
      refine G_rg (fun hr => ?_)
      refine G_ireturn x en eX11_line_55 (by omega) (by omega) ?_
      rw [if_pos c4, ← hEc.1, if_neg (by omega)]
      exact mSay_i (fun b hb j => ⟨hf b (by omega) j, rfl⟩) (hf _ (by omega)) (hf _ (by omega)) (hf _ (by omega)) (hf _ (by omega) _) (hf _ (by omega) _)
    · refine G_aload0 x eX11_line_42 ?_
      refine G_getq x eX11_line_43 fX11_28 rfl rfl hM.m hM.o_some ?_
      refine G_iload3 x eX11_line_46 ?_
      refine G_iald x eX11_line_47 rfl hM.t_some (by omega) (by omega) (by omega) (fun h47 => ?_)
      refine G_goto x eX11_line_48 ?_
      refine G_cV x eX11_line_52 kX11_83 im_yX11_tells se_yX11_tells rm hM.m (ct_X11_tells hM (by first | omega | exact hr _ _ | exact hr0 _ _)) rfl ?_
      refine G_rg (fun hr => ?_)
      refine G_ireturn x en eX11_line_55 (by omega) (by omega) ?_
      rw [if_pos c4, ← hEc.1, if_pos (by omega), ← hEc.2 p (by omega) (by omega)]
      exact mSay_i (fun b hb j => ⟨hf b (by omega) j, rfl⟩) (hf _ (by omega)) (hf _ (by omega)) (hf _ (by omega)) (hf _ (by omega) _) (hf _ (by omega) _)
  · refine G_aload0 x eX11_line_7 ?_
    refine G_push x eX11_line_8 ?_
    refine G_cV x eX11_line_9 kX11_131 im_yX11_fails se_yX11_fails rm hM.m (ct_X11_fails hM (by first | omega | exact hr _ _ | exact hr0 _ _)) rfl ?_
    refine G_rg (fun hr => ?_)
    refine G_ireturn x en eX11_line_12 (by omega) (by omega) ?_
    rw [if_neg c4]
    exact mSay_i (fun b hb j => ⟨rfl, rfl⟩) (fun j => rfl) (fun j => rfl) (fun j => rfl) rfl rfl
set_option maxRecDepth 20000 in
theorem ct_X11_position {T : gT} {I : gI} {J : gJ} {O : gO} {mo : Nat} {r b l : Int} (hM : MoAt T O mo) (h0 : in32 r) (h1 : b = 0 ∨ b = 1) (h2 : in32 l) : Ct yX11_position cX11_position 4 (some .int) [va_rf (some mo), VI r, VI b, VI l] 4 96 0 0 T I J O (if 0 ≤ r ∧ r ≤ 2 then (if 0 ≤ l ∧ l ≤ 11 then mSay T I J O mo (rwP (I (mo + 1)) r b l) 0 else mSay T I J O mo 0 2) else mSay T I J O mo 0 1) := by
  refine Ct.of (by decide) [some (va_rf (some mo)), some (VI r), some (VI b), some (VI l)] (gEn1 (List.forall_mem_cons.mpr ⟨cat_VR _, List.forall_mem_cons.mpr ⟨cat_VI _, List.forall_mem_cons.mpr ⟨cat_VI _, List.forall_mem_cons.mpr ⟨cat_VI _, fun _ h => nomatch h⟩⟩⟩⟩) rfl (Nat.le_of_ble_eq_true rfl) rfl) ?_
  intro X x en rm ini hr hz
  have hr0 := hr
  refine G_iload1 x eX11_position_0 ?_
  refine G_cS x eX11_position_1 kX11_127 sm_yX11_isReplica rm (ct_X11_isReplica (by first | omega | exact hr _ _ | exact hr0 _ _)) rfl ?_
  refine G_ifb_ne x eX11_position_4 (fun c4 => ?_) (fun c4 => ?_)
  · refine G_iload3 x eX11_position_13 ?_
    refine G_push x eX11_position_14 ?_
    refine G_push x eX11_position_15 ?_
    refine G_cS x eX11_position_17 kX11_87 sm_yX11_in rm (ct_X11_in (by first | omega | exact hr _ _ | exact hr0 _ _) (by first | omega | exact hr _ _ | exact hr0 _ _) (by first | omega | exact hr _ _ | exact hr0 _ _)) rfl ?_
    refine G_ifb_eq x eX11_position_20 (fun c20 => ?_) (fun c20 => ?_)
    · refine G_aload0 x eX11_position_40 ?_
      refine G_push x eX11_position_41 ?_
      refine G_cV x eX11_position_42 kX11_131 im_yX11_fails se_yX11_fails rm hM.m (ct_X11_fails hM (by first | omega | exact hr _ _ | exact hr0 _ _)) rfl ?_
      refine G_rg (fun hr => ?_)
      refine G_ireturn x en eX11_position_45 (by omega) (by omega) ?_
      rw [if_pos c4, if_neg c20]
      exact mSay_i (fun b hb j => ⟨rfl, rfl⟩) (fun j => rfl) (fun j => rfl) (fun j => rfl) rfl rfl
    · refine G_aload0 x eX11_position_23 ?_
      refine G_aload0 x eX11_position_24 ?_
      refine G_iload1 x eX11_position_25 ?_
      refine G_iload2 x eX11_position_26 ?_
      refine G_cS x eX11_position_27 kX11_123 sm_yX11_kindOf rm (ct_X11_kindOf (by omega)) rfl ?_
      refine G_iload3 x eX11_position_30 ?_
      refine G_cVg x eX11_position_31 kX11_151 im_yX11_positionOf se_yX11_positionOf rm hM.m (ct_X11_positionOf hM (by omega) (by omega) (by omega) (by omega) (by omega)) rfl (fun v31 T31 I31 J31 O31 p31 => ?_)
      refine G_rg (fun hr => ?_)
      obtain ⟨rfl, rfl, rfl, hf, n, k, rfl, hE, hk⟩ := p31
      have hEc := rw_eq hE
      have hkk := rwP_eq (idxOf_c (hEc.1 ▸ hk) (fun i a b => hEc.2 i a (by omega)))
      have hEb := hE.2.1
      have hkr : -1 ≤ k ∧ k < 12 := by rcases hk with ⟨e, _⟩ | ⟨e, e2, _⟩ <;> omega
      refine G_cV x eX11_position_34 kX11_83 im_yX11_tells se_yX11_tells rm hM.m (ct_X11_tells hM (by first | omega | exact hr _ _ | exact hr0 _ _)) rfl ?_
      refine G_rg (fun hr => ?_)
      refine G_goto x eX11_position_37 ?_
      refine G_ireturn x en eX11_position_45 (by omega) (by omega) ?_
      rw [if_pos c4, if_pos c20, ← hkk]
      exact mSay_i (fun b hb j => ⟨hf b (by omega) j, rfl⟩) (hf _ (by omega)) (hf _ (by omega)) (hf _ (by omega)) (hf _ (by omega) _) (hf _ (by omega) _)
  · refine G_aload0 x eX11_position_7 ?_
    refine G_push x eX11_position_8 ?_
    refine G_cV x eX11_position_9 kX11_131 im_yX11_fails se_yX11_fails rm hM.m (ct_X11_fails hM (by first | omega | exact hr _ _ | exact hr0 _ _)) rfl ?_
    refine G_rg (fun hr => ?_)
    refine G_ireturn x en eX11_position_12 (by omega) (by omega) ?_
    rw [if_neg c4]
    exact mSay_i (fun b hb j => ⟨rfl, rfl⟩) (fun j => rfl) (fun j => rfl) (fun j => rfl) rfl rfl
set_option maxRecDepth 20000 in
theorem ct_X11_place {T : gT} {I : gI} {J : gJ} {O : gO} {mo : Nat} {r b l : Int} (hM : MoAt T O mo) (h0 : in32 r) (h1 : b = 0 ∨ b = 1) (h2 : in32 l) : Ct yX11_place cX11_place 4 (some .int) [va_rf (some mo), VI r, VI b, VI l] 2 42 0 0 T I J O (if 0 ≤ r ∧ r ≤ 2 then (if 0 ≤ l ∧ l ≤ 11 then mSay T I J O mo (plS (I (mo + 1)) r b l) 0 else mSay T I J O mo 0 2) else mSay T I J O mo 0 1) := by
  refine Ct.of (by decide) [some (va_rf (some mo)), some (VI r), some (VI b), some (VI l)] (gEn1 (List.forall_mem_cons.mpr ⟨cat_VR _, List.forall_mem_cons.mpr ⟨cat_VI _, List.forall_mem_cons.mpr ⟨cat_VI _, List.forall_mem_cons.mpr ⟨cat_VI _, fun _ h => nomatch h⟩⟩⟩⟩) rfl (Nat.le_of_ble_eq_true rfl) rfl) ?_
  intro X x en rm ini hr hz
  have hr0 := hr
  refine G_rg (fun hr => ?_)
  refine G_iload1 x eX11_place_0 ?_
  refine G_cS x eX11_place_1 kX11_127 sm_yX11_isReplica rm (ct_X11_isReplica (by first | omega | exact hr _ _ | exact hr0 _ _)) rfl ?_
  refine G_ifb_ne x eX11_place_4 (fun c4 => ?_) (fun c4 => ?_)
  · refine G_iload3 x eX11_place_13 ?_
    refine G_push x eX11_place_14 ?_
    refine G_push x eX11_place_15 ?_
    refine G_cS x eX11_place_17 kX11_87 sm_yX11_in rm (ct_X11_in (by first | omega | exact hr _ _ | exact hr0 _ _) (by first | omega | exact hr _ _ | exact hr0 _ _) (by first | omega | exact hr _ _ | exact hr0 _ _)) rfl ?_
    refine G_ifb_eq x eX11_place_20 (fun c20 => ?_) (fun c20 => ?_)
    · refine G_aload0 x eX11_place_50 ?_
      refine G_push x eX11_place_51 ?_
      refine G_cV x eX11_place_52 kX11_131 im_yX11_fails se_yX11_fails rm hM.m (ct_X11_fails hM (by first | omega | exact hr _ _ | exact hr0 _ _)) rfl ?_
      refine G_rg (fun hr => ?_)
      refine G_ireturn x en eX11_place_55 (by omega) (by omega) ?_
      (repeat' split) <;> first | (exfalso; omega) | exact mSay_i (fun b hb j => ⟨rfl, rfl⟩) (fun j => rfl) (fun j => rfl) (fun j => rfl) rfl rfl
    · refine G_aload0 x eX11_place_23 ?_
      refine G_aload0 x eX11_place_24 ?_
      refine G_getq x eX11_place_25 fX11_7 rfl rfl hM.m hM.o_s ?_
      refine G_iload1 x eX11_place_28 ?_
      refine G_push x eX11_place_29 ?_
      refine G_iload2 x eX11_place_31 ?_
      refine G_cS x eX11_place_32 kX11_123 sm_yX11_kindOf rm (ct_X11_kindOf (by omega)) rfl ?_
      refine G_imul x eX11_place_35 ?_
      refine G_iload3 x eX11_place_36 ?_
      refine G_iadd x eX11_place_37 ?_
      refine G_cS x eX11_place_38 kX11_72 sm_yX11_lineAt rm ct_X11_lineAt rfl ?_
      refine G_push x eX11_place_41 ?_
      refine G_iadd0 x eX11_place_42 ?_
      refine G_iald x eX11_place_43 rfl hM.t_s (by omega) (by omega) (by omega) (fun h43 => ?_)
      refine G_cV x eX11_place_44 kX11_83 im_yX11_tells se_yX11_tells rm hM.m (ct_X11_tells hM (by first | omega | exact hr _ _ | exact hr0 _ _)) rfl ?_
      refine G_rg (fun hr => ?_)
      refine G_goto x eX11_place_47 ?_
      refine G_ireturn x en eX11_place_55 (by omega) (by omega) ?_
      (repeat' split) <;> first | (exfalso; omega) | exact mSay_i (fun b hb j => ⟨rfl, rfl⟩) (fun j => rfl) (fun j => rfl) (fun j => rfl) rfl rfl
  · refine G_aload0 x eX11_place_7 ?_
    refine G_push x eX11_place_8 ?_
    refine G_cV x eX11_place_9 kX11_131 im_yX11_fails se_yX11_fails rm hM.m (ct_X11_fails hM (by first | omega | exact hr _ _ | exact hr0 _ _)) rfl ?_
    refine G_rg (fun hr => ?_)
    refine G_ireturn x en eX11_place_12 (by omega) (by omega) ?_
    (repeat' split) <;> first | (exfalso; omega) | exact mSay_i (fun b hb j => ⟨rfl, rfl⟩) (fun j => rfl) (fun j => rfl) (fun j => rfl) rfl rfl
