/-! the class's questions -/
theorem lnR.A9 {I : gI} {ln : Nat} {S : Int → Int} {r kd p : Int} (h : lnR I ln S r kd) : lnA I ln p = if 0 ≤ p ∧ p < rwN S r kd (-1) then rwF S r kd (-1) p else -1 := by
  unfold lnA
  rw [h.1]
  by_cases e : 0 ≤ p ∧ p < rwN S r kd (-1)
  · rw [if_pos e, if_pos e, h.2 p e.1 e.2]
  · rw [if_neg e, if_neg e]
theorem lnR.X9 {I : gI} {ln : Nat} {S : Int → Int} {r kd l : Int} (h : lnR I ln S r kd) : ix (I (ln + 6)) (I ln 6) l = rwP S r kd l := by
  have b := (rwE S r kd (-1)).1
  have := ix_idx (f := I (ln + 6)) (n := I ln 6) (l := l) (by rw [h.1]; exact b)
  rw [h.1] at this ⊢
  exact rwP_eq (idxOf_c this h.2)
def iThr (r : Int) : Int := if 0 ≤ r ∧ r ≤ 2 then 0 else 1
def aThr (r w m : Int) : Int := if 0 ≤ r ∧ r ≤ 2 then (if 0 ≤ w ∧ w ≤ m then 0 else 2) else 1
def msThr (r f : Int) : Int := if (0 ≤ r ∧ r ≤ 2) ∧ 0 ≤ f ∧ f ≤ 2 then (if r = f then 2 else 0) else 1
def jThr (r f : Int) : Int := if (0 ≤ r ∧ r ≤ 2) ∧ 0 ≤ f ∧ f ≤ 2 then 0 else 1
set_option maxRecDepth 20000 in
theorem ct_q_shown {T : gT} {I : gI} {J : gJ} {O : gO} {B ss : Nat} {S : Int → Int} {n : Int} {Rc X : Int → Int} {L : Int} (hW : WW B ss T I J O S n Rc X L) (hI : Inv S) {r b : Int} (h0 : in32 r) (hb : b = 0 ∨ b = 1) : Cx yX10_shown cX10_shown 3 (some .int) [va_rf (some ss), VI r, VI b] 7 111 1 6 T I J O (cRet B ss T I J O (iThr r) (VI (rwN S r b (-1))) S n Rc X L) (cThr B ss T I J O (iThr r) nIS S n Rc X L) := by
  refine Cx.of' (by decide) [some (va_rf (some ss)), some (VI r), some (VI b)] (gEn1 (List.forall_mem_cons.mpr ⟨cat_VR _, List.forall_mem_cons.mpr ⟨cat_VI _, List.forall_mem_cons.mpr ⟨cat_VI _, fun _ h => nomatch h⟩⟩⟩) rfl (Nat.le_of_ble_eq_true rfl) rfl) ?_
  intro X x en rm th hr
  have hr0 := hr
  have hS := hW.1.1
  have hZ := hS.z
  have hss := hZ.m
  refine G_aload0 x eX10_shown_0 ?_
  refine G_iload1 x eX10_shown_1 ?_
  refine G_cVX x th eX10_shown_2 kX10_39 ⟨im_yX10_replicaAt, se_yX10_replicaAt⟩ hZ.m rm (ct_X10_replicaAt hS h0) (fun _ _ _ _ _ h9 => cThr.tx h9.2 1 (by have q9 := h9.1; unfold iThr; (repeat' split) <;> first | rfl | omega) (by omega) rfl FrC.rf hW) rfl (fun v2 T2 I2 J2 O2 p2 => ?_)
  refine G_rg (fun hr => ?_)
  obtain ⟨q1, rfl, rfl, rfl, rfl, rfl⟩ := p2
  have hp := (hS.rp q1.1 q1.2).1
  obtain ⟨hR, hG, hC⟩ := hW.2.1 r q1.1 q1.2
  have ht := hR.ln hb
  have hLn := hp.ln hb
  have en1 := ht.R.1
  have en2 := (rwE S r b (-1)).1
  have en3 := (rwE S r b (-1)).2.1
  refine G_iload2 x eX10_shown_5 ?_
  refine G_cV x eX10_shown_6 kX10_43 im_yX8_linesOf se_yX8_linesOf rm hp.m (ct_X8_linesOf hp hb) rfl ?_
  refine G_cV x eX10_shown_9 kX10_47 im_yX4_count se_yX4_count rm hLn.m (ct_X4_count hLn) rfl ?_
  rw [en1]
  refine G_rg (fun hr => ?_)
  refine G_ireturn x en eX10_shown_12 (by omega) (by omega) ?_
  exact ⟨by unfold iThr; rw [if_pos q1], rfl, FrC.rf, hW⟩
set_option maxRecDepth 20000 in
theorem ct_q_line {T : gT} {I : gI} {J : gJ} {O : gO} {B ss : Nat} {S : Int → Int} {n : Int} {Rc X : Int → Int} {L : Int} (hW : WW B ss T I J O S n Rc X L) (hI : Inv S) {r b p : Int} (h0 : in32 r) (hb : b = 0 ∨ b = 1) (h1 : in32 p) : Cx yX10_line cX10_line 4 (some .int) [va_rf (some ss), VI r, VI b, VI p] 7 111 1 6 T I J O (cRet B ss T I J O (iThr r) (VI (if 0 ≤ p ∧ p < rwN S r b (-1) then rwF S r b (-1) p else -1)) S n Rc X L) (cThr B ss T I J O (iThr r) nIS S n Rc X L) := by
  refine Cx.of' (by decide) [some (va_rf (some ss)), some (VI r), some (VI b), some (VI p)] (gEn1 (List.forall_mem_cons.mpr ⟨cat_VR _, List.forall_mem_cons.mpr ⟨cat_VI _, List.forall_mem_cons.mpr ⟨cat_VI _, List.forall_mem_cons.mpr ⟨cat_VI _, fun _ h => nomatch h⟩⟩⟩⟩) rfl (Nat.le_of_ble_eq_true rfl) rfl) ?_
  intro X x en rm th hr
  have hr0 := hr
  have hS := hW.1.1
  have hZ := hS.z
  have hss := hZ.m
  refine G_aload0 x eX10_line_0 ?_
  refine G_iload1 x eX10_line_1 ?_
  refine G_cVX x th eX10_line_2 kX10_39 ⟨im_yX10_replicaAt, se_yX10_replicaAt⟩ hZ.m rm (ct_X10_replicaAt hS h0) (fun _ _ _ _ _ h9 => cThr.tx h9.2 1 (by have q9 := h9.1; unfold iThr; (repeat' split) <;> first | rfl | omega) (by omega) rfl FrC.rf hW) rfl (fun v2 T2 I2 J2 O2 p2 => ?_)
  refine G_rg (fun hr => ?_)
  obtain ⟨q1, rfl, rfl, rfl, rfl, rfl⟩ := p2
  have hp := (hS.rp q1.1 q1.2).1
  obtain ⟨hR, hG, hC⟩ := hW.2.1 r q1.1 q1.2
  have ht := hR.ln hb
  have hLn := hp.ln hb
  have en1 := ht.R.1
  have en2 := (rwE S r b (-1)).1
  have en3 := (rwE S r b (-1)).2.1
  refine G_iload2 x eX10_line_5 ?_
  refine G_cV x eX10_line_6 kX10_43 im_yX8_linesOf se_yX8_linesOf rm hp.m (ct_X8_linesOf hp hb) rfl ?_
  refine G_iload3 x eX10_line_9 ?_
  refine G_cV x eX10_line_10 kX10_76 im_yX4_numberAt se_yX4_numberAt rm hLn.m (ct_X4_numberAt hLn h1 (by omega)) rfl ?_
  rw [ht.R.A9]
  refine G_rg (fun hr => ?_)
  refine G_ireturn x en eX10_line_13 (by omega) (by omega) ?_
  exact ⟨by unfold iThr; rw [if_pos q1], rfl, FrC.rf, hW⟩
set_option maxRecDepth 20000 in
theorem ct_q_position {T : gT} {I : gI} {J : gJ} {O : gO} {B ss : Nat} {S : Int → Int} {n : Int} {Rc X : Int → Int} {L : Int} (hW : WW B ss T I J O S n Rc X L) (hI : Inv S) {r b p : Int} (h0 : in32 r) (hb : b = 0 ∨ b = 1) (h1 : in32 p) : Cx yX10_position cX10_position 5 (some .int) [va_rf (some ss), VI r, VI b, VI p] 7 112 2 12 T I J O (cRet B ss T I J O (aThr r p 11) (VI (rwP S r b p)) S n Rc X L) (cThr B ss T I J O (aThr r p 11) nIA S n Rc X L) := by
  refine Cx.of' (by decide) [some (va_rf (some ss)), some (VI r), some (VI b), some (VI p), none] (gEn1 (List.forall_mem_cons.mpr ⟨cat_VR _, List.forall_mem_cons.mpr ⟨cat_VI _, List.forall_mem_cons.mpr ⟨cat_VI _, List.forall_mem_cons.mpr ⟨cat_VI _, fun _ h => nomatch h⟩⟩⟩⟩) rfl (Nat.le_of_ble_eq_true rfl) rfl) ?_
  intro X x en rm th hr
  have hr0 := hr
  have hS := hW.1.1
  have hZ := hS.z
  have hss := hZ.m
  refine G_aload0 x eX10_position_0 ?_
  refine G_iload1 x eX10_position_1 ?_
  refine G_cVX x th eX10_position_2 kX10_39 ⟨im_yX10_replicaAt, se_yX10_replicaAt⟩ hZ.m rm (ct_X10_replicaAt hS h0) (fun _ _ _ _ _ h9 => cThr.tx h9.2 1 (by have q9 := h9.1; unfold aThr; (repeat' split) <;> first | rfl | omega) (by omega) rfl FrC.rf hW) rfl (fun v2 T2 I2 J2 O2 p2 => ?_)
  refine G_rg (fun hr => ?_)
  obtain ⟨q1, rfl, rfl, rfl, rfl, rfl⟩ := p2
  have hp := (hS.rp q1.1 q1.2).1
  obtain ⟨hR, hG, hC⟩ := hW.2.1 r q1.1 q1.2
  have ht := hR.ln hb
  have hLn := hp.ln hb
  have en1 := ht.R.1
  have en2 := (rwE S r b (-1)).1
  have en3 := (rwE S r b (-1)).2.1
  refine G_astore4 x eX10_position_5 ?_
  refine G_iload3 x eX10_position_7 ?_
  refine G_push x eX10_position_8 ?_
  refine G_push x eX10_position_9 ?_
  refine G_cSX x th eX10_position_11 kX10_85 sm_yX10_requireArgument rm (ct_X10_requireArgument (a := p) (l := 0) (m := 11) h1 (by omega) (by omega)) (fun _ _ _ _ _ h9 => cThr.tx h9.2 2 (by have q9 := h9.1; unfold aThr; (repeat' split) <;> first | rfl | omega) (by omega) rfl FrC.rf hW) rfl (fun v11 T11 I11 J11 O11 p11 => ?_)
  refine G_rg (fun hr => ?_)
  obtain ⟨q2, rfl, rfl, rfl, rfl, rfl⟩ := p11
  refine G_aload4 x eX10_position_14 ?_
  refine G_iload2 x eX10_position_16 ?_
  refine G_cV x eX10_position_17 kX10_43 im_yX8_linesOf se_yX8_linesOf rm hp.m (ct_X8_linesOf hp hb) rfl ?_
  refine G_iload3 x eX10_position_20 ?_
  refine G_cV x eX10_position_21 kX10_82 im_yX4_positionOf se_yX4_positionOf rm hLn.m (ct_X4_positionOf hLn h1 (by omega) (by omega)) rfl ?_
  rw [ht.R.X9]
  refine G_rg (fun hr => ?_)
  refine G_ireturn x en eX10_position_24 (by omega) (by omega) ?_
  exact ⟨by unfold aThr; rw [if_pos q1, if_pos q2], rfl, FrC.rf, hW⟩
set_option maxRecDepth 20000 in
theorem ct_q_place {T : gT} {I : gI} {J : gJ} {O : gO} {B ss : Nat} {S : Int → Int} {n : Int} {Rc X : Int → Int} {L : Int} (hW : WW B ss T I J O S n Rc X L) (hI : Inv S) {r b p : Int} (h0 : in32 r) (hb : b = 0 ∨ b = 1) (h1 : in32 p) : Cx yX10_place cX10_place 5 (some .int) [va_rf (some ss), VI r, VI b, VI p] 7 112 2 12 T I J O (cRet B ss T I J O (aThr r p 11) (VI (plS S r b p)) S n Rc X L) (cThr B ss T I J O (aThr r p 11) nIA S n Rc X L) := by
  refine Cx.of' (by decide) [some (va_rf (some ss)), some (VI r), some (VI b), some (VI p), none] (gEn1 (List.forall_mem_cons.mpr ⟨cat_VR _, List.forall_mem_cons.mpr ⟨cat_VI _, List.forall_mem_cons.mpr ⟨cat_VI _, List.forall_mem_cons.mpr ⟨cat_VI _, fun _ h => nomatch h⟩⟩⟩⟩) rfl (Nat.le_of_ble_eq_true rfl) rfl) ?_
  intro X x en rm th hr
  have hr0 := hr
  have hS := hW.1.1
  have hZ := hS.z
  have hss := hZ.m
  refine G_aload0 x eX10_place_0 ?_
  refine G_iload1 x eX10_place_1 ?_
  refine G_cVX x th eX10_place_2 kX10_39 ⟨im_yX10_replicaAt, se_yX10_replicaAt⟩ hZ.m rm (ct_X10_replicaAt hS h0) (fun _ _ _ _ _ h9 => cThr.tx h9.2 1 (by have q9 := h9.1; unfold aThr; (repeat' split) <;> first | rfl | omega) (by omega) rfl FrC.rf hW) rfl (fun v2 T2 I2 J2 O2 p2 => ?_)
  refine G_rg (fun hr => ?_)
  obtain ⟨q1, rfl, rfl, rfl, rfl, rfl⟩ := p2
  have hp := (hS.rp q1.1 q1.2).1
  obtain ⟨hR, hG, hC⟩ := hW.2.1 r q1.1 q1.2
  have ht := hR.ln hb
  have hLn := hp.ln hb
  have en1 := ht.R.1
  have en2 := (rwE S r b (-1)).1
  have en3 := (rwE S r b (-1)).2.1
  refine G_astore4 x eX10_place_5 ?_
  refine G_iload3 x eX10_place_7 ?_
  refine G_push x eX10_place_8 ?_
  refine G_push x eX10_place_9 ?_
  refine G_cSX x th eX10_place_11 kX10_85 sm_yX10_requireArgument rm (ct_X10_requireArgument (a := p) (l := 0) (m := 11) h1 (by omega) (by omega)) (fun _ _ _ _ _ h9 => cThr.tx h9.2 2 (by have q9 := h9.1; unfold aThr; (repeat' split) <;> first | rfl | omega) (by omega) rfl FrC.rf hW) rfl (fun v11 T11 I11 J11 O11 p11 => ?_)
  refine G_rg (fun hr => ?_)
  obtain ⟨q2, rfl, rfl, rfl, rfl, rfl⟩ := p11
  refine G_aload4 x eX10_place_14 ?_
  refine G_iload2 x eX10_place_16 ?_
  refine G_cV x eX10_place_17 kX10_43 im_yX8_linesOf se_yX8_linesOf rm hp.m (ct_X8_linesOf hp hb) rfl ?_
  refine G_iload3 x eX10_place_20 ?_
  refine G_cV x eX10_place_21 kX10_89 im_yX4_placeOf se_yX4_placeOf rm hLn.m (ct_X4_placeOf hLn h1) rfl ?_
  rw [if_pos (by omega), (ht.1 p (by omega) (by omega)).1]
  refine G_rg (fun hr => ?_)
  refine G_ireturn x en eX10_place_24 (by omega) (by omega) ?_
  exact ⟨by unfold aThr; rw [if_pos q1, if_pos q2], rfl, FrC.rf, hW⟩
set_option maxRecDepth 20000 in
theorem ct_q_clock {T : gT} {I : gI} {J : gJ} {O : gO} {B ss : Nat} {S : Int → Int} {n : Int} {Rc X : Int → Int} {L : Int} (hW : WW B ss T I J O S n Rc X L) (hI : Inv S) {r : Int} (h0 : in32 r) : Cx yX10_clock cX10_clock 2 (some .int) [va_rf (some ss), VI r] 7 111 1 6 T I J O (cRet B ss T I J O (iThr r) (VI (S (3843 + 270 * r))) S n Rc X L) (cThr B ss T I J O (iThr r) nIS S n Rc X L) := by
  refine Cx.of' (by decide) [some (va_rf (some ss)), some (VI r)] (gEn1 (List.forall_mem_cons.mpr ⟨cat_VR _, List.forall_mem_cons.mpr ⟨cat_VI _, fun _ h => nomatch h⟩⟩) rfl (Nat.le_of_ble_eq_true rfl) rfl) ?_
  intro X x en rm th hr
  have hr0 := hr
  have hS := hW.1.1
  have hZ := hS.z
  have hss := hZ.m
  refine G_aload0 x eX10_clock_0 ?_
  refine G_iload1 x eX10_clock_1 ?_
  refine G_cVX x th eX10_clock_2 kX10_39 ⟨im_yX10_replicaAt, se_yX10_replicaAt⟩ hZ.m rm (ct_X10_replicaAt hS h0) (fun _ _ _ _ _ h9 => cThr.tx h9.2 1 (by have q9 := h9.1; unfold iThr; (repeat' split) <;> first | rfl | omega) (by omega) rfl FrC.rf hW) rfl (fun v2 T2 I2 J2 O2 p2 => ?_)
  refine G_rg (fun hr => ?_)
  obtain ⟨q1, rfl, rfl, rfl, rfl, rfl⟩ := p2
  have hp := (hS.rp q1.1 q1.2).1
  obtain ⟨hR, hG, hC⟩ := hW.2.1 r q1.1 q1.2
  refine G_geti x eX10_clock_5 fX10_186 rfl rfl hp.m (fun h5 => ?_)
  rw [hR.1.2]
  refine G_rg (fun hr => ?_)
  refine G_ireturn x en eX10_clock_8 (by omega) (by omega) ?_
  exact ⟨by unfold iThr; rw [if_pos q1], rfl, FrC.rf, hW⟩
set_option maxRecDepth 20000 in
theorem ct_q_missing {T : gT} {I : gI} {J : gJ} {O : gO} {B ss : Nat} {S : Int → Int} {n : Int} {Rc X : Int → Int} {L : Int} (hW : WW B ss T I J O S n Rc X L) (hI : Inv S) {r f : Int} (h0 : in32 r) (h1 : in32 f) : Cx yX10_missing cX10_missing 5 (some .int) [va_rf (some ss), VI r, VI f] 7 111 3 18 T I J O (cRet B ss T I J O (msThr r f) (VI (S f - S (cIx r f))) S n Rc X L) (cThr B ss T I J O (msThr r f) nIA S n Rc X L) := by
  refine Cx.of' (by decide) [some (va_rf (some ss)), some (VI r), some (VI f), none, none] (gEn1 (List.forall_mem_cons.mpr ⟨cat_VR _, List.forall_mem_cons.mpr ⟨cat_VI _, List.forall_mem_cons.mpr ⟨cat_VI _, fun _ h => nomatch h⟩⟩⟩) rfl (Nat.le_of_ble_eq_true rfl) rfl) ?_
  intro X x en rm th hr
  have hr0 := hr
  have hS := hW.1.1
  have hZ := hS.z
  have hss := hZ.m
  refine G_aload0 x eX10_missing_0 ?_
  refine G_iload1 x eX10_missing_1 ?_
  refine G_cVX x th eX10_missing_2 kX10_39 ⟨im_yX10_replicaAt, se_yX10_replicaAt⟩ hZ.m rm (ct_X10_replicaAt hS h0) (fun _ _ _ _ _ h9 => cThr.tx h9.2 1 (by have q9 := h9.1; unfold msThr; (repeat' split) <;> first | rfl | omega) (by omega) rfl FrC.rf hW) rfl (fun v2 T2 I2 J2 O2 p2 => ?_)
  refine G_rg (fun hr => ?_)
  obtain ⟨q1, rfl, rfl, rfl, rfl, rfl⟩ := p2
  have hp := (hS.rp q1.1 q1.2).1
  obtain ⟨hR, hG, hC⟩ := hW.2.1 r q1.1 q1.2
  refine G_astore3 x eX10_missing_5 ?_
  refine G_aload0 x eX10_missing_6 ?_
  refine G_iload2 x eX10_missing_7 ?_
  refine G_cVX x th eX10_missing_8 kX10_39 ⟨im_yX10_replicaAt, se_yX10_replicaAt⟩ hZ.m rm (ct_X10_replicaAt hS h1) (fun _ _ _ _ _ h9 => cThr.tx h9.2 1 (by have q9 := h9.1; unfold msThr; (repeat' split) <;> first | rfl | omega) (by omega) rfl FrC.rf hW) rfl (fun v8 T8 I8 J8 O8 p8 => ?_)
  refine G_rg (fun hr => ?_)
  obtain ⟨q2, rfl, rfl, rfl, rfl, rfl⟩ := p8
  have hp2 := (hS.rp q2.1 q2.2).1
  obtain ⟨hR2, hG2, hC2⟩ := hW.2.1 f q2.1 q2.2
  have hf := hR2.2.1 f q2.1 q2.2
  rw [cIx_s] at hf
  refine G_astore4 x eX10_missing_11 ?_
  refine G_aload3 x eX10_missing_13 ?_
  refine G_aload4 x eX10_missing_14 ?_
  refine G_cSX x th eX10_missing_16 kX10_170 sm_yX10_requireOther rm (ct_X10_requireOther (p := rpA ss r) (q := rpA ss f)) (fun _ _ _ _ _ h9 => cThr.tx h9.2 2 (by have q9 : r = f := (by have := h9.1; unfold rpA at this; omega); unfold msThr; rw [if_pos ⟨q1, q2⟩, if_pos q9]) (by omega) rfl FrC.rf hW) rfl (fun v16 T16 I16 J16 O16 p16 => ?_)
  refine G_rg (fun hr => ?_)
  obtain ⟨q3, rfl, rfl, rfl, rfl, rfl⟩ := p16
  refine G_aload3 x eX10_missing_19 ?_
  refine G_aload4 x eX10_missing_20 ?_
  refine G_cV x eX10_missing_22 kX10_182 im_yX8_lacking se_yX8_lacking rm hp.m (ct_X8_lacking hp hp2 (by rw [hR2.1.1]; exact q2.1) (by rw [hR2.1.1]; exact q2.2)) rfl ?_
  rw [hR2.1.1, hf, hR.2.1 f q2.1 q2.2]
  refine G_rg (fun hr => ?_)
  refine G_ireturn x en eX10_missing_25 (by omega) (by omega) ?_
  exact ⟨by unfold msThr; rw [if_pos ⟨q1, q2⟩, if_neg (fun z => q3 (by rw [z]))], rfl, FrC.rf, hW⟩
