/-! replicas: what they tell -/
set_option maxRecDepth 20000 in
theorem ct_X0_outdate {T : gT} {I : gI} {J : gJ} {O : gO} {ca : Nat} (hM : T.2 ca = some (.inl 0)) : Ct yX0_outdate cX0_outdate 1 none [va_rf (some ca)] 0 0 0 0 T I J O (pv none T (uI I ca 11 0) J O) := by
  refine Ct.of (by decide) [some (va_rf (some ca))] (gEn1 (List.forall_mem_cons.mpr ⟨cat_VR _, fun _ h => nomatch h⟩) rfl (Nat.le_of_ble_eq_true rfl) rfl) ?_
  intro X x en rm ini hr hz
  have hr0 := hr
  refine G_rg (fun hr => ?_)
  refine G_aload0 x eX0_outdate_0 ?_
  refine G_push x eX0_outdate_1 ?_
  refine G_putz x eX0_outdate_2 fX0_40 rfl (Or.inl rfl) rfl hM (by omega) ?_
  refine G_rg (fun hr => ?_)
  refine G_return x en eX0_outdate_5 (by omega) (by omega) ?_
  first | exact pv_i | (refine ⟨?_, rfl, rfl, rfl, rfl⟩; split <;> first | rfl | omega)
def lnO (p : Nat) (b : Int) : Nat := if b = 0 then p + 1 else p + 8
set_option maxRecDepth 20000 in
theorem ct_X8_linesOf {T : gT} {I : gI} {J : gJ} {O : gO} {p : Nat} {b : Int} (hM : RpAt T O p) (hb : b = 0 ∨ b = 1) : Ct yX8_linesOf cX8_linesOf 2 (some (.object "SharedSheet$Lines")) [va_rf (some p), VI b] 0 0 0 0 T I J O (pv (some (va_rf (some (lnO p b)))) T I J O) := by
  refine Ct.of (by decide) [some (va_rf (some p)), some (VI b)] (gEn1 (List.forall_mem_cons.mpr ⟨cat_VR _, List.forall_mem_cons.mpr ⟨cat_VI _, fun _ h => nomatch h⟩⟩) rfl (Nat.le_of_ble_eq_true rfl) rfl) ?_
  intro X x en rm ini hr hz
  have hr0 := hr
  refine G_rg (fun hr => ?_)
  refine G_iload1 x eX8_linesOf_0 ?_
  refine G_if_eq x eX8_linesOf_1 (by first | omega | exact hr _ _ | exact hr0 _ _ | exact hrS _) (fun c1 => ?_) (fun c1 => ?_)
  · refine G_aload0 x eX8_linesOf_11 ?_
    refine G_getq x eX8_linesOf_12 fX8_12 rfl rfl hM.m hM.o_rows ?_
    refine G_areturn x en (by first | exact Or.inl ⟨_, rfl⟩ | exact Or.inr ⟨_, rfl⟩) eX8_linesOf_15 (by omega) (by omega) ?_
    exact ⟨by unfold lnO; first | rw [if_pos (by omega)] | rw [if_neg (by omega)], rfl, rfl, rfl, rfl⟩
  · refine G_aload0 x eX8_linesOf_4 ?_
    refine G_getq x eX8_linesOf_5 fX8_18 rfl rfl hM.m hM.o_columns ?_
    refine G_goto x eX8_linesOf_8 ?_
    refine G_areturn x en (by first | exact Or.inl ⟨_, rfl⟩ | exact Or.inr ⟨_, rfl⟩) eX8_linesOf_15 (by omega) (by omega) ?_
    exact ⟨by unfold lnO; first | rw [if_pos (by omega)] | rw [if_neg (by omega)], rfl, rfl, rfl, rfl⟩
set_option maxRecDepth 20000 in
theorem ct_X8_nextClock {T : gT} {I : gI} {J : gJ} {O : gO} {p : Nat} (hM : RpAt T O p) : Ct yX8_nextClock cX8_nextClock 1 (some .int) [va_rf (some p)] 0 0 0 0 T I J O (pv (some (VI (I p 4 + 1))) T I J O) := by
  refine Ct.of (by decide) [some (va_rf (some p))] (gEn1 (List.forall_mem_cons.mpr ⟨cat_VR _, fun _ h => nomatch h⟩) rfl (Nat.le_of_ble_eq_true rfl) rfl) ?_
  intro X x en rm ini hr hz
  have hr0 := hr
  refine G_rg (fun hr => ?_)
  refine G_aload0 x eX8_nextClock_0 ?_
  refine G_geti x eX8_nextClock_1 fX8_54 rfl rfl hM.m (fun h1 => ?_)
  refine G_push x eX8_nextClock_4 ?_
  refine G_iadd x eX8_nextClock_5 ?_
  refine G_ireturn x en eX8_nextClock_6 (by omega) (by omega) ?_
  first | exact pv_i | (refine ⟨?_, rfl, rfl, rfl, rfl⟩; split <;> first | rfl | omega)
set_option maxRecDepth 20000 in
theorem ct_X8_carriedOf {T : gT} {I : gI} {J : gJ} {O : gO} {p : Nat} {f : Int} (hM : RpAt T O p) (f0 : 0 ≤ f) (f1 : f ≤ 2) : Ct yX8_carriedOf cX8_carriedOf 2 (some .int) [va_rf (some p), VI f] 0 0 0 0 T I J O (pv (some (VI (I (p + 26) f))) T I J O) := by
  refine Ct.of (by decide) [some (va_rf (some p)), some (VI f)] (gEn1 (List.forall_mem_cons.mpr ⟨cat_VR _, List.forall_mem_cons.mpr ⟨cat_VI _, fun _ h => nomatch h⟩⟩) rfl (Nat.le_of_ble_eq_true rfl) rfl) ?_
  intro X x en rm ini hr hz
  have hr0 := hr
  refine G_rg (fun hr => ?_)
  refine G_iload1 x eX8_carriedOf_0 ?_
  refine G_if_lt x eX8_carriedOf_1 (by first | omega | exact hr _ _ | exact hr0 _ _ | exact hrS _) (fun c1 => ?_) (fun c1 => ?_)
  · refine G_push x eX8_carriedOf_9 ?_
    refine G_goto x eX8_carriedOf_10 ?_
    refine G_ireturn x en eX8_carriedOf_19 (by omega) (by omega) ?_
    first | exact pv_i | (exfalso; omega)
  · refine G_iload1 x eX8_carriedOf_4 ?_
    refine G_push x eX8_carriedOf_5 ?_
    refine G_icmp_lt x eX8_carriedOf_6 (by first | omega | exact hr _ _ | exact hr0 _ _ | exact hrS _) (by first | omega | exact hr _ _ | exact hr0 _ _ | exact hrS _) (fun c6 => ?_) (fun c6 => ?_)
    · refine G_aload0 x eX8_carriedOf_13 ?_
      refine G_getq x eX8_carriedOf_14 fX8_34 rfl rfl hM.m hM.o_carried ?_
      refine G_iload1 x eX8_carriedOf_17 ?_
      refine G_iald x eX8_carriedOf_18 rfl hM.t_carried (by omega) (by omega) (by omega) (fun h18 => ?_)
      refine G_ireturn x en eX8_carriedOf_19 (by omega) (by omega) ?_
      first | exact pv_i | (exfalso; omega)
    · refine G_push x eX8_carriedOf_9 ?_
      refine G_goto x eX8_carriedOf_10 ?_
      refine G_ireturn x en eX8_carriedOf_19 (by omega) (by omega) ?_
      first | exact pv_i | (exfalso; omega)
set_option maxRecDepth 20000 in
theorem ct_X8_logLength {T : gT} {I : gI} {J : gJ} {O : gO} {p : Nat} (hM : RpAt T O p) (f0 : 0 ≤ I p 0) (f1 : I p 0 ≤ 2) : Ct yX8_logLength cX8_logLength 1 (some .int) [va_rf (some p)] 1 21 0 0 T I J O (pv (some (VI (I (p + 26) (I p 0)))) T I J O) := by
  refine Ct.of (by decide) [some (va_rf (some p))] (gEn1 (List.forall_mem_cons.mpr ⟨cat_VR _, fun _ h => nomatch h⟩) rfl (Nat.le_of_ble_eq_true rfl) rfl) ?_
  intro X x en rm ini hr hz
  have hr0 := hr
  refine G_rg (fun hr => ?_)
  refine G_aload0 x eX8_logLength_0 ?_
  refine G_aload0 x eX8_logLength_1 ?_
  refine G_geti x eX8_logLength_2 fX8_50 rfl rfl hM.m (fun h2 => ?_)
  refine G_cV x eX8_logLength_5 kX8_65 im_yX8_carriedOf se_yX8_carriedOf rm hM.m (ct_X8_carriedOf hM f0 f1) rfl ?_
  refine G_ireturn x en eX8_logLength_8 (by omega) (by omega) ?_
  first | exact pv_i | (refine ⟨?_, rfl, rfl, rfl, rfl⟩; split <;> first | rfl | omega)
set_option maxRecDepth 20000 in
theorem ct_X8_logged {T : gT} {I : gI} {J : gJ} {O : gO} {p : Nat} {k : Int} (hM : RpAt T O p) (f0 : 0 ≤ k) (f1 : k < 40) : Ct yX8_logged cX8_logged 2 (some (.object "SharedSheet$Operation")) [va_rf (some p), VI k] 0 0 0 0 T I J O (pv (some (va_rf (O (p + 25) k))) T I J O) := by
  refine Ct.of (by decide) [some (va_rf (some p)), some (VI k)] (gEn1 (List.forall_mem_cons.mpr ⟨cat_VR _, List.forall_mem_cons.mpr ⟨cat_VI _, fun _ h => nomatch h⟩⟩) rfl (Nat.le_of_ble_eq_true rfl) rfl) ?_
  intro X x en rm ini hr hz
  have hr0 := hr
  refine G_rg (fun hr => ?_)
  refine G_iload1 x eX8_logged_0 ?_
  refine G_if_lt x eX8_logged_1 (by first | omega | exact hr _ _ | exact hr0 _ _ | exact hrS _) (fun c1 => ?_) (fun c1 => ?_)
  · omega
  · refine G_iload1 x eX8_logged_4 ?_
    refine G_push x eX8_logged_5 ?_
    refine G_icmp_lt x eX8_logged_7 (by first | omega | exact hr _ _ | exact hr0 _ _ | exact hrS _) (by first | omega | exact hr _ _ | exact hr0 _ _ | exact hrS _) (fun c7 => ?_) (fun c7 => ?_)
    · refine G_aload0 x eX8_logged_14 ?_
      refine G_getq x eX8_logged_15 fX8_30 rfl rfl hM.m hM.o_log ?_
      refine G_iload1 x eX8_logged_18 ?_
      refine G_aald x eX8_logged_19 rfl hM.t_log (fun _ => rfl) (by omega) (by omega) (by omega) ?_
      refine G_areturn x en (by first | exact Or.inl ⟨_, rfl⟩ | exact Or.inr ⟨_, rfl⟩) eX8_logged_20 (by omega) (by omega) ?_
      first | exact pv_i | (refine ⟨?_, rfl, rfl, rfl, rfl⟩; split <;> first | rfl | omega)
    · omega
set_option maxRecDepth 20000 in
theorem ct_X8_lacking {T : gT} {I : gI} {J : gJ} {O : gO} {p q : Nat} (hM : RpAt T O p) (hN : RpAt T O q) (f0 : 0 ≤ I q 0) (f1 : I q 0 ≤ 2) : Ct yX8_lacking cX8_lacking 2 (some .int) [va_rf (some p), va_rf (some q)] 2 41 0 0 T I J O (pv (some (VI (I (q + 26) (I q 0) - I (p + 26) (I q 0)))) T I J O) := by
  refine Ct.of (by decide) [some (va_rf (some p)), some (va_rf (some q))] (gEn1 (List.forall_mem_cons.mpr ⟨cat_VR _, List.forall_mem_cons.mpr ⟨cat_VR _, fun _ h => nomatch h⟩⟩) rfl (Nat.le_of_ble_eq_true rfl) rfl) ?_
  intro X x en rm ini hr hz
  have hr0 := hr
  refine G_rg (fun hr => ?_)
  refine G_aload1 x eX8_lacking_0 ?_
  refine G_cV x eX8_lacking_1 kX8_69 im_yX8_logLength se_yX8_logLength rm hN.m (ct_X8_logLength hN f0 f1) rfl ?_
  refine G_aload0 x eX8_lacking_4 ?_
  refine G_aload1 x eX8_lacking_5 ?_
  refine G_geti x eX8_lacking_6 fX8_50 rfl rfl hN.m (fun h6 => ?_)
  refine G_cV x eX8_lacking_9 kX8_65 im_yX8_carriedOf se_yX8_carriedOf rm hM.m (ct_X8_carriedOf hM f0 f1) rfl ?_
  refine G_isub x eX8_lacking_12 ?_
  refine G_ireturn x en eX8_lacking_13 (by omega) (by omega) ?_
  first | exact pv_i | (refine ⟨?_, rfl, rfl, rfl, rfl⟩; split <;> first | rfl | omega)
set_option maxRecDepth 20000 in
theorem ct_X8_writerOf {T : gT} {I : gI} {J : gJ} {O : gO} {p : Nat} {c : Int} (hM : RpAt T O p) (f0 : 0 ≤ c) (f1 : c < 144) : Ct yX8_writerOf cX8_writerOf 2 (some (.object "SharedSheet$Operation")) [va_rf (some p), VI c] 1 20 0 0 T I J O (pv (some (va_rf (O (p + 27) c))) T I J O) := by
  refine Ct.of (by decide) [some (va_rf (some p)), some (VI c)] (gEn1 (List.forall_mem_cons.mpr ⟨cat_VR _, List.forall_mem_cons.mpr ⟨cat_VI _, fun _ h => nomatch h⟩⟩) rfl (Nat.le_of_ble_eq_true rfl) rfl) ?_
  intro X x en rm ini hr hz
  have hr0 := hr
  refine G_rg (fun hr => ?_)
  refine G_iload1 x eX8_writerOf_0 ?_
  refine G_cN x eX8_writerOf_1 knX8_125 sm_yX10_isCell rm (ct_X10_isCell (by first | omega | exact hr _ _ | exact hr0 _ _ | exact hrS _)) rfl ?_
  refine G_ifb_eq x eX8_writerOf_4 (fun c4 => ?_) (fun c4 => ?_)
  · omega
  · refine G_aload0 x eX8_writerOf_7 ?_
    refine G_getq x eX8_writerOf_8 fX8_38 rfl rfl hM.m hM.o_writers ?_
    refine G_iload1 x eX8_writerOf_11 ?_
    refine G_aald x eX8_writerOf_12 rfl hM.t_writers (fun _ => rfl) (by omega) (by omega) (by omega) ?_
    refine G_goto x eX8_writerOf_13 ?_
    refine G_areturn x en (by first | exact Or.inl ⟨_, rfl⟩ | exact Or.inr ⟨_, rfl⟩) eX8_writerOf_17 (by omega) (by omega) ?_
    first | exact pv_i | (refine ⟨?_, rfl, rfl, rfl, rfl⟩; split <;> first | rfl | omega)
set_option maxRecDepth 20000 in
theorem ct_X8_writerAt {T : gT} {I : gI} {J : gJ} {O : gO} {p : Nat} {S : Int → Int} {r c : Int} (hM : RpAt T O p) (hL : LkR I p S r) (hc : inC S r c) : Ct yX8_writerAt cX8_writerAt 4 (some (.object "SharedSheet$Operation")) [va_rf (some p), VI c] 2 41 0 0 T I J O (pv (some (va_rf (O (p + 27) (12 * rwF S r 0 (-1) (c / 12) + rwF S r 1 (-1) (c % 12))))) T I J O) := by
  refine Ct.of (by decide) [some (va_rf (some p)), some (VI c), none, none] (gEn1 (List.forall_mem_cons.mpr ⟨cat_VR _, List.forall_mem_cons.mpr ⟨cat_VI _, fun _ h => nomatch h⟩⟩) rfl (Nat.le_of_ble_eq_true rfl) rfl) ?_
  intro X x en rm ini hr hz
  have hr0 := hr
  have hb := hc.b
  have b0 := rwB S r 0 (-1)
  have b1 := rwB S r 1 (-1)
  have e0 := hL.1.1
  have e1 := hL.2.1
  have x0 := hL.1.A (q := c / 12)
  have x1 := hL.2.A (q := c % 12)
  rw [if_pos ⟨by omega, hc.2.1⟩] at x0
  rw [if_pos ⟨by omega, hc.2.2⟩] at x1
  have g0 := rwF_b (S := S) (r := r) (kd := 0) (q := c / 12) (by omega) hc.2.1
  have g1 := rwF_b (S := S) (r := r) (kd := 1) (q := c % 12) (by omega) hc.2.2
  refine G_rg (fun hr => ?_)
  refine G_aload0 x eX8_writerAt_0 ?_
  refine G_getq x eX8_writerAt_1 fX8_12 rfl rfl hM.m hM.o_rows ?_
  refine G_iload1 x eX8_writerAt_4 ?_
  refine G_push x eX8_writerAt_5 ?_
  refine G_cS x eX8_writerAt_7 kX8_132 sm_yJ9_floorDiv_7cf53 rm (ct_J9_floorDiv_7cf53 (by first | omega | exact hr _ _ | exact hr0 _ _ | exact hrS _) (by first | omega | exact hr _ _ | exact hr0 _ _ | exact hrS _) (by omega) (by omega)) rfl ?_
  refine G_cV x eX8_writerAt_10 kX8_135 im_yX4_numberAt se_yX4_numberAt rm hM.s_rows.m (ct_X4_numberAt hM.s_rows (by first | omega | exact hr _ _ | exact hr0 _ _ | exact hrS _) (by omega)) rfl ?_
  rw [x0]
  refine G_istore2 x eX8_writerAt_13 ?_
  refine G_aload0 x eX8_writerAt_14 ?_
  refine G_getq x eX8_writerAt_15 fX8_18 rfl rfl hM.m hM.o_columns ?_
  refine G_iload1 x eX8_writerAt_18 ?_
  refine G_push x eX8_writerAt_19 ?_
  refine G_cS x eX8_writerAt_21 kX8_138 sm_yJ9_floorMod_7cf53 rm (ct_J9_floorMod_7cf53 (by first | omega | exact hr _ _ | exact hr0 _ _ | exact hrS _) (by first | omega | exact hr _ _ | exact hr0 _ _ | exact hrS _) (by omega) (by omega)) rfl ?_
  refine G_cV x eX8_writerAt_24 kX8_135 im_yX4_numberAt se_yX4_numberAt rm hM.s_columns.m (ct_X4_numberAt hM.s_columns (by first | omega | exact hr _ _ | exact hr0 _ _ | exact hrS _) (by omega)) rfl ?_
  rw [x1]
  refine G_istore3 x eX8_writerAt_27 ?_
  refine G_iload2 x eX8_writerAt_28 ?_
  refine G_push x eX8_writerAt_29 ?_
  refine G_icmp_eq x eX8_writerAt_30 (by first | omega | exact hr _ _ | exact hr0 _ _ | exact hrS _) (by first | omega | exact hr _ _ | exact hr0 _ _ | exact hrS _) (fun c30 => ?_) (fun c30 => ?_)
  · omega
  · refine G_iload3 x eX8_writerAt_33 ?_
    refine G_push x eX8_writerAt_34 ?_
    refine G_icmp_ne x eX8_writerAt_35 (by first | omega | exact hr _ _ | exact hr0 _ _ | exact hrS _) (by first | omega | exact hr _ _ | exact hr0 _ _ | exact hrS _) (fun c35 => ?_) (fun c35 => ?_)
    · refine G_aload0 x eX8_writerAt_42 ?_
      refine G_iload2 x eX8_writerAt_43 ?_
      refine G_push x eX8_writerAt_44 ?_
      refine G_imul x eX8_writerAt_46 ?_
      refine G_iload3 x eX8_writerAt_47 ?_
      refine G_iadd x eX8_writerAt_48 ?_
      refine G_cV x eX8_writerAt_49 kX8_141 im_yX8_writerOf se_yX8_writerOf rm hM.m (ct_X8_writerOf hM (by omega) (by omega)) rfl ?_
      rw [show rwF S r 0 (-1) (c / 12) * 12 + rwF S r 1 (-1) (c % 12) = 12 * rwF S r 0 (-1) (c / 12) + rwF S r 1 (-1) (c % 12) by omega]
      refine G_areturn x en (by first | exact Or.inl ⟨_, rfl⟩ | exact Or.inr ⟨_, rfl⟩) eX8_writerAt_52 (by omega) (by omega) ?_
      first | exact pv_i | (refine ⟨?_, rfl, rfl, rfl, rfl⟩; split <;> first | rfl | omega)
    · omega
/-- what a cell holds -/
def cnG (B : Nat) (T : gT) (I : gI) (O : gO) (S : Int → Int) (r c : Int) (co : Nat) : Prop := T.2 co = some (.inl 2) ∧ ((idS S r c = -1 ∧ I co 0 = 0 ∧ I co 1 = 0 ∧ O co 2 = none) ∨ ((0 ≤ idS S r c ∧ idS S r c < 120) ∧ coG B T I O S (idS S r c) co))
def cnQ (B : Nat) (T : gT) (I : gI) (J : gJ) (O : gO) (S : Int → Int) (r c : Int) : gP := fun v T' I' J' O' => T' = T ∧ I' = I ∧ J' = J ∧ O' = O ∧ ∃ co, v = some (va_rf (some co)) ∧ cnG B T I O S r c co
def clW (S : Int → Int) (r : Int) : Prop := ∀ c, 0 ≤ c → c < 144 → S (3843 + 270 * r + (126 + c)) ≠ -1 → S (3 + 32 * S (3843 + 270 * r + (126 + c)) + 0) = 4
theorem RpR.wr {B : Nat} {T : gT} {I : gI} {O : gO} {p : Nat} {S : Int → Int} {r c : Int} (h : RpR B T I O p S r) (hc : inC S r c) : (idS S r c = -1 ∧ O (p + 27) (12 * rwF S r 0 (-1) (c / 12) + rwF S r 1 (-1) (c % 12)) = none) ∨ ((0 ≤ idS S r c ∧ idS S r c < 120) ∧ ∃ a, O (p + 27) (12 * rwF S r 0 (-1) (c / 12) + rwF S r 1 (-1) (c % 12)) = some a ∧ opG B T I O S (idS S r c) a) := by
  have hb := hc.b
  have g0 := rwF_b (S := S) (r := r) (kd := 0) (q := c / 12) (by omega) hc.2.1
  have g1 := rwF_b (S := S) (r := r) (kd := 1) (q := c % 12) (by omega) hc.2.2
  have := h.2.2.2.2.1 (12 * rwF S r 0 (-1) (c / 12) + rwF S r 1 (-1) (c % 12)) (by omega) (by omega)
  unfold wrG at this
  rw [show 3843 + 270 * r + (126 + (12 * rwF S r 0 (-1) (c / 12) + rwF S r 1 (-1) (c % 12))) = 3843 + 270 * r + (126 + 12 * rwF S r 0 (-1) (c / 12) + rwF S r 1 (-1) (c % 12)) by omega] at this
  exact this
theorem clW.id {S : Int → Int} {r c : Int} (h : clW S r) (hc : inC S r c) (hn : idS S r c ≠ -1) : S (3 + 32 * idS S r c + 0) = 4 := by
  have hb := hc.b
  have g0 := rwF_b (S := S) (r := r) (kd := 0) (q := c / 12) (by omega) hc.2.1
  have g1 := rwF_b (S := S) (r := r) (kd := 1) (q := c % 12) (by omega) hc.2.2
  have := h (12 * rwF S r 0 (-1) (c / 12) + rwF S r 1 (-1) (c % 12)) (by omega) (by omega)
  rw [show 3843 + 270 * r + (126 + (12 * rwF S r 0 (-1) (c / 12) + rwF S r 1 (-1) (c % 12))) = 3843 + 270 * r + (126 + 12 * rwF S r 0 (-1) (c / 12) + rwF S r 1 (-1) (c % 12)) by omega] at this
  exact this hn
set_option maxRecDepth 20000 in
theorem ct_X8_contentAt {T : gT} {I : gI} {J : gJ} {O : gO} {B p : Nat} {S : Int → Int} {r c : Int} (hM : RpAt T O p) (hR : RpR B T I O p S r) (hW : clW S r) (hc : inC S r c) : Ct yX8_contentAt cX8_contentAt 3 (some (.object "SharedSheet$Content")) [va_rf (some p), VI c] 3 64 0 0 T I J O (cnQ B T I J O S r c) := by
  refine Ct.of (by decide) [some (va_rf (some p)), some (VI c), none] (gEn1 (List.forall_mem_cons.mpr ⟨cat_VR _, List.forall_mem_cons.mpr ⟨cat_VI _, fun _ h => nomatch h⟩⟩) rfl (Nat.le_of_ble_eq_true rfl) rfl) ?_
  intro X x en rm ini hr hz
  have hr0 := hr
  have hL := hR.L
  have b28 : cnQ B T I J O S r c (some (va_rf (some (p + 28)))) T I J O ∨ idS S r c ≠ -1 := by
    by_cases q : idS S r c = -1
    · exact Or.inl ⟨rfl, rfl, rfl, rfl, _, rfl, hM.c_nothing, Or.inl ⟨q, hR.2.2.2.2.2.1, hR.2.2.2.2.2.2.1, hR.2.2.2.2.2.2.2⟩⟩
    · exact Or.inr q
  have hw := hR.wr hc
  generalize hx : 12 * rwF S r 0 (-1) (c / 12) + rwF S r 1 (-1) (c % 12) = nm at *
  have cW := ct_X8_writerAt (J := J) hM hL hc
  rw [hx] at cW
  rcases hw with ⟨q1, q2⟩ | ⟨q1, a, q2, q3⟩
  · rw [q2] at cW
    have b28 := b28.resolve_right (fun z => z q1)
    refine G_rg (fun hr => ?_)
    refine G_aload0 x eX8_contentAt_0 ?_
    refine G_iload1 x eX8_contentAt_1 ?_
    refine G_cV x eX8_contentAt_2 kX8_147 im_yX8_writerAt se_yX8_writerAt rm hM.m cW rfl ?_
    refine G_astore2 x eX8_contentAt_5 ?_
    refine G_aload2 x eX8_contentAt_6 ?_
    refine G_ifnull x eX8_contentAt_7 (fun c7 => ?_) (fun b7 c7 => ?_)
    · refine G_aload0 x eX8_contentAt_17 ?_
      refine G_getq x eX8_contentAt_18 fX8_46 rfl rfl hM.m hM.o_nothing ?_
      refine G_goto x eX8_contentAt_21 ?_
      refine G_areturn x en (by first | exact Or.inl ⟨_, rfl⟩ | exact Or.inr ⟨_, rfl⟩) eX8_contentAt_28 (by omega) (by omega) ?_
      exact b28
    · cases c7
  · rw [q2] at cW
    have q3' := q3
    obtain ⟨hb, h1, -, h4⟩ := q3
    rcases h4 with ⟨w4, co, o6, hco⟩ | ⟨w4, o6⟩
    · refine G_rg (fun hr => ?_)
      refine G_aload0 x eX8_contentAt_0 ?_
      refine G_iload1 x eX8_contentAt_1 ?_
      refine G_cV x eX8_contentAt_2 kX8_147 im_yX8_writerAt se_yX8_writerAt rm hM.m cW rfl ?_
      refine G_astore2 x eX8_contentAt_5 ?_
      refine G_aload2 x eX8_contentAt_6 ?_
      refine G_ifnull x eX8_contentAt_7 (fun c7 => ?_) (fun b7 c7 => ?_)
      · contradiction
      · refine G_aload2 x eX8_contentAt_10 ?_
        refine G_getq x eX8_contentAt_11 fX8_150 rfl rfl h1 o6 ?_
        refine G_ifnonnull x eX8_contentAt_14 (fun b14 c14 => ?_) (fun c14 => ?_)
        · refine G_aload2 x eX8_contentAt_24 ?_
          refine G_getq x eX8_contentAt_25 fX8_150 rfl rfl h1 o6 ?_
          refine G_areturn x en (by first | exact Or.inl ⟨_, rfl⟩ | exact Or.inr ⟨_, rfl⟩) eX8_contentAt_28 (by omega) (by omega) ?_
          exact ⟨rfl, rfl, rfl, rfl, co, rfl, hco.2.1, Or.inr ⟨q1, hco⟩⟩
        · contradiction
    · exact absurd (hW.id hc (by omega)) w4
set_option maxRecDepth 20000 in
theorem ct_X8_nextLine {T : gT} {I : gI} {J : gJ} {O : gO} {p : Nat} {b r n : Int} (hM : RpAt T O p) (hb : b = 0 ∨ b = 1) (h0 : I p 0 = r) (r0 : 0 ≤ r) (r1 : r ≤ 2) (n0 : 0 ≤ n) (n1 : n ≤ 3) (hm : ∀ k, 0 ≤ k → k < 3 → (I (lnO p b + 4) (3 + 3 * r + k) ≠ 0 ↔ k < n)) : Ct yX8_nextLine cX8_nextLine 4 (some .int) [va_rf (some p), VI b] 1 21 0 0 T I J O (pv (some (VI (if n = 3 then -1 else 3 + 3 * r + n))) T I J O) := by
  refine Ct.of (by decide) [some (va_rf (some p)), some (VI b), none, none] (gEn1 (List.forall_mem_cons.mpr ⟨cat_VR _, List.forall_mem_cons.mpr ⟨cat_VI _, fun _ h => nomatch h⟩⟩) rfl (Nat.le_of_ble_eq_true rfl) rfl) ?_
  intro X x en rm ini hr hz
  have hr0 := hr
  have hLn : LnAt T O (lnO p b) := by
    unfold lnO
    split
    · exact hM.s_rows
    · exact hM.s_columns
  have loop : ∀ (d : Nat) (k : Int), k + d = 3 → 0 ≤ k → k ≤ n → G X 11 [some (va_rf (some p)), some (VI b), some (VI (3 + 3 * r)), some (VI k)] [] T I J O 0 0 := by
    intro d
    induction d with
    | zero =>
      intro k hd k0 kn
      refine G_rg (fun hr => ?_)
      refine G_iload3 x eX8_nextLine_11 ?_
      refine G_push x eX8_nextLine_12 ?_
      refine G_icmp_ge x eX8_nextLine_13 (by first | omega | exact hr _ _ | exact hr0 _ _ | exact hrS _) (by first | omega | exact hr _ _ | exact hr0 _ _ | exact hrS _) (fun c13 => ?_) (fun c13 => ?_)
      · refine G_push x eX8_nextLine_40 ?_
        refine G_ireturn x en eX8_nextLine_41 (by omega) (by omega) ?_
        exact ⟨by rw [if_pos (by omega)], rfl, rfl, rfl, rfl⟩
      · omega
    | succ d ih =>
      intro k hd k0 kn
      have hk := hm k k0 (by omega)
      refine G_rg (fun hr => ?_)
      refine G_iload3 x eX8_nextLine_11 ?_
      refine G_push x eX8_nextLine_12 ?_
      refine G_icmp_ge x eX8_nextLine_13 (by first | omega | exact hr _ _ | exact hr0 _ _ | exact hrS _) (by first | omega | exact hr _ _ | exact hr0 _ _ | exact hrS _) (fun c13 => ?_) (fun c13 => ?_)
      · omega
      · refine G_aload0 x eX8_nextLine_16 ?_
        refine G_iload1 x eX8_nextLine_17 ?_
        refine G_cV x eX8_nextLine_18 kX8_57 im_yX8_linesOf se_yX8_linesOf rm hM.m (ct_X8_linesOf hM hb) rfl ?_
        refine G_iload2 x eX8_nextLine_21 ?_
        refine G_iload3 x eX8_nextLine_22 ?_
        refine G_iadd x eX8_nextLine_23 ?_
        refine G_cV x eX8_nextLine_24 kX8_61 im_yX4_isMade se_yX4_isMade rm hLn.m (ct_X4_isMade hLn (by omega)) rfl ?_
        refine G_ifb_ne x eX8_nextLine_27 (fun c27 => ?_) (fun c27 => ?_)
        · refine G_iinc3 x eX8_nextLine_34 ?_
          refine G_goto x eX8_nextLine_37 ?_
          exact ih (k + 1) (by omega) (by omega) (by have := hk.mp (by have := c27; exact this.2.2); omega)
        · refine G_iload2 x eX8_nextLine_30 ?_
          refine G_iload3 x eX8_nextLine_31 ?_
          refine G_iadd x eX8_nextLine_32 ?_
          refine G_ireturn x en eX8_nextLine_33 (by omega) (by omega) ?_
          exact ⟨by have hn : ¬ k < n := (fun z => c27 ⟨by omega, by omega, hk.mpr z⟩); rw [if_neg (by omega)]; congr 2; omega, rfl, rfl, rfl, rfl⟩
  refine G_push x eX8_nextLine_0 ?_
  refine G_push x eX8_nextLine_1 ?_
  refine G_aload0 x eX8_nextLine_2 ?_
  refine G_geti x eX8_nextLine_3 fX8_50 rfl rfl hM.m (fun h3 => ?_)
  refine G_imul x eX8_nextLine_6 ?_
  refine G_iadd x eX8_nextLine_7 ?_
  refine G_istore2 x eX8_nextLine_8 ?_
  refine G_push x eX8_nextLine_9 ?_
  refine G_istore3 x eX8_nextLine_10 ?_
  rw [h0]
  exact loop 3 0 (by omega) (by omega) n0
