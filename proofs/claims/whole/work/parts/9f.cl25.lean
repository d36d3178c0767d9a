/-! replicas compared -/
set_option maxRecDepth 20000 in
theorem ct_hs_nn {T : gT} {I : gI} {J : gJ} {O : gO}  : Ct yX10_hasSameStamp cX10_hasSameStamp 2 (some .boolean) [va_rf none, va_rf none] 0 0 0 0 T I J O (pv (some (VI 1)) T I J O) := by
  refine Ct.of (by decide) [some (va_rf none), some (va_rf none)] (gEn1 (List.forall_mem_cons.mpr ⟨cat_VR _, List.forall_mem_cons.mpr ⟨cat_VR _, fun _ h => nomatch h⟩⟩) rfl (Nat.le_of_ble_eq_true rfl) rfl) ?_
  intro X x en rm ini hr hz
  have hr0 := hr
  refine G_aload0 x eX10_hasSameStamp_0 ?_
  refine G_ifnull x eX10_hasSameStamp_1 (fun c1 => ?_) (fun b1 c1 => by cases c1)
  refine G_aload0 x eX10_hasSameStamp_8 ?_
  refine G_ifnonnull x eX10_hasSameStamp_9 (fun b9 c9 => by cases c9) (fun c9 => ?_)
  refine G_aload1 x eX10_hasSameStamp_12 ?_
  refine G_ifnonnull x eX10_hasSameStamp_13 (fun b9 c9 => by cases c9) (fun c13 => ?_)
  refine G_rg (fun hr => ?_)
  refine G_push x eX10_hasSameStamp_16 ?_
  refine G_goto x eX10_hasSameStamp_17 ?_
  refine G_zreturn x en eX10_hasSameStamp_21 (by omega) (by omega) ?_ ?_
  · first | exact Or.inl rfl | exact Or.inr rfl | omega
  · exact pv_i
set_option maxRecDepth 20000 in
theorem ct_hs_ns {T : gT} {I : gI} {J : gJ} {O : gO} {a : Nat} : Ct yX10_hasSameStamp cX10_hasSameStamp 2 (some .boolean) [va_rf none, va_rf (some a)] 0 0 0 0 T I J O (pv (some (VI 0)) T I J O) := by
  refine Ct.of (by decide) [some (va_rf none), some (va_rf (some a))] (gEn1 (List.forall_mem_cons.mpr ⟨cat_VR _, List.forall_mem_cons.mpr ⟨cat_VR _, fun _ h => nomatch h⟩⟩) rfl (Nat.le_of_ble_eq_true rfl) rfl) ?_
  intro X x en rm ini hr hz
  have hr0 := hr
  refine G_aload0 x eX10_hasSameStamp_0 ?_
  refine G_ifnull x eX10_hasSameStamp_1 (fun c1 => ?_) (fun b1 c1 => by cases c1)
  refine G_aload0 x eX10_hasSameStamp_8 ?_
  refine G_ifnonnull x eX10_hasSameStamp_9 (fun b9 c9 => by cases c9) (fun c9 => ?_)
  refine G_aload1 x eX10_hasSameStamp_12 ?_
  refine G_ifnonnull x eX10_hasSameStamp_13 (fun b9 c9 => ?_) (fun c13 => by cases c13)
  refine G_rg (fun hr => ?_)
  refine G_push x eX10_hasSameStamp_20 ?_
  refine G_zreturn x en eX10_hasSameStamp_21 (by omega) (by omega) ?_ ?_
  · first | exact Or.inl rfl | exact Or.inr rfl | omega
  · exact pv_i
set_option maxRecDepth 20000 in
theorem ct_hs_sn {T : gT} {I : gI} {J : gJ} {O : gO} {a : Nat} : Ct yX10_hasSameStamp cX10_hasSameStamp 2 (some .boolean) [va_rf (some a), va_rf none] 0 0 0 0 T I J O (pv (some (VI 0)) T I J O) := by
  refine Ct.of (by decide) [some (va_rf (some a)), some (va_rf none)] (gEn1 (List.forall_mem_cons.mpr ⟨cat_VR _, List.forall_mem_cons.mpr ⟨cat_VR _, fun _ h => nomatch h⟩⟩) rfl (Nat.le_of_ble_eq_true rfl) rfl) ?_
  intro X x en rm ini hr hz
  have hr0 := hr
  refine G_aload0 x eX10_hasSameStamp_0 ?_
  refine G_ifnull x eX10_hasSameStamp_1 (fun c1 => by cases c1) (fun b1 c1 => ?_)
  refine G_aload1 x eX10_hasSameStamp_4 ?_
  refine G_ifnonnull x eX10_hasSameStamp_5 (fun b5 c5 => by cases c5) (fun c5 => ?_)
  refine G_aload0 x eX10_hasSameStamp_8 ?_
  refine G_ifnonnull x eX10_hasSameStamp_9 (fun b9 c9 => ?_) (fun c9 => by cases c9)
  refine G_rg (fun hr => ?_)
  refine G_push x eX10_hasSameStamp_20 ?_
  refine G_zreturn x en eX10_hasSameStamp_21 (by omega) (by omega) ?_ ?_
  · first | exact Or.inl rfl | exact Or.inr rfl | omega
  · exact pv_i
set_option maxRecDepth 20000 in
theorem ct_hs_ss {T : gT} {I : gI} {J : gJ} {O : gO} {a b : Nat} (hA : T.2 a = some (.inl 5)) (hB : T.2 b = some (.inl 5)) : Ct yX10_hasSameStamp cX10_hasSameStamp 2 (some .boolean) [va_rf (some a), va_rf (some b)] 0 0 0 0 T I J O (pv (some (VI (if I a 1 = I b 1 ∧ I a 2 = I b 2 then 1 else 0))) T I J O) := by
  refine Ct.of (by decide) [some (va_rf (some a)), some (va_rf (some b))] (gEn1 (List.forall_mem_cons.mpr ⟨cat_VR _, List.forall_mem_cons.mpr ⟨cat_VR _, fun _ h => nomatch h⟩⟩) rfl (Nat.le_of_ble_eq_true rfl) rfl) ?_
  intro X x en rm ini hr hz
  have hr0 := hr
  refine G_aload0 x eX10_hasSameStamp_0 ?_
  refine G_ifnull x eX10_hasSameStamp_1 (fun c1 => by cases c1) (fun b1 c1 => ?_)
  refine G_aload1 x eX10_hasSameStamp_4 ?_
  refine G_ifnonnull x eX10_hasSameStamp_5 (fun b5 c5 => ?_) (fun c5 => by cases c5)
  refine G_rg (fun hr => ?_)
  refine G_aload0 x eX10_hasSameStamp_22 ?_
  refine G_geti x eX10_hasSameStamp_23 fX10_300 rfl rfl hA (fun h23 => ?_)
  refine G_aload1 x eX10_hasSameStamp_26 ?_
  refine G_geti x eX10_hasSameStamp_27 fX10_300 rfl rfl hB (fun h27 => ?_)
  refine G_icmp_ne x eX10_hasSameStamp_30 (by first | omega | exact hr _ _ | exact hr0 _ _ | exact hrS _) (by first | omega | exact hr _ _ | exact hr0 _ _ | exact hrS _) (fun c30 => ?_) (fun c30 => ?_)
  · refine G_push x eX10_hasSameStamp_48 ?_
    refine G_zreturn x en eX10_hasSameStamp_49 (by omega) (by omega) ?_ ?_
    · first | exact Or.inl rfl | exact Or.inr rfl | omega
    · refine ⟨?_, rfl, rfl, rfl, rfl⟩; split <;> first | rfl | omega
  · refine G_aload0 x eX10_hasSameStamp_33 ?_
    refine G_geti x eX10_hasSameStamp_34 fX10_301 rfl rfl hA (fun h34 => ?_)
    refine G_aload1 x eX10_hasSameStamp_37 ?_
    refine G_geti x eX10_hasSameStamp_38 fX10_301 rfl rfl hB (fun h38 => ?_)
    refine G_icmp_ne x eX10_hasSameStamp_41 (by first | omega | exact hr _ _ | exact hr0 _ _ | exact hrS _) (by first | omega | exact hr _ _ | exact hr0 _ _ | exact hrS _) (fun c41 => ?_) (fun c41 => ?_)
    · refine G_push x eX10_hasSameStamp_48 ?_
      refine G_zreturn x en eX10_hasSameStamp_49 (by omega) (by omega) ?_ ?_
      · first | exact Or.inl rfl | exact Or.inr rfl | omega
      · refine ⟨?_, rfl, rfl, rfl, rfl⟩; split <;> first | rfl | omega
    · refine G_push x eX10_hasSameStamp_44 ?_
      refine G_goto x eX10_hasSameStamp_45 ?_
      refine G_zreturn x en eX10_hasSameStamp_49 (by omega) (by omega) ?_ ?_
      · first | exact Or.inl rfl | exact Or.inr rfl | omega
      · refine ⟨?_, rfl, rfl, rfl, rfl⟩; split <;> first | rfl | omega
set_option maxRecDepth 20000 in
theorem ct_q_different {T : gT} {I : gI} {J : gJ} {O : gO} {B ss : Nat} {S : Int → Int} {n : Int} {Rc Xt : Int → Int} {L : Int} (hW : WW B ss T I J O S n Rc Xt L) (hI : Inv S) {a b : Int} (h0 : in32 a) (h1 : in32 b) : Cx yX10_different cX10_different 7 (some .int) [va_rf (some ss), VI a, VI b] 7 111 2 12 T I J O (cRet B ss T I J O (jThr a b) (VI (dfK S a b 144)) S n Rc Xt L) (cThr B ss T I J O (jThr a b) nIS S n Rc Xt L) := by
  refine Cx.of' (by decide) [some (va_rf (some ss)), some (VI a), some (VI b), none, none, none, none] (gEn1 (List.forall_mem_cons.mpr ⟨cat_VR _, List.forall_mem_cons.mpr ⟨cat_VI _, List.forall_mem_cons.mpr ⟨cat_VI _, fun _ h => nomatch h⟩⟩⟩) rfl (Nat.le_of_ble_eq_true rfl) rfl) ?_
  intro X x en rm th hr
  have hr0 := hr
  have hS := hW.1.1
  have hZ := hS.z
  have hss := hZ.m
  refine G_aload0 x eX10_different_0 ?_
  refine G_iload1 x eX10_different_1 ?_
  refine G_cVX x th eX10_different_2 kX10_39 ⟨im_yX10_replicaAt, se_yX10_replicaAt⟩ hZ.m rm (ct_X10_replicaAt hS h0) (fun _ _ _ _ _ h9 => cThr.tx h9.2 1 (by have q9 := h9.1; unfold jThr; (repeat' split) <;> first | rfl | omega) (by omega) rfl FrC.rf hW) rfl (fun v2 T2 I2 J2 O2 p2 => ?_)
  refine G_rg (fun hr => ?_)
  obtain ⟨q1, rfl, e1, e2, e3, e4⟩ := p2
  obtain rfl := e1.symm
  obtain rfl := e2.symm
  obtain rfl := e3.symm
  obtain rfl := e4.symm
  have hp := (hS.rp q1.1 q1.2).1
  obtain ⟨hR, hG, hC⟩ := hW.2.1 a q1.1 q1.2
  have hbhp := rpA_b (ss := ss) q1.1 q1.2
  have hBs := hW.1.2.1
  refine G_astore3 x eX10_different_5 ?_
  refine G_aload0 x eX10_different_6 ?_
  refine G_iload2 x eX10_different_7 ?_
  refine G_cVX x th eX10_different_8 kX10_39 ⟨im_yX10_replicaAt, se_yX10_replicaAt⟩ hZ.m rm (ct_X10_replicaAt hS h1) (fun _ _ _ _ _ h9 => cThr.tx h9.2 1 (by have q9 := h9.1; unfold jThr; (repeat' split) <;> first | rfl | omega) (by omega) rfl FrC.rf hW) rfl (fun v8 T8 I8 J8 O8 p8 => ?_)
  refine G_rg (fun hr => ?_)
  obtain ⟨q2, rfl, e1, e2, e3, e4⟩ := p8
  obtain rfl := e1.symm
  obtain rfl := e2.symm
  obtain rfl := e3.symm
  obtain rfl := e4.symm
  have hp2 := (hS.rp q2.1 q2.2).1
  obtain ⟨hR2, hG2, hC2⟩ := hW.2.1 b q2.1 q2.2
  have hbhp2 := rpA_b (ss := ss) q2.1 q2.2
  have hBs := hW.1.2.1
  have dB : ∀ k : Nat, 0 ≤ dfK S a b k ∧ dfK S a b k ≤ k := by
    intro k
    induction k with
    | zero => exact ⟨Int.le_refl 0, Int.le_refl 0⟩
    | succ k ih =>
      show 0 ≤ dfK S a b k + _ ∧ dfK S a b k + _ ≤ _
      split <;> omega
  have loop : ∀ (d k : Nat), k + d = 144 → G X 19 [some (va_rf (some ss)), some (VI a), some (VI b), some (va_rf (some (rpA ss a))), some (va_rf (some (rpA ss b))), some (VI (dfK S a b k)), some (VI (k : Int))] [] T I J O (0 + 1 + 1) (0 + 6 + 6) := by
    intro d
    induction d with
    | zero =>
      intro k hd
      have hk : k = 144 := by omega
      subst hk
      have db := dB 144
      refine G_rg (fun hr => ?_)
      refine G_iload6 x eX10_different_19 ?_
      refine G_push x eX10_different_21 ?_
      refine G_icmp_ge x eX10_different_24 (by first | omega | exact hr _ _ | exact hr0 _ _ | exact hrS _) (by first | omega | exact hr _ _ | exact hr0 _ _ | exact hrS _) (fun c24 => ?_) (fun c24 => ?_)
      · refine G_iload5 x eX10_different_55 ?_
        refine G_ireturn x en eX10_different_57 (by omega) (by omega) ?_
        exact ⟨by unfold jThr; rw [if_pos ⟨q1, q2⟩], rfl, FrC.rf, hW⟩
      · exfalso; omega
    | succ d ih =>
      intro k hd
      have ih := ih (k + 1) (by omega)
      have db := dB k
      have e9 : dfK S a b (k + 1) = dfK S a b k + (if S (3843 + 270 * a + (126 + (k : Int))) = S (3843 + 270 * b + (126 + (k : Int))) then 0 else 1) := rfl
      rw [e9, show ((k + 1 : Nat) : Int) = (k : Int) + 1 by omega] at ih
      have w1 := hR.2.2.2.2.1 (k : Int) (by omega) (by omega)
      have w2 := hR2.2.2.2.2.1 (k : Int) (by omega) (by omega)
      obtain ⟨t, ht, cS⟩ : ∃ t : Int, t = (if S (3843 + 270 * a + (126 + (k : Int))) = S (3843 + 270 * b + (126 + (k : Int))) then 1 else 0) ∧ Ct yX10_hasSameStamp cX10_hasSameStamp 2 (some .boolean) [va_rf (O (rpA ss a + 27) (k : Int)), va_rf (O (rpA ss b + 27) (k : Int))] 0 0 0 0 T I J O (pv (some (VI t)) T I J O) := by
        rcases w1 with ⟨z1, z2⟩ | ⟨z1, a1, z2, z3⟩ <;> rcases w2 with ⟨y1, y2⟩ | ⟨y1, b1, y2, y3⟩
        · exact ⟨1, by rw [if_pos (by rw [z1, y1])], by rw [z2, y2]; exact ct_hs_nn⟩
        · exact ⟨0, by rw [if_neg (by omega)], by rw [z2, y2]; exact ct_hs_ns⟩
        · exact ⟨0, by rw [if_neg (by omega)], by rw [z2, y2]; exact ct_hs_sn⟩
        · have cc := ct_hs_ss (I := I) (J := J) (O := O) z3.2.1 y3.2.1
          refine ⟨_, ?_, by rw [z2, y2]; exact cc⟩
          rw [z3.2.2.1.2.1, z3.2.2.1.2.2.1, y3.2.2.1.2.1, y3.2.2.1.2.2.1]
          by_cases e : S (3843 + 270 * a + (126 + (k : Int))) = S (3843 + 270 * b + (126 + (k : Int)))
          · rw [if_pos e, e, if_pos ⟨rfl, rfl⟩]
          · rw [if_neg e, if_neg]
            intro z
            have c1 := (hI.wr q1.1 q1.2 (c := (k : Int)) (by omega) (by omega) (by show S (3843 + 270 * a + (126 + (k : Int))) ≠ -1; omega)).1
            have c2 := (hI.wr q2.1 q2.2 (c := (k : Int)) (by omega) (by omega) (by show S (3843 + 270 * b + (126 + (k : Int))) ≠ -1; omega)).1
            simp only [cA] at c1 c2
            rcases (by omega : S (3843 + 270 * a + (126 + (k : Int))) < S (3843 + 270 * b + (126 + (k : Int))) ∨ S (3843 + 270 * b + (126 + (k : Int))) < S (3843 + 270 * a + (126 + (k : Int)))) with q | q
            · have g := hI.2.2.1 _ _ c2 c1.1.1 q z.2
              have g' : S (3 + 32 * S (3843 + 270 * a + (126 + (k : Int))) + 1) < S (3 + 32 * S (3843 + 270 * b + (126 + (k : Int))) + 1) := g
              omega
            · have g := hI.2.2.1 _ _ c1 c2.1.1 q z.2.symm
              have g' : S (3 + 32 * S (3843 + 270 * b + (126 + (k : Int))) + 1) < S (3 + 32 * S (3843 + 270 * a + (126 + (k : Int))) + 1) := g
              omega
      have ht2 : (t = 1 ∧ S (3843 + 270 * a + (126 + (k : Int))) = S (3843 + 270 * b + (126 + (k : Int)))) ∨ (t = 0 ∧ S (3843 + 270 * a + (126 + (k : Int))) ≠ S (3843 + 270 * b + (126 + (k : Int)))) := by
        by_cases e : S (3843 + 270 * a + (126 + (k : Int))) = S (3843 + 270 * b + (126 + (k : Int)))
        · rw [if_pos e] at ht; exact Or.inl ⟨ht, e⟩
        · rw [if_neg e] at ht; exact Or.inr ⟨ht, e⟩
      refine G_rg (fun hr => ?_)
      refine G_iload6 x eX10_different_19 ?_
      refine G_push x eX10_different_21 ?_
      refine G_icmp_ge x eX10_different_24 (by first | omega | exact hr _ _ | exact hr0 _ _ | exact hrS _) (by first | omega | exact hr _ _ | exact hr0 _ _ | exact hrS _) (fun c24 => ?_) (fun c24 => ?_)
      · exfalso; omega
      · refine G_aload3 x eX10_different_27 ?_
        refine G_iload6 x eX10_different_28 ?_
        refine G_cV x eX10_different_30 kX10_220 im_yX8_writerOf se_yX8_writerOf rm hp.m (ct_X8_writerOf hp (by omega) (by omega)) rfl ?_
        refine G_aload4 x eX10_different_33 ?_
        refine G_iload6 x eX10_different_35 ?_
        refine G_cV x eX10_different_37 kX10_220 im_yX8_writerOf se_yX8_writerOf rm hp2.m (ct_X8_writerOf hp2 (by omega) (by omega)) rfl ?_
        refine G_cS x eX10_different_40 kX10_223 sm_yX10_hasSameStamp rm cS rfl ?_
        refine G_if_ne x eX10_different_43 (by omega) (fun c43 => ?_) (fun c43 => ?_)
        · refine G_iinc6 x eX10_different_49 ?_
          refine G_goto x eX10_different_52 ?_
          rcases ht2 with ⟨t1, t2⟩ | ⟨t1, t2⟩ <;> first | (exfalso; omega) | (rw [if_pos t2, Int.add_zero] at ih; exact ih) | (rw [if_neg t2] at ih; exact ih)
        · refine G_iinc5 x eX10_different_46 ?_
          refine G_iinc6 x eX10_different_49 ?_
          refine G_goto x eX10_different_52 ?_
          rcases ht2 with ⟨t1, t2⟩ | ⟨t1, t2⟩ <;> first | (exfalso; omega) | (rw [if_pos t2, Int.add_zero] at ih; exact ih) | (rw [if_neg t2] at ih; exact ih)
  have hl := loop 144 0 rfl
  refine G_astore4 x eX10_different_11 ?_
  refine G_push x eX10_different_13 ?_
  refine G_istore5 x eX10_different_14 ?_
  refine G_push x eX10_different_16 ?_
  refine G_istore6 x eX10_different_17 ?_
  exact hl
/-! .. and alike -/
def smQ9 (S : Int → Int) (a b c : Int) : Prop := (tlS S a c 0 = tlS S b c 0 ∧ tlS S a c 3 = tlS S b c 3) ∧ (vlP S a).1 c = (vlP S b).1 c ∧ (vlP S a).2 c = (vlP S b).2 c
set_option maxRecDepth 20000 in
theorem ct_X10_hasSameContent {T : gT} {I : gI} {J : gJ} {O : gO} {B p q : Nat} {S : Int → Int} {a b c : Int} (hM : RpAt T O p) (hR : RpR B T I O p S a) (hW : clW S a) (hc : inC S a c) (hM2 : RpAt T O q) (hR2 : RpR B T I O q S b) (hW2 : clW S b) (hc2 : inC S b c) : Ct yX10_hasSameContent cX10_hasSameContent 5 (some .boolean) [va_rf (some p), va_rf (some q), VI c] 4 86 0 0 T I J O (pv (some (VI (b01 (tlS S a c 0 = tlS S b c 0 ∧ tlS S a c 3 = tlS S b c 3)))) T I J O) := by
  refine Ct.of (by decide) [some (va_rf (some p)), some (va_rf (some q)), some (VI c), none, none] (gEn1 (List.forall_mem_cons.mpr ⟨cat_VR _, List.forall_mem_cons.mpr ⟨cat_VR _, List.forall_mem_cons.mpr ⟨cat_VI _, fun _ h => nomatch h⟩⟩⟩) rfl (Nat.le_of_ble_eq_true rfl) rfl) ?_
  intro X x en rm ini hr hz
  have hr0 := hr
  refine G_aload0 x eX10_hasSameContent_0 ?_
  refine G_iload2 x eX10_hasSameContent_1 ?_
  refine G_cVg x eX10_hasSameContent_2 kX10_142 im_yX8_contentAt se_yX8_contentAt rm hM.m (ct_X8_contentAt hM hR hW hc) rfl (fun v2 T2 I2 J2 O2 p2 => ?_)
  refine G_rg (fun hr => ?_)
  obtain ⟨e1, e2, e3, e4, co, rfl, hco⟩ := p2
  obtain rfl := e1.symm
  obtain rfl := e2.symm
  obtain rfl := e3.symm
  obtain rfl := e4.symm
  refine G_astore3 x eX10_hasSameContent_5 ?_
  refine G_aload1 x eX10_hasSameContent_6 ?_
  refine G_iload2 x eX10_hasSameContent_7 ?_
  refine G_cVg x eX10_hasSameContent_8 kX10_142 im_yX8_contentAt se_yX8_contentAt rm hM2.m (ct_X8_contentAt hM2 hR2 hW2 hc2) rfl (fun v8 T8 I8 J8 O8 p8 => ?_)
  refine G_rg (fun hr => ?_)
  obtain ⟨e1, e2, e3, e4, co2, rfl, hco2⟩ := p8
  obtain rfl := e1.symm
  obtain rfl := e2.symm
  obtain rfl := e3.symm
  obtain rfl := e4.symm
  have h1 := hco.1
  have h2 := hco2.1
  rw [← cn_0 hco, ← cn_0 hco2, ← cn_3 hco, ← cn_3 hco2] at en
  refine G_astore4 x eX10_hasSameContent_11 ?_
  refine G_rg (fun hr => ?_)
  refine G_aload3 x eX10_hasSameContent_13 ?_
  refine G_geti x eX10_hasSameContent_14 fX10_297 rfl rfl h1 (fun h14 => ?_)
  refine G_aload4 x eX10_hasSameContent_17 ?_
  refine G_geti x eX10_hasSameContent_19 fX10_297 rfl rfl h2 (fun h19 => ?_)
  refine G_icmp_ne x eX10_hasSameContent_22 (by first | omega | exact hr _ _ | exact hr0 _ _ | exact hrS _) (by first | omega | exact hr _ _ | exact hr0 _ _ | exact hrS _) (fun c22 => ?_) (fun c22 => ?_)
  · refine G_push x eX10_hasSameContent_41 ?_
    refine G_zreturn x en eX10_hasSameContent_42 (by omega) (by omega) ?_ ?_
    · first | exact Or.inl rfl | exact Or.inr rfl | omega
    · first | exact ⟨by rw [b01_t ⟨by omega, by omega⟩], rfl, rfl, rfl, rfl⟩ | exact ⟨by rw [b01_f (fun z => by omega)], rfl, rfl, rfl, rfl⟩
  · refine G_aload3 x eX10_hasSameContent_25 ?_
    refine G_geti x eX10_hasSameContent_26 fX10_304 rfl rfl h1 (fun h26 => ?_)
    refine G_aload4 x eX10_hasSameContent_29 ?_
    refine G_geti x eX10_hasSameContent_31 fX10_304 rfl rfl h2 (fun h31 => ?_)
    refine G_icmp_ne x eX10_hasSameContent_34 (by first | omega | exact hr _ _ | exact hr0 _ _ | exact hrS _) (by first | omega | exact hr _ _ | exact hr0 _ _ | exact hrS _) (fun c34 => ?_) (fun c34 => ?_)
    · refine G_push x eX10_hasSameContent_41 ?_
      refine G_zreturn x en eX10_hasSameContent_42 (by omega) (by omega) ?_ ?_
      · first | exact Or.inl rfl | exact Or.inr rfl | omega
      · first | exact ⟨by rw [b01_t ⟨by omega, by omega⟩], rfl, rfl, rfl, rfl⟩ | exact ⟨by rw [b01_f (fun z => by omega)], rfl, rfl, rfl, rfl⟩
    · refine G_push x eX10_hasSameContent_37 ?_
      refine G_goto x eX10_hasSameContent_38 ?_
      refine G_zreturn x en eX10_hasSameContent_42 (by omega) (by omega) ?_ ?_
      · first | exact Or.inl rfl | exact Or.inr rfl | omega
      · first | exact ⟨by rw [b01_t ⟨by omega, by omega⟩], rfl, rfl, rfl, rfl⟩ | exact ⟨by rw [b01_f (fun z => by omega)], rfl, rfl, rfl, rfl⟩
set_option maxRecDepth 20000 in
theorem ct_X10_hasSameResult {T : gT} {I : gI} {J : gJ} {O : gO} {ca cb : Nat} {S : Int → Int} {a b c : Int} (hM : CaAt T O ca) (hA : CaR I J ca S a) (hM2 : CaAt T O cb) (hA2 : CaR I J cb S b) (hf : fmOk S a) (hf2 : fmOk S b) (hc : inC S a c) (hc2 : inC S b c) : Ct yX10_hasSameResult cX10_hasSameResult 3 (some .boolean) [va_rf (some ca), va_rf (some cb), VI c] 2 41 0 0 T I J O (pv (some (VI (b01 ((vlP S a).1 c = (vlP S b).1 c ∧ (vlP S a).2 c = (vlP S b).2 c)))) T I J O) := by
  refine Ct.of (by decide) [some (va_rf (some ca)), some (va_rf (some cb)), some (VI c)] (gEn1 (List.forall_mem_cons.mpr ⟨cat_VR _, List.forall_mem_cons.mpr ⟨cat_VR _, List.forall_mem_cons.mpr ⟨cat_VI _, fun _ h => nomatch h⟩⟩⟩) rfl (Nat.le_of_ble_eq_true rfl) rfl) ?_
  intro X x en rm ini hr hz
  have hr0 := hr
  have hb := hc.b
  have v1 := vl_eq hf hA.2.1 c hc
  have v2 := vl_eq hf2 hA2.2.1 c hc2
  rw [← v1.1, ← v2.1, ← v1.2, ← v2.2] at en
  have i1 := hr (ca + 1) c
  have i2 := hr (cb + 1) c
  have ev : vV I ca c = vV I cb c ↔ I (ca + 1) c = I (cb + 1) c := by
    constructor
    · intro z
      have z2 : (Int64.ofInt (I (ca + 1) c)).toInt = (Int64.ofInt (I (cb + 1) c)).toInt := congrArg Int64.toInt z
      rw [Int64.toInt_ofInt_of_le (by omega) (by omega), Int64.toInt_ofInt_of_le (by omega) (by omega)] at z2
      exact z2
    · intro z
      show Int64.ofInt (I (ca + 1) c) = Int64.ofInt (I (cb + 1) c)
      rw [z]
  rw [b01_e (and_congr ev Iff.rfl)] at en
  refine G_rg (fun hr => ?_)
  refine G_aload0 x eX10_hasSameResult_0 ?_
  refine G_iload2 x eX10_hasSameResult_1 ?_
  refine G_cV x eX10_hasSameResult_2 kX10_136 im_yX0_valueAt se_yX0_valueAt rm hM.m (ct_X0_valueAt hM hb.1 hb.2) rfl ?_
  refine G_aload1 x eX10_hasSameResult_5 ?_
  refine G_iload2 x eX10_hasSameResult_6 ?_
  refine G_cV x eX10_hasSameResult_7 kX10_136 im_yX0_valueAt se_yX0_valueAt rm hM2.m (ct_X0_valueAt hM2 hb.1 hb.2) rfl ?_
  refine G_icmp_ne x eX10_hasSameResult_10 (by first | omega | exact hr _ _ | exact hr0 _ _ | exact hrS _) (by first | omega | exact hr _ _ | exact hr0 _ _ | exact hrS _) (fun c10 => ?_) (fun c10 => ?_)
  · refine G_push x eX10_hasSameResult_30 ?_
    refine G_zreturn x en eX10_hasSameResult_31 (by omega) (by omega) ?_ ?_
    · first | exact Or.inl rfl | exact Or.inr rfl | omega
    · first | exact ⟨by rw [b01_t ⟨by omega, by omega⟩], rfl, rfl, rfl, rfl⟩ | exact ⟨by rw [b01_f (fun z => by omega)], rfl, rfl, rfl, rfl⟩
  · refine G_aload0 x eX10_hasSameResult_13 ?_
    refine G_iload2 x eX10_hasSameResult_14 ?_
    refine G_cV x eX10_hasSameResult_15 kX10_139 im_yX0_errorAt se_yX0_errorAt rm hM.m (ct_X0_errorAt hM hb.1 hb.2) rfl ?_
    refine G_aload1 x eX10_hasSameResult_18 ?_
    refine G_iload2 x eX10_hasSameResult_19 ?_
    refine G_cV x eX10_hasSameResult_20 kX10_139 im_yX0_errorAt se_yX0_errorAt rm hM2.m (ct_X0_errorAt hM2 hb.1 hb.2) rfl ?_
    refine G_icmp_ne x eX10_hasSameResult_23 (by first | omega | exact hr _ _ | exact hr0 _ _ | exact hrS _) (by first | omega | exact hr _ _ | exact hr0 _ _ | exact hrS _) (fun c23 => ?_) (fun c23 => ?_)
    · refine G_push x eX10_hasSameResult_30 ?_
      refine G_zreturn x en eX10_hasSameResult_31 (by omega) (by omega) ?_ ?_
      · first | exact Or.inl rfl | exact Or.inr rfl | omega
      · first | exact ⟨by rw [b01_t ⟨by omega, by omega⟩], rfl, rfl, rfl, rfl⟩ | exact ⟨by rw [b01_f (fun z => by omega)], rfl, rfl, rfl, rfl⟩
    · refine G_push x eX10_hasSameResult_26 ?_
      refine G_goto x eX10_hasSameResult_27 ?_
      refine G_zreturn x en eX10_hasSameResult_31 (by omega) (by omega) ?_ ?_
      · first | exact Or.inl rfl | exact Or.inr rfl | omega
      · first | exact ⟨by rw [b01_t ⟨by omega, by omega⟩], rfl, rfl, rfl, rfl⟩ | exact ⟨by rw [b01_f (fun z => by omega)], rfl, rfl, rfl, rfl⟩
theorem ar_eq {I : gI} {ln lm : Nat} {S : Int → Int} {a b kd : Int} (h : lnR I ln S a kd) (h2 : lnR I lm S b kd) : (I ln 6 = I lm 6 ∧ ∀ i, 0 ≤ i → i < I ln 6 → I (ln + 6) i = I (lm + 6) i) ↔ (rwN S a kd (-1) = rwN S b kd (-1) ∧ ∀ i, 0 ≤ i → i < rwN S a kd (-1) → rwF S a kd (-1) i = rwF S b kd (-1) i) := by
  rw [h.1, h2.1]
  constructor
  · rintro ⟨z1, z2⟩
    exact ⟨z1, fun i i0 i1 => by rw [← h.2 i i0 i1, ← h2.2 i i0 (by omega)]; exact z2 i i0 i1⟩
  · rintro ⟨z1, z2⟩
    exact ⟨z1, fun i i0 i1 => by rw [h.2 i i0 i1, h2.2 i i0 (by omega)]; exact z2 i i0 i1⟩
set_option maxRecDepth 20000 in
theorem ct_q_areAlike {T : gT} {I : gI} {J : gJ} {O : gO} {B ss : Nat} {S : Int → Int} {n : Int} {Rc Xt : Int → Int} {L : Int} (hW : WW B ss T I J O S n Rc Xt L) (hI : Inv S) {a b : Int} (h0 : in32 a) (h1 : in32 b) : Cx yX10_areAlike cX10_areAlike 10 (some .boolean) [va_rf (some ss), VI a, VI b] 7 150 2 12 T I J O (cRet B ss T I J O (jThr a b) (VI (b01 (alK S a b))) S n Rc Xt L) (cThr B ss T I J O (jThr a b) nIS S n Rc Xt L) := by
  refine Cx.of' (by decide) [some (va_rf (some ss)), some (VI a), some (VI b), none, none, none, none, none, none, none] (gEn1 (List.forall_mem_cons.mpr ⟨cat_VR _, List.forall_mem_cons.mpr ⟨cat_VI _, List.forall_mem_cons.mpr ⟨cat_VI _, fun _ h => nomatch h⟩⟩⟩) rfl (Nat.le_of_ble_eq_true rfl) rfl) ?_
  intro X x en rm th hr
  have hr0 := hr
  have hS := hW.1.1
  have hZ := hS.z
  have hss := hZ.m
  refine G_aload0 x eX10_areAlike_0 ?_
  refine G_iload1 x eX10_areAlike_1 ?_
  refine G_cVX x th eX10_areAlike_2 kX10_39 ⟨im_yX10_replicaAt, se_yX10_replicaAt⟩ hZ.m rm (ct_X10_replicaAt hS h0) (fun _ _ _ _ _ h9 => cThr.tx h9.2 1 (by have q9 := h9.1; unfold jThr; (repeat' split) <;> first | rfl | omega) (by omega) rfl FrC.rf hW) rfl (fun v2 T2 I2 J2 O2 p2 => ?_)
  refine G_rg (fun hr => ?_)
  obtain ⟨q1, rfl, e1, e2, e3, e4⟩ := p2
  obtain rfl := e1.symm
  obtain rfl := e2.symm
  obtain rfl := e3.symm
  obtain rfl := e4.symm
  have hp := (hS.rp q1.1 q1.2).1
  obtain ⟨hR, hG, hC⟩ := hW.2.1 a q1.1 q1.2
  have hbhp := rpA_b (ss := ss) q1.1 q1.2
  have hBs := hW.1.2.1
  refine G_astore3 x eX10_areAlike_5 ?_
  refine G_aload0 x eX10_areAlike_6 ?_
  refine G_iload2 x eX10_areAlike_7 ?_
  refine G_cVX x th eX10_areAlike_8 kX10_39 ⟨im_yX10_replicaAt, se_yX10_replicaAt⟩ hZ.m rm (ct_X10_replicaAt hS h1) (fun _ _ _ _ _ h9 => cThr.tx h9.2 1 (by have q9 := h9.1; unfold jThr; (repeat' split) <;> first | rfl | omega) (by omega) rfl FrC.rf hW) rfl (fun v8 T8 I8 J8 O8 p8 => ?_)
  refine G_rg (fun hr => ?_)
  obtain ⟨q2, rfl, e1, e2, e3, e4⟩ := p8
  obtain rfl := e1.symm
  obtain rfl := e2.symm
  obtain rfl := e3.symm
  obtain rfl := e4.symm
  have hp2 := (hS.rp q2.1 q2.2).1
  obtain ⟨hR2, hG2, hC2⟩ := hW.2.1 b q2.1 q2.2
  have hbhp2 := rpA_b (ss := ss) q2.1 q2.2
  have hBs := hW.1.2.1
  have hth : jThr a b = 0 := by unfold jThr; rw [if_pos ⟨q1, q2⟩]
  have na0 := (rwE S a 0 (-1)).1
  have na1 := (rwE S a 0 (-1)).2.1
  have na2 := (rwE S a 1 (-1)).1
  have na3 := (rwE S a 1 (-1)).2.1
  have c1 := ct_X4_isArrangedLike (T := T) (I := I) (J := J) (O := O) hp.s_rows hp2.s_rows (by rw [hR.2.2.1.R.1]; exact na0) (by rw [hR.2.2.1.R.1]; exact na1)
  rw [b01_e (ar_eq hR.2.2.1.R hR2.2.2.1.R)] at c1
  have c2 := ct_X4_isArrangedLike (T := T) (I := I) (J := J) (O := O) hp.s_columns hp2.s_columns (by rw [hR.2.2.2.1.R.1]; exact na2) (by rw [hR.2.2.2.1.R.1]; exact na3)
  rw [b01_e (ar_eq hR.2.2.2.1.R hR2.2.2.2.1.R)] at c2
  by_cases A1 : rwN S a 0 (-1) = rwN S b 0 (-1) ∧ ∀ i, 0 ≤ i → i < rwN S a 0 (-1) → rwF S a 0 (-1) i = rwF S b 0 (-1) i
  rotate_left
  · rw [b01_f A1] at c1
    have fin : b01 (alK S a b) = 0 := b01_f (fun z => A1 ⟨z.1, z.2.2.1⟩)
    refine G_rg (fun hr => ?_)
    refine G_astore4 x eX10_areAlike_11 ?_
    refine G_aload3 x eX10_areAlike_13 ?_
    refine G_getq x eX10_areAlike_14 fX10_201 rfl rfl hp.m hp.o_rows ?_
    refine G_aload4 x eX10_areAlike_17 ?_
    refine G_getq x eX10_areAlike_19 fX10_201 rfl rfl hp2.m hp2.o_rows ?_
    refine G_cV x eX10_areAlike_22 kX10_205 im_yX4_isArrangedLike se_yX4_isArrangedLike rm hp.s_rows.m c1 rfl ?_
    refine G_if_eq x eX10_areAlike_25 (by omega) (fun c25 => ?_) (fun c25 => ?_)
    · refine G_push x eX10_areAlike_43 ?_
      refine G_zreturn x en eX10_areAlike_44 (by omega) (by omega) ?_ ?_
      · first | exact Or.inl rfl | exact Or.inr rfl | omega
      · rw [fin]; exact ⟨hth, rfl, FrC.rf, hW⟩
    · exfalso; omega
  by_cases A2 : rwN S a 1 (-1) = rwN S b 1 (-1) ∧ ∀ i, 0 ≤ i → i < rwN S a 1 (-1) → rwF S a 1 (-1) i = rwF S b 1 (-1) i
  rotate_left
  · rw [b01_t A1] at c1
    rw [b01_f A2] at c2
    have fin : b01 (alK S a b) = 0 := b01_f (fun z => A2 ⟨z.2.1, z.2.2.2.1⟩)
    refine G_rg (fun hr => ?_)
    refine G_astore4 x eX10_areAlike_11 ?_
    refine G_aload3 x eX10_areAlike_13 ?_
    refine G_getq x eX10_areAlike_14 fX10_201 rfl rfl hp.m hp.o_rows ?_
    refine G_aload4 x eX10_areAlike_17 ?_
    refine G_getq x eX10_areAlike_19 fX10_201 rfl rfl hp2.m hp2.o_rows ?_
    refine G_cV x eX10_areAlike_22 kX10_205 im_yX4_isArrangedLike se_yX4_isArrangedLike rm hp.s_rows.m c1 rfl ?_
    refine G_if_eq x eX10_areAlike_25 (by omega) (fun c25 => ?_) (fun c25 => ?_)
    · refine G_push x eX10_areAlike_43 ?_
      refine G_zreturn x en eX10_areAlike_44 (by omega) (by omega) ?_ ?_
      · first | exact Or.inl rfl | exact Or.inr rfl | omega
      · first | (exfalso; omega) | (rw [fin]; exact ⟨hth, rfl, FrC.rf, hW⟩)
    · refine G_aload3 x eX10_areAlike_28 ?_
      refine G_getq x eX10_areAlike_29 fX10_209 rfl rfl hp.m hp.o_columns ?_
      refine G_aload4 x eX10_areAlike_32 ?_
      refine G_getq x eX10_areAlike_34 fX10_209 rfl rfl hp2.m hp2.o_columns ?_
      refine G_cV x eX10_areAlike_37 kX10_205 im_yX4_isArrangedLike se_yX4_isArrangedLike rm hp.s_columns.m c2 rfl ?_
      refine G_if_ne x eX10_areAlike_40 (by omega) (fun c40 => ?_) (fun c40 => ?_)
      · exfalso; omega
      · refine G_push x eX10_areAlike_43 ?_
        refine G_zreturn x en eX10_areAlike_44 (by omega) (by omega) ?_ ?_
        · first | exact Or.inl rfl | exact Or.inr rfl | omega
        · first | (exfalso; omega) | (rw [fin]; exact ⟨hth, rfl, FrC.rf, hW⟩)
  rw [b01_t A1] at c1
  rw [b01_t A2] at c2
  refine G_astore4 x eX10_areAlike_11 ?_
  refine G_aload3 x eX10_areAlike_13 ?_
  refine G_getq x eX10_areAlike_14 fX10_201 rfl rfl hp.m hp.o_rows ?_
  refine G_aload4 x eX10_areAlike_17 ?_
  refine G_getq x eX10_areAlike_19 fX10_201 rfl rfl hp2.m hp2.o_rows ?_
  refine G_cV x eX10_areAlike_22 kX10_205 im_yX4_isArrangedLike se_yX4_isArrangedLike rm hp.s_rows.m c1 rfl ?_
  refine G_if_eq x eX10_areAlike_25 (by omega) (fun c25 => absurd c25 (by omega)) (fun c25 => ?_)
  refine G_aload3 x eX10_areAlike_28 ?_
  refine G_getq x eX10_areAlike_29 fX10_209 rfl rfl hp.m hp.o_columns ?_
  refine G_aload4 x eX10_areAlike_32 ?_
  refine G_getq x eX10_areAlike_34 fX10_209 rfl rfl hp2.m hp2.o_columns ?_
  refine G_cV x eX10_areAlike_37 kX10_205 im_yX4_isArrangedLike se_yX4_isArrangedLike rm hp.s_columns.m c2 rfl ?_
  refine G_if_ne x eX10_areAlike_40 (by omega) (fun c40 => ?_) (fun c40 => absurd c40 (by omega))
  refine G_aload3 x eX10_areAlike_45 ?_
  refine G_getq x eX10_areAlike_46 fX10_122 rfl rfl hp.m hp.o_calculation ?_
  refine G_aload3 x eX10_areAlike_49 ?_
  refine G_cVg x eX10_areAlike_50 kX10_126 im_yX0_upToDate se_yX0_upToDate rm hp.s_calculation.m (ct_X0_upToDate hp rfl (by omega) hR (hI.cw q1.1 q1.2) (hI.fm q1.1 q1.2) q1.1 q1.2 (fun c hc => hI.nf q1.1 q1.2 hc) hC) rfl (fun v50 T50 I50 J50 O50 p50 => ?_)
  refine G_rg (fun hr => ?_)
  obtain ⟨hW1, hF1⟩ := hW.ut hI q1.1 q1.2 p50
  obtain ⟨rfl, e1, -, -, -, hA1, hu1⟩ := p50
  obtain rfl := e1.symm
  have hpb := (hW1.1.1.rp q2.1 q2.2).1
  obtain ⟨hRb, hGb, hCb⟩ := hW1.2.1 b q2.1 q2.2
  have hBs2 := hW1.1.2.1
  refine G_astore5 x eX10_areAlike_53 ?_
  refine G_aload4 x eX10_areAlike_55 ?_
  refine G_getq x eX10_areAlike_57 fX10_122 rfl rfl hpb.m hpb.o_calculation ?_
  refine G_aload4 x eX10_areAlike_60 ?_
  refine G_cVg x eX10_areAlike_62 kX10_126 im_yX0_upToDate se_yX0_upToDate rm hpb.s_calculation.m (ct_X0_upToDate hpb rfl (by omega) hRb (hI.cw q2.1 q2.2) (hI.fm q2.1 q2.2) q2.1 q2.2 (fun c hc => hI.nf q2.1 q2.2 hc) hCb) rfl (fun v62 T62 I62 J62 O62 p62 => ?_)
  refine G_rg (fun hr => ?_)
  obtain ⟨hW2, hF2⟩ := hW1.ut hI q2.1 q2.2 p62
  obtain ⟨rfl, e1, g1, g2, -, hA2, hu2⟩ := p62
  obtain rfl := e1.symm
  have hAa : CaR I62 J62 (rpA ss a + 15) S a := by
    by_cases e : a = b
    · subst e; exact hA2
    · have hd := rpA_d (ss := ss) q1.1 q1.2 q2.1 q2.2 e
      exact hA1.c (fun b j b1 b2 _ => g1 b j (by omega)) (fun b j b1 b2 => g2 b j (by omega))
  have hF9 := hF1.tr hF2
  have hpA := (hW2.1.1.rp q1.1 q1.2).1
  have hpB := (hW2.1.1.rp q2.1 q2.2).1
  have hRA := (hW2.2.1 a q1.1 q1.2).1
  have hRB := (hW2.2.1 b q2.1 q2.2).1
  have eA0 := hRA.2.2.1.R.1
  have eA1 := hRA.2.2.2.1.R.1
  have hfa := hI.fm q1.1 q1.2
  have hfb := hI.fm q2.1 q2.2
  have cnt : ∀ row col : Nat, (row : Int) < rwN S a 0 (-1) → (col : Int) < rwN S a 1 (-1) → Ct yX10_hasSameContent cX10_hasSameContent 5 (some .boolean) [va_rf (some (rpA ss a)), va_rf (some (rpA ss b)), VI ((row : Int) * 12 + col)] 4 86 0 0 T I62 J62 O62 (pv (some (VI (b01 (tlS S a (12 * (row : Int) + col) 0 = tlS S b (12 * (row : Int) + col) 0 ∧ tlS S a (12 * (row : Int) + col) 3 = tlS S b (12 * (row : Int) + col) 3)))) T I62 J62 O62) ∧ Ct yX10_hasSameResult cX10_hasSameResult 3 (some .boolean) [va_rf (some (rpA ss a + 15)), va_rf (some (rpA ss b + 15)), VI ((row : Int) * 12 + col)] 2 41 0 0 T I62 J62 O62 (pv (some (VI (b01 ((vlP S a).1 (12 * (row : Int) + col) = (vlP S b).1 (12 * (row : Int) + col) ∧ (vlP S a).2 (12 * (row : Int) + col) = (vlP S b).2 (12 * (row : Int) + col))))) T I62 J62 O62) := fun row col h1 h2 => by
    have hca : inC S a (12 * (row : Int) + col) := inC.of ⟨⟨by omega, h1⟩, by omega, h2⟩
    have hcb : inC S b (12 * (row : Int) + col) := inC.of ⟨⟨by omega, by rw [← A1.1]; exact h1⟩, by omega, by rw [← A2.1]; exact h2⟩
    rw [show (row : Int) * 12 + col = 12 * (row : Int) + col by omega]
    exact ⟨ct_X10_hasSameContent hpA hRA (hI.cw q1.1 q1.2) hca hpB hRB (hI.cw q2.1 q2.2) hcb, ct_X10_hasSameResult hpA.s_calculation hAa hpB.s_calculation hA2 hfa hfb hca hcb⟩
  have no : ∀ row col : Nat, (row : Int) < rwN S a 0 (-1) → (col : Int) < rwN S a 1 (-1) → ¬ smQ9 S a b (12 * (row : Int) + col) → b01 (alK S a b) = 0 := fun row col h1 h2 hn => b01_f (fun z => hn (z.2.2.2.2 _ (inC.of ⟨⟨by omega, h1⟩, by omega, h2⟩)))
  have cl : ∀ (d k row : Nat) (o9 : Option Value), (k : Int) + d = rwN S a 1 (-1) → (row : Int) < rwN S a 0 (-1) → (∀ c, inC S a c → (c / 12 < (row : Int) ∨ (c / 12 = (row : Int) ∧ c % 12 < (k : Int))) → smQ9 S a b c) → (∀ o8 o9, (∀ c, inC S a c → c / 12 < (row : Int) + 1 → smQ9 S a b c) → G X 70 [some (va_rf (some ss)), some (VI a), some (VI b), some (va_rf (some (rpA ss a))), some (va_rf (some (rpA ss b))), some (va_rf (some (rpA ss a + 15))), some (va_rf (some (rpA ss b + 15))), some (VI ((row : Int) + 1)), o8, o9] [] T I62 J62 O62 (0 + 1 + 1) (0 + 6 + 6)) → G X 85 [some (va_rf (some ss)), some (VI a), some (VI b), some (va_rf (some (rpA ss a))), some (va_rf (some (rpA ss b))), some (va_rf (some (rpA ss a + 15))), some (va_rf (some (rpA ss b + 15))), some (VI (row : Int)), some (VI (k : Int)), o9] [] T I62 J62 O62 (0 + 1 + 1) (0 + 6 + 6) := by
    intro d
    induction d with
    | zero =>
      intro k row o9 hd hr1 hs kk
      have kk := kk (some (VI (k : Int))) o9 (fun c hc h9 => hs c hc (by have := hc.2.2; omega))
      refine G_rg (fun hr => ?_)
      refine G_iload8 x eX10_areAlike_85 ?_
      refine G_aload3 x eX10_areAlike_87 ?_
      refine G_getq x eX10_areAlike_88 fX10_209 rfl rfl hpA.m hpA.o_columns ?_
      refine G_cV x eX10_areAlike_91 kX10_47 im_yX4_count se_yX4_count rm hpA.s_columns.m (ct_X4_count hpA.s_columns) rfl ?_
      refine G_icmp_ge x eX10_areAlike_94 (by first | omega | exact hr _ _ | exact hr0 _ _ | exact hrS _) (by first | omega | exact hr _ _ | exact hr0 _ _ | exact hrS _) (fun c94 => ?_) (fun c94 => ?_)
      · refine G_iinc7 x eX10_areAlike_138 ?_
        refine G_goto x eX10_areAlike_141 ?_
        exact kk
      · exfalso; omega
    | succ d ih =>
      intro k row o9 hd hr1 hs kk
      obtain ⟨cS, cT⟩ := cnt row k hr1 (by omega)
      have nn := no row k hr1 (by omega)
      have ih9 := ih (k + 1) row (some (VI ((row : Int) * 12 + k))) (by omega) hr1
      by_cases s1 : tlS S a (12 * (row : Int) + k) 0 = tlS S b (12 * (row : Int) + k) 0 ∧ tlS S a (12 * (row : Int) + k) 3 = tlS S b (12 * (row : Int) + k) 3
      rotate_left
      · rw [b01_f s1] at cS
        have fin := nn (fun z => s1 z.1)
        refine G_rg (fun hr => ?_)
        refine G_iload8 x eX10_areAlike_85 ?_
        refine G_aload3 x eX10_areAlike_87 ?_
        refine G_getq x eX10_areAlike_88 fX10_209 rfl rfl hpA.m hpA.o_columns ?_
        refine G_cV x eX10_areAlike_91 kX10_47 im_yX4_count se_yX4_count rm hpA.s_columns.m (ct_X4_count hpA.s_columns) rfl ?_
        refine G_icmp_ge x eX10_areAlike_94 (by first | omega | exact hr _ _ | exact hr0 _ _ | exact hrS _) (by first | omega | exact hr _ _ | exact hr0 _ _ | exact hrS _) (fun c94 => ?_) (fun c94 => ?_)
        · exfalso; omega
        · refine G_iload7 x eX10_areAlike_97 ?_
          refine G_push x eX10_areAlike_99 ?_
          refine G_imul x eX10_areAlike_101 ?_
          refine G_iload8 x eX10_areAlike_102 ?_
          refine G_iadd x eX10_areAlike_104 ?_
          refine G_istore9 x eX10_areAlike_105 ?_
          refine G_aload3 x eX10_areAlike_107 ?_
          refine G_aload4 x eX10_areAlike_108 ?_
          refine G_iload9 x eX10_areAlike_110 ?_
          refine G_cS x eX10_areAlike_112 kX10_212 sm_yX10_hasSameContent rm cS rfl ?_
          refine G_if_eq x eX10_areAlike_115 (by omega) (fun c115 => ?_) (fun c115 => ?_)
          · refine G_push x eX10_areAlike_130 ?_
            refine G_zreturn x en eX10_areAlike_131 (by omega) (by omega) ?_ ?_
            · first | exact Or.inl rfl | exact Or.inr rfl | omega
            · rw [fin]; exact ⟨hth, rfl, hF9, hW2⟩
          · exfalso; omega
      by_cases s2 : (vlP S a).1 (12 * (row : Int) + k) = (vlP S b).1 (12 * (row : Int) + k) ∧ (vlP S a).2 (12 * (row : Int) + k) = (vlP S b).2 (12 * (row : Int) + k)
      rotate_left
      · rw [b01_t s1] at cS
        rw [b01_f s2] at cT
        have fin := nn (fun z => s2 z.2)
        refine G_rg (fun hr => ?_)
        refine G_iload8 x eX10_areAlike_85 ?_
        refine G_aload3 x eX10_areAlike_87 ?_
        refine G_getq x eX10_areAlike_88 fX10_209 rfl rfl hpA.m hpA.o_columns ?_
        refine G_cV x eX10_areAlike_91 kX10_47 im_yX4_count se_yX4_count rm hpA.s_columns.m (ct_X4_count hpA.s_columns) rfl ?_
        refine G_icmp_ge x eX10_areAlike_94 (by first | omega | exact hr _ _ | exact hr0 _ _ | exact hrS _) (by first | omega | exact hr _ _ | exact hr0 _ _ | exact hrS _) (fun c94 => ?_) (fun c94 => ?_)
        · exfalso; omega
        · refine G_iload7 x eX10_areAlike_97 ?_
          refine G_push x eX10_areAlike_99 ?_
          refine G_imul x eX10_areAlike_101 ?_
          refine G_iload8 x eX10_areAlike_102 ?_
          refine G_iadd x eX10_areAlike_104 ?_
          refine G_istore9 x eX10_areAlike_105 ?_
          refine G_aload3 x eX10_areAlike_107 ?_
          refine G_aload4 x eX10_areAlike_108 ?_
          refine G_iload9 x eX10_areAlike_110 ?_
          refine G_cS x eX10_areAlike_112 kX10_212 sm_yX10_hasSameContent rm cS rfl ?_
          refine G_if_eq x eX10_areAlike_115 (by omega) (fun c115 => ?_) (fun c115 => ?_)
          · refine G_push x eX10_areAlike_130 ?_
            refine G_zreturn x en eX10_areAlike_131 (by omega) (by omega) ?_ ?_
            · first | exact Or.inl rfl | exact Or.inr rfl | omega
            · first | (exfalso; omega) | (rw [fin]; exact ⟨hth, rfl, hF9, hW2⟩)
          · refine G_aload5 x eX10_areAlike_118 ?_
            refine G_aload6 x eX10_areAlike_120 ?_
            refine G_iload9 x eX10_areAlike_122 ?_
            refine G_cS x eX10_areAlike_124 kX10_216 sm_yX10_hasSameResult rm cT rfl ?_
            refine G_if_ne x eX10_areAlike_127 (by omega) (fun c127 => ?_) (fun c127 => ?_)
            · exfalso; omega
            · refine G_push x eX10_areAlike_130 ?_
              refine G_zreturn x en eX10_areAlike_131 (by omega) (by omega) ?_ ?_
              · first | exact Or.inl rfl | exact Or.inr rfl | omega
              · first | (exfalso; omega) | (rw [fin]; exact ⟨hth, rfl, hF9, hW2⟩)
      rw [b01_t s1] at cS
      rw [b01_t s2] at cT
      have ih9 := ih9 (fun c hc h9 => by
        by_cases e : c = 12 * (row : Int) + k
        · rw [e]; exact ⟨s1, s2⟩
        · exact hs c hc (by omega)) kk
      rw [show ((k + 1 : Nat) : Int) = (k : Int) + 1 by omega] at ih9
      refine G_rg (fun hr => ?_)
      refine G_iload8 x eX10_areAlike_85 ?_
      refine G_aload3 x eX10_areAlike_87 ?_
      refine G_getq x eX10_areAlike_88 fX10_209 rfl rfl hpA.m hpA.o_columns ?_
      refine G_cV x eX10_areAlike_91 kX10_47 im_yX4_count se_yX4_count rm hpA.s_columns.m (ct_X4_count hpA.s_columns) rfl ?_
      refine G_icmp_ge x eX10_areAlike_94 (by first | omega | exact hr _ _ | exact hr0 _ _ | exact hrS _) (by first | omega | exact hr _ _ | exact hr0 _ _ | exact hrS _) (fun c94 => ?_) (fun c94 => ?_)
      · exfalso; omega
      · refine G_iload7 x eX10_areAlike_97 ?_
        refine G_push x eX10_areAlike_99 ?_
        refine G_imul x eX10_areAlike_101 ?_
        refine G_iload8 x eX10_areAlike_102 ?_
        refine G_iadd x eX10_areAlike_104 ?_
        refine G_istore9 x eX10_areAlike_105 ?_
        refine G_aload3 x eX10_areAlike_107 ?_
        refine G_aload4 x eX10_areAlike_108 ?_
        refine G_iload9 x eX10_areAlike_110 ?_
        refine G_cS x eX10_areAlike_112 kX10_212 sm_yX10_hasSameContent rm cS rfl ?_
        refine G_if_eq x eX10_areAlike_115 (by omega) (fun c115 => ?_) (fun c115 => ?_)
        · exfalso; omega
        · refine G_aload5 x eX10_areAlike_118 ?_
          refine G_aload6 x eX10_areAlike_120 ?_
          refine G_iload9 x eX10_areAlike_122 ?_
          refine G_cS x eX10_areAlike_124 kX10_216 sm_yX10_hasSameResult rm cT rfl ?_
          refine G_if_ne x eX10_areAlike_127 (by omega) (fun c127 => ?_) (fun c127 => ?_)
          · refine G_iinc8 x eX10_areAlike_132 ?_
            refine G_goto x eX10_areAlike_135 ?_
            exact ih9
          · exfalso; omega
  have rl : ∀ (d k : Nat) (o8 o9 : Option Value), (k : Int) + d = rwN S a 0 (-1) → (∀ c, inC S a c → c / 12 < (k : Int) → smQ9 S a b c) → G X 70 [some (va_rf (some ss)), some (VI a), some (VI b), some (va_rf (some (rpA ss a))), some (va_rf (some (rpA ss b))), some (va_rf (some (rpA ss a + 15))), some (va_rf (some (rpA ss b + 15))), some (VI (k : Int)), o8, o9] [] T I62 J62 O62 (0 + 1 + 1) (0 + 6 + 6) := by
    intro d
    induction d with
    | zero =>
      intro k o8 o9 hd hs
      have fin : b01 (alK S a b) = 1 := b01_t ⟨A1.1, A2.1, A1.2, A2.2, fun c hc => hs c hc (by have := hc.2.1; omega)⟩
      refine G_rg (fun hr => ?_)
      refine G_iload7 x eX10_areAlike_70 ?_
      refine G_aload3 x eX10_areAlike_72 ?_
      refine G_getq x eX10_areAlike_73 fX10_201 rfl rfl hpA.m hpA.o_rows ?_
      refine G_cV x eX10_areAlike_76 kX10_47 im_yX4_count se_yX4_count rm hpA.s_rows.m (ct_X4_count hpA.s_rows) rfl ?_
      refine G_icmp_ge x eX10_areAlike_79 (by first | omega | exact hr _ _ | exact hr0 _ _ | exact hrS _) (by first | omega | exact hr _ _ | exact hr0 _ _ | exact hrS _) (fun c79 => ?_) (fun c79 => ?_)
      · refine G_push x eX10_areAlike_144 ?_
        refine G_zreturn x en eX10_areAlike_145 (by omega) (by omega) ?_ ?_
        · first | exact Or.inl rfl | exact Or.inr rfl | omega
        · rw [fin]; exact ⟨hth, rfl, hF9, hW2⟩
      · exfalso; omega
    | succ d ih =>
      intro k o8 o9 hd hs
      have hc := cl (rwN S a 1 (-1)).toNat 0 k o9 (by omega) (by omega) (fun c hc h9 => hs c hc (by have := hc.1; omega)) (fun o8 o9 hs2 => by
        have ih := ih (k + 1) o8 o9 (by omega) (fun c hc h9 => hs2 c hc (by omega))
        rw [show ((k + 1 : Nat) : Int) = (k : Int) + 1 by omega] at ih
        exact ih)
      refine G_rg (fun hr => ?_)
      refine G_iload7 x eX10_areAlike_70 ?_
      refine G_aload3 x eX10_areAlike_72 ?_
      refine G_getq x eX10_areAlike_73 fX10_201 rfl rfl hpA.m hpA.o_rows ?_
      refine G_cV x eX10_areAlike_76 kX10_47 im_yX4_count se_yX4_count rm hpA.s_rows.m (ct_X4_count hpA.s_rows) rfl ?_
      refine G_icmp_ge x eX10_areAlike_79 (by first | omega | exact hr _ _ | exact hr0 _ _ | exact hrS _) (by first | omega | exact hr _ _ | exact hr0 _ _ | exact hrS _) (fun c79 => ?_) (fun c79 => ?_)
      · exfalso; omega
      · refine G_push x eX10_areAlike_82 ?_
        refine G_istore8 x eX10_areAlike_83 ?_
        exact hc
  have hl := rl (rwN S a 0 (-1)).toNat 0 none none (by omega) (fun c hc h9 => by have := hc.1; omega)
  refine G_astore6 x eX10_areAlike_65 ?_
  refine G_push x eX10_areAlike_67 ?_
  refine G_istore7 x eX10_areAlike_68 ?_
  exact hl
