/-! operations received, undo -/
theorem Inv.gK {S : Int → Int} {r f : Int} (h : Inv S) (r0 : 0 ≤ r) (r1 : r ≤ 2) (f0 : 0 ≤ f) (f1 : f ≤ 2) (hne : r ≠ f) (k : Nat) : S (cIx r f) + k ≤ S f → Inv (getK S r f k) ∧ snL S (getK S r f k) ∧ getK S r f k (cIx r f) = S (cIx r f) + k ∧ getK S r f k f = S f := by
  have ec : cIx r f = 3843 + 270 * r + (1 + f) := cIx_n (Ne.symm hne)
  induction k with
  | zero =>
    intro _
    exact ⟨h, snL.rf, by show S (cIx r f) = _; omega, rfl⟩
  | succ k ih =>
    intro hk
    obtain ⟨i1, i2, i3, i4⟩ := ih (by omega)
    have e : getK S r f (k + 1) = get1 (getK S r f k) r f := rfl
    have hb := h.1 r f r0 r1 f0 f1
    have hg := i1.get r0 r1 f0 f1 (by rw [i3, i4]; omega)
    have hv := (i1.v f0 f1 (k := getK S r f k (cIx r f)) (by rw [i3]; omega) (by rw [i3, i4]; omega)).2.1
    have e2 := get1_cR (S := getK S r f k) hne (by rw [← ec, i3]; omega) (by rw [← ec, i3]; omega)
    rw [← ec] at e2
    rw [e, e2]
    refine ⟨hg, i2.tr (snL.cr r0 r1 (by rw [i3]; omega) (by rw [i3]; omega) hv), ?_, ?_⟩
    · rw [cR_cnt r0 r1 (by rw [i3]; omega) (by rw [i3]; omega) hv f0 f1, if_pos (by rw [i3]; omega), i3]
      omega
    · rw [cR_out r0 r1 (by rw [i3]; omega) (by rw [i3]; omega) hv (Ne.symm hne) (by omega), i4]
theorem gtN_b9 {S : Int → Int} {r f m : Int} (h : Inv S) (r0 : 0 ≤ r) (r1 : r ≤ 2) (f0 : 0 ≤ f) (f1 : f ≤ 2) (hne : r ≠ f) (m0 : 1 ≤ m) : 0 ≤ gtN S r f m ∧ S (cIx r f) + gtN S r f m ≤ S f ∧ gtN S r f m ≤ 40 := by
  have hb := h.1 r f r0 r1 f0 f1
  have ec : cIx r f = 3843 + 270 * r + (1 + f) := cIx_n (Ne.symm hne)
  unfold gtN
  rw [← ec]
  omega
theorem Inv.gt {S : Int → Int} {r f m : Int} (h : Inv S) (r0 : 0 ≤ r) (r1 : r ≤ 2) (f0 : 0 ≤ f) (f1 : f ≤ 2) (hne : r ≠ f) (m0 : 1 ≤ m) : Inv (gtS S r f m) ∧ snL S (gtS S r f m) := by
  have hb := gtN_b9 h r0 r1 f0 f1 hne m0
  have := h.gK r0 r1 f0 f1 hne (gtN S r f m).toNat (by omega)
  exact ⟨this.1, this.2.1⟩
theorem Inv.sK {S : Int → Int} (h : Inv S) (q : Nat) : q ≤ 9 → Inv (stK S q).1 ∧ snL S (stK S q).1 := by
  induction q with
  | zero => intro _; exact ⟨h, snL.rf⟩
  | succ q ih =>
    intro hq
    obtain ⟨i1, i2⟩ := ih (by omega)
    by_cases e : q / 3 = q % 3
    · have : stK S (q + 1) = stK S q := if_pos e
      rw [this]; exact ⟨i1, i2⟩
    · have e2 : stK S (q + 1) = (gtS (stK S q).1 (q / 3 : Nat) (q % 3 : Nat) 40, (stK S q).2 + gtN (stK S q).1 (q / 3 : Nat) (q % 3 : Nat) 40) := if_neg e
      have := i1.gt (r := ((q / 3 : Nat) : Int)) (f := ((q % 3 : Nat) : Int)) (m := 40) (by omega) (by omega) (by omega) (by omega) (by omega) (by omega)
      rw [e2]
      exact ⟨this.1, i2.tr this.2⟩
theorem WW.tk {B ss : Nat} {T T' : gT} {I I' : gI} {J J' : gJ} {O O' : gO} {S : Int → Int} {n : Int} {Rc X : Int → Int} {L r f m : Int} {v : Option Value} (h : WW B ss T I J O S n Rc X L) (hI : Inv S) (r0 : 0 ≤ r) (r1 : r ≤ 2) (f0 : 0 ≤ f) (f1 : f ≤ 2) (hne : r ≠ f) (m0 : 1 ≤ m) (hk : tkP B T I J O (rpA ss r) S r f m v T' I' J' O') : v = some (VI (gtN S r f m)) ∧ T' = T ∧ J' = J ∧ WW B ss T I' J O' (gtS S r f m) n Rc X L ∧ FrC ss T T I I' J J O O' := by
  obtain ⟨k1, k2, k3, k4, k5, k6⟩ := hk
  obtain ⟨q1, q2, q3⟩ := h.2.1 r r0 r1
  have hp := rpA_b (ss := ss) r0 r1
  have hB := h.1.2.1
  have hb := gtN_b9 hI r0 r1 f0 f1 hne m0
  have rc := hI.rc r0 r1 f0 f1 hne
  have ec : cIx r f = 3843 + 270 * r + (1 + f) := cIx_n (Ne.symm hne)
  have ki := getK_inv (S := S) (r := r) (f := f) r0 (by omega) f0 (by omega) rc.1 rc.2.1 rc.2.2.1 rc.2.2.2.1 (gtN S r f m).toNat (by rw [← ec]; omega)
  have ko := getK_out (S := S) (r := r) (f := f) r0 (by omega) f0 (by omega) rc.1 rc.2.1 rc.2.2.1 rc.2.2.2.1 (gtN S r f m).toNat (by rw [← ec]; omega)
  have hlo : ∀ j, j < 3843 → gtS S r f m j = S j := ki.1
  have hki : hiK B T T I I' O O' := k4.hi (by omega)
  have hlg : lgR B T I' O' (rpA ss r) (gtS S r f m) r (gtS S r f m r) := by
    rw [hlo r (by omega)]
    exact q2.mv hki (fun j => k4.2.1 _ j (by omega)) (fun i w a b c d => hlo _ (by omega)) (by omega) r0 r1 (hI.f r0 r1).2
  have hca : caQ I' J (rpA ss r) (gtS S r f m) r := by
    rcases k6 with ⟨z1, z2, z3⟩ | z
    · have e0 : gtS S r f m = S := by
        unfold gtS
        rw [z3]
        rfl
      rw [e0, z1]
      exact q3
    · exact Or.inl z
  have hu := h.up (S' := gtS S r f m) hI r0 r1 k4 k5 hlg hca (fun j j0 j1 => hlo j j1) (fun r' a b e => ⟨hlo _ (by omega), fun j j0 j1 => ko j (by omega) (by omega) (by omega)⟩)
  exact ⟨k1, k2, k3, hu.1, hu.2⟩
set_option maxRecDepth 20000 in
theorem ct_q_receive {T : gT} {I : gI} {J : gJ} {O : gO} {B ss : Nat} {S : Int → Int} {n : Int} {Rc Xt : Int → Int} {L : Int} (hW : WW B ss T I J O S n Rc Xt L) (hI : Inv S) {r f m : Int} (n0 : 0 ≤ n) (n1 : n ≤ 4) (h0 : in32 r) (h1 : in32 f) (h2 : in32 m) : Cx yX10_receive cX10_receive 6 (some .int) [va_rf (some ss), VI r, VI f, VI m] 7 112 4 24 T I J O (cRet B ss T I J O (rcThr r f m) (VI (gtN S r f m)) (gtS S r f m) (nEnd n) (rKeep Rc n (ctS S)) Xt L) (cThr B ss T I J O (rcThr r f m) nIA S n Rc Xt L) := by
  refine Cx.of' (by decide) [some (va_rf (some ss)), some (VI r), some (VI f), some (VI m), none, none] (gEn1 (List.forall_mem_cons.mpr ⟨cat_VR _, List.forall_mem_cons.mpr ⟨cat_VI _, List.forall_mem_cons.mpr ⟨cat_VI _, List.forall_mem_cons.mpr ⟨cat_VI _, fun _ h => nomatch h⟩⟩⟩⟩) rfl (Nat.le_of_ble_eq_true rfl) rfl) ?_
  intro X x en rm th hr
  have hr0 := hr
  have hS := hW.1.1
  have hZ := hS.z
  have hss := hZ.m
  refine G_aload0 x eX10_receive_0 ?_
  refine G_iload1 x eX10_receive_1 ?_
  refine G_cVX x th eX10_receive_2 kX10_39 ⟨im_yX10_replicaAt, se_yX10_replicaAt⟩ hZ.m rm (ct_X10_replicaAt hS h0) (fun _ _ _ _ _ h9 => cThr.tx h9.2 1 (by have q9 := h9.1; unfold rcThr; (repeat' split) <;> first | rfl | omega) (by omega) rfl FrC.rf hW) rfl (fun v2 T2 I2 J2 O2 p2 => ?_)
  refine G_rg (fun hr => ?_)
  obtain ⟨q1, rfl, e1, e2, e3, e4⟩ := p2
  obtain rfl := e1.symm
  obtain rfl := e2.symm
  obtain rfl := e3.symm
  obtain rfl := e4.symm
  have hp := (hS.rp q1.1 q1.2).1
  obtain ⟨hR, hG, hC⟩ := hW.2.1 r q1.1 q1.2
  have hbhp := rpA_b (ss := ss) q1.1 q1.2
  have hBs := hW.1.2.1
  refine G_astore4 x eX10_receive_5 ?_
  refine G_aload0 x eX10_receive_7 ?_
  refine G_iload2 x eX10_receive_8 ?_
  refine G_cVX x th eX10_receive_9 kX10_39 ⟨im_yX10_replicaAt, se_yX10_replicaAt⟩ hZ.m rm (ct_X10_replicaAt hS h1) (fun _ _ _ _ _ h9 => cThr.tx h9.2 1 (by have q9 := h9.1; unfold rcThr; (repeat' split) <;> first | rfl | omega) (by omega) rfl FrC.rf hW) rfl (fun v9 T9 I9 J9 O9 p9 => ?_)
  refine G_rg (fun hr => ?_)
  obtain ⟨q2, rfl, e1, e2, e3, e4⟩ := p9
  obtain rfl := e1.symm
  obtain rfl := e2.symm
  obtain rfl := e3.symm
  obtain rfl := e4.symm
  have hp2 := (hS.rp q2.1 q2.2).1
  obtain ⟨hR2, hG2, hC2⟩ := hW.2.1 f q2.1 q2.2
  have hbhp2 := rpA_b (ss := ss) q2.1 q2.2
  have hBs := hW.1.2.1
  refine G_astore5 x eX10_receive_12 ?_
  refine G_aload4 x eX10_receive_14 ?_
  refine G_aload5 x eX10_receive_16 ?_
  refine G_cSX x th eX10_receive_18 kX10_170 sm_yX10_requireOther rm (ct_X10_requireOther (p := rpA ss r) (q := rpA ss f)) (fun _ _ _ _ _ h9 => cThr.tx h9.2 2 (by have q9 : r = f := (by have := h9.1; unfold rpA at this; omega); unfold rcThr; rw [if_pos ⟨q1, q2⟩, if_neg (fun z => z.1 q9)]) (by omega) rfl FrC.rf hW) rfl (fun v18 T18 I18 J18 O18 p18 => ?_)
  refine G_rg (fun hr => ?_)
  obtain ⟨q3, rfl, e1, e2, e3, e4⟩ := p18
  obtain rfl := e1.symm
  obtain rfl := e2.symm
  obtain rfl := e3.symm
  obtain rfl := e4.symm
  have hne : r ≠ f := fun z => q3 (by rw [z])
  refine G_iload3 x eX10_receive_21 ?_
  refine G_push x eX10_receive_22 ?_
  refine G_push x eX10_receive_23 ?_
  refine G_cSX x th eX10_receive_25 kX10_85 sm_yX10_requireArgument rm (ct_X10_requireArgument (a := m) (l := 1) (m := 40) h2 (by omega) (by omega)) (fun _ _ _ _ _ h9 => cThr.tx h9.2 2 (by have q9 := h9.1; unfold rcThr; rw [if_pos ⟨q1, q2⟩, if_neg (fun z => q9 z.2)]) (by omega) rfl FrC.rf hW) rfl (fun v25 T25 I25 J25 O25 p25 => ?_)
  refine G_rg (fun hr => ?_)
  obtain ⟨q4, rfl, e1, e2, e3, e4⟩ := p25
  obtain rfl := e1.symm
  obtain rfl := e2.symm
  obtain rfl := e3.symm
  obtain rfl := e4.symm
  refine G_aload0 x eX10_receive_28 ?_
  refine G_getq x eX10_receive_29 fX10_18 rfl rfl hZ.m hZ.o_records ?_
  refine G_aload0 x eX10_receive_32 ?_
  refine G_getq x eX10_receive_33 fX10_11 rfl rfl hZ.m hZ.o_replicas ?_
  refine G_cVg x eX10_receive_36 kX10_174 im_yX7_keep se_yX7_keep rm hZ.s_records.m (ct_X7_keep hS (by rw [hW.2.2.1.1]; exact n0) (by rw [hW.2.2.1.1]; exact n1)) rfl (fun v36 T36 I36 J36 O36 p36 => ?_)
  refine G_rg (fun hr => ?_)
  obtain ⟨rfl, e1, e2, e3, hWk, hFk, hkk⟩ := hW.kp n0 n1 p36
  obtain rfl := e1.symm
  obtain rfl := e2.symm
  obtain rfl := e3.symm
  obtain ⟨hRk, hGk, hCk⟩ := hWk.2.1 r q1.1 q1.2
  obtain ⟨hRk2, hGk2, hCk2⟩ := hWk.2.1 f q2.1 q2.2
  have hcf := hRk2.2.1 f q2.1 q2.2
  rw [cIx_s] at hcf
  refine G_aload4 x eX10_receive_39 ?_
  refine G_aload5 x eX10_receive_41 ?_
  refine G_iload3 x eX10_receive_43 ?_
  refine G_cVg x eX10_receive_44 kX10_178 im_yX8_take se_yX8_take rm hp.m (ct_X8_take (S := S) (r := r) (f := f) hp hp2 (by omega) (by omega) (rpA_d q1.1 q1.2 q2.1 q2.2 hne) hRk q1.1 q1.2 q2.1 q2.2 hne hRk2.1.1 hcf hGk2 (hI.rc q1.1 q1.2 q2.1 q2.2 hne) (hI.bn q1.1 q1.2) (fun f' a b => by have := hI.1 r f' q1.1 q1.2 a b; omega) q4.1 q4.2) rfl (fun v44 T44 I44 J44 O44 p44 => ?_)
  refine G_rg (fun hr => ?_)
  have hgb := gtN_b9 hI q1.1 q1.2 q2.1 q2.2 hne q4.1
  obtain ⟨rfl, e1, e2, hWf, hFf⟩ := hWk.tk hI q1.1 q1.2 q2.1 q2.2 hne q4.1 p44
  obtain rfl := e1.symm
  obtain rfl := e2.symm
  refine G_rg (fun hr => ?_)
  refine G_ireturn x en eX10_receive_47 (by omega) (by omega) ?_
  exact ⟨by unfold rcThr; rw [if_pos ⟨q1, q2⟩, if_pos ⟨hne, q4⟩], rfl, hFk.tr hFf, hWf⟩
set_option maxRecDepth 20000 in
theorem ct_q_settle {T : gT} {I : gI} {J : gJ} {O : gO} {B ss : Nat} {S : Int → Int} {n : Int} {Rc Xt : Int → Int} {L : Int} (hW : WW B ss T I J O S n Rc Xt L) (hI : Inv S) (n0 : 0 ≤ n) (n1 : n ≤ 4) : Ct yX10_settle cX10_settle 4 (some .int) [va_rf (some ss)] 5 112 0 0 T I J O (cRet B ss T I J O 0 (VI (stK S 9).2) (stK S 9).1 (nEnd n) (rKeep Rc n (ctS S)) Xt L) := by
  refine Ct.of (by decide) [some (va_rf (some ss)), none, none, none] (gEn1 (List.forall_mem_cons.mpr ⟨cat_VR _, fun _ h => nomatch h⟩) rfl (Nat.le_of_ble_eq_true rfl) rfl) ?_
  intro X x en rm ini hr hz
  have hr0 := hr
  have hS := hW.1.1
  have hZ := hS.z
  have hss := hZ.m
  have hra : rcAll S := fun r f a b c d e => hI.rc a b c d e
  have loop : ∀ (d r f : Nat) (I1 : gI) (O1 : gO), d = 4 * (2 - r) + (3 - f) → r ≤ 2 → f ≤ 3 → WW B ss T I1 J O1 (stK S (3 * r + f)).1 (nEnd n) (rKeep Rc n (ctS S)) Xt L → FrC ss T T I I1 J J O O1 → G X 22 [some (va_rf (some ss)), some (VI (stK S (3 * r + f)).2), some (VI (r : Int)), some (VI (f : Int))] [] T I1 J O1 0 0 := by
    intro d
    induction d using Nat.strongRecOn with
    | ind d ih =>
    intro r f I1 O1 hd r1 f1 hW1 hF1
    have hsb := stK_inv hra (3 * r + f) (by omega)
    have hsI := (hI.sK (3 * r + f) (by omega)).1
    have hS1 := hW1.1.1
    have hZ1 := hS1.z
    have hBs := hW1.1.2.1
    by_cases hf3 : f = 3
    · subst hf3
      by_cases hr2 : r = 2
      · subst hr2
        refine G_rg (fun hr => ?_)
        refine G_iload3 x eX10_settle_22 ?_
        refine G_push x eX10_settle_23 ?_
        refine G_icmp_ge x eX10_settle_24 (by first | omega | exact hr _ _ | exact hr0 _ _ | exact hrS _) (by first | omega | exact hr _ _ | exact hr0 _ _ | exact hrS _) (fun c24 => ?_) (fun c24 => ?_)
        · refine G_iinc2 x eX10_settle_58 ?_
          refine G_goto x eX10_settle_61 ?_
          refine G_iload2 x eX10_settle_15 ?_
          refine G_push x eX10_settle_16 ?_
          refine G_icmp_ge x eX10_settle_17 (by first | omega | exact hr _ _ | exact hr0 _ _ | exact hrS _) (by first | omega | exact hr _ _ | exact hr0 _ _ | exact hrS _) (fun c17 => ?_) (fun c17 => ?_)
          · refine G_iload1 x eX10_settle_64 ?_
            refine G_ireturn x en eX10_settle_65 (by omega) (by omega) ?_
            exact ⟨rfl, rfl, hF1, hW1⟩
          · exfalso; omega
        · exfalso; omega
      · have ih := ih _ (by omega) (r + 1) 0 I1 O1 rfl (by omega) (by omega) (by rw [show 3 * (r + 1) + 0 = 3 * r + 3 by omega]; exact hW1) hF1
        rw [show 3 * (r + 1) + 0 = 3 * r + 3 by omega, show ((r + 1 : Nat) : Int) = (r : Int) + 1 by omega, show ((0 : Nat) : Int) = 0 from rfl] at ih
        refine G_rg (fun hr => ?_)
        refine G_iload3 x eX10_settle_22 ?_
        refine G_push x eX10_settle_23 ?_
        refine G_icmp_ge x eX10_settle_24 (by first | omega | exact hr _ _ | exact hr0 _ _ | exact hrS _) (by first | omega | exact hr _ _ | exact hr0 _ _ | exact hrS _) (fun c24 => ?_) (fun c24 => ?_)
        · refine G_iinc2 x eX10_settle_58 ?_
          refine G_goto x eX10_settle_61 ?_
          refine G_iload2 x eX10_settle_15 ?_
          refine G_push x eX10_settle_16 ?_
          refine G_icmp_ge x eX10_settle_17 (by first | omega | exact hr _ _ | exact hr0 _ _ | exact hrS _) (by first | omega | exact hr _ _ | exact hr0 _ _ | exact hrS _) (fun c17 => ?_) (fun c17 => ?_)
          · exfalso; omega
          · refine G_push x eX10_settle_20 ?_
            refine G_istore3 x eX10_settle_21 ?_
            exact ih
        · exfalso; omega
    · by_cases e : r = f
      · have es : stK S (3 * r + (f + 1)) = stK S (3 * r + f) := by
          rw [show 3 * r + (f + 1) = (3 * r + f) + 1 by omega]
          exact if_pos (by omega)
        have ih := ih _ (by omega) r (f + 1) I1 O1 rfl (by omega) (by omega) (by rw [es]; exact hW1) hF1
        rw [es, show ((f + 1 : Nat) : Int) = (f : Int) + 1 by omega] at ih
        refine G_rg (fun hr => ?_)
        refine G_iload3 x eX10_settle_22 ?_
        refine G_push x eX10_settle_23 ?_
        refine G_icmp_ge x eX10_settle_24 (by first | omega | exact hr _ _ | exact hr0 _ _ | exact hrS _) (by first | omega | exact hr _ _ | exact hr0 _ _ | exact hrS _) (fun c24 => ?_) (fun c24 => ?_)
        · exfalso; omega
        · refine G_iload3 x eX10_settle_27 ?_
          refine G_iload2 x eX10_settle_28 ?_
          refine G_icmp_eq x eX10_settle_29 (by first | omega | exact hr _ _ | exact hr0 _ _ | exact hrS _) (by first | omega | exact hr _ _ | exact hr0 _ _ | exact hrS _) (fun c29 => ?_) (fun c29 => ?_)
          · refine G_iinc3 x eX10_settle_52 ?_
            refine G_goto x eX10_settle_55 ?_
            exact ih
          · exfalso; omega
      · obtain ⟨A9, hA9⟩ : ∃ A9, A9 = (stK S (3 * r + f)).1 := ⟨_, rfl⟩
        obtain ⟨t9, ht9⟩ : ∃ t9, t9 = (stK S (3 * r + f)).2 := ⟨_, rfl⟩
        have es : stK S (3 * r + (f + 1)) = (gtS A9 (r : Int) (f : Int) 40, t9 + gtN A9 (r : Int) (f : Int) 40) := by
          rw [show 3 * r + (f + 1) = (3 * r + f) + 1 by omega, hA9, ht9]
          have z : stK S (3 * r + f + 1) = (gtS (stK S (3 * r + f)).1 ((3 * r + f) / 3 : Nat) ((3 * r + f) % 3 : Nat) 40, (stK S (3 * r + f)).2 + gtN (stK S (3 * r + f)).1 ((3 * r + f) / 3 : Nat) ((3 * r + f) % 3 : Nat) 40) := if_neg (by omega)
          rw [z, show (3 * r + f) / 3 = r by omega, show (3 * r + f) % 3 = f by omega]
        rw [← hA9] at hW1 hsI
        rw [← ht9] at hsb ⊢
        have r0' : (0 : Int) ≤ (r : Int) := by omega
        have r1' : (r : Int) ≤ 2 := by omega
        have f0' : (0 : Int) ≤ (f : Int) := by omega
        have f1' : (f : Int) ≤ 2 := by omega
        have hne : (r : Int) ≠ (f : Int) := by omega
        obtain ⟨hR, hG, hC⟩ := hW1.2.1 (r : Int) r0' r1'
        obtain ⟨hR2, hG2, hC2⟩ := hW1.2.1 (f : Int) f0' f1'
        have hcf := hR2.2.1 (f : Int) f0' f1'
        rw [cIx_s] at hcf
        have hp := hS1.rp (r := (r : Int)) r0' r1'
        have hp2 := hS1.rp (r := (f : Int)) f0' f1'
        have hpm := hp.1
        have hbp := rpA_b (ss := ss) r0' r1'
        have hbp2 := rpA_b (ss := ss) f0' f1'
        have hgb := gtN_b9 hsI r0' r1' f0' f1' hne (show (1 : Int) ≤ 40 by omega)
        have cT := ct_X8_take (T := T) (I := I1) (J := J) (O := O1) (S := A9) (r := (r : Int)) (f := (f : Int)) (m := 40) hp.1 hp2.1 (by omega) (by omega) (rpA_d r0' r1' f0' f1' hne) hR r0' r1' f0' f1' hne hR2.1.1 hcf hG2 (hsI.rc r0' r1' f0' f1' hne) (hsI.bn r0' r1') (fun f' a b => by have := hsI.1 (r : Int) f' r0' r1' a b; omega) (by omega) (by omega)
        refine G_rg (fun hr => ?_)
        refine G_iload3 x eX10_settle_22 ?_
        refine G_push x eX10_settle_23 ?_
        refine G_icmp_ge x eX10_settle_24 (by first | omega | exact hr _ _ | exact hr0 _ _ | exact hrS _) (by first | omega | exact hr _ _ | exact hr0 _ _ | exact hrS _) (fun c24 => ?_) (fun c24 => ?_)
        · exfalso; omega
        · refine G_iload3 x eX10_settle_27 ?_
          refine G_iload2 x eX10_settle_28 ?_
          refine G_icmp_eq x eX10_settle_29 (by first | omega | exact hr _ _ | exact hr0 _ _ | exact hrS _) (by first | omega | exact hr _ _ | exact hr0 _ _ | exact hrS _) (fun c29 => ?_) (fun c29 => ?_)
          · refine G_iinc3 x eX10_settle_52 ?_
            refine G_goto x eX10_settle_55 ?_
            first | exact ih | (exfalso; omega)
          · refine G_iload1 x eX10_settle_32 ?_
            refine G_aload0 x eX10_settle_33 ?_
            refine G_getq x eX10_settle_34 fX10_11 rfl rfl hZ1.m hZ1.o_replicas ?_
            refine G_iload2 x eX10_settle_37 ?_
            refine G_aald x eX10_settle_38 rfl hZ1.t_replicas (fun _ => rfl) (by omega) (by omega) (by omega) ?_
            rw [hp.2]
            refine G_aload0 x eX10_settle_39 ?_
            refine G_getq x eX10_settle_40 fX10_11 rfl rfl hZ1.m hZ1.o_replicas ?_
            refine G_iload3 x eX10_settle_43 ?_
            refine G_aald x eX10_settle_44 rfl hZ1.t_replicas (fun _ => rfl) (by omega) (by omega) (by omega) ?_
            rw [hp2.2]
            refine G_push x eX10_settle_45 ?_
            refine G_cVg x eX10_settle_47 kX10_178 im_yX8_take se_yX8_take rm hpm.m cT rfl (fun v47 T47 I47 J47 O47 p47 => ?_)
            refine G_rg (fun hr => ?_)
            obtain ⟨rfl, e1, e2, hWf, hFf⟩ := hW1.tk hsI r0' r1' f0' f1' hne (by omega) p47
            obtain rfl := e1.symm
            obtain rfl := e2.symm
            have ih := ih _ (by omega) r (f + 1) I47 O47 rfl (by omega) (by omega) (by rw [es]; exact hWf) (hF1.tr hFf)
            rw [es, show ((f + 1 : Nat) : Int) = (f : Int) + 1 by omega] at ih
            refine G_iadd x eX10_settle_50 ?_
            refine G_istore1 x eX10_settle_51 ?_
            refine G_iinc3 x eX10_settle_52 ?_
            refine G_goto x eX10_settle_55 ?_
            first | exact ih | (exfalso; omega)
  refine G_aload0 x eX10_settle_0 ?_
  refine G_getq x eX10_settle_1 fX10_18 rfl rfl hZ.m hZ.o_records ?_
  refine G_aload0 x eX10_settle_4 ?_
  refine G_getq x eX10_settle_5 fX10_11 rfl rfl hZ.m hZ.o_replicas ?_
  refine G_cVg x eX10_settle_8 kX10_174 im_yX7_keep se_yX7_keep rm hZ.s_records.m (ct_X7_keep hS (by rw [hW.2.2.1.1]; exact n0) (by rw [hW.2.2.1.1]; exact n1)) rfl (fun v8 T8 I8 J8 O8 p8 => ?_)
  refine G_rg (fun hr => ?_)
  obtain ⟨rfl, e1, e2, e3, hWk, hFk, hkk⟩ := hW.kp n0 n1 p8
  obtain rfl := e1.symm
  obtain rfl := e2.symm
  obtain rfl := e3.symm
  have hl := loop _ 0 0 I8 O rfl (by omega) (by omega) hWk hFk
  refine G_rg (fun hr => ?_)
  refine G_push x eX10_settle_11 ?_
  refine G_istore1 x eX10_settle_12 ?_
  refine G_push x eX10_settle_13 ?_
  refine G_istore2 x eX10_settle_14 ?_
  refine G_iload2 x eX10_settle_15 ?_
  refine G_push x eX10_settle_16 ?_
  refine G_icmp_ge x eX10_settle_17 (by first | omega | exact hr _ _ | exact hr0 _ _ | exact hrS _) (by first | omega | exact hr _ _ | exact hr0 _ _ | exact hrS _) (fun c17 => ?_) (fun c17 => ?_)
  · exfalso; omega
  · refine G_push x eX10_settle_20 ?_
    refine G_istore3 x eX10_settle_21 ?_
    exact hl
def unThr (n : Int) : Int := if n = 0 then 1 else 0
theorem rbF_c {S : Int → Int} {r : Int} {C C' : Int → Int} (e : ∀ f, 0 ≤ f → f ≤ 2 → C' f = C f) : rbF S r C' = rbF S r C := by
  unfold rbF
  rw [e 0 (by omega) (by omega), e 1 (by omega) (by omega), e 2 (by omega) (by omega)]
set_option maxRecDepth 20000 in
theorem ct_q_undo {T : gT} {I : gI} {J : gJ} {O : gO} {B ss : Nat} {S : Int → Int} {n : Int} {Rc Xt : Int → Int} {L : Int} (hW : WW B ss T I J O S n Rc Xt L) (hI : Inv S) {A9 : Int → Int} (n0 : 0 ≤ n) (n1 : n ≤ 4) (hA : n ≠ 0 → Inv A9 ∧ snL A9 S ∧ ∀ r f, 0 ≤ r → r ≤ 2 → 0 ≤ f → f ≤ 2 → Rc (9 * (n - 1) + 3 * r + f) = A9 (cIx r f)) : Cx yX10_undo cX10_undo 1 (some .int) [va_rf (some ss)] 6 113 1 6 T I J O (cRet B ss T I J O (unThr n) (VI (n - 1)) A9 (n - 1) Rc Xt L) (cThr B ss T I J O (unThr n) nS S n Rc Xt L) := by
  refine Cx.of' (by decide) [some (va_rf (some ss))] (gEn1 (List.forall_mem_cons.mpr ⟨cat_VR _, fun _ h => nomatch h⟩) rfl (Nat.le_of_ble_eq_true rfl) rfl) ?_
  intro X x en rm th hr
  have hr0 := hr
  have hS := hW.1.1
  have hZ := hS.z
  have hss := hZ.m
  have hRc := hZ.s_records
  have eN9 := hW.2.2.1.1
  have er := hW.2.2.1.2
  have hBs := hW.1.2.1
  have cC := ct_X7_count (I := I) (J := J) hRc
  rw [eN9] at cC
  by_cases hn : n = 0
  · rw [hn] at cC
    refine G_rg (fun hr => ?_)
    refine G_aload0 x eX10_undo_0 ?_
    refine G_getq x eX10_undo_1 fX10_18 rfl rfl hZ.m hZ.o_records ?_
    refine G_cV x eX10_undo_4 kX10_239 im_yX7_count se_yX7_count rm hZ.s_records.m cC rfl ?_
    refine G_if_ne x eX10_undo_7 (by first | omega | exact hr _ _ | exact hr0 _ _ | exact hrS _) (fun c7 => ?_) (fun c7 => ?_)
    · exfalso; omega
    · refine G_throw x th rm tf_S tk_S ti_S ts_240 tw_S tg_S eX10_undo_10.1 eX10_undo_13.1 eX10_undo_14.1 eX10_undo_16.1 eX10_undo_19.1 (Nat.le_of_ble_eq_true rfl) (Nat.le_of_ble_eq_true rfl) (Nat.le_of_ble_eq_true rfl) (by omega) (by omega) (by omega) (by omega) ?_
      exact fun N9 hN9 => cThr.of 1 (by unfold unThr; rw [if_pos hn]) (by omega) rfl (FrC.t hN9) (hW.t hN9)
  · obtain ⟨hA1, hA2, hA3⟩ := hA hn
    have hC9 : ∀ r f, 0 ≤ r → r ≤ 2 → 0 ≤ f → f ≤ 2 → rcC9 I ss (I (ss + 2) 1 - 1) r f = A9 (cIx r f) := fun r f a b c d => by
      show I (ss + 3) (9 * (I (ss + 2) 1 - 1) + 3 * r + f) = _
      rw [eN9, er _ (by omega) (by omega)]
      exact hA3 r f a b c d
    refine G_aload0 x eX10_undo_0 ?_
    refine G_getq x eX10_undo_1 fX10_18 rfl rfl hZ.m hZ.o_records ?_
    refine G_cV x eX10_undo_4 kX10_239 im_yX7_count se_yX7_count rm hZ.s_records.m cC rfl ?_
    refine G_if_ne x eX10_undo_7 (by omega) (fun c7 => ?_) (fun c7 => absurd c7 (by omega))
    refine G_aload0 x eX10_undo_20 ?_
    refine G_getq x eX10_undo_21 fX10_18 rfl rfl hZ.m hZ.o_records ?_
    refine G_aload0 x eX10_undo_24 ?_
    refine G_getq x eX10_undo_25 fX10_11 rfl rfl hZ.m hZ.o_replicas ?_
    refine G_cVg x eX10_undo_28 kX10_242 im_yX7_restoreLatest se_yX7_restoreLatest rm hZ.s_records.m (ct_X7_restoreLatest (S := S) (B := B) hS hBs (by rw [eN9]; omega) (by rw [eN9]; omega) (fun r a b => ⟨(hW.2.1 r a b).1.1.1, (hW.2.1 r a b).1.2.2.2.2.2⟩) (fun r f a b c d => by rw [hC9 r f a b c d]; have q1 := hA1.1 r f a b c d; have q2 := hA2.1 f c d; omega) (fun f a b => ⟨(hI.f a b).2, (hW.2.1 f a b).2.1, fun k k0 k1 => (hI.v a b k0 k1).2.1⟩)) rfl (fun v28 T28 I28 J28 O28 p28 => ?_)
    refine G_rg (fun hr => ?_)
    obtain ⟨rfl, e1, e2, hu, en2, hRs⟩ := p28
    obtain rfl := e1.symm
    obtain rfl := e2.symm
    have hki := hu.hi (B := B) hBs
    have hW9 : WW B ss T I28 J O28 A9 (n - 1) Rc Xt L := by
      refine ⟨⟨hu.at hS, hBs, hW.1.2.2⟩, fun r a b => ?_, ⟨by rw [en2, eN9], fun j j0 j1 => ?_⟩, ?_, fun i i0 i1 => ?_⟩
      · obtain ⟨w1, w2⟩ := hRs r a b
        rw [rbF_c (C := fun f => A9 (cIx r f)) (fun f c d => hC9 r f a b c d)] at w1
        have hp := rpA_b (ss := ss) a b
        refine ⟨w1.rb hA1 hI hA2 a b, fun k k0 k1 => ?_, Or.inl w2⟩
        have hk2 := hA2.1 r a b
        obtain ⟨o, o1, o2⟩ := (hW.2.1 r a b).2.1 k k0 (by omega)
        exact ⟨o, by rw [hu.2.1 _ _ (by unfold rpA; omega) (by unfold rpA; omega) (by unfold rpA; omega)]; exact o1, o2.mv hki (fun w w0 w1 => (hA2.2 _ (hA1.v a b k0 k1).1 w w0 w1).symm)⟩
      · rw [hu.1 _ _ (by omega) (by omega)]
        exact er j j0 (by omega)
      · rw [hu.1 _ _ (by omega) (by omega)]
        exact hW.2.2.2.1
      · rw [hu.1 _ _ (by omega) (by omega)]
        exact hW.2.2.2.2 i i0 i1
    have hF9 : FrC ss T T I I28 J J O O28 := ⟨Nat.le_refl _, fun b b1 b2 => ⟨rfl, fun j => hu.1 b j (by omega) (by omega), fun j => rfl, fun j => hu.2.1 b j (by omega) (by omega) (by omega)⟩⟩
    have hZ9 := hW9.1.1.z
    have hRc9 := hZ9.s_records
    refine G_aload0 x eX10_undo_31 ?_
    refine G_getq x eX10_undo_32 fX10_18 rfl rfl hZ9.m hZ9.o_records ?_
    refine G_cV x eX10_undo_35 kX10_239 im_yX7_count se_yX7_count rm hZ9.s_records.m (ct_X7_count hRc9) rfl ?_
    rw [en2, eN9]
    refine G_rg (fun hr => ?_)
    refine G_ireturn x en eX10_undo_38 (by omega) (by omega) ?_
    exact ⟨by unfold unThr; rw [if_neg hn], rfl, hF9, hW9⟩
