/-! contents written, operations received, undo -/
theorem wr_o {S : Int → Int} {r kind num signs j : Int} {f : Int → Int} (h : j < 3 + 32 * (40 * r + S r) + 5 ∨ 3 + 32 * (40 * r + S r) + 32 ≤ j) : wrS S r kind num signs f j = S j := by
  unfold wrS
  rw [if_neg (by omega), if_neg (by omega), if_neg (by omega), if_neg (by omega)]
theorem wr_f {S : Int → Int} {r kind num signs : Int} {f : Int → Int} : wrS S r kind num signs f (3 + 32 * (40 * r + S r) + 5) = kind ∧ wrS S r kind num signs f (3 + 32 * (40 * r + S r) + 6) = num ∧ wrS S r kind num signs f (3 + 32 * (40 * r + S r) + 7) = signs ∧ ∀ i, 0 ≤ i → i < 24 → i < signs → wrS S r kind num signs f (3 + 32 * (40 * r + S r) + (8 + i)) = f i := by
  unfold wrS
  refine ⟨?_, ?_, ?_, fun i i0 i1 i2 => ?_⟩
  · rw [if_neg (by omega), if_neg (by omega), if_neg (by omega), if_pos rfl]
  · rw [if_neg (by omega), if_neg (by omega), if_pos rfl]
  · rw [if_neg (by omega), if_pos rfl]
  · rw [if_pos (by omega), if_pos (by omega)]
    congr 1
    omega
/-- a number's or nothing's content -/
theorem co_n {B : Nat} {T : gT} {I : gI} {O : gO} {S : Int → Int} {r kind num lr lc : Int} {f : Int → Int} {co : Nat} (k0 : S r < 40) (r0 : 0 ≤ r) (r1 : r ≤ 2) (s0 : 0 ≤ S r) (hb : B < co ∧ co < T.1) (ht : T.2 co = some (.inl 2)) (hk : kind = 0 ∧ num = 0 ∨ kind = 1) (e0 : I co 0 = kind) (e1 : I co 1 = num) (e2 : O co 2 = none) : coG B T I O (opW (wrS S r kind num 0 f) r 4 (-1) lr lc) (40 * r + S r) co := by
  have er : wrS S r kind num 0 f r = S r := wr_o (by omega)
  have oo : ∀ j, 3 + 32 * (40 * r + S r) + 4 < j → opW (wrS S r kind num 0 f) r 4 (-1) lr lc j = wrS S r kind num 0 f j := fun j hj => opW_o (by rw [er]; omega)
  have w := @wr_f S r kind num 0 f
  refine ⟨hb, ht, ?_, ?_, Or.inr ⟨?_, e2⟩⟩
  · rw [oo _ (by omega), w.1, e0]
  · rw [oo _ (by omega), oo _ (by omega), w.1, w.2.1, e1]
    rcases hk with ⟨a, b⟩ | a
    · rw [if_neg (by omega), b]
    · rw [if_pos a]
  · rw [oo _ (by omega), w.1]
    omega
set_option maxRecDepth 20000 in
theorem ct_q_setNumber {T : gT} {I : gI} {J : gJ} {O : gO} {B ss : Nat} {S : Int → Int} {n : Int} {Rc Xt : Int → Int} {L : Int} (hW : WW B ss T I J O S n Rc Xt L) (hI : Inv S) {r row col num : Int} {f : Int → Int} (n0 : 0 ≤ n) (n1 : n ≤ 4) (h0 : in32 r) (h1 : in32 row) (h2 : in32 col) (h3 : in32 num) : Cx yX10_setNumber cX10_setNumber 6 (some .int) [va_rf (some ss), VI r, VI row, VI col, VI num] 8 136 7 40 T I J O (cRet B ss T I J O (nmThr S r row col num) (VI (S (3843 + 270 * r) + 1)) (wtS S r row col 1 num 0 f) (nEnd n) (rKeep Rc n (ctS S)) Xt L) (cThr B ss T I J O (nmThr S r row col num) nIAS S n Rc Xt L) := by
  refine Cx.of' (by decide) [some (va_rf (some ss)), some (VI r), some (VI row), some (VI col), some (VI num), none] (gEn1 (List.forall_mem_cons.mpr ⟨cat_VR _, List.forall_mem_cons.mpr ⟨cat_VI _, List.forall_mem_cons.mpr ⟨cat_VI _, List.forall_mem_cons.mpr ⟨cat_VI _, List.forall_mem_cons.mpr ⟨cat_VI _, fun _ h => nomatch h⟩⟩⟩⟩⟩) rfl (Nat.le_of_ble_eq_true rfl) rfl) ?_
  intro X x en rm th hr
  have hr0 := hr
  have hS := hW.1.1
  have hZ := hS.z
  have hss := hZ.m
  refine G_aload0 x eX10_setNumber_0 ?_
  refine G_iload1 x eX10_setNumber_1 ?_
  refine G_cVX x th eX10_setNumber_2 kX10_39 ⟨im_yX10_replicaAt, se_yX10_replicaAt⟩ hZ.m rm (ct_X10_replicaAt hS h0) (fun _ _ _ _ _ h9 => cThr.tx h9.2 1 (by have q9 := h9.1; unfold nmThr; (repeat' split) <;> first | rfl | omega) (by omega) rfl FrC.rf hW) rfl (fun v2 T2 I2 J2 O2 p2 => ?_)
  refine G_rg (fun hr => ?_)
  obtain ⟨q1, rfl, e1, e2, e3, e4⟩ := p2
  obtain rfl := e1.symm
  obtain rfl := e2.symm
  obtain rfl := e3.symm
  obtain rfl := e4.symm
  have hp := (hS.rp q1.1 q1.2).1
  obtain ⟨hR, hG, hC⟩ := hW.2.1 r q1.1 q1.2
  have hbhp := rpA_b (ss := ss) q1.1 q1.2
  have hBs := hW.1.2.1
  refine G_astore5 x eX10_setNumber_5 ?_
  refine G_aload5 x eX10_setNumber_7 ?_
  refine G_iload2 x eX10_setNumber_9 ?_
  refine G_iload3 x eX10_setNumber_10 ?_
  refine G_cSX x th eX10_setNumber_11 kX10_92 sm_yX10_requireCell rm (ct_X10_requireCell hp hR.2.2.1.R.1 hR.2.2.2.1.R.1 h1 h2) (fun _ _ _ _ _ h9 => cThr.tx h9.2 1 (by have q9 := h9.1; unfold nmThr; (repeat' split) <;> first | rfl | omega) (by omega) rfl FrC.rf hW) rfl (fun v11 T11 I11 J11 O11 p11 => ?_)
  refine G_rg (fun hr => ?_)
  obtain ⟨q2, rfl, e1, e2, e3, e4⟩ := p11
  obtain rfl := e1.symm
  obtain rfl := e2.symm
  obtain rfl := e3.symm
  obtain rfl := e4.symm
  have nb0 := (rwE S r 0 (-1)).2.1
  have nb1 := (rwE S r 1 (-1)).2.1
  refine G_iload4 x eX10_setNumber_14 ?_
  refine G_push x eX10_setNumber_16 ?_
  refine G_push x eX10_setNumber_19 ?_
  refine G_cSX x th eX10_setNumber_22 kX10_85 sm_yX10_requireArgument rm (ct_X10_requireArgument (a := num) (l := -9999) (m := 9999) h3 (by omega) (by omega)) (fun _ _ _ _ _ h9 => cThr.tx h9.2 2 (by have q9 := h9.1; unfold nmThr; (repeat' split) <;> first | rfl | omega) (by omega) rfl FrC.rf hW) rfl (fun v22 T22 I22 J22 O22 p22 => ?_)
  refine G_rg (fun hr => ?_)
  obtain ⟨q3, rfl, e1, e2, e3, e4⟩ := p22
  obtain rfl := e1.symm
  obtain rfl := e2.symm
  obtain rfl := e3.symm
  obtain rfl := e4.symm
  refine G_aload0 x eX10_setNumber_25 ?_
  refine G_aload5 x eX10_setNumber_26 ?_
  refine G_iload2 x eX10_setNumber_28 ?_
  refine G_iload3 x eX10_setNumber_29 ?_
  refine G_nw x eX10_setNumber_30 clX10_96 itX2 ini_X2 rfl rm (by omega) (by show _ + gN 2 ≤ _; simp only [gN]; omega) (fun i30 j30 o30 => ?_) (hdf_X2)
  have hf := hI.f q1.1 q1.2
  have hBt := hW.1.2.2
  have hg2 : gN 2 = 3 := rfl
  have hTa : (gpush T (.inl 2)).2 T.1 = some (.inl 2) := gpush_s
  refine G_dup x eX10_setNumber_33 (by first | rfl | exact cat_rf _) ?_
  refine G_push x eX10_setNumber_34 ?_
  refine G_iload4 x eX10_setNumber_35 ?_
  refine G_null x eX10_setNumber_37 ?_
  refine G_cI8 x eX10_setNumber_38 kX10_98 im_yX2_init rm (ct_X2_init (fo := none) hTa (by omega) h3) rfl (fun v38 T38 I38 J38 O38 p38 => ?_)
  refine G_rg (fun hr => ?_)
  obtain ⟨rfl, e1, e2, e3, e4⟩ := p38
  obtain ⟨hWn, hFn⟩ := hW.nw (ty := .inl 2) (I' := I38) (J' := J38) (O' := O38) (fun b b1 => by
    rw [e2, e3, e4]
    exact ⟨fun j => by (repeat (first | rw [uI_s] | rw [uI_a (by omega)] | rw [uI_k (by omega)])), fun j => rfl, fun j => uO_a (by omega) j⟩)
  obtain rfl := e1.symm
  obtain rfl := e3.symm
  have g0 : I38 T.1 0 = 1 ∧ I38 T.1 1 = num := by
    rw [e2]
    refine ⟨?_, ?_⟩ <;> (repeat (first | rw [uI_s] | rw [uI_a (by omega)] | rw [uI_k (by omega)]))
  have hssn := hWn.1.1.z.m
  refine G_cVX x th eX10_setNumber_41 kX10_101 ⟨im_yX10_writeContent, se_yX10_writeContent⟩ (by assumption) rm (ct_X10_writeContent (S1 := wrS S r 1 num 0 f) (co := T.1) hWn hI n0 n1 q1.1 q1.2 q2 (fun j hj => wr_o hj) (fun hk9 => co_n hk9 q1.1 q1.2 hf.1 ⟨hBt, by show T.1 < T.1 + 1; omega⟩ hTa (Or.inr rfl) g0.1 g0.2 (by rw [e4, uO_s]))) (fun _ _ _ _ _ h9 => cThr.tx h9.2 3 (by unfold nmThr; rw [if_pos ⟨q1, q2⟩, if_pos q3, if_pos h9.1]) (by omega) rfl hFn hWn) rfl (fun v41 T41 I41 J41 O41 p41 => ?_)
  refine G_rg (fun hr => ?_)
  obtain ⟨q4, rfl, hF9, hW9⟩ := p41
  refine G_rg (fun hr => ?_)
  refine G_ireturn x en eX10_setNumber_44 (by omega) (by omega) ?_
  exact ⟨by unfold nmThr; rw [if_pos ⟨q1, q2⟩, if_pos q3, if_neg (by omega)], rfl, hFn.tr hF9, hW9⟩
set_option maxRecDepth 20000 in
theorem ct_q_clearCell {T : gT} {I : gI} {J : gJ} {O : gO} {B ss : Nat} {S : Int → Int} {n : Int} {Rc Xt : Int → Int} {L : Int} (hW : WW B ss T I J O S n Rc Xt L) (hI : Inv S) {r row col : Int} {f : Int → Int} (n0 : 0 ≤ n) (n1 : n ≤ 4) (h0 : in32 r) (h1 : in32 row) (h2 : in32 col) : Cx yX10_clearCell cX10_clearCell 5 (some .int) [va_rf (some ss), VI r, VI row, VI col] 8 136 6 34 T I J O (cRet B ss T I J O (clThr S r row col) (VI (S (3843 + 270 * r) + 1)) (wtS S r row col 0 0 0 f) (nEnd n) (rKeep Rc n (ctS S)) Xt L) (cThr B ss T I J O (clThr S r row col) nIS S n Rc Xt L) := by
  refine Cx.of' (by decide) [some (va_rf (some ss)), some (VI r), some (VI row), some (VI col), none] (gEn1 (List.forall_mem_cons.mpr ⟨cat_VR _, List.forall_mem_cons.mpr ⟨cat_VI _, List.forall_mem_cons.mpr ⟨cat_VI _, List.forall_mem_cons.mpr ⟨cat_VI _, fun _ h => nomatch h⟩⟩⟩⟩) rfl (Nat.le_of_ble_eq_true rfl) rfl) ?_
  intro X x en rm th hr
  have hr0 := hr
  have hS := hW.1.1
  have hZ := hS.z
  have hss := hZ.m
  refine G_aload0 x eX10_clearCell_0 ?_
  refine G_iload1 x eX10_clearCell_1 ?_
  refine G_cVX x th eX10_clearCell_2 kX10_39 ⟨im_yX10_replicaAt, se_yX10_replicaAt⟩ hZ.m rm (ct_X10_replicaAt hS h0) (fun _ _ _ _ _ h9 => cThr.tx h9.2 1 (by have q9 := h9.1; unfold clThr; (repeat' split) <;> first | rfl | omega) (by omega) rfl FrC.rf hW) rfl (fun v2 T2 I2 J2 O2 p2 => ?_)
  refine G_rg (fun hr => ?_)
  obtain ⟨q1, rfl, e1, e2, e3, e4⟩ := p2
  obtain rfl := e1.symm
  obtain rfl := e2.symm
  obtain rfl := e3.symm
  obtain rfl := e4.symm
  have hp := (hS.rp q1.1 q1.2).1
  obtain ⟨hR, hG, hC⟩ := hW.2.1 r q1.1 q1.2
  have hbhp := rpA_b (ss := ss) q1.1 q1.2
  have hBs := hW.1.2.1
  refine G_astore4 x eX10_clearCell_5 ?_
  refine G_aload4 x eX10_clearCell_7 ?_
  refine G_iload2 x eX10_clearCell_9 ?_
  refine G_iload3 x eX10_clearCell_10 ?_
  refine G_cSX x th eX10_clearCell_11 kX10_92 sm_yX10_requireCell rm (ct_X10_requireCell hp hR.2.2.1.R.1 hR.2.2.2.1.R.1 h1 h2) (fun _ _ _ _ _ h9 => cThr.tx h9.2 1 (by have q9 := h9.1; unfold clThr; (repeat' split) <;> first | rfl | omega) (by omega) rfl FrC.rf hW) rfl (fun v11 T11 I11 J11 O11 p11 => ?_)
  refine G_rg (fun hr => ?_)
  obtain ⟨q2, rfl, e1, e2, e3, e4⟩ := p11
  obtain rfl := e1.symm
  obtain rfl := e2.symm
  obtain rfl := e3.symm
  obtain rfl := e4.symm
  have nb0 := (rwE S r 0 (-1)).2.1
  have nb1 := (rwE S r 1 (-1)).2.1
  refine G_aload0 x eX10_clearCell_14 ?_
  refine G_aload4 x eX10_clearCell_15 ?_
  refine G_iload2 x eX10_clearCell_17 ?_
  refine G_iload3 x eX10_clearCell_18 ?_
  refine G_nw x eX10_clearCell_19 clX10_96 itX2 ini_X2 rfl rm (by omega) (by show _ + gN 2 ≤ _; simp only [gN]; omega) (fun i19 j19 o19 => ?_) (hdf_X2)
  have hf := hI.f q1.1 q1.2
  have hBt := hW.1.2.2
  have hg2 : gN 2 = 3 := rfl
  have hTa : (gpush T (.inl 2)).2 T.1 = some (.inl 2) := gpush_s
  refine G_dup x eX10_clearCell_22 (by first | rfl | exact cat_rf _) ?_
  refine G_push x eX10_clearCell_23 ?_
  refine G_push x eX10_clearCell_24 ?_
  refine G_null x eX10_clearCell_25 ?_
  refine G_cI8 x eX10_clearCell_26 kX10_98 im_yX2_init rm (ct_X2_init (fo := none) hTa (by omega) (by omega)) rfl (fun v26 T26 I26 J26 O26 p26 => ?_)
  refine G_rg (fun hr => ?_)
  obtain ⟨rfl, e1, e2, e3, e4⟩ := p26
  obtain ⟨hWn, hFn⟩ := hW.nw (ty := .inl 2) (I' := I26) (J' := J26) (O' := O26) (fun b b1 => by
    rw [e2, e3, e4]
    exact ⟨fun j => by (repeat (first | rw [uI_s] | rw [uI_a (by omega)] | rw [uI_k (by omega)])), fun j => rfl, fun j => uO_a (by omega) j⟩)
  obtain rfl := e1.symm
  obtain rfl := e3.symm
  have g0 : I26 T.1 0 = 0 ∧ I26 T.1 1 = 0 := by
    rw [e2]
    refine ⟨?_, ?_⟩ <;> (repeat (first | rw [uI_s] | rw [uI_a (by omega)] | rw [uI_k (by omega)]))
  have hssn := hWn.1.1.z.m
  refine G_cVX x th eX10_clearCell_29 kX10_101 ⟨im_yX10_writeContent, se_yX10_writeContent⟩ (by assumption) rm (ct_X10_writeContent (S1 := wrS S r 0 0 0 f) (co := T.1) hWn hI n0 n1 q1.1 q1.2 q2 (fun j hj => wr_o hj) (fun hk9 => co_n hk9 q1.1 q1.2 hf.1 ⟨hBt, by show T.1 < T.1 + 1; omega⟩ hTa (Or.inl ⟨rfl, rfl⟩) g0.1 g0.2 (by rw [e4, uO_s]))) (fun _ _ _ _ _ h9 => cThr.tx h9.2 2 (by unfold clThr; rw [if_pos ⟨q1, q2⟩, if_pos h9.1]) (by omega) rfl hFn hWn) rfl (fun v29 T29 I29 J29 O29 p29 => ?_)
  refine G_rg (fun hr => ?_)
  obtain ⟨q4, rfl, hF9, hW9⟩ := p29
  refine G_rg (fun hr => ?_)
  refine G_ireturn x en eX10_clearCell_32 (by omega) (by omega) ?_
  exact ⟨by unfold clThr; rw [if_pos ⟨q1, q2⟩, if_neg (by omega)], rfl, hFn.tr hF9, hW9⟩
set_option maxRecDepth 20000 in
theorem ct_q_setFormula {T : gT} {I : gI} {J : gJ} {O : gO} {B ss : Nat} {S : Int → Int} {n : Int} {Rc Xt : Int → Int} {L : Int} (hW : WW B ss T I J O S n Rc Xt L) (hI : Inv S) {r row col : Int} (n0 : 0 ≤ n) (n1 : n ≤ 4) (hX : txW Xt L) (h0 : in32 r) (h1 : in32 row) (h2 : in32 col) : Cx yX10_setFormula cX10_setFormula 5 (some .int) [va_rf (some ss), VI r, VI row, VI col] 8 136 10 140 T I J O (cRet B ss T I J O (fmThr Xt L S r row col) (VI (S (3843 + 270 * r) + 1)) (wfS S r row col (tks (flS Xt L S r).2)) (nEnd n) (rKeep Rc n (ctS S)) Xt L) (cThr B ss T I J O (fmThr Xt L S r row col) nIAS S n Rc Xt L) := by
  refine Cx.of' (by decide) [some (va_rf (some ss)), some (VI r), some (VI row), some (VI col), none] (gEn1 (List.forall_mem_cons.mpr ⟨cat_VR _, List.forall_mem_cons.mpr ⟨cat_VI _, List.forall_mem_cons.mpr ⟨cat_VI _, List.forall_mem_cons.mpr ⟨cat_VI _, fun _ h => nomatch h⟩⟩⟩⟩) rfl (Nat.le_of_ble_eq_true rfl) rfl) ?_
  intro X x en rm th hr
  have hr0 := hr
  have hS := hW.1.1
  have hZ := hS.z
  have hss := hZ.m
  refine G_aload0 x eX10_setFormula_0 ?_
  refine G_iload1 x eX10_setFormula_1 ?_
  refine G_cVX x th eX10_setFormula_2 kX10_39 ⟨im_yX10_replicaAt, se_yX10_replicaAt⟩ hZ.m rm (ct_X10_replicaAt hS h0) (fun _ _ _ _ _ h9 => cThr.tx h9.2 1 (by have q9 := h9.1; unfold fmThr; (repeat' split) <;> first | rfl | omega) (by omega) rfl FrC.rf hW) rfl (fun v2 T2 I2 J2 O2 p2 => ?_)
  refine G_rg (fun hr => ?_)
  obtain ⟨q1, rfl, e1, e2, e3, e4⟩ := p2
  obtain rfl := e1.symm
  obtain rfl := e2.symm
  obtain rfl := e3.symm
  obtain rfl := e4.symm
  have hp := (hS.rp q1.1 q1.2).1
  obtain ⟨hR, hG, hC⟩ := hW.2.1 r q1.1 q1.2
  have hbhp := rpA_b (ss := ss) q1.1 q1.2
  have hBs := hW.1.2.1
  refine G_astore4 x eX10_setFormula_5 ?_
  refine G_aload4 x eX10_setFormula_7 ?_
  refine G_iload2 x eX10_setFormula_9 ?_
  refine G_iload3 x eX10_setFormula_10 ?_
  refine G_cSX x th eX10_setFormula_11 kX10_92 sm_yX10_requireCell rm (ct_X10_requireCell hp hR.2.2.1.R.1 hR.2.2.2.1.R.1 h1 h2) (fun _ _ _ _ _ h9 => cThr.tx h9.2 1 (by have q9 := h9.1; unfold fmThr; (repeat' split) <;> first | rfl | omega) (by omega) rfl FrC.rf hW) rfl (fun v11 T11 I11 J11 O11 p11 => ?_)
  refine G_rg (fun hr => ?_)
  obtain ⟨q2, rfl, e1, e2, e3, e4⟩ := p11
  obtain rfl := e1.symm
  obtain rfl := e2.symm
  obtain rfl := e3.symm
  obtain rfl := e4.symm
  have nb0 := (rwE S r 0 (-1)).2.1
  have nb1 := (rwE S r 1 (-1)).2.1
  have eL := hW.2.2.2.1
  have hL1 := hX.1
  have hTx := hZ.s_text
  have hRd := hZ.s_reader
  have eF : flS (I (ss + 4 + 1)) L S r = flS Xt L S r := flS_e9 (fun i i0 i1 => hW.2.2.2.2 i i0 i1)
  have eC : ch (I (ss + 4 + 1)) L = ch Xt L := ch_e9 (fun i i0 i1 => hW.2.2.2.2 i i0 i1)
  refine G_aload0 x eX10_setFormula_14 ?_
  refine G_getq x eX10_setFormula_15 fX10_32 rfl rfl hZ.m hZ.o_reader ?_
  refine G_aload0 x eX10_setFormula_18 ?_
  refine G_getq x eX10_setFormula_19 fX10_25 rfl rfl hZ.m hZ.o_text ?_
  refine G_aload4 x eX10_setFormula_22 ?_
  refine G_cVg x eX10_setFormula_24 kX10_105 im_yX6_read se_yX6_read rm hZ.s_reader.m (ct_X6_read hRd hTx hp hR.L (by rw [eL]; omega) (by rw [eL]; omega) (by omega) (by omega) (fun i => by rw [eL, eC]; exact ch_b9 hX i)) rfl (fun v24 T24 I24 J24 O24 p24 => ?_)
  refine G_rg (fun hr => ?_)
  obtain ⟨e1, e2, e3, eI, rfl, h32, hrd⟩ := p24
  obtain rfl := e1.symm
  obtain rfl := e2.symm
  obtain rfl := e3.symm
  rw [eL, eF] at h32 hrd ⊢
  obtain ⟨hW1, hF1⟩ := hW.lo (I' := I24) (n' := n) (Rc' := Rc) (X' := Xt) (L' := L) (fun b j hb => eI b j (by omega) (by omega)) (by rw [eI _ _ (by omega) (by omega)]; exact hW.2.2.1.1) (fun j j0 j1 => by rw [eI _ _ (by omega) (by omega)]; exact hW.2.2.1.2 j j0 j1) (by rw [eI _ _ (by omega) (by omega)]; exact eL) (fun i i0 i1 => by rw [eI _ _ (by omega) (by omega)]; exact hW.2.2.2.2 i i0 i1)
  have hth : fmThr Xt L S r row col = if (flS Xt L S r).1 = -1 then (if S r = 40 then 3 else 0) else 2 := by
    unfold fmThr
    rw [if_pos ⟨q1, q2⟩]
  refine G_push x eX10_setFormula_27 ?_
  refine G_icmp_eq x eX10_setFormula_28 h32 (by omega) (fun c28 => ?_) (fun c28 => ?_)
  rotate_left
  · refine G_rg (fun hr => ?_)
    refine G_throw x th rm tf_A tk_A ti_A ts_111 tw_A tg_A eX10_setFormula_31.1 eX10_setFormula_34.1 eX10_setFormula_35.1 eX10_setFormula_37.1 eX10_setFormula_40.1 (Nat.le_of_ble_eq_true rfl) (Nat.le_of_ble_eq_true rfl) (Nat.le_of_ble_eq_true rfl) (by omega) (by omega) (by omega) (by omega) ?_
    exact fun N9 hN9 => cThr.of 2 (by rw [hth, if_neg c28]) (by omega) rfl (hF1.tr (FrC.t hN9)) (hW1.t hN9)
  have hok := fl_ok hX c28
  obtain ⟨hr1, hr2, hr3⟩ := hrd c28
  obtain ⟨fl, hfle⟩ : ∃ fl, fl = (flS Xt L S r).2 := ⟨_, rfl⟩
  rw [← hfle] at hok hr1 hr2 hr3
  have hf := hI.f q1.1 q1.2
  have hBt := hW.1.2.2
  have hg2 : gN 2 = 3 := rfl
  have hTa : (gpush T (.inl 2)).2 T.1 = some (.inl 2) := gpush_s
  refine G_aload0 x eX10_setFormula_41 ?_
  refine G_aload4 x eX10_setFormula_42 ?_
  refine G_iload2 x eX10_setFormula_44 ?_
  refine G_iload3 x eX10_setFormula_45 ?_
  refine G_nw x eX10_setFormula_46 clX10_96 itX2 ini_X2 rfl rm (by omega) (by show _ + gN 2 ≤ _; simp only [gN]; omega) (fun i46 j46 o46 => ?_) (hdf_X2)
  refine G_dup x eX10_setFormula_49 (by first | rfl | exact cat_rf _) ?_
  refine G_push x eX10_setFormula_50 ?_
  refine G_push x eX10_setFormula_51 ?_
  have hZ1 : SsAt0 (gpush T (.inl 2)) O ss := (hS.mv (fun b b1 b2 => gpush_k (by omega)) (fun _ _ _ _ _ _ _ _ _ _ _ _ _ => rfl)).z
  have hRd1 := hZ1.s_reader
  refine G_aload0 x eX10_setFormula_52 ?_
  refine G_getq x eX10_setFormula_53 fX10_32 rfl rfl hZ1.m hZ1.o_reader ?_
  refine G_cVg8 x eX10_setFormula_56 kX10_114 im_yX6_formula se_yX6_formula rm hZ1.s_reader.m (ct_X6_formula (n := fl.length) hRd1 hr1 hr2 (by show ss + 6 + 1 < T.1 + 1; omega)) rfl (fun v56 T56 I56 J56 O56 p56 => ?_)
  refine G_rg (fun hr => ?_)
  obtain ⟨rfl, e1, e2, e3, e4⟩ := p56
  have hTb : T56.2 T.1 = some (.inl 2) := by rw [e1, gpush_k (by show T.1 < T.1 + 1 + 1; omega), gpush_k (by show T.1 < T.1 + 1; omega)]; exact hTa
  have hT1 : T56.1 = T.1 + 3 := by rw [e1]; rfl
  refine G_cI8 x eX10_setFormula_59 kX10_98 im_yX2_init rm (ct_X2_init (fo := some (T.1 + 1)) hTb (by omega) (by omega)) rfl (fun v59 T59 I59 J59 O59 p59 => ?_)
  refine G_rg (fun hr => ?_)
  obtain ⟨rfl, f1, f2, f3, f4⟩ := p59
  have gT : ∀ b, b < T.1 → T59.2 b = T.2 b := fun b b1 => by rw [f1, e1, gpush_k (by show b < T.1 + 1 + 1; omega), gpush_k (by show b < T.1 + 1; omega), gpush_k b1]
  have gI : ∀ b, b < T.1 → ∀ j, I59 b j = I24 b j := fun b b1 j => by
    rw [f2]
    rw [uI_a (by omega), uI_a (by omega), e3, cpZ_a (by show b ≠ T.1 + 1 + 1; omega)]
  have gO : ∀ b, b < T.1 → ∀ j, O59 b j = O b j := fun b b1 j => by rw [f4, uO_a (by omega), e4, uO_a (by show b ≠ T.1 + 1; omega)]
  have gJ : J59 = J := by rw [f3, e2]
  have hTz : T59.1 = T.1 + 3 := by rw [f1, hT1]
  have hWn := hW1.mv (T' := T59) (I' := I59) (J' := J59) (O' := O59) (by omega) (fun b b1 _ => ⟨gT b b1, gI b b1, fun j => by rw [gJ], gO b b1⟩)
  have hFn : FrC ss T T59 I I59 J J59 O O59 := hF1.tr ⟨by omega, fun b b1 _ => ⟨gT b b1, gI b b1, fun j => by rw [gJ], gO b b1⟩⟩
  have hfm : fmH B T59 I59 O59 (T.1 + 1) fl := by
    refine ⟨⟨by rw [f1, e1, gpush_k (by show T.1 + 1 < T.1 + 1 + 1; omega), gpush_at (by rfl)], T.1 + 1 + 1, by rw [f4, uO_a (by omega), e4]; exact uO_s, by rw [f1, e1]; exact gpush_at (by rfl), fun k y hy => ?_⟩, ⟨by omega, by omega⟩, fun pa hpa => ?_, hok.2⟩
    · have hk : k < fl.length := (List.getElem?_eq_some_iff.mp hy).1
      have c9 : ∀ j, 0 ≤ j → j < 4 → I59 (T.1 + 1 + 1) (4 * (k : Int) + j) = I24 (ss + 6 + 1) (4 * (k : Int) + j) := fun j j0 j1 => by
        rw [f2, uI_a (by omega), uI_a (by omega), e3]
        exact cpZ_i (by omega) (by omega)
      have c0 := c9 0 (by omega) (by omega)
      rw [Int.add_zero] at c0
      rw [c0, c9 1 (by omega) (by omega), c9 2 (by omega) (by omega), c9 3 (by omega) (by omega)]
      exact hr3 k y hy
    · rw [f4, uO_a (by omega), e4] at hpa
      have z : uO O (T.1 + 1) 0 (some (T.1 + 1 + 1)) (T.1 + 1) 0 = some pa := hpa
      rw [uO_s] at z
      cases z
      omega
  have hcog : S r < 40 → coG B T59 I59 O59 (opW (wrS S r 2 0 ((tks fl).length : Nat) (fun i => (tks fl).getD i.toNat 0)) r 4 (-1) (rwF S r 0 (-1) row) (rwF S r 1 (-1) col)) (40 * r + S r) T.1 := fun hk9 => by
    have er : wrS S r 2 0 ((tks fl).length : Nat) (fun i => (tks fl).getD i.toNat 0) r = S r := wr_o (by omega)
    have oo : ∀ j, 3 + 32 * (40 * r + S r) + 4 < j → opW (wrS S r 2 0 ((tks fl).length : Nat) (fun i => (tks fl).getD i.toNat 0)) r 4 (-1) (rwF S r 0 (-1) row) (rwF S r 1 (-1) col) j = wrS S r 2 0 ((tks fl).length : Nat) (fun i => (tks fl).getD i.toNat 0) j := fun j hj => opW_o (by rw [er]; omega)
    have w := @wr_f S r 2 0 ((tks fl).length : Nat) (fun i => (tks fl).getD i.toNat 0)
    have htl := @tks_w fl
    have hl24 := hok.1.2.2
    refine ⟨⟨by omega, by omega⟩, by rw [f1]; exact hTb, ?_, ?_, Or.inl ⟨?_, T.1 + 1, fl, by rw [f4, uO_s], hfm, ?_, fun i v hv => ?_, hok.1⟩⟩
    · rw [oo _ (by omega), w.1, f2]
      (repeat (first | rw [uI_s] | rw [uI_a (by omega)] | rw [uI_k (by omega)]))
    · rw [oo _ (by omega), w.1, f2, if_neg (by omega)]
      (repeat (first | rw [uI_s] | rw [uI_a (by omega)] | rw [uI_k (by omega)]))
    · rw [oo _ (by omega), w.1]
    · rw [oo _ (by omega), w.2.2.1]
    · have hi : i < (tks fl).length := (List.getElem?_eq_some_iff.mp hv).1
      rw [oo _ (by omega), w.2.2.2 i (by omega) (by omega) (by omega)]
      show (tks fl).getD ((i : Int)).toNat 0 = v
      rw [show ((i : Int)).toNat = i by omega, List.getD_eq_getElem?_getD, hv]
      rfl
  have hssn := hWn.1.1.z.m
  refine G_cVX x th eX10_setFormula_62 kX10_101 ⟨im_yX10_writeContent, se_yX10_writeContent⟩ (by assumption) rm (ct_X10_writeContent (S1 := wrS S r 2 0 ((tks fl).length : Nat) (fun i => (tks fl).getD i.toNat 0)) (co := T.1) hWn hI n0 n1 q1.1 q1.2 q2 (fun j hj => wr_o hj) hcog) (fun _ _ _ _ _ h9 => cThr.tx h9.2 3 (by rw [hth, if_pos c28, if_pos h9.1]) (by omega) rfl hFn hWn) rfl (fun v62 T62 I62 J62 O62 p62 => ?_)
  refine G_rg (fun hr => ?_)
  obtain ⟨q4, rfl, hF9, hW9⟩ := p62
  rw [hfle] at hW9
  refine G_rg (fun hr => ?_)
  refine G_ireturn x en eX10_setFormula_65 (by omega) (by omega) ?_
  exact ⟨by rw [hth, if_pos c28, if_neg (by omega)], rfl, hFn.tr hF9, hW9⟩
