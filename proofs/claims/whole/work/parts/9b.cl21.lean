/-! the class's writers -/
theorem bt_eq {I : gI} {ln : Nat} {S : Int → Int} {r b w p : Int} (ht : lnTb I ln S r b) (p0 : 0 ≤ p) (p1 : p ≤ rwN S r b w) : woN (I ln 6) (lnX I ln w) = rwN S r b w ∧ btw (I (ln + 1)) (woF (I (ln + 6)) (lnX I ln w)) (woN (I ln 6) (lnX I ln w)) p = mkPl S r b w p := by
  have hE : En (I (ln + 1)) (lnSh I ln) 12 (I (ln + 6)) (I ln 6) := ht.2
  have hk : idxOf (I (ln + 6)) (I ln 6) w (lnX I ln w) := ix_idx hE.1
  have hw := (hE.wo hk).congr (pl' := plS S r b) (sh' := shS S r b w) (fun y a c => ((ht.1 y a c).1).symm) (fun y a c => by
    have q := ht.1 y a c
    simp only [shS, lnSh]
    rw [q.2.2.2.1, q.2.2.2.2])
  have hq := rw_eq hw
  refine ⟨hq.1, ?_⟩
  unfold mkPl
  have hn9 := hq.1
  rw [hn9]
  have hf : ∀ i, 0 ≤ i → i < rwN S r b w → I (ln + 1) (woF (I (ln + 6)) (lnX I ln w) i) = plS S r b (rwF S r b w i) := fun i a c => by
    rw [hq.2 i a (by omega)]
    have z := (rwE S r b w).2.2.2.1 i a c
    exact (ht.1 _ z.1 z.2.1).1
  unfold btw
  simp only
  by_cases c0 : p = 0
  · rw [if_pos c0, if_pos c0]
    by_cases c1 : p = rwN S r b w
    · rw [if_pos c1, if_pos c1]
    · rw [if_neg c1, if_neg c1, hf p p0 (by omega)]
  · rw [if_neg c0, if_neg c0, hf (p - 1) (by omega) (by omega)]
    by_cases c1 : p = rwN S r b w
    · rw [if_pos c1, if_pos c1]
    · rw [if_neg c1, if_neg c1, hf p p0 (by omega)]
theorem pl_ok {I : gI} {ln : Nat} {S : Int → Int} {r b : Int} (hI : Inv S) (r0 : 0 ≤ r) (r1 : r ≤ 2) (b0 : 0 ≤ b) (b1 : b ≤ 1) (ht : lnTb I ln S r b) : ∀ l, 0 ≤ l → l < 12 → lnSh I ln l → 0 ≤ I (ln + 1) l ∧ I (ln + 1) l ≤ 1000000 := fun l l0 l1 hs => by
  have q := ht.1 l l0 l1
  have c := hI.ck r0 r1
  have := hI.pl r0 r1 b0 b1 l0 l1 (by rw [← q.2.2.2.1]; exact hs.1)
  rw [q.1]
  omega
theorem mks_ck {S : Int → Int} {r num col l pl : Int} (r0 : 0 ≤ r) (r1 : r ≤ 2) (k0 : 0 ≤ S r) (k1 : S r < 40) (hv : opV (opW S r num col l pl) (40 * r + S r)) : mksS S r num col l pl (3843 + 270 * r) = S (3843 + 270 * r) + 1 := by
  rw [mks_cR r0 r1 k0 k1, cR_clk r0 r1 (by omega) (by omega) hv]
  have f1 : opW S r num col l pl (3 + 32 * (40 * r + S r) + 1) = S (3843 + 270 * r) + 1 := opW_f.2.1
  have f2 : opW S r num col l pl (3843 + 270 * r) = S (3843 + 270 * r) := opW_o (by omega)
  rw [f1, f2]
  omega
theorem rm_cnt {S : Int → Int} {r b p : Int} (h : Inv S) (r0 : 0 ≤ r) (r1 : r ≤ 2) (b0 : 0 ≤ b) (b1 : b ≤ 1) (p0 : 0 ≤ p) (p1 : p < rwN S r b (-1)) (hn : S r < 40) : rwN (rmS S r b p) r b (-1) = rwN S r b (-1) - 1 := by
  have hf := h.f r0 r1
  have hl := rwF_b p0 p1
  unfold rmS
  rw [mks_cR r0 r1 hf.1 hn]
  obtain ⟨l, hle⟩ : ∃ l, l = rwF S r b (-1) p := ⟨_, rfl⟩
  have hd := (rwE S r b (-1)).drop p0 p1
  rw [← hle] at hl hd ⊢
  have f := @opW_f S r 3 b l (-1)
  have hv : opV (opW S r 3 b l (-1)) (40 * r + S r) := by
    unfold opV
    rw [f.1, f.2.2.1, f.2.2.2.1]
    exact ⟨hl.1, hl.2, by omega, by omega⟩
  have g : ∀ y, 0 ≤ y → y < 12 → cR (opW S r 3 b l (-1)) r (40 * r + S r) (lA r b y) = S (lA r b y) ∧ cR (opW S r 3 b l (-1)) r (40 * r + S r) (lA r b y + 3) = S (lA r b y + 3) ∧ cR (opW S r 3 b l (-1)) r (40 * r + S r) (lA r b y + 4) = if y = l then 1 else S (lA r b y + 4) := fun y y0 y1 => by
    obtain ⟨g0, -, -, g3, g4⟩ := cR_ln r0 r1 (by omega) (by omega) hv (by rw [f.1]; omega) y0 y1 b0 b1
    rw [f.1, f.2.2.1, f.2.2.2.1] at g3 g4
    rw [f.1] at g0
    rw [if_neg (fun z => z.2.1 rfl), opW_o (by simp only [lA]; omega)] at g0
    rw [if_neg (fun z => absurd z.2 (by omega)), opW_o (by simp only [lA]; omega)] at g3
    refine ⟨g0, g3, ?_⟩
    rw [g4]
    by_cases e : y = l
    · rw [if_pos ⟨⟨rfl, e⟩, rfl⟩, if_pos e]
    · rw [if_neg (fun z => e z.1.2), if_neg e, opW_o (by simp only [lA]; omega)]
  have hc := hd.congr (pl' := plS (cR (opW S r 3 b l (-1)) r (40 * r + S r)) r b) (sh' := shS (cR (opW S r 3 b l (-1)) r (40 * r + S r)) r b (-1)) (fun y y0 y1 => (g y y0 y1).1) (fun y y0 y1 => by
    obtain ⟨-, g3, g4⟩ := g y y0 y1
    simp only [lA] at g3 g4
    simp only [shS]
    rw [g3, g4]
    by_cases e : y = l
    · rw [if_pos e]
      exact ⟨fun z => absurd z.1.2 (by omega), fun z => absurd e z.2⟩
    · rw [if_neg e]
      exact ⟨fun z => ⟨z, e⟩, fun z => z.1⟩)
  exact (rw_eq hc).1.symm
set_option maxRecDepth 20000 in
theorem ct_X10_writeContent {T : gT} {I : gI} {J : gJ} {O : gO} {B ss co : Nat} {S S1 : Int → Int} {n : Int} {Rc Xt : Int → Int} {L r row col : Int} (hW : WW B ss T I J O S n Rc Xt L) (hI : Inv S) (n0 : 0 ≤ n) (n1 : n ≤ 4) (r0 : 0 ≤ r) (r1 : r ≤ 2) (hc : (0 ≤ row ∧ row < rwN S r 0 (-1)) ∧ 0 ≤ col ∧ col < rwN S r 1 (-1)) (h1 : ∀ j, (j < 3 + 32 * (40 * r + S r) + 5 ∨ 3 + 32 * (40 * r + S r) + 32 ≤ j) → S1 j = S j) (hco : S r < 40 → coG B T I O (opW S1 r 4 (-1) (rwF S r 0 (-1) row) (rwF S r 1 (-1) col)) (40 * r + S r) co) : Cx yX10_writeContent cX10_writeContent 7 (some .int) [va_rf (some ss), va_rf (some (rpA ss r)), VI row, VI col, va_rf (some co)] 7 110 2 13 T I J O (clQ B ss T I J O (S r < 40) (some (VI (S (3843 + 270 * r) + 1))) (mksS S1 r 4 (-1) (rwF S r 0 (-1) row) (rwF S r 1 (-1) col)) (nEnd n) (rKeep Rc n (ctS S)) Xt L) (fun cl T' I' J' O' => S r = 40 ∧ tX xcS T I J O cl T' I' J' O') := by
  refine Cx.of' (by decide) [some (va_rf (some ss)), some (va_rf (some (rpA ss r))), some (VI row), some (VI col), some (va_rf (some co)), none, none] (gEn1 (List.forall_mem_cons.mpr ⟨cat_VR _, List.forall_mem_cons.mpr ⟨cat_VR _, List.forall_mem_cons.mpr ⟨cat_VI _, List.forall_mem_cons.mpr ⟨cat_VI _, List.forall_mem_cons.mpr ⟨cat_VR _, fun _ h => nomatch h⟩⟩⟩⟩⟩) rfl (Nat.le_of_ble_eq_true rfl) rfl) ?_
  intro X x en rm th hr
  have hr0 := hr
  have hS := hW.1.1
  have hZ := hS.z
  have hss := hZ.m
  have hp := (hS.rp r0 r1).1
  have hbp := rpA_b (ss := ss) r0 r1
  have hBs := hW.1.2.1
  have hBt := hW.1.2.2
  have hf := hI.f r0 r1
  have hck := hI.ck r0 r1
  obtain ⟨hR, hG, hC⟩ := hW.2.1 r r0 r1
  have hcn := hR.2.1 r r0 r1
  rw [cIx_s] at hcn
  have nb0 := (rwE S r 0 (-1)).2.1
  have nb1 := (rwE S r 1 (-1)).2.1
  have hlr := rwF_b hc.1.1 hc.1.2
  have hlc := rwF_b hc.2.1 hc.2.2
  have eR := hR.2.2.1.R.A9 (p := row)
  rw [if_pos hc.1] at eR
  have eC := hR.2.2.2.1.R.A9 (p := col)
  rw [if_pos hc.2] at eC
  obtain ⟨lr, hlre⟩ : ∃ lr, lr = rwF S r 0 (-1) row := ⟨_, rfl⟩
  obtain ⟨lc, hlce⟩ : ∃ lc, lc = rwF S r 1 (-1) col := ⟨_, rfl⟩
  rw [← hlre] at eR hlr hco
  rw [← hlce] at eC hlc hco
  have er : S1 r = S r := h1 r (by omega)
  have ec : S1 (3843 + 270 * r) = S (3843 + 270 * r) := h1 _ (by omega)
  have cQ := ct_X10_requireLogRoom (I := I) (J := J) hp (by rw [hR.1.1]; exact r0) (by rw [hR.1.1]; exact r1)
  rw [hR.1.1, hcn] at cQ
  have cRr := ct_X4_numberAt (I := I) (J := J) (p := row) hp.s_rows (by omega) (by rw [hR.2.2.1.R.1]; exact nb0)
  rw [eR] at cRr
  have cCc := ct_X4_numberAt (I := I) (J := J) (p := col) hp.s_columns (by omega) (by rw [hR.2.2.2.1.R.1]; exact nb1)
  rw [eC] at cCc
  have hg5 : gN 5 = 7 := rfl
  refine G_aload1 x eX10_writeContent_0 ?_
  refine G_cSX x th eX10_writeContent_1 kX10_276 sm_yX10_requireLogRoom rm cQ (fun _ _ _ _ _ h9 => ⟨by have := h9.1; omega, h9.2⟩) rfl (fun v1 T1 I1 J1 O1 p1 => ?_)
  refine G_rg (fun hr => ?_)
  obtain ⟨q1, rfl, e1, e2, e3, e4⟩ := p1
  obtain rfl := e1.symm
  obtain rfl := e2.symm
  obtain rfl := e3.symm
  obtain rfl := e4.symm
  have hco := hco q1
  refine G_aload1 x eX10_writeContent_4 ?_
  refine G_getq x eX10_writeContent_5 fX10_201 rfl rfl hp.m hp.o_rows ?_
  refine G_iload2 x eX10_writeContent_8 ?_
  refine G_cV x eX10_writeContent_9 kX10_76 im_yX4_numberAt se_yX4_numberAt rm hp.s_rows.m cRr rfl ?_
  refine G_istore5 x eX10_writeContent_12 ?_
  refine G_aload1 x eX10_writeContent_14 ?_
  refine G_getq x eX10_writeContent_15 fX10_209 rfl rfl hp.m hp.o_columns ?_
  refine G_iload3 x eX10_writeContent_18 ?_
  refine G_cV x eX10_writeContent_19 kX10_76 im_yX4_numberAt se_yX4_numberAt rm hp.s_columns.m cCc rfl ?_
  refine G_istore6 x eX10_writeContent_22 ?_
  refine G_aload0 x eX10_writeContent_24 ?_
  refine G_getq x eX10_writeContent_25 fX10_18 rfl rfl hZ.m hZ.o_records ?_
  refine G_aload0 x eX10_writeContent_28 ?_
  refine G_getq x eX10_writeContent_29 fX10_11 rfl rfl hZ.m hZ.o_replicas ?_
  refine G_cVg x eX10_writeContent_32 kX10_174 im_yX7_keep se_yX7_keep rm hZ.s_records.m (ct_X7_keep hS (by rw [hW.2.2.1.1]; exact n0) (by rw [hW.2.2.1.1]; exact n1)) rfl (fun v32 T32 I32 J32 O32 p32 => ?_)
  refine G_rg (fun hr => ?_)
  obtain ⟨rfl, e1, e2, e3, hWk, hFk, hkk⟩ := hW.kp n0 n1 p32
  obtain rfl := e1.symm
  obtain rfl := e2.symm
  obtain rfl := e3.symm
  obtain ⟨hRk, hGk, hCk⟩ := hWk.2.1 r r0 r1
  refine G_aload1 x eX10_writeContent_35 ?_
  refine G_nw x eX10_writeContent_36 clX10_280 itX5 ini_X5 rfl rm (by omega) (by show _ + gN 5 ≤ _; simp only [gN]; omega) (fun i36 j36 o36 => ?_) (hdf_X5)
  refine G_dup x eX10_writeContent_39 (by first | rfl | exact cat_rf _) ?_
  have hpN : RpAt (gpush T (.inl 5)) O (rpA ss r) := hp.mv (fun q b1 b2 => gpush_k (by omega)) (fun _ _ _ _ _ => rfl)
  refine G_push x eX10_writeContent_40 ?_
  refine G_aload1 x eX10_writeContent_41 ?_
  refine G_cV x eX10_writeContent_42 kX10_282 im_yX8_nextClock se_yX8_nextClock rm hpN.m (ct_X8_nextClock hpN) rfl ?_
  refine G_aload1 x eX10_writeContent_45 ?_
  refine G_geti x eX10_writeContent_46 fX10_285 rfl rfl hpN.m (fun h46 => ?_)
  rw [hRk.1.1, hRk.1.2]
  have hnw : T.1 < (gpush T (.inl 5)).1 := by show T.1 < T.1 + 1; omega
  have hTa : (gpush T (.inl 5)).2 T.1 = some (.inl 5) := gpush_s
  refine G_push x eX10_writeContent_49 ?_
  refine G_iload5 x eX10_writeContent_50 ?_
  refine G_iload6 x eX10_writeContent_52 ?_
  refine G_aload4 x eX10_writeContent_54 ?_
  refine G_cI x eX10_writeContent_56 kX10_288 im_yX5_init rm (ct_X5_init (fo := some co) hTa (by omega) (by omega) (by omega) (by omega) (by omega) (by omega)) rfl (fun v56 T56 I56 J56 O56 p56 => ?_)
  refine G_rg (fun hr => ?_)
  obtain ⟨rfl, e1, e2, e3, e4⟩ := p56
  obtain ⟨hWn, hFn⟩ := hWk.nw (ty := .inl 5) (I' := I56) (J' := J56) (O' := O56) (fun b b1 => by
    rw [e2, e3, e4]
    exact ⟨fun j => by (repeat (first | rw [uI_s] | rw [uI_a (by omega)] | rw [uI_k (by omega)])), fun j => rfl, fun j => uO_a (by omega) j⟩)
  have hkc : hiK B T (gpush T (.inl 5)) I I56 O O56 := ⟨by show T.1 ≤ T.1 + 1; omega, fun b b1 b2 => ⟨gpush_k b2, fun j => by rw [e2]; rw [show ∀ Q, (uI (uI (uI (uI (uI (uI I32 T.1 0 4) T.1 1 (S (3843 + 270 * r) + 1)) T.1 2 r) T.1 3 (-1)) T.1 4 lr) T.1 5 lc) b j = Q ↔ I32 b j = Q from fun Q => by (repeat (first | rw [uI_s] | rw [uI_a (by omega)] | rw [uI_k (by omega)]))]; exact hkk b j (by omega) (by omega), fun j => by rw [e4]; exact uO_a (by omega) j⟩⟩
  obtain rfl := e1.symm
  obtain rfl := e3.symm
  have oo : ∀ j, (j < 3 + 32 * (40 * r + S r) ∨ 3 + 32 * (40 * r + S r) + 4 < j) → opW S1 r 4 (-1) lr lc j = S1 j := fun j hj => opW_o (by rw [er]; exact hj)
  have f := @opW_f S1 r 4 (-1) lr lc
  rw [er, ec] at f
  have hv : opV (opW S1 r 4 (-1) lr lc) (40 * r + S r) := by
    unfold opV
    rw [f.1, f.2.2.2.1, f.2.2.2.2]
    exact ⟨hlr.1, hlr.2, fun _ => hlc, fun z => absurd rfl z⟩
  have g0 : I56 T.1 0 = 4 ∧ I56 T.1 1 = S (3843 + 270 * r) + 1 ∧ I56 T.1 2 = r ∧ I56 T.1 3 = -1 ∧ I56 T.1 4 = lr ∧ I56 T.1 5 = lc := by
    rw [e2]
    refine ⟨?_, ?_, ?_, ?_, ?_, ?_⟩ <;> (repeat (first | rw [uI_s] | rw [uI_a (by omega)] | rw [uI_k (by omega)]))
  have hA : opG B (gpush T (.inl 5)) I56 O56 (opW S1 r 4 (-1) lr lc) (40 * r + S r) T.1 := ⟨⟨by omega, hnw⟩, hTa, ⟨g0.1.trans f.1.symm, g0.2.1.trans f.2.1.symm, by rw [g0.2.2.1]; omega, g0.2.2.2.1.trans f.2.2.1.symm, g0.2.2.2.2.1.trans f.2.2.2.1.symm, g0.2.2.2.2.2.trans f.2.2.2.2.symm⟩, Or.inl ⟨f.1, co, by rw [e4, uO_s], hco.mv hkc (fun _ _ _ => rfl)⟩⟩
  have cA := ct_X8_append (S2 := opW S1 r 4 (-1) lr lc) hWn hI r0 r1 q1 (fun j j0 j1 j2 j3 j4 => by rw [oo j (by omega)]; exact h1 j (by omega)) hA hv
  have em := mks_cR (S := S1) (num := 4) (col := -1) (l := lr) (pl := lc) r0 r1 (by rw [er]; exact hf.1) (by rw [er]; exact q1)
  have ek := mks_ck (S := S1) (num := 4) (col := -1) (l := lr) (pl := lc) r0 r1 (by rw [er]; exact hf.1) (by rw [er]; exact q1) (by rw [er]; exact hv)
  rw [er] at em
  rw [ec] at ek
  rw [← em] at cA
  have hpM := (hWn.1.1.rp r0 r1).1
  refine G_cVg x eX10_writeContent_59 kX10_291 im_yX8_append se_yX8_append rm hpM.m cA rfl (fun v59 T59 I59 J59 O59 p59 => ?_)
  refine G_rg (fun hr => ?_)
  obtain ⟨rfl, e5, e6, hWf, hFf⟩ := p59
  obtain rfl := e5.symm
  obtain rfl := e6.symm
  have hF9 := (hFk.tr hFn).tr hFf
  have hpF := (hWf.1.1.rp r0 r1).1
  refine G_aload1 x eX10_writeContent_62 ?_
  refine G_geti x eX10_writeContent_63 fX10_186 rfl rfl hpF.m (fun h63 => ?_)
  rw [(hWf.2.1 r r0 r1).1.1.2, ek]
  rw [hlre, hlce] at hWf
  refine G_rg (fun hr => ?_)
  refine G_ireturn x en eX10_writeContent_66 (by omega) (by omega) ?_
  exact ⟨q1, rfl, hF9, hWf⟩
set_option maxRecDepth 20000 in
theorem ct_q_make {T : gT} {I : gI} {J : gJ} {O : gO} {B ss : Nat} {S : Int → Int} {n : Int} {Rc Xt : Int → Int} {L : Int} (hW : WW B ss T I J O S n Rc Xt L) (hI : Inv S) {r b p : Int} (n0 : 0 ≤ n) (n1 : n ≤ 4) (h0 : in32 r) (hb : b = 0 ∨ b = 1) (h1 : in32 p) : Cx yX10_make cX10_make 8 (some .int) [va_rf (some ss), VI r, VI b, VI p] 8 135 4 25 T I J O (cRet B ss T I J O (mkThr S r b p) (VI (3 + 3 * r + S (3843 + 270 * r + (4 + b)))) (mkS S r b p) (nEnd n) (rKeep Rc n (ctS S)) Xt L) (cThr B ss T I J O (mkThr S r b p) nIS S n Rc Xt L) := by
  refine Cx.of' (by decide) [some (va_rf (some ss)), some (VI r), some (VI b), some (VI p), none, none, none, none] (gEn1 (List.forall_mem_cons.mpr ⟨cat_VR _, List.forall_mem_cons.mpr ⟨cat_VI _, List.forall_mem_cons.mpr ⟨cat_VI _, List.forall_mem_cons.mpr ⟨cat_VI _, fun _ h => nomatch h⟩⟩⟩⟩) rfl (Nat.le_of_ble_eq_true rfl) rfl) ?_
  intro X x en rm th hr
  have hr0 := hr
  have hS := hW.1.1
  have hZ := hS.z
  have hss := hZ.m
  refine G_aload0 x eX10_make_0 ?_
  refine G_iload1 x eX10_make_1 ?_
  refine G_cVX x th eX10_make_2 kX10_39 ⟨im_yX10_replicaAt, se_yX10_replicaAt⟩ hZ.m rm (ct_X10_replicaAt hS h0) (fun _ _ _ _ _ h9 => cThr.tx h9.2 1 (by have q9 := h9.1; unfold mkThr; (repeat' split) <;> first | rfl | omega) (by omega) rfl FrC.rf hW) rfl (fun v2 T2 I2 J2 O2 p2 => ?_)
  refine G_rg (fun hr => ?_)
  obtain ⟨q1, rfl, e1, e2, e3, e4⟩ := p2
  obtain rfl := e1.symm
  obtain rfl := e2.symm
  obtain rfl := e3.symm
  obtain rfl := e4.symm
  have hp := (hS.rp q1.1 q1.2).1
  obtain ⟨hR, hG, hC⟩ := hW.2.1 r q1.1 q1.2
  have hbhp := rpA_b (ss := ss) q1.1 q1.2
  have hBs := hW.1.2.1
  have ht := hR.ln hb
  have hLn := hp.ln hb
  have en1 := ht.R.1
  have en2 := (rwE S r b (-1)).1
  have en3 := (rwE S r b (-1)).2.1
  have hf := hI.f q1.1 q1.2
  have hck := hI.ck q1.1 q1.2
  refine G_astore4 x eX10_make_5 ?_
  refine G_aload4 x eX10_make_7 ?_
  refine G_iload2 x eX10_make_9 ?_
  refine G_cV x eX10_make_10 kX10_43 im_yX8_linesOf se_yX8_linesOf rm hp.m (ct_X8_linesOf hp hb) rfl ?_
  refine G_astore5 x eX10_make_13 ?_
  refine G_iload3 x eX10_make_15 ?_
  refine G_aload5 x eX10_make_16 ?_
  refine G_cV x eX10_make_18 kX10_47 im_yX4_count se_yX4_count rm hLn.m (ct_X4_count hLn) rfl ?_
  refine G_push x eX10_make_21 ?_
  refine G_iadd x eX10_make_22 ?_
  rw [en1]
  refine G_cSX x th eX10_make_23 kX10_53 sm_yX10_requireIndex rm (ct_X10_requireIndex (i := p) (e := rwN S r b (-1) + 1) h1 (by omega)) (fun _ _ _ _ _ h9 => cThr.tx h9.2 1 (by have q9 := h9.1; unfold mkThr; rw [if_pos q1, if_neg (by omega)]) (by omega) rfl FrC.rf hW) rfl (fun v23 T23 I23 J23 O23 p23 => ?_)
  refine G_rg (fun hr => ?_)
  obtain ⟨q2, rfl, e1, e2, e3, e4⟩ := p23
  obtain rfl := e1.symm
  obtain rfl := e2.symm
  obtain rfl := e3.symm
  obtain rfl := e4.symm
  have qN := (hI.2.2.2.2 r b q1.1 q1.2 (by omega) (by omega)).1
  have cN := ct_X8_nextLine (I := I) (J := J) (n := S (3843 + 270 * r + (4 + b))) hp hb hR.1.1 q1.1 q1.2 qN.1 qN.2 (fun k k0 k1 => by
    have z := ht.1 (3 + 3 * r + k) (by omega) (by omega)
    rw [z.2.2.2.1]
    exact hI.nl q1.1 q1.2 (by omega) (by omega) k0 k1)
  have hbt := bt_eq (w := -1) (p := p) ht q2.1 (by omega)
  have cB := ct_X4_placeBetween (J := J) (p := p) (w := -1) hLn q2.1 (by rw [hbt.1]; omega) (by omega) ht.2 (pl_ok hI q1.1 q1.2 (by omega) (by omega) ht)
  rw [hbt.2] at cB
  by_cases hN : S (3843 + 270 * r + (4 + b)) = 3
  · rw [if_pos hN] at cN
    have hbnd : in32 (mkPl S r b (-1) p) := by
      by_cases z : mkPl S r b (-1) p = -1
      · rw [z]; omega
      · have := mkPl_b hI q1.1 q1.2 (by omega) (by omega) q2.1 (by omega) z
        omega
    refine G_rg (fun hr => ?_)
    refine G_aload4 x eX10_make_26 ?_
    refine G_iload2 x eX10_make_28 ?_
    refine G_cV x eX10_make_29 kX10_57 im_yX8_nextLine se_yX8_nextLine rm hp.m cN rfl ?_
    refine G_istore6 x eX10_make_32 ?_
    refine G_aload5 x eX10_make_34 ?_
    refine G_iload3 x eX10_make_36 ?_
    refine G_push x eX10_make_37 ?_
    refine G_cV x eX10_make_38 kX10_61 im_yX4_placeBetween se_yX4_placeBetween rm hLn.m cB rfl ?_
    refine G_istore7 x eX10_make_41 ?_
    refine G_iload6 x eX10_make_43 ?_
    refine G_push x eX10_make_45 ?_
    refine G_icmp_eq x eX10_make_46 (by first | omega | exact hr _ _ | exact hr0 _ _ | exact hrS _) (by first | omega | exact hr _ _ | exact hr0 _ _ | exact hrS _) (fun c46 => ?_) (fun c46 => ?_)
    · refine G_throw x th rm tf_S tk_S ti_S ts_67 tw_S tg_S eX10_make_55.1 eX10_make_58.1 eX10_make_59.1 eX10_make_61.1 eX10_make_64.1 (Nat.le_of_ble_eq_true rfl) (Nat.le_of_ble_eq_true rfl) (Nat.le_of_ble_eq_true rfl) (by omega) (by omega) (by omega) (by omega) ?_
      exact fun N9 hN9 => cThr.of 2 (by unfold mkThr; rw [if_pos q1, if_pos (by omega), if_pos (Or.inl hN)]) (by omega) rfl (FrC.t hN9) (hW.t hN9)
    · exfalso; omega
  · rw [if_neg hN] at cN
    by_cases hM : mkPl S r b (-1) p = -1
    · rw [hM] at cB
      refine G_rg (fun hr => ?_)
      refine G_aload4 x eX10_make_26 ?_
      refine G_iload2 x eX10_make_28 ?_
      refine G_cV x eX10_make_29 kX10_57 im_yX8_nextLine se_yX8_nextLine rm hp.m cN rfl ?_
      refine G_istore6 x eX10_make_32 ?_
      refine G_aload5 x eX10_make_34 ?_
      refine G_iload3 x eX10_make_36 ?_
      refine G_push x eX10_make_37 ?_
      refine G_cV x eX10_make_38 kX10_61 im_yX4_placeBetween se_yX4_placeBetween rm hLn.m cB rfl ?_
      refine G_istore7 x eX10_make_41 ?_
      refine G_iload6 x eX10_make_43 ?_
      refine G_push x eX10_make_45 ?_
      refine G_icmp_eq x eX10_make_46 (by first | omega | exact hr _ _ | exact hr0 _ _ | exact hrS _) (by first | omega | exact hr _ _ | exact hr0 _ _ | exact hrS _) (fun c46 => ?_) (fun c46 => ?_)
      · refine G_throw x th rm tf_S tk_S ti_S ts_67 tw_S tg_S eX10_make_55.1 eX10_make_58.1 eX10_make_59.1 eX10_make_61.1 eX10_make_64.1 (Nat.le_of_ble_eq_true rfl) (Nat.le_of_ble_eq_true rfl) (Nat.le_of_ble_eq_true rfl) (by omega) (by omega) (by omega) (by omega) ?_
        exact fun N9 hN9 => cThr.of 2 (by unfold mkThr; rw [if_pos q1, if_pos (by omega), if_pos (Or.inr (Or.inl hM))]) (by omega) rfl (FrC.t hN9) (hW.t hN9)
      · refine G_iload7 x eX10_make_49 ?_
        refine G_push x eX10_make_51 ?_
        refine G_icmp_ne x eX10_make_52 (by first | omega | exact hr _ _ | exact hr0 _ _ | exact hrS _) (by first | omega | exact hr _ _ | exact hr0 _ _ | exact hrS _) (fun c52 => ?_) (fun c52 => ?_)
        · exfalso; omega
        · refine G_throw x th rm tf_S tk_S ti_S ts_67 tw_S tg_S eX10_make_55.1 eX10_make_58.1 eX10_make_59.1 eX10_make_61.1 eX10_make_64.1 (Nat.le_of_ble_eq_true rfl) (Nat.le_of_ble_eq_true rfl) (Nat.le_of_ble_eq_true rfl) (by omega) (by omega) (by omega) (by omega) ?_
          exact fun N9 hN9 => cThr.of 2 (by unfold mkThr; rw [if_pos q1, if_pos (by omega), if_pos (Or.inr (Or.inl hM))]) (by omega) rfl (FrC.t hN9) (hW.t hN9)
    · have hbnd := mkPl_b hI q1.1 q1.2 (by omega) (by omega) q2.1 (by omega) hM
      refine G_rg (fun hr => ?_)
      refine G_aload4 x eX10_make_26 ?_
      refine G_iload2 x eX10_make_28 ?_
      refine G_cV x eX10_make_29 kX10_57 im_yX8_nextLine se_yX8_nextLine rm hp.m cN rfl ?_
      refine G_istore6 x eX10_make_32 ?_
      refine G_aload5 x eX10_make_34 ?_
      refine G_iload3 x eX10_make_36 ?_
      refine G_push x eX10_make_37 ?_
      refine G_cV x eX10_make_38 kX10_61 im_yX4_placeBetween se_yX4_placeBetween rm hLn.m cB rfl ?_
      refine G_istore7 x eX10_make_41 ?_
      refine G_iload6 x eX10_make_43 ?_
      refine G_push x eX10_make_45 ?_
      refine G_icmp_eq x eX10_make_46 (by first | omega | exact hr _ _ | exact hr0 _ _ | exact hrS _) (by first | omega | exact hr _ _ | exact hr0 _ _ | exact hrS _) (fun c46 => ?_) (fun c46 => ?_)
      · exfalso; omega
      · refine G_iload7 x eX10_make_49 ?_
        refine G_push x eX10_make_51 ?_
        refine G_icmp_ne x eX10_make_52 (by first | omega | exact hr _ _ | exact hr0 _ _ | exact hrS _) (by first | omega | exact hr _ _ | exact hr0 _ _ | exact hrS _) (fun c52 => ?_) (fun c52 => ?_)
        · refine G_aload0 x eX10_make_65 ?_
          refine G_aload4 x eX10_make_66 ?_
          refine G_push x eX10_make_68 ?_
          refine G_iload2 x eX10_make_69 ?_
          refine G_iload6 x eX10_make_70 ?_
          refine G_iload7 x eX10_make_72 ?_
          refine G_cVX x th eX10_make_74 kX10_72 ⟨im_yX10_changeLine, se_yX10_changeLine⟩ hZ.m rm (ct_X10_changeLine (S1 := sU S (3843 + 270 * r + (4 + b)) (S (3843 + 270 * r + (4 + b)) + 1)) hW hI n0 n1 q1.1 q1.2 (fun j j1 j2 => sU_o (by omega)) (by omega) hb (by omega) (by omega)) (fun _ _ _ _ _ h9 => cThr.tx h9.2 2 (by unfold mkThr; rw [if_pos q1, if_pos (by omega), if_pos (Or.inr (Or.inr h9.1))]) (by omega) rfl FrC.rf hW) rfl (fun v74 T74 I74 J74 O74 p74 => ?_)
          refine G_rg (fun hr => ?_)
          obtain ⟨q4, rfl, hF9, hW9⟩ := p74
          refine G_iload6 x eX10_make_77 ?_
          refine G_ireturn x en eX10_make_79 (by omega) (by omega) ?_
          exact ⟨by unfold mkThr; rw [if_pos q1, if_pos (by omega), if_neg (by omega)], rfl, hF9, hW9⟩
        · exfalso; omega
set_option maxRecDepth 20000 in
theorem ct_q_move {T : gT} {I : gI} {J : gJ} {O : gO} {B ss : Nat} {S : Int → Int} {n : Int} {Rc Xt : Int → Int} {L : Int} (hW : WW B ss T I J O S n Rc Xt L) (hI : Inv S) {r b p t : Int} (n0 : 0 ≤ n) (n1 : n ≤ 4) (h0 : in32 r) (hb : b = 0 ∨ b = 1) (h1 : in32 p) (h2 : in32 t) : Cx yX10_move cX10_move 9 (some .int) [va_rf (some ss), VI r, VI b, VI p, VI t] 8 135 5 31 T I J O (cRet B ss T I J O (mvThr S r b p t) (VI (rwP (mvS S r b p t) r b (rwF S r b (-1) p))) (mvS S r b p t) (nEnd n) (rKeep Rc n (ctS S)) Xt L) (cThr B ss T I J O (mvThr S r b p t) nIS S n Rc Xt L) := by
  refine Cx.of' (by decide) [some (va_rf (some ss)), some (VI r), some (VI b), some (VI p), some (VI t), none, none, none, none] (gEn1 (List.forall_mem_cons.mpr ⟨cat_VR _, List.forall_mem_cons.mpr ⟨cat_VI _, List.forall_mem_cons.mpr ⟨cat_VI _, List.forall_mem_cons.mpr ⟨cat_VI _, List.forall_mem_cons.mpr ⟨cat_VI _, fun _ h => nomatch h⟩⟩⟩⟩⟩) rfl (Nat.le_of_ble_eq_true rfl) rfl) ?_
  intro X x en rm th hr
  have hr0 := hr
  have hS := hW.1.1
  have hZ := hS.z
  have hss := hZ.m
  refine G_aload0 x eX10_move_0 ?_
  refine G_iload1 x eX10_move_1 ?_
  refine G_cVX x th eX10_move_2 kX10_39 ⟨im_yX10_replicaAt, se_yX10_replicaAt⟩ hZ.m rm (ct_X10_replicaAt hS h0) (fun _ _ _ _ _ h9 => cThr.tx h9.2 1 (by have q9 := h9.1; unfold mvThr; (repeat' split) <;> first | rfl | omega) (by omega) rfl FrC.rf hW) rfl (fun v2 T2 I2 J2 O2 p2 => ?_)
  refine G_rg (fun hr => ?_)
  obtain ⟨q1, rfl, e1, e2, e3, e4⟩ := p2
  obtain rfl := e1.symm
  obtain rfl := e2.symm
  obtain rfl := e3.symm
  obtain rfl := e4.symm
  have hp := (hS.rp q1.1 q1.2).1
  obtain ⟨hR, hG, hC⟩ := hW.2.1 r q1.1 q1.2
  have hbhp := rpA_b (ss := ss) q1.1 q1.2
  have hBs := hW.1.2.1
  have ht := hR.ln hb
  have hLn := hp.ln hb
  have en1 := ht.R.1
  have en2 := (rwE S r b (-1)).1
  have en3 := (rwE S r b (-1)).2.1
  have hf := hI.f q1.1 q1.2
  have hck := hI.ck q1.1 q1.2
  refine G_astore5 x eX10_move_5 ?_
  refine G_aload5 x eX10_move_7 ?_
  refine G_iload2 x eX10_move_9 ?_
  refine G_cV x eX10_move_10 kX10_43 im_yX8_linesOf se_yX8_linesOf rm hp.m (ct_X8_linesOf hp hb) rfl ?_
  refine G_astore6 x eX10_move_13 ?_
  refine G_iload3 x eX10_move_15 ?_
  refine G_aload6 x eX10_move_16 ?_
  refine G_cV x eX10_move_18 kX10_47 im_yX4_count se_yX4_count rm hLn.m (ct_X4_count hLn) rfl ?_
  rw [en1]
  refine G_cSX x th eX10_move_21 kX10_53 sm_yX10_requireIndex rm (ct_X10_requireIndex (i := p) (e := rwN S r b (-1)) h1 (by omega)) (fun _ _ _ _ _ h9 => cThr.tx h9.2 1 (by have q9 := h9.1; unfold mvThr; rw [if_pos q1, if_neg (fun z => q9 z.1)]) (by omega) rfl FrC.rf hW) rfl (fun v21 T21 I21 J21 O21 p21 => ?_)
  refine G_rg (fun hr => ?_)
  obtain ⟨q2, rfl, e1, e2, e3, e4⟩ := p21
  obtain rfl := e1.symm
  obtain rfl := e2.symm
  obtain rfl := e3.symm
  obtain rfl := e4.symm
  refine G_iload4 x eX10_move_24 ?_
  refine G_aload6 x eX10_move_26 ?_
  refine G_cV x eX10_move_28 kX10_47 im_yX4_count se_yX4_count rm hLn.m (ct_X4_count hLn) rfl ?_
  rw [en1]
  refine G_cSX x th eX10_move_31 kX10_53 sm_yX10_requireIndex rm (ct_X10_requireIndex (i := t) (e := rwN S r b (-1)) h2 (by omega)) (fun _ _ _ _ _ h9 => cThr.tx h9.2 1 (by have q9 := h9.1; unfold mvThr; rw [if_pos q1, if_neg (fun z => q9 z.2)]) (by omega) rfl FrC.rf hW) rfl (fun v31 T31 I31 J31 O31 p31 => ?_)
  refine G_rg (fun hr => ?_)
  obtain ⟨q3, rfl, e1, e2, e3, e4⟩ := p31
  obtain rfl := e1.symm
  obtain rfl := e2.symm
  obtain rfl := e3.symm
  obtain rfl := e4.symm
  have hl := rwF_b q2.1 q2.2
  have hd := (rw_drop q2.1 q2.2).1
  have eA := ht.R.A9 (p := p)
  rw [if_pos q2] at eA
  obtain ⟨l, hle⟩ : ∃ l, l = rwF S r b (-1) p := ⟨_, rfl⟩
  have hth : mvThr S r b p t = if mkPl S r b l t = -1 ∨ S r = 40 then 2 else 0 := by
    unfold mvThr
    rw [if_pos q1, if_pos ⟨q2, q3⟩, ← hle]
  have hSS : mvS S r b p t = mksS S r 2 b l (mkPl S r b l t) := by
    unfold mvS
    rw [← hle]
  rw [← hle] at hl hd eA en
  have cA := ct_X4_numberAt (I := I) (J := J) (p := p) hLn h1 (by omega)
  rw [eA] at cA
  have hbt := bt_eq (w := l) (p := t) ht q3.1 (by omega)
  have cB := ct_X4_placeBetween (J := J) (p := t) (w := l) hLn q3.1 (by rw [hbt.1]; omega) (by omega) ht.2 (pl_ok hI q1.1 q1.2 (by omega) (by omega) ht)
  rw [hbt.2] at cB
  by_cases hM : mkPl S r b l t = -1
  · rw [hM] at cB
    refine G_rg (fun hr => ?_)
    refine G_aload6 x eX10_move_34 ?_
    refine G_iload3 x eX10_move_36 ?_
    refine G_cV x eX10_move_37 kX10_76 im_yX4_numberAt se_yX4_numberAt rm hLn.m cA rfl ?_
    refine G_istore7 x eX10_move_40 ?_
    refine G_aload6 x eX10_move_42 ?_
    refine G_iload4 x eX10_move_44 ?_
    refine G_iload7 x eX10_move_46 ?_
    refine G_cV x eX10_move_48 kX10_61 im_yX4_placeBetween se_yX4_placeBetween rm hLn.m cB rfl ?_
    refine G_istore8 x eX10_move_51 ?_
    refine G_iload8 x eX10_move_53 ?_
    refine G_push x eX10_move_55 ?_
    refine G_icmp_ne x eX10_move_56 (by first | omega | exact hr _ _ | exact hr0 _ _ | exact hrS _) (by first | omega | exact hr _ _ | exact hr0 _ _ | exact hrS _) (fun c56 => ?_) (fun c56 => ?_)
    · exfalso; omega
    · refine G_throw x th rm tf_S tk_S ti_S ts_80 tw_S tg_S eX10_move_59.1 eX10_move_62.1 eX10_move_63.1 eX10_move_65.1 eX10_move_68.1 (Nat.le_of_ble_eq_true rfl) (Nat.le_of_ble_eq_true rfl) (Nat.le_of_ble_eq_true rfl) (by omega) (by omega) (by omega) (by omega) ?_
      exact fun N9 hN9 => cThr.of 2 (by rw [hth, if_pos (Or.inl hM)]) (by omega) rfl (FrC.t hN9) (hW.t hN9)
  · have hbnd := mkPl_b hI q1.1 q1.2 (by omega) (by omega) q3.1 (by omega) hM
    refine G_aload6 x eX10_move_34 ?_
    refine G_iload3 x eX10_move_36 ?_
    refine G_cV x eX10_move_37 kX10_76 im_yX4_numberAt se_yX4_numberAt rm hLn.m cA rfl ?_
    refine G_istore7 x eX10_move_40 ?_
    refine G_aload6 x eX10_move_42 ?_
    refine G_iload4 x eX10_move_44 ?_
    refine G_iload7 x eX10_move_46 ?_
    refine G_cV x eX10_move_48 kX10_61 im_yX4_placeBetween se_yX4_placeBetween rm hLn.m cB rfl ?_
    refine G_istore8 x eX10_move_51 ?_
    refine G_iload8 x eX10_move_53 ?_
    refine G_push x eX10_move_55 ?_
    refine G_icmp_ne x eX10_move_56 (by omega) (by omega) (fun c56 => ?_) (fun c56 => absurd hM (by omega))
    refine G_aload0 x eX10_move_69 ?_
    refine G_aload5 x eX10_move_70 ?_
    refine G_push x eX10_move_72 ?_
    refine G_iload2 x eX10_move_73 ?_
    refine G_iload7 x eX10_move_74 ?_
    refine G_iload8 x eX10_move_76 ?_
    refine G_cVX x th eX10_move_78 kX10_72 ⟨im_yX10_changeLine, se_yX10_changeLine⟩ hZ.m rm (ct_X10_changeLine (S1 := S) hW hI n0 n1 q1.1 q1.2 (fun j j1 j2 => rfl) (by omega) hb (by omega) (by omega)) (fun _ _ _ _ _ h9 => cThr.tx h9.2 2 (by rw [hth, if_pos (Or.inr h9.1)]) (by omega) rfl FrC.rf hW) rfl (fun v78 T78 I78 J78 O78 p78 => ?_)
    refine G_rg (fun hr => ?_)
    obtain ⟨q4, rfl, hF9, hW9⟩ := p78
    rw [← hSS] at hW9
    have hp9 := (hW9.1.1.rp q1.1 q1.2).1
    have ht9 := (hW9.2.1 r q1.1 q1.2).1.ln hb
    have hL9 := hp9.ln hb
    have en9 := (rwE (mvS S r b p t) r b (-1)).1
    have en8 := (rwE (mvS S r b p t) r b (-1)).2.1
    have en7 := ht9.R.1
    refine G_aload6 x eX10_move_81 ?_
    refine G_iload7 x eX10_move_83 ?_
    refine G_cV x eX10_move_85 kX10_82 im_yX4_positionOf se_yX4_positionOf rm hL9.m (ct_X4_positionOf hL9 (by omega) (by omega) (by omega)) rfl ?_
    rw [ht9.R.X9]
    refine G_rg (fun hr => ?_)
    refine G_ireturn x en eX10_move_88 (by omega) (by omega) ?_
    exact ⟨by rw [hth, if_neg (by omega)], rfl, hF9, hW9⟩
set_option maxRecDepth 20000 in
theorem ct_q_remove {T : gT} {I : gI} {J : gJ} {O : gO} {B ss : Nat} {S : Int → Int} {n : Int} {Rc Xt : Int → Int} {L : Int} (hW : WW B ss T I J O S n Rc Xt L) (hI : Inv S) {r b p : Int} (n0 : 0 ≤ n) (n1 : n ≤ 4) (h0 : in32 r) (hb : b = 0 ∨ b = 1) (h1 : in32 p) : Cx yX10_remove cX10_remove 6 (some .int) [va_rf (some ss), VI r, VI b, VI p] 8 135 4 25 T I J O (cRet B ss T I J O (rmThr S r b p) (VI (rwN S r b (-1) - 1)) (rmS S r b p) (nEnd n) (rKeep Rc n (ctS S)) Xt L) (cThr B ss T I J O (rmThr S r b p) nIS S n Rc Xt L) := by
  refine Cx.of' (by decide) [some (va_rf (some ss)), some (VI r), some (VI b), some (VI p), none, none] (gEn1 (List.forall_mem_cons.mpr ⟨cat_VR _, List.forall_mem_cons.mpr ⟨cat_VI _, List.forall_mem_cons.mpr ⟨cat_VI _, List.forall_mem_cons.mpr ⟨cat_VI _, fun _ h => nomatch h⟩⟩⟩⟩) rfl (Nat.le_of_ble_eq_true rfl) rfl) ?_
  intro X x en rm th hr
  have hr0 := hr
  have hS := hW.1.1
  have hZ := hS.z
  have hss := hZ.m
  refine G_aload0 x eX10_remove_0 ?_
  refine G_iload1 x eX10_remove_1 ?_
  refine G_cVX x th eX10_remove_2 kX10_39 ⟨im_yX10_replicaAt, se_yX10_replicaAt⟩ hZ.m rm (ct_X10_replicaAt hS h0) (fun _ _ _ _ _ h9 => cThr.tx h9.2 1 (by have q9 := h9.1; unfold rmThr; (repeat' split) <;> first | rfl | omega) (by omega) rfl FrC.rf hW) rfl (fun v2 T2 I2 J2 O2 p2 => ?_)
  refine G_rg (fun hr => ?_)
  obtain ⟨q1, rfl, e1, e2, e3, e4⟩ := p2
  obtain rfl := e1.symm
  obtain rfl := e2.symm
  obtain rfl := e3.symm
  obtain rfl := e4.symm
  have hp := (hS.rp q1.1 q1.2).1
  obtain ⟨hR, hG, hC⟩ := hW.2.1 r q1.1 q1.2
  have hbhp := rpA_b (ss := ss) q1.1 q1.2
  have hBs := hW.1.2.1
  have ht := hR.ln hb
  have hLn := hp.ln hb
  have en1 := ht.R.1
  have en2 := (rwE S r b (-1)).1
  have en3 := (rwE S r b (-1)).2.1
  have hf := hI.f q1.1 q1.2
  have hck := hI.ck q1.1 q1.2
  refine G_astore4 x eX10_remove_5 ?_
  refine G_aload4 x eX10_remove_7 ?_
  refine G_iload2 x eX10_remove_9 ?_
  refine G_cV x eX10_remove_10 kX10_43 im_yX8_linesOf se_yX8_linesOf rm hp.m (ct_X8_linesOf hp hb) rfl ?_
  refine G_astore5 x eX10_remove_13 ?_
  refine G_iload3 x eX10_remove_15 ?_
  refine G_aload5 x eX10_remove_16 ?_
  refine G_cV x eX10_remove_18 kX10_47 im_yX4_count se_yX4_count rm hLn.m (ct_X4_count hLn) rfl ?_
  rw [en1]
  refine G_cSX x th eX10_remove_21 kX10_53 sm_yX10_requireIndex rm (ct_X10_requireIndex (i := p) (e := rwN S r b (-1)) h1 (by omega)) (fun _ _ _ _ _ h9 => cThr.tx h9.2 1 (by have q9 := h9.1; unfold rmThr; rw [if_pos q1, if_neg q9]) (by omega) rfl FrC.rf hW) rfl (fun v21 T21 I21 J21 O21 p21 => ?_)
  refine G_rg (fun hr => ?_)
  obtain ⟨q2, rfl, e1, e2, e3, e4⟩ := p21
  obtain rfl := e1.symm
  obtain rfl := e2.symm
  obtain rfl := e3.symm
  obtain rfl := e4.symm
  have hl := rwF_b q2.1 q2.2
  have eA := ht.R.A9 (p := p)
  rw [if_pos q2] at eA
  have cA := ct_X4_numberAt (I := I) (J := J) (p := p) hLn h1 (by omega)
  rw [eA] at cA
  refine G_aload0 x eX10_remove_24 ?_
  refine G_aload4 x eX10_remove_25 ?_
  refine G_push x eX10_remove_27 ?_
  refine G_iload2 x eX10_remove_28 ?_
  refine G_aload5 x eX10_remove_29 ?_
  refine G_iload3 x eX10_remove_31 ?_
  refine G_cV x eX10_remove_32 kX10_76 im_yX4_numberAt se_yX4_numberAt rm hLn.m cA rfl ?_
  refine G_push x eX10_remove_35 ?_
  refine G_cVX x th eX10_remove_36 kX10_72 ⟨im_yX10_changeLine, se_yX10_changeLine⟩ hZ.m rm (ct_X10_changeLine (S1 := S) hW hI n0 n1 q1.1 q1.2 (fun j j1 j2 => rfl) (by omega) hb hl (by omega)) (fun _ _ _ _ _ h9 => cThr.tx h9.2 2 (by unfold rmThr; rw [if_pos q1, if_pos q2, if_pos h9.1]) (by omega) rfl FrC.rf hW) rfl (fun v36 T36 I36 J36 O36 p36 => ?_)
  refine G_rg (fun hr => ?_)
  obtain ⟨q4, rfl, hF9, hW9⟩ := p36
  have hcnt := rm_cnt hI q1.1 q1.2 (show 0 ≤ b by omega) (by omega) q2.1 q2.2 q4
  have hp9 := (hW9.1.1.rp q1.1 q1.2).1
  have ht9 := (hW9.2.1 r q1.1 q1.2).1.ln hb
  have hL9 := hp9.ln hb
  have en7 : _ = rwN (rmS S r b p) r b (-1) := ht9.R.1
  refine G_aload5 x eX10_remove_39 ?_
  refine G_cV x eX10_remove_41 kX10_47 im_yX4_count se_yX4_count rm hL9.m (ct_X4_count hL9) rfl ?_
  rw [en7, hcnt]
  refine G_rg (fun hr => ?_)
  refine G_ireturn x en eX10_remove_44 (by omega) (by omega) ?_
  exact ⟨by unfold rmThr; rw [if_pos q1, if_pos q2, if_neg (by omega)], rfl, hF9, hW9⟩
