/-- the model's rows and columns are looked at, of a replica -/
def lkI (I I' : gI) (mo : Nat) (r : Int) : Prop := (∀ b, b ≠ mo + 5 → b ≠ mo + 6 → b ≠ mo → ∀ j, I' b j = I b j) ∧ (∀ j, j ≠ 9 → j ≠ 10 → I' mo j = I mo j) ∧ I' mo 9 = rwN (I (mo + 1)) r 0 (-1) ∧ I' mo 10 = rwN (I (mo + 1)) r 1 (-1) ∧ (∀ i, 0 ≤ i → i < rwN (I (mo + 1)) r 0 (-1) → I' (mo + 5) i = rwF (I (mo + 1)) r 0 (-1) i) ∧ ∀ i, 0 ≤ i → i < rwN (I (mo + 1)) r 1 (-1) → I' (mo + 6) i = rwF (I (mo + 1)) r 1 (-1) i
theorem looksP.lk {T T' : gT} {I I' : gI} {J J' : gJ} {O O' : gO} {mo : Nat} {r : Int} {v : Option Value} (h : looksP T I J O mo r v T' I' J' O') : v = none ∧ T' = T ∧ J' = J ∧ O' = O ∧ lkI I I' mo r := by
  obtain ⟨h1, h2, h3, h4, h5, h6, h7, h8⟩ := h
  have e7 := rw_eq h7
  have e8 := rw_eq h8
  exact ⟨h1, h2, h3, h4, h5, h6, e7.1, e8.1, fun i a b => e7.2 i a (by omega), fun i a b => e8.2 i a (by omega)⟩
theorem rwB (S : Int → Int) (r kd w : Int) : 0 ≤ rwN S r kd w ∧ rwN S r kd w ≤ 12 := ⟨(rwE S r kd w).1, (rwE S r kd w).2.1⟩
theorem rwI (S : Int → Int) {r kd w i : Int} (h0 : 0 ≤ i) (h1 : i < rwN S r kd w) : 0 ≤ rwF S r kd w i ∧ rwF S r kd w i < 12 := ⟨((rwE S r kd w).2.2.2.1 i h0 h1).1, ((rwE S r kd w).2.2.2.1 i h0 h1).2.1⟩
abbrev cellIn (S : Int → Int) (r row col : Int) : Prop := (0 ≤ r ∧ r ≤ 2) ∧ (0 ≤ row ∧ row < rwN S r 0 (-1)) ∧ 0 ≤ col ∧ col < rwN S r 1 (-1)
def icP (T : gT) (I : gI) (J : gJ) (O : gO) (mo : Nat) (r row col : Int) : gP := fun v T' I' J' O' => T' = T ∧ J' = J ∧ O' = O ∧ v = some (VI (if cellIn (I (mo + 1)) r row col then 1 else 0)) ∧ ((¬ (0 ≤ r ∧ r ≤ 2) ∧ I' = I) ∨ ((0 ≤ r ∧ r ≤ 2) ∧ lkI I I' mo r))
set_option maxRecDepth 20000 in
theorem ct_X11_isCell {T : gT} {I : gI} {J : gJ} {O : gO} {mo : Nat} {r row col : Int} (hM : MoAt T O mo) (h0 : in32 r) (h1 : in32 row) (h2 : in32 col) : Ct yX11_isCell cX11_isCell 4 (some .boolean) [va_rf (some mo), VI r, VI row, VI col] 4 92 0 0 T I J O (icP T I J O mo r row col) := by
  refine Ct.of (by decide) [some (va_rf (some mo)), some (VI r), some (VI row), some (VI col)] (gEn1 (List.forall_mem_cons.mpr ⟨cat_VR _, List.forall_mem_cons.mpr ⟨cat_VI _, List.forall_mem_cons.mpr ⟨cat_VI _, List.forall_mem_cons.mpr ⟨cat_VI _, fun _ h => nomatch h⟩⟩⟩⟩) rfl (Nat.le_of_ble_eq_true rfl) rfl) ?_
  intro X x en rm ini hr hz
  have hr0 := hr
  refine G_iload1 x eX11_isCell_0 ?_
  refine G_cS x eX11_isCell_1 kX11_127 sm_yX11_isReplica rm (ct_X11_isReplica (by first | omega | exact hr _ _ | exact hr0 _ _)) rfl ?_
  refine G_ifb_ne x eX11_isCell_4 (fun c4 => ?_) (fun c4 => ?_)
  · refine G_aload0 x eX11_isCell_9 ?_
    refine G_iload1 x eX11_isCell_10 ?_
    refine G_cVg x eX11_isCell_11 kX11_155 im_yX11_looks se_yX11_looks rm hM.m (ct_X11_looks hM (by omega) (by omega)) rfl (fun v11 T11 I11 J11 O11 p11 => ?_)
    refine G_rg (fun hr => ?_)
    obtain ⟨rfl, rfl, rfl, rfl, hlk⟩ := looksP.lk p11
    have q9 := hlk.2.2.1
    have q10 := hlk.2.2.2.1
    have b0 := rwB (I (mo + 1)) r 0 (-1)
    have b1 := rwB (I (mo + 1)) r 1 (-1)
    refine G_rg (fun hr => ?_)
    refine G_iload2 x eX11_isCell_14 ?_
    refine G_push x eX11_isCell_15 ?_
    refine G_aload0 x eX11_isCell_16 ?_
    refine G_geti x eX11_isCell_17 fX11_99 rfl rfl hM.m (fun h17 => ?_)
    refine G_push x eX11_isCell_20 ?_
    refine G_isub x eX11_isCell_21 ?_
    refine G_cS x eX11_isCell_22 kX11_87 sm_yX11_in rm (ct_X11_in (by first | omega | exact hr _ _ | exact hr0 _ _) (by first | omega | exact hr _ _ | exact hr0 _ _) (by first | omega | exact hr _ _ | exact hr0 _ _)) rfl ?_
    refine G_ifb_eq x eX11_isCell_25 (fun c25 => ?_) (fun c25 => ?_)
    · refine G_push x eX11_isCell_46 ?_
      refine G_zreturn x en eX11_isCell_47 (by omega) (by omega) ?_ ?_
      · first | exact Or.inl rfl | exact Or.inr rfl | omega
      · refine ⟨rfl, rfl, rfl, ?_, Or.inr ⟨c4, hlk⟩⟩; split <;> first | rfl | (exfalso; omega)
    · refine G_iload3 x eX11_isCell_28 ?_
      refine G_push x eX11_isCell_29 ?_
      refine G_aload0 x eX11_isCell_30 ?_
      refine G_geti x eX11_isCell_31 fX11_102 rfl rfl hM.m (fun h31 => ?_)
      refine G_push x eX11_isCell_34 ?_
      refine G_isub x eX11_isCell_35 ?_
      refine G_cS x eX11_isCell_36 kX11_87 sm_yX11_in rm (ct_X11_in (by first | omega | exact hr _ _ | exact hr0 _ _) (by first | omega | exact hr _ _ | exact hr0 _ _) (by first | omega | exact hr _ _ | exact hr0 _ _)) rfl ?_
      refine G_ifb_eq x eX11_isCell_39 (fun c39 => ?_) (fun c39 => ?_)
      · refine G_push x eX11_isCell_46 ?_
        refine G_zreturn x en eX11_isCell_47 (by omega) (by omega) ?_ ?_
        · first | exact Or.inl rfl | exact Or.inr rfl | omega
        · refine ⟨rfl, rfl, rfl, ?_, Or.inr ⟨c4, hlk⟩⟩; split <;> first | rfl | (exfalso; omega)
      · refine G_push x eX11_isCell_42 ?_
        refine G_goto x eX11_isCell_43 ?_
        refine G_zreturn x en eX11_isCell_47 (by omega) (by omega) ?_ ?_
        · first | exact Or.inl rfl | exact Or.inr rfl | omega
        · refine ⟨rfl, rfl, rfl, ?_, Or.inr ⟨c4, hlk⟩⟩; split <;> first | rfl | (exfalso; omega)
  · refine G_push x eX11_isCell_7 ?_
    refine G_zreturn x en eX11_isCell_8 (by omega) (by omega) ?_ ?_
    · left; rfl
    · refine ⟨rfl, rfl, rfl, ?_, Or.inl ⟨c4, rfl⟩⟩
      rw [if_neg (fun h => c4 h.1)]
/-- a content written where the next operation lies -/
def wrS (S : Int → Int) (r kind num signs : Int) (f : Int → Int) : Int → Int := fun j =>
  if 3 + 32 * (40 * r + S r) + 8 ≤ j ∧ j < 3 + 32 * (40 * r + S r) + 8 + 24 then (if j - (3 + 32 * (40 * r + S r) + 8) < signs then f (j - (3 + 32 * (40 * r + S r) + 8)) else 0)
  else if j = 3 + 32 * (40 * r + S r) + 7 then signs else if j = 3 + 32 * (40 * r + S r) + 6 then num else if j = 3 + 32 * (40 * r + S r) + 5 then kind else S j
theorem mks_clk {S : Int → Int} {r l pl : Int} (h0 : 0 ≤ r) (h1 : r < 3) (h2 : 0 ≤ S r) (h3 : S r < 40) (h4 : 0 ≤ l) (h5 : 0 ≤ pl) : mksS S r 4 (-1) l pl (3843 + 270 * r + 0) = S (3843 + 270 * r + 0) + 1 := by
  have g0 : opS (mk0S S r 4 (-1) l pl) (40 * r + S r) 0 = 4 := by simp only [mk0S, sU, opS, ↓reduceIte]; (repeat' split) <;> first | rfl | omega
  have g3 : opS (mk0S S r 4 (-1) l pl) (40 * r + S r) 3 = l := by simp only [mk0S, sU, opS, ↓reduceIte]; (repeat' split) <;> first | rfl | omega
  have g4 : opS (mk0S S r 4 (-1) l pl) (40 * r + S r) 4 = pl := by simp only [mk0S, sU, opS, ↓reduceIte]; (repeat' split) <;> first | rfl | omega
  have gc : mk0S S r 4 (-1) l pl (3843 + 270 * r + 0) = S (3843 + 270 * r + 0) + 1 := by simp only [mk0S, sU, ↓reduceIte]; (repeat' split) <;> first | rfl | omega
  unfold mksS carS
  rw [if_pos g0, g3, g4]
  split
  · rw [sU_o (by omega)]; exact gc
  · exact gc
/-- .. where signs may have been read since -/
def lkW (I I' : gI) (mo : Nat) (r : Int) : Prop := (∀ b, b ≠ mo + 5 → b ≠ mo + 6 → b ≠ mo → b ≠ mo + 8 → ∀ j, I' b j = I b j) ∧ (∀ j, j ≠ 9 → j ≠ 10 → j ≠ 13 → j ≠ 14 → I' mo j = I mo j) ∧ I' mo 9 = rwN (I (mo + 1)) r 0 (-1) ∧ I' mo 10 = rwN (I (mo + 1)) r 1 (-1) ∧ (∀ i, 0 ≤ i → i < rwN (I (mo + 1)) r 0 (-1) → I' (mo + 5) i = rwF (I (mo + 1)) r 0 (-1) i) ∧ ∀ i, 0 ≤ i → i < rwN (I (mo + 1)) r 1 (-1) → I' (mo + 6) i = rwF (I (mo + 1)) r 1 (-1) i
theorem lkI.w {I I' : gI} {mo : Nat} {r : Int} (h : lkI I I' mo r) : lkW I I' mo r := ⟨fun b b1 b2 b3 _ j => h.1 b b1 b2 b3 j, fun j j1 j2 _ _ => h.2.1 j j1 j2, h.2.2⟩
set_option maxHeartbeats 2000000 in
set_option maxRecDepth 20000 in
theorem ct_X11_writes {T : gT} {I : gI} {J : gJ} {O : gO} {mo : Nat} {r row col kind num signs : Int} {I0 : gI} (hM : MoAt T O mo) (h0 : 0 ≤ r) (h1 : r ≤ 2) (h2 : 0 ≤ row ∧ row < rwN (I0 (mo + 1)) r 0 (-1)) (h3 : 0 ≤ col ∧ col < rwN (I0 (mo + 1)) r 1 (-1)) (h4 : in32 kind) (h5 : in32 num) (h6 : 0 ≤ signs ∧ signs ≤ 24) (h7 : 0 ≤ I mo 3 ∧ I mo 3 ≤ 4) (h8 : prOk (I0 (mo + 1)) r) (h9 : I0 (mo + 1) r ≠ 40) (hlk : lkW I0 I mo r) : Ct yX11_writes cX11_writes 9 (some .int) [va_rf (some mo), VI r, VI row, VI col, VI kind, VI num, VI signs] 3 76 0 0 T I J O (mDo T I0 J O mo (I0 (mo + 1) (3843 + 270 * r + 0) + 1) (mksS (wrS (I0 (mo + 1)) r kind num signs (I (mo + 8))) r 4 (-1) (rwF (I0 (mo + 1)) r 0 (-1) row) (rwF (I0 (mo + 1)) r 1 (-1) col))) := by
  refine Ct.of (by decide) [some (va_rf (some mo)), some (VI r), some (VI row), some (VI col), some (VI kind), some (VI num), some (VI signs), none, none] (gEn1 (List.forall_mem_cons.mpr ⟨cat_VR _, List.forall_mem_cons.mpr ⟨cat_VI _, List.forall_mem_cons.mpr ⟨cat_VI _, List.forall_mem_cons.mpr ⟨cat_VI _, List.forall_mem_cons.mpr ⟨cat_VI _, List.forall_mem_cons.mpr ⟨cat_VI _, List.forall_mem_cons.mpr ⟨cat_VI _, fun _ h => nomatch h⟩⟩⟩⟩⟩⟩⟩) rfl (Nat.le_of_ble_eq_true rfl) rfl) ?_
  intro X x en rm ini hr hz
  have hr0 := hr
  obtain ⟨⟨s0, s1⟩, ⟨k0, k1⟩, -, hcl⟩ := h8
  obtain ⟨l1, l2, l3, l4, l5, l6⟩ := hlk
  have hs : ∀ j, I (mo + 1) j = I0 (mo + 1) j := l1 _ (by omega) (by omega) (by omega) (by omega)
  have e0 := holdS hs
  refine G_aload0 x eX11_writes_0 ?_
  refine G_cVv x eX11_writes_1 kX11_141 im_yX11_hold se_yX11_hold rm hM.m (ct_X11_hold hM) rfl ?_
  refine G_rg (fun hr => ?_)
  generalize hH : cpI I (mo + 3) (mo + 1) 0 0 4653 = H1
  have a1 : H1 (mo + 1) r = I0 (mo + 1) r := by rw [← hH, e0]
  refine G_push x eX11_writes_4 ?_
  refine G_push x eX11_writes_5 ?_
  refine G_push x eX11_writes_7 ?_
  refine G_iload1 x eX11_writes_9 ?_
  refine G_imul x eX11_writes_10 ?_
  refine G_aload0 x eX11_writes_11 ?_
  refine G_getq x eX11_writes_12 fX11_7 rfl rfl hM.m hM.o_s ?_
  refine G_iload1 x eX11_writes_15 ?_
  refine G_iald x eX11_writes_16 rfl hM.t_s (by omega) (by omega) (by omega) (fun h16 => ?_)
  rw [a1]
  refine G_iadd x eX11_writes_17 ?_
  refine G_imul x eX11_writes_18 ?_
  refine G_iadd x eX11_writes_19 ?_
  refine G_istore7 x eX11_writes_20 ?_
  refine G_aload0 x eX11_writes_22 ?_
  refine G_getq x eX11_writes_23 fX11_7 rfl rfl hM.m hM.o_s ?_
  refine G_iload7 x eX11_writes_26 ?_
  refine G_push x eX11_writes_28 ?_
  refine G_iadd x eX11_writes_29 ?_
  refine G_iload4 x eX11_writes_30 ?_
  refine G_iast x eX11_writes_32 rfl hM.t_s (by omega) (by omega) (by omega) (by first | omega | exact hr _ _ | exact hr0 _ _) ?_
  refine G_rg (fun hr => ?_)
  refine G_aload0 x eX11_writes_33 ?_
  refine G_getq x eX11_writes_34 fX11_7 rfl rfl hM.m hM.o_s ?_
  refine G_iload7 x eX11_writes_37 ?_
  refine G_push x eX11_writes_39 ?_
  refine G_iadd x eX11_writes_41 ?_
  refine G_iload5 x eX11_writes_42 ?_
  refine G_iast x eX11_writes_44 rfl hM.t_s (by omega) (by omega) (by omega) (by first | omega | exact hr _ _ | exact hr0 _ _) ?_
  refine G_rg (fun hr => ?_)
  refine G_aload0 x eX11_writes_45 ?_
  refine G_getq x eX11_writes_46 fX11_7 rfl rfl hM.m hM.o_s ?_
  refine G_iload7 x eX11_writes_49 ?_
  refine G_push x eX11_writes_51 ?_
  refine G_iadd x eX11_writes_53 ?_
  refine G_iload6 x eX11_writes_54 ?_
  refine G_iast x eX11_writes_56 rfl hM.t_s (by omega) (by omega) (by omega) (by first | omega | exact hr _ _ | exact hr0 _ _) ?_
  refine G_rg (fun hr => ?_)
  generalize hA : 3 + 32 * (40 * r + I0 (mo + 1) r) = A
  obtain ⟨wrK, hwrK⟩ : ∃ w : Int → Int → Int, w = fun k j => if A + 8 ≤ j ∧ j < A + 8 + k then (if j - (A + 8) < signs then I (mo + 8) (j - (A + 8)) else 0) else if j = A + 7 then signs else if j = A + 6 then num else if j = A + 5 then kind else I0 (mo + 1) j := ⟨_, rfl⟩
  have hst : uI (uI (uI H1 (mo + 1) (A + 5) kind) (mo + 1) (A + 6) num) (mo + 1) (A + 7) signs = rowI H1 (mo + 1) (wrK 0) := by
    rw [uI_row (I := H1), uI_rowI, uI_rowI, ← hH, e0, hwrK]
    congr 1
    funext j
    simp only [sU]
    rw [if_neg (show ¬ (A + 8 ≤ j ∧ j < A + 8 + 0) by omega)]
  rw [hst]
  have e8 : ∀ j, H1 (mo + 8) j = I (mo + 8) j := fun j => by rw [← hH, cpI_b (by omega)]
  have hAr : 3 ≤ A ∧ A + 32 ≤ 3843 := by omega
  have hrow : ∀ w b j, b ≠ mo + 1 → rowI H1 (mo + 1) w b j = H1 b j := fun w b j hb => by rw [rowI_o hb]
  have loop : ∀ (d : Nat) (k : Int), d = (24 - k).toNat → 0 ≤ k → k ≤ 24 → G X 60 [some (va_rf (some mo)), some (VI r), some (VI row), some (VI col), some (VI kind), some (VI num), some (VI signs), some (VI A), some (VI k)] [] T (rowI H1 (mo + 1) (wrK k)) J O 0 0 := by
    intro d
    induction d using Nat.strongRecOn with
    | ind d ih =>
    intro k hd hk0 hk1
    have hnx : ∀ v, v = (if k < signs then I (mo + 8) k else 0) → uI (rowI H1 (mo + 1) (wrK k)) (mo + 1) (A + 8 + k) v = rowI H1 (mo + 1) (wrK (k + 1)) := by
      intro v hv
      rw [uI_rowI, hwrK]
      congr 1
      funext j
      simp only [sU]
      by_cases e : j = A + 8 + k
      · rw [if_pos e, if_pos (show A + 8 ≤ j ∧ j < A + 8 + (k + 1) by omega), hv, e, show A + 8 + k - (A + 8) = k by omega]
      · rw [if_neg e]
        by_cases e2 : A + 8 ≤ j ∧ j < A + 8 + k
        · rw [if_pos e2, if_pos (show A + 8 ≤ j ∧ j < A + 8 + (k + 1) by omega)]
        · rw [if_neg e2, if_neg (show ¬ (A + 8 ≤ j ∧ j < A + 8 + (k + 1)) by omega)]
    have hend : ∀ k, k = 24 → G X 104 [some (va_rf (some mo)), some (VI r), some (VI row), some (VI col), some (VI kind), some (VI num), some (VI signs), some (VI A), some (VI k)] [] T (rowI H1 (mo + 1) (wrK k)) J O 0 0 := by
      intro k hk24
      subst hk24
      have ew : wrK 24 = wrS (I0 (mo + 1)) r kind num signs (I (mo + 8)) := by rw [hwrK]; unfold wrS; rw [hA]
      rw [ew]
      generalize hWS : wrS (I0 (mo + 1)) r kind num signs (I (mo + 8)) = WS
      have wlo : ∀ j, j < A ∨ A + 32 ≤ j → WS j = I0 (mo + 1) j := fun j hj => by
        rw [← hWS]; unfold wrS; rw [hA, if_neg (by omega), if_neg (by omega), if_neg (by omega), if_neg (by omega)]
      have g0 : rowI H1 (mo + 1) WS (mo + 1) = WS := rowI_s
      have hrw := rwI (I0 (mo + 1)) h2.1 h2.2
      have hcw := rwI (I0 (mo + 1)) h3.1 h3.2
      have hb0 := rwB (I0 (mo + 1)) r 0 (-1)
      have hb1 := rwB (I0 (mo + 1)) r 1 (-1)
      have r5 : rowI H1 (mo + 1) WS (mo + 5) row = rwF (I0 (mo + 1)) r 0 (-1) row := by rw [hrow _ _ _ (by omega), ← hH, cpI_b (by omega)]; exact l5 row h2.1 h2.2
      have r6 : rowI H1 (mo + 1) WS (mo + 6) col = rwF (I0 (mo + 1)) r 1 (-1) col := by rw [hrow _ _ _ (by omega), ← hH, cpI_b (by omega)]; exact l6 col h3.1 h3.2
      have hcr := hcl (12 * rwF (I0 (mo + 1)) r 0 (-1) row + rwF (I0 (mo + 1)) r 1 (-1) col) (by omega) (by omega)
      rw [show 126 + (12 * rwF (I0 (mo + 1)) r 0 (-1) row + rwF (I0 (mo + 1)) r 1 (-1) col) = 126 + 12 * rwF (I0 (mo + 1)) r 0 (-1) row + rwF (I0 (mo + 1)) r 1 (-1) col by omega] at hcr
      refine G_aload0 x eX11_writes_104 ?_
      refine G_iload1 x eX11_writes_105 ?_
      refine G_push x eX11_writes_106 ?_
      refine G_push x eX11_writes_107 ?_
      refine G_aload0 x eX11_writes_108 ?_
      refine G_getq x eX11_writes_109 fX11_22 rfl rfl hM.m hM.o_rows ?_
      refine G_iload2 x eX11_writes_112 ?_
      refine G_iald x eX11_writes_113 rfl hM.t_rows (by omega) (by omega) (by omega) (fun h113 => ?_)
      rw [r5]
      refine G_aload0 x eX11_writes_114 ?_
      refine G_getq x eX11_writes_115 fX11_25 rfl rfl hM.m hM.o_columns ?_
      refine G_iload3 x eX11_writes_118 ?_
      refine G_iald x eX11_writes_119 rfl hM.t_columns (by omega) (by omega) (by omega) (fun h119 => ?_)
      rw [r6]
      refine G_cVv x eX11_writes_120 kX11_144 im_yX11_makes se_yX11_makes rm hM.m (ct_X11_makes hM (by omega) (by omega) (by rw [g0, wlo _ (by omega)]; exact s0) (by rw [g0, wlo _ (by omega)]; omega) (by omega) (by omega) (by omega) (by omega) (by omega) (by omega) (by omega) (by rw [g0, wlo _ (by omega)]; exact k0) (by rw [g0, wlo _ (by omega)]; exact k1) (by rw [g0, wlo _ (by omega)]; exact fun _ => hcr)) rfl ?_
      refine G_rg (fun hr => ?_)
      generalize hH3 : mksI (rowI H1 (mo + 1) WS) mo r 4 (-1) (rwF (I0 (mo + 1)) r 0 (-1) row) (rwF (I0 (mo + 1)) r 1 (-1) col) = H3
      have f1 : H3 (mo + 1) = mksS WS r 4 (-1) (rwF (I0 (mo + 1)) r 0 (-1) row) (rwF (I0 (mo + 1)) r 1 (-1) col) := by rw [← hH3, mksI_row, rowI_s, g0]
      have f2 : ∀ b9, b9 ≠ mo + 1 → ∀ j, H3 b9 j = H1 b9 j := fun b9 hb9 j => by rw [← hH3, mksI_row, rowI_o hb9, rowI_o hb9]
      have f3 : H3 (mo + 1) (3843 + 270 * r + 0) = I0 (mo + 1) (3843 + 270 * r + 0) + 1 := by
        rw [f1, mks_clk h0 (by omega) (by rw [wlo _ (by omega)]; exact s0) (by rw [wlo _ (by omega)]; omega) hrw.1 hcw.1, wlo _ (by omega)]
      have f4 : H3 mo 3 = I mo 3 := by rw [f2 mo (by omega), ← hH, cpI_b (by omega)]
      refine G_aload0 x eX11_writes_123 ?_
      refine G_aload0 x eX11_writes_124 ?_
      refine G_iload1 x eX11_writes_125 ?_
      refine G_push x eX11_writes_126 ?_
      refine G_cV x eX11_writes_127 kX11_108 im_yX11_of se_yX11_of rm hM.m (ct_X11_of hM (by omega) (by omega)) rfl ?_
      rw [f3]
      refine G_cV x eX11_writes_130 kX11_148 im_yX11_ends se_yX11_ends rm hM.m (ct_X11_ends hM (by omega) (by rw [f4]; omega) (by rw [f4]; omega)) rfl ?_
      refine G_rg (fun hr => ?_)
      refine G_ireturn x en eX11_writes_133 (by omega) (by omega) ?_
      exact mDo_i (I1 := I) (fun b hb j => l1 b (by omega) (by omega) (by omega) (by omega) j) hs (l1 _ (by omega) (by omega) (by omega) (by omega)) (l1 _ (by omega) (by omega) (by omega) (by omega)) (l2 _ (by omega) (by omega) (by omega) (by omega)) (l2 _ (by omega) (by omega) (by omega) (by omega)) (fun b9 q1 q2 j q3 => by rw [f2 b9 q1, hH]) (fun j q1 q2 => by rw [f1, hWS])
    refine G_rg (fun hr => ?_)
    refine G_iload8 x eX11_writes_60 ?_
    refine G_push x eX11_writes_62 ?_
    refine G_icmp_ge x eX11_writes_64 (by first | omega | exact hr _ _ | exact hr0 _ _) (by first | omega | exact hr _ _ | exact hr0 _ _) (fun c64 => ?_) (fun c64 => ?_)
    · exact hend k (by omega)
    · refine G_aload0 x eX11_writes_67 ?_
      refine G_getq x eX11_writes_68 fX11_7 rfl rfl hM.m hM.o_s ?_
      refine G_iload7 x eX11_writes_71 ?_
      refine G_push x eX11_writes_73 ?_
      refine G_iadd x eX11_writes_75 ?_
      refine G_iload8 x eX11_writes_76 ?_
      refine G_iadd x eX11_writes_78 ?_
      refine G_iload8 x eX11_writes_79 ?_
      refine G_iload6 x eX11_writes_81 ?_
      refine G_icmp_ge x eX11_writes_83 (by first | omega | exact hr _ _ | exact hr0 _ _) (by first | omega | exact hr _ _ | exact hr0 _ _) (fun c83 => ?_) (fun c83 => ?_)
      · refine G_push x eX11_writes_96 ?_
        refine G_iast x eX11_writes_97 rfl hM.t_s (by omega) (by omega) (by omega) (by first | omega | exact hr _ _ | exact hr0 _ _) ?_
        refine G_rg (fun hr => ?_)
        refine G_iinc8 x eX11_writes_98 ?_
        refine G_goto x eX11_writes_101 ?_
        first | (rw [hnx _ (by rw [if_pos (by omega), hrow _ _ _ (by omega), e8])]; exact ih _ (by omega) _ rfl (by omega) (by omega)) | (rw [hnx _ (by rw [if_neg (by omega)])]; exact ih _ (by omega) _ rfl (by omega) (by omega))
      · refine G_aload0 x eX11_writes_86 ?_
        refine G_getq x eX11_writes_87 fX11_31 rfl rfl hM.m hM.o_read ?_
        refine G_iload8 x eX11_writes_90 ?_
        refine G_iald x eX11_writes_92 rfl hM.t_read (by omega) (by omega) (by omega) (fun h92 => ?_)
        refine G_goto x eX11_writes_93 ?_
        refine G_iast x eX11_writes_97 rfl hM.t_s (by omega) (by omega) (by omega) (by first | omega | exact hr _ _ | exact hr0 _ _) ?_
        refine G_rg (fun hr => ?_)
        refine G_iinc8 x eX11_writes_98 ?_
        refine G_goto x eX11_writes_101 ?_
        first | (rw [hnx _ (by rw [if_pos (by omega), hrow _ _ _ (by omega), e8])]; exact ih _ (by omega) _ rfl (by omega) (by omega)) | (rw [hnx _ (by rw [if_neg (by omega)])]; exact ih _ (by omega) _ rfl (by omega) (by omega))
  refine G_rg (fun hr => ?_)
  refine G_push x eX11_writes_57 ?_
  refine G_istore8 x eX11_writes_58 ?_
  exact loop _ _ rfl (by omega) (by omega)
