/-! cells, texts -/
theorem inC.of {S : Int → Int} {r row col : Int} (h : (0 ≤ row ∧ row < rwN S r 0 (-1)) ∧ 0 ≤ col ∧ col < rwN S r 1 (-1)) : inC S r (12 * row + col) := by
  have := (rwE S r 0 (-1)).2.1
  have := (rwE S r 1 (-1)).2.1
  refine ⟨by omega, ?_, ?_⟩
  · rw [show (12 * row + col) / 12 = row by omega]; exact h.1.2
  · rw [show (12 * row + col) % 12 = col by omega]; exact h.2.2
theorem CaR.v {I : gI} {J : gJ} {ca : Nat} {S : Int → Int} {r c : Int} (hA : CaR I J ca S r) (hf : fmOk S r) (hc : inC S r c) (hi : in32 (I (ca + 1) c)) : I (ca + 1) c = (Int32.ofInt ((vlP S r).1 c).toInt).toInt ∧ I (ca + 2) c = (vlP S r).2 c := by
  have h := vl_eq hf hA.2.1 c hc
  refine ⟨?_, h.2⟩
  rw [← h.1]
  show _ = (Int32.ofInt (Int64.ofInt (I (ca + 1) c)).toInt).toInt
  rw [Int64.toInt_ofInt_of_le (by have := hi.1; omega) (by have := hi.2; omega), i32_toInt hi]
theorem Ord.n {S : Int → Int} {r n : Int} {g : Int → Int} (h : Ord S r g n) : (0 ≤ n ∧ n ≤ 144) ∧ ∀ k, 0 ≤ k → k < n → 0 ≤ g k ∧ g k < 144 := by
  have h0 := h.1.1
  have hb : ∀ k, 0 ≤ k → k < n → 0 ≤ g k ∧ g k < 144 := fun k a b => (h.1.2 k a b).1.1.1.b
  have := pig (g := g) (K := 144) n.toNat (fun i a b => hb i a (by omega)) (fun i j a b c e => (h.1.2 j (by omega) (by omega)).1.2.2.1 ⟨i, a, b, e⟩)
  exact ⟨by omega, hb⟩
set_option maxRecDepth 20000 in
theorem ct_X10_toldOrder {T : gT} {I : gI} {J : gJ} {O : gO} {ca : Nat} {S : Int → Int} {r k : Int} (hM : CaAt T O ca) (hA : CaR I J ca S r) (h0 : in32 k) : Ct yX10_toldOrder cX10_toldOrder 3 (some .int) [va_rf (some ca), VI k] 1 21 0 0 T I J O (pv (some (VI (orA S r k))) T I J O) := by
  refine Ct.of (by decide) [some (va_rf (some ca)), some (VI k), none] (gEn1 (List.forall_mem_cons.mpr ⟨cat_VR _, List.forall_mem_cons.mpr ⟨cat_VI _, fun _ h => nomatch h⟩⟩) rfl (Nat.le_of_ble_eq_true rfl) rfl) ?_
  intro X x en rm ini hr hz
  have hr0 := hr
  have hO := hA.2.2.1
  have hn := hO.n
  have he := or_eq hO
  by_cases q : 0 ≤ k ∧ k < I ca 6
  · have cO := ct_X0_orderedAt (J := J) hM h0 hn.1.2
    rw [if_pos q] at cO
    have hb := hn.2 k q.1 q.2
    have fin : orA S r k = I (ca + 5) k / 12 * 100 + I (ca + 5) k % 12 := by
      unfold orA
      rw [← he.1, if_pos q, ← he.2 k q.1 q.2]
      simp only [told9]
      omega
    refine G_rg (fun hr => ?_)
    refine G_aload0 x eX10_toldOrder_0 ?_
    refine G_iload1 x eX10_toldOrder_1 ?_
    refine G_cV x eX10_toldOrder_2 kX10_324 im_yX0_orderedAt se_yX0_orderedAt rm hM.m cO rfl ?_
    refine G_istore2 x eX10_toldOrder_5 ?_
    refine G_iload2 x eX10_toldOrder_6 ?_
    refine G_push x eX10_toldOrder_7 ?_
    refine G_icmp_ne x eX10_toldOrder_8 (by first | omega | exact hr _ _ | exact hr0 _ _ | exact hrS _) (by first | omega | exact hr _ _ | exact hr0 _ _ | exact hrS _) (fun c8 => ?_) (fun c8 => ?_)
    · refine G_iload2 x eX10_toldOrder_15 ?_
      refine G_push x eX10_toldOrder_16 ?_
      refine G_idivn x eX10_toldOrder_18 (by omega) (by omega) (by omega) (by omega) ?_
      refine G_push x eX10_toldOrder_19 ?_
      refine G_imul x eX10_toldOrder_21 ?_
      refine G_iload2 x eX10_toldOrder_22 ?_
      refine G_push x eX10_toldOrder_23 ?_
      refine G_iremn x eX10_toldOrder_25 (by omega) (by omega) (by omega) (by omega) ?_
      refine G_iadd x eX10_toldOrder_26 ?_
      refine G_ireturn x en eX10_toldOrder_27 (by omega) (by omega) ?_
      exact ⟨by rw [fin], rfl, rfl, rfl, rfl⟩
    · exfalso; omega
  · have cO := ct_X0_orderedAt (J := J) hM h0 hn.1.2
    rw [if_neg q] at cO
    have fin : orA S r k = -1 := by
      unfold orA
      rw [← he.1, if_neg q]
    refine G_rg (fun hr => ?_)
    refine G_aload0 x eX10_toldOrder_0 ?_
    refine G_iload1 x eX10_toldOrder_1 ?_
    refine G_cV x eX10_toldOrder_2 kX10_324 im_yX0_orderedAt se_yX0_orderedAt rm hM.m cO rfl ?_
    refine G_istore2 x eX10_toldOrder_5 ?_
    refine G_iload2 x eX10_toldOrder_6 ?_
    refine G_push x eX10_toldOrder_7 ?_
    refine G_icmp_ne x eX10_toldOrder_8 (by first | omega | exact hr _ _ | exact hr0 _ _ | exact hrS _) (by first | omega | exact hr _ _ | exact hr0 _ _ | exact hrS _) (fun c8 => ?_) (fun c8 => ?_)
    · exfalso; omega
    · refine G_push x eX10_toldOrder_11 ?_
      refine G_goto x eX10_toldOrder_12 ?_
      refine G_ireturn x en eX10_toldOrder_27 (by omega) (by omega) ?_
      exact ⟨by rw [fin], rfl, rfl, rfl, rfl⟩
/-- records, text and reader have changed -/
theorem WW.lo {B ss : Nat} {T : gT} {I I' : gI} {J : gJ} {O : gO} {S : Int → Int} {n n' : Int} {Rc Rc' X X' : Int → Int} {L L' : Int} (h : WW B ss T I J O S n Rc X L) (e : ∀ b j, (b < ss + 2 ∨ ss + 7 < b) → I' b j = I b j) (hn : I' (ss + 2) 1 = n') (hR : ∀ j, 0 ≤ j → j < 9 * n' → I' (ss + 3) j = Rc' j) (hL : I' (ss + 4) 1 = L') (hX : ∀ i, 0 ≤ i → i < L' → I' (ss + 5) i = X' i) : WW B ss T I' J O S n' Rc' X' L' ∧ FrC ss T T I I' J J O O := by
  obtain ⟨⟨h1, h2, h3⟩, h4, -⟩ := h
  have hk : hiK B T T I I' O O := ⟨Nat.le_refl _, fun b b1 b2 => ⟨rfl, fun j => e b j (by omega), fun j => rfl⟩⟩
  refine ⟨⟨⟨h1, h2, h3⟩, fun r r0 r1 => ?_, ⟨hn, hR⟩, hL, hX⟩, Nat.le_refl _, fun b b1 b2 => ⟨rfl, fun j => e b j (by omega), fun j => rfl, fun j => rfl⟩⟩
  obtain ⟨q1, q2, q3⟩ := h4 r r0 r1
  have hp := rpA_b (ss := ss) r0 r1
  refine ⟨q1.mv (by omega) hk (fun j _ b b1 b2 _ => e b j (by omega)) (fun j b b1 b2 _ => e b j (by omega)) (fun j b hb => rfl) (fun _ _ _ _ _ _ => rfl) (fun _ _ _ => rfl) rfl r0 r1, fun k k0 k1 => ?_, ?_⟩
  · obtain ⟨a, a1, a2⟩ := q2 k k0 k1
    exact ⟨a, a1, a2.mv hk (fun _ _ _ => rfl)⟩
  · unfold caQ
    rw [e _ _ (by omega)]
    rcases q3 with z | ⟨z1, z2⟩
    · exact Or.inl z
    · exact Or.inr ⟨z1, z2.c (fun b j b1 b2 _ => e b j (by omega)) (fun b j b1 b2 => rfl)⟩
def txW (X : Int → Int) (L : Int) : Prop := (0 ≤ L ∧ L ≤ 24) ∧ ∀ i, 0 ≤ i → i < L → 0 ≤ X i ∧ X i < 128
theorem ch_e9 {X X' : Int → Int} {L : Int} (e : ∀ i, 0 ≤ i → i < L → X' i = X i) : ch X' L = ch X L := by
  funext i
  unfold ch
  by_cases q : 0 ≤ i ∧ i < L
  · rw [if_pos q, if_pos q, e i q.1 q.2]
  · rw [if_neg q, if_neg q]
theorem nmP_e9 {X X' : Int → Int} {L : Int} (e : ch X' L = ch X L) : nmP X' L = nmP X L := by
  funext rF rN cF cN a
  unfold nmP
  rw [e]
theorem nmD_e9 {X X' : Int → Int} {L : Int} (e : ch X' L = ch X L) (k : Nat) : nmD X' L k = nmD X L k := by
  induction k with
  | zero => rfl
  | succ k ih =>
    funext a v
    simp only [nmD]
    rw [e, ih]
theorem facP_e9 {X X' : Int → Int} {L : Int} (e : ch X' L = ch X L) : facP X' L = facP X L := by
  have e1 : sumP X' L = sumP X L := by
    funext rF rN cF cN a
    unfold sumP
    rw [e, nmP_e9 e]
  have e2 : celP X' L = celP X L := by
    funext rF rN cF cN a
    unfold celP
    rw [nmP_e9 e]
  funext rF rN cF cN a
  unfold facP
  rw [e, nmD_e9 e, e1, e2]
theorem prs9_e9 {X X' : Int → Int} {L : Int} (e : ch X' L = ch X L) (fac : Int → Int × Int × Int × Int) (k : Nat) : prs9 fac X' L k = prs9 fac X L k := by
  induction k with
  | zero => rfl
  | succ k ih =>
    funext a v
    simp only [prs9]
    rw [e, ih]
theorem flS_e9 {X X' : Int → Int} {L : Int} {S : Int → Int} {r : Int} (e : ∀ i, 0 ≤ i → i < L → X' i = X i) : flS X' L S r = flS X L S r := by
  unfold flS
  rw [facP_e9 (ch_e9 e), prs9_e9 (ch_e9 e)]
theorem ch_b9 {X : Int → Int} {L : Int} (h : txW X L) (i : Int) : -1 ≤ ch X L i ∧ ch X L i < 65536 := by
  unfold ch
  split
  · next q => have := h.2 i q.1 q.2; omega
  · omega
theorem wt_l9 {S : Int → Int} {r : Int} : ∀ l : List (Int × Int × Int × Int), ((wtT S r l).length : Int) ≤ flW l
  | [] => by show (0 : Int) ≤ 0; omega
  | [y] => faT_l
  | y :: z :: l => by
    have h := wt_l9 (S := S) (r := r) (z :: l)
    have h2 := @faT_l S r y.2.1 y.2.2.1 y.2.2.2
    show (((faT S r y.2.1 y.2.2.1 y.2.2.2 ++ z.1 :: wtT S r (z :: l)).length : Nat) : Int) ≤ faW y.2.1 y.2.2.1 + 1 + flW (z :: l)
    rw [List.length_append, List.length_cons]
    omega
def tyThr (L c : Int) : Int := if 32 ≤ c ∧ c ≤ 126 then (if L < 24 then 0 else 2) else 1
theorem txA_hi {X : Int → Int} {m i : Int} {l : List Int} (h : i < m) : txA X m l i = X i := by
  induction l generalizing X m with
  | nil => rfl
  | cons v l ih =>
    show txA (sU X m v) (m + 1) l i = _
    rw [ih (by omega), sU_o (by omega)]
theorem txA_e {X X' : Int → Int} {m i : Int} {l : List Int} (h0 : m ≤ i) (h1 : i < m + l.length) : txA X' m l i = txA X m l i := by
  induction l generalizing X X' m with
  | nil =>
    have : (([] : List Int).length : Int) = 0 := rfl
    omega
  | cons v l ih =>
    show txA (sU X' m v) (m + 1) l i = txA (sU X m v) (m + 1) l i
    rw [List.length_cons] at h1
    by_cases e : i = m
    · rw [txA_hi (by omega), txA_hi (by omega), e, sU_s, sU_s]
    · exact ih (by omega) (by omega)
set_option maxRecDepth 20000 in
theorem ct_q_cell {T : gT} {I : gI} {J : gJ} {O : gO} {B ss : Nat} {S : Int → Int} {n : Int} {Rc Xt : Int → Int} {L : Int} (hW : WW B ss T I J O S n Rc Xt L) (hI : Inv S) {r row col w : Int} (h0 : in32 r) (h1 : in32 row) (h2 : in32 col) (h3 : in32 w) : Cx yX10_cell cX10_cell 7 (some .int) [va_rf (some ss), VI r, VI row, VI col, VI w] 8 150 4 24 T I J O (cRet B ss T I J O (tlThr S r row col w) (VI (tlS S r (12 * row + col) w)) S n Rc Xt L) (cThr B ss T I J O (tlThr S r row col w) nIA S n Rc Xt L) := by
  refine Cx.of' (by decide) [some (va_rf (some ss)), some (VI r), some (VI row), some (VI col), some (VI w), none, none] (gEn1 (List.forall_mem_cons.mpr ⟨cat_VR _, List.forall_mem_cons.mpr ⟨cat_VI _, List.forall_mem_cons.mpr ⟨cat_VI _, List.forall_mem_cons.mpr ⟨cat_VI _, List.forall_mem_cons.mpr ⟨cat_VI _, fun _ h => nomatch h⟩⟩⟩⟩⟩) rfl (Nat.le_of_ble_eq_true rfl) rfl) ?_
  intro X x en rm th hr
  have hr0 := hr
  have hS := hW.1.1
  have hZ := hS.z
  have hss := hZ.m
  refine G_aload0 x eX10_cell_0 ?_
  refine G_iload1 x eX10_cell_1 ?_
  refine G_cVX x th eX10_cell_2 kX10_39 ⟨im_yX10_replicaAt, se_yX10_replicaAt⟩ hZ.m rm (ct_X10_replicaAt hS h0) (fun _ _ _ _ _ h9 => cThr.tx h9.2 1 (by have q9 := h9.1; unfold tlThr; (repeat' split) <;> first | rfl | omega) (by omega) rfl FrC.rf hW) rfl (fun v2 T2 I2 J2 O2 p2 => ?_)
  refine G_rg (fun hr => ?_)
  obtain ⟨q1, rfl, e1, e2, e3, e4⟩ := p2
  obtain rfl := e1.symm
  obtain rfl := e2.symm
  obtain rfl := e3.symm
  obtain rfl := e4.symm
  have hp := (hS.rp q1.1 q1.2).1
  obtain ⟨hR, hG, hC⟩ := hW.2.1 r q1.1 q1.2
  have hbhp := rpA_b (ss := ss) q1.1 q1.2
  have hBs := hW.1.2.1
  refine G_astore5 x eX10_cell_5 ?_
  refine G_aload5 x eX10_cell_7 ?_
  refine G_iload2 x eX10_cell_9 ?_
  refine G_iload3 x eX10_cell_10 ?_
  refine G_cSX x th eX10_cell_11 kX10_92 sm_yX10_requireCell rm (ct_X10_requireCell hp hR.2.2.1.R.1 hR.2.2.2.1.R.1 h1 h2) (fun _ _ _ _ _ h9 => cThr.tx h9.2 1 (by have q9 := h9.1; unfold tlThr; (repeat' split) <;> first | rfl | omega) (by omega) rfl FrC.rf hW) rfl (fun v11 T11 I11 J11 O11 p11 => ?_)
  refine G_rg (fun hr => ?_)
  obtain ⟨q2, rfl, e1, e2, e3, e4⟩ := p11
  obtain rfl := e1.symm
  obtain rfl := e2.symm
  obtain rfl := e3.symm
  obtain rfl := e4.symm
  have nb0 := (rwE S r 0 (-1)).2.1
  have nb1 := (rwE S r 1 (-1)).2.1
  refine G_iload4 x eX10_cell_14 ?_
  refine G_push x eX10_cell_16 ?_
  refine G_push x eX10_cell_17 ?_
  refine G_cSX x th eX10_cell_19 kX10_85 sm_yX10_requireArgument rm (ct_X10_requireArgument (a := w) (l := 0) (m := 6) h3 (by omega) (by omega)) (fun _ _ _ _ _ h9 => cThr.tx h9.2 2 (by have q9 := h9.1; unfold tlThr; (repeat' split) <;> first | rfl | omega) (by omega) rfl FrC.rf hW) rfl (fun v19 T19 I19 J19 O19 p19 => ?_)
  refine G_rg (fun hr => ?_)
  obtain ⟨q3, rfl, e1, e2, e3, e4⟩ := p19
  obtain rfl := e1.symm
  obtain rfl := e2.symm
  obtain rfl := e3.symm
  obtain rfl := e4.symm
  have ec : row * 12 + col = 12 * row + col := by omega
  have hic := inC.of q2
  have hcb := hic.b
  have hth : tlThr S r row col w = 0 := by unfold tlThr; rw [if_pos ⟨q1, q2⟩, if_pos q3]
  refine G_iload2 x eX10_cell_22 ?_
  refine G_push x eX10_cell_23 ?_
  refine G_imul x eX10_cell_25 ?_
  refine G_iload3 x eX10_cell_26 ?_
  refine G_iadd x eX10_cell_27 ?_
  refine G_istore6 x eX10_cell_28 ?_
  rw [ec]
  by_cases hw3 : w ≤ 3
  · refine G_rg (fun hr => ?_)
    refine G_iload4 x eX10_cell_30 ?_
    refine G_push x eX10_cell_32 ?_
    refine G_icmp_gt x eX10_cell_33 (by first | omega | exact hr _ _ | exact hr0 _ _ | exact hrS _) (by first | omega | exact hr _ _ | exact hr0 _ _ | exact hrS _) (fun c33 => ?_) (fun c33 => ?_)
    · exfalso; omega
    · refine G_aload5 x eX10_cell_36 ?_
      refine G_iload6 x eX10_cell_38 ?_
      refine G_iload4 x eX10_cell_40 ?_
      refine G_cS x eX10_cell_42 kX10_118 sm_yX10_aboutContent rm (ct_X10_aboutContent hp hR (hI.cw q1.1 q1.2) hic q3.1 hw3) rfl ?_
      refine G_goto x eX10_cell_45 ?_
      refine G_ireturn x en eX10_cell_65 (by omega) (by omega) ?_
      exact ⟨hth, rfl, FrC.rf, hW⟩
  · refine G_iload4 x eX10_cell_30 ?_
    refine G_push x eX10_cell_32 ?_
    refine G_icmp_gt x eX10_cell_33 (by first | omega | exact hr _ _) (by omega) (fun c33 => ?_) (fun c33 => absurd c33 (by omega))
    refine G_aload5 x eX10_cell_48 ?_
    refine G_getq x eX10_cell_50 fX10_122 rfl rfl hp.m hp.o_calculation ?_
    refine G_aload5 x eX10_cell_53 ?_
    refine G_cVg x eX10_cell_55 kX10_126 im_yX0_upToDate se_yX0_upToDate rm hp.s_calculation.m (ct_X0_upToDate hp rfl (by omega) hR (hI.cw q1.1 q1.2) (hI.fm q1.1 q1.2) q1.1 q1.2 (fun c hc => hI.nf q1.1 q1.2 hc) hC) rfl (fun v55 T55 I55 J55 O55 p55 => ?_)
    refine G_rg (fun hr => ?_)
    obtain ⟨hW', hF⟩ := hW.ut hI q1.1 q1.2 p55
    obtain ⟨rfl, e1, -, -, -, hA, -⟩ := p55
    obtain rfl := e1.symm
    have hCa := (hW'.1.1.rp q1.1 q1.2).1.s_calculation
    refine G_rg (fun hr => ?_)
    refine G_iload6 x eX10_cell_58 ?_
    refine G_iload4 x eX10_cell_60 ?_
    refine G_cS x eX10_cell_62 kX10_132 sm_yX10_aboutReferences rm (ct_X10_aboutReferences hCa hA (hI.fm q1.1 q1.2) hcb.1 hcb.2 (by omega) (by omega)) rfl ?_
    refine G_ireturn x en eX10_cell_65 (by omega) (by omega) ?_
    exact ⟨hth, rfl, hF, hW'⟩
set_option maxRecDepth 20000 in
theorem ct_q_value {T : gT} {I : gI} {J : gJ} {O : gO} {B ss : Nat} {S : Int → Int} {n : Int} {Rc Xt : Int → Int} {L : Int} (hW : WW B ss T I J O S n Rc Xt L) (hI : Inv S) {r row col : Int} (h0 : in32 r) (h1 : in32 row) (h2 : in32 col) : Cx yX10_value cX10_value 5 (some .int) [va_rf (some ss), VI r, VI row, VI col] 8 150 3 18 T I J O (cRet B ss T I J O (if cellIn S r row col then 0 else 1) (VI (Int32.ofInt ((vlP S r).1 (12 * row + col)).toInt).toInt) S n Rc Xt L) (cThr B ss T I J O (if cellIn S r row col then 0 else 1) nIS S n Rc Xt L) := by
  refine Cx.of' (by decide) [some (va_rf (some ss)), some (VI r), some (VI row), some (VI col), none] (gEn1 (List.forall_mem_cons.mpr ⟨cat_VR _, List.forall_mem_cons.mpr ⟨cat_VI _, List.forall_mem_cons.mpr ⟨cat_VI _, List.forall_mem_cons.mpr ⟨cat_VI _, fun _ h => nomatch h⟩⟩⟩⟩) rfl (Nat.le_of_ble_eq_true rfl) rfl) ?_
  intro X x en rm th hr
  have hr0 := hr
  have hS := hW.1.1
  have hZ := hS.z
  have hss := hZ.m
  refine G_aload0 x eX10_value_0 ?_
  refine G_iload1 x eX10_value_1 ?_
  refine G_cVX x th eX10_value_2 kX10_39 ⟨im_yX10_replicaAt, se_yX10_replicaAt⟩ hZ.m rm (ct_X10_replicaAt hS h0) (fun _ _ _ _ _ h9 => cThr.tx h9.2 1 (if_neg (fun z => h9.1 z.1)) (by omega) rfl FrC.rf hW) rfl (fun v2 T2 I2 J2 O2 p2 => ?_)
  refine G_rg (fun hr => ?_)
  obtain ⟨q1, rfl, e1, e2, e3, e4⟩ := p2
  obtain rfl := e1.symm
  obtain rfl := e2.symm
  obtain rfl := e3.symm
  obtain rfl := e4.symm
  have hp := (hS.rp q1.1 q1.2).1
  obtain ⟨hR, hG, hC⟩ := hW.2.1 r q1.1 q1.2
  have hbhp := rpA_b (ss := ss) q1.1 q1.2
  have hBs := hW.1.2.1
  refine G_astore4 x eX10_value_5 ?_
  refine G_aload4 x eX10_value_7 ?_
  refine G_iload2 x eX10_value_9 ?_
  refine G_iload3 x eX10_value_10 ?_
  refine G_cSX x th eX10_value_11 kX10_92 sm_yX10_requireCell rm (ct_X10_requireCell hp hR.2.2.1.R.1 hR.2.2.2.1.R.1 h1 h2) (fun _ _ _ _ _ h9 => cThr.tx h9.2 1 (if_neg (fun z => h9.1 z.2)) (by omega) rfl FrC.rf hW) rfl (fun v11 T11 I11 J11 O11 p11 => ?_)
  refine G_rg (fun hr => ?_)
  obtain ⟨q2, rfl, e1, e2, e3, e4⟩ := p11
  obtain rfl := e1.symm
  obtain rfl := e2.symm
  obtain rfl := e3.symm
  obtain rfl := e4.symm
  have nb0 := (rwE S r 0 (-1)).2.1
  have nb1 := (rwE S r 1 (-1)).2.1
  have ec : row * 12 + col = 12 * row + col := by omega
  have hic := inC.of q2
  have hcb := hic.b
  refine G_aload4 x eX10_value_14 ?_
  refine G_getq x eX10_value_16 fX10_122 rfl rfl hp.m hp.o_calculation ?_
  refine G_aload4 x eX10_value_19 ?_
  refine G_cVg x eX10_value_21 kX10_126 im_yX0_upToDate se_yX0_upToDate rm hp.s_calculation.m (ct_X0_upToDate hp rfl (by omega) hR (hI.cw q1.1 q1.2) (hI.fm q1.1 q1.2) q1.1 q1.2 (fun c hc => hI.nf q1.1 q1.2 hc) hC) rfl (fun v21 T21 I21 J21 O21 p21 => ?_)
  refine G_rg (fun hr => ?_)
  obtain ⟨hW', hF⟩ := hW.ut hI q1.1 q1.2 p21
  obtain ⟨rfl, e1, -, -, -, hA, -⟩ := p21
  obtain rfl := e1.symm
  have hCa := (hW'.1.1.rp q1.1 q1.2).1.s_calculation
  refine G_iload2 x eX10_value_24 ?_
  refine G_push x eX10_value_25 ?_
  refine G_imul x eX10_value_27 ?_
  refine G_iload3 x eX10_value_28 ?_
  refine G_iadd x eX10_value_29 ?_
  rw [ec]
  refine G_cV x eX10_value_30 kX10_136 im_yX0_valueAt se_yX0_valueAt rm hCa.m (ct_X0_valueAt hCa hcb.1 hcb.2) rfl ?_
  rw [(hA.v (hI.fm q1.1 q1.2) hic (hr _ _)).1]
  refine G_rg (fun hr => ?_)
  refine G_ireturn x en eX10_value_33 (by omega) (by omega) ?_
  exact ⟨if_pos ⟨q1, q2⟩, rfl, hF, hW'⟩
set_option maxRecDepth 20000 in
theorem ct_q_error {T : gT} {I : gI} {J : gJ} {O : gO} {B ss : Nat} {S : Int → Int} {n : Int} {Rc Xt : Int → Int} {L : Int} (hW : WW B ss T I J O S n Rc Xt L) (hI : Inv S) {r row col : Int} (h0 : in32 r) (h1 : in32 row) (h2 : in32 col) : Cx yX10_error cX10_error 5 (some .int) [va_rf (some ss), VI r, VI row, VI col] 8 150 3 18 T I J O (cRet B ss T I J O (if cellIn S r row col then 0 else 1) (VI ((vlP S r).2 (12 * row + col))) S n Rc Xt L) (cThr B ss T I J O (if cellIn S r row col then 0 else 1) nIS S n Rc Xt L) := by
  refine Cx.of' (by decide) [some (va_rf (some ss)), some (VI r), some (VI row), some (VI col), none] (gEn1 (List.forall_mem_cons.mpr ⟨cat_VR _, List.forall_mem_cons.mpr ⟨cat_VI _, List.forall_mem_cons.mpr ⟨cat_VI _, List.forall_mem_cons.mpr ⟨cat_VI _, fun _ h => nomatch h⟩⟩⟩⟩) rfl (Nat.le_of_ble_eq_true rfl) rfl) ?_
  intro X x en rm th hr
  have hr0 := hr
  have hS := hW.1.1
  have hZ := hS.z
  have hss := hZ.m
  refine G_aload0 x eX10_error_0 ?_
  refine G_iload1 x eX10_error_1 ?_
  refine G_cVX x th eX10_error_2 kX10_39 ⟨im_yX10_replicaAt, se_yX10_replicaAt⟩ hZ.m rm (ct_X10_replicaAt hS h0) (fun _ _ _ _ _ h9 => cThr.tx h9.2 1 (if_neg (fun z => h9.1 z.1)) (by omega) rfl FrC.rf hW) rfl (fun v2 T2 I2 J2 O2 p2 => ?_)
  refine G_rg (fun hr => ?_)
  obtain ⟨q1, rfl, e1, e2, e3, e4⟩ := p2
  obtain rfl := e1.symm
  obtain rfl := e2.symm
  obtain rfl := e3.symm
  obtain rfl := e4.symm
  have hp := (hS.rp q1.1 q1.2).1
  obtain ⟨hR, hG, hC⟩ := hW.2.1 r q1.1 q1.2
  have hbhp := rpA_b (ss := ss) q1.1 q1.2
  have hBs := hW.1.2.1
  refine G_astore4 x eX10_error_5 ?_
  refine G_aload4 x eX10_error_7 ?_
  refine G_iload2 x eX10_error_9 ?_
  refine G_iload3 x eX10_error_10 ?_
  refine G_cSX x th eX10_error_11 kX10_92 sm_yX10_requireCell rm (ct_X10_requireCell hp hR.2.2.1.R.1 hR.2.2.2.1.R.1 h1 h2) (fun _ _ _ _ _ h9 => cThr.tx h9.2 1 (if_neg (fun z => h9.1 z.2)) (by omega) rfl FrC.rf hW) rfl (fun v11 T11 I11 J11 O11 p11 => ?_)
  refine G_rg (fun hr => ?_)
  obtain ⟨q2, rfl, e1, e2, e3, e4⟩ := p11
  obtain rfl := e1.symm
  obtain rfl := e2.symm
  obtain rfl := e3.symm
  obtain rfl := e4.symm
  have nb0 := (rwE S r 0 (-1)).2.1
  have nb1 := (rwE S r 1 (-1)).2.1
  have ec : row * 12 + col = 12 * row + col := by omega
  have hic := inC.of q2
  have hcb := hic.b
  refine G_aload4 x eX10_error_14 ?_
  refine G_getq x eX10_error_16 fX10_122 rfl rfl hp.m hp.o_calculation ?_
  refine G_aload4 x eX10_error_19 ?_
  refine G_cVg x eX10_error_21 kX10_126 im_yX0_upToDate se_yX0_upToDate rm hp.s_calculation.m (ct_X0_upToDate hp rfl (by omega) hR (hI.cw q1.1 q1.2) (hI.fm q1.1 q1.2) q1.1 q1.2 (fun c hc => hI.nf q1.1 q1.2 hc) hC) rfl (fun v21 T21 I21 J21 O21 p21 => ?_)
  refine G_rg (fun hr => ?_)
  obtain ⟨hW', hF⟩ := hW.ut hI q1.1 q1.2 p21
  obtain ⟨rfl, e1, -, -, -, hA, -⟩ := p21
  obtain rfl := e1.symm
  have hCa := (hW'.1.1.rp q1.1 q1.2).1.s_calculation
  refine G_iload2 x eX10_error_24 ?_
  refine G_push x eX10_error_25 ?_
  refine G_imul x eX10_error_27 ?_
  refine G_iload3 x eX10_error_28 ?_
  refine G_iadd x eX10_error_29 ?_
  rw [ec]
  refine G_cV x eX10_error_30 kX10_139 im_yX0_errorAt se_yX0_errorAt rm hCa.m (ct_X0_errorAt hCa hcb.1 hcb.2) rfl ?_
  rw [(hA.v (hI.fm q1.1 q1.2) hic (hr _ _)).2]
  refine G_rg (fun hr => ?_)
  refine G_ireturn x en eX10_error_33 (by omega) (by omega) ?_
  exact ⟨if_pos ⟨q1, q2⟩, rfl, hF, hW'⟩
set_option maxRecDepth 20000 in
theorem ct_q_cycles {T : gT} {I : gI} {J : gJ} {O : gO} {B ss : Nat} {S : Int → Int} {n : Int} {Rc Xt : Int → Int} {L : Int} (hW : WW B ss T I J O S n Rc Xt L) (hI : Inv S) {r : Int} (h0 : in32 r) : Cx yX10_cycles cX10_cycles 3 (some .int) [va_rf (some ss), VI r] 7 150 1 6 T I J O (cRet B ss T I J O (iThr r) (VI (ncS S r)) S n Rc Xt L) (cThr B ss T I J O (iThr r) nIS S n Rc Xt L) := by
  refine Cx.of' (by decide) [some (va_rf (some ss)), some (VI r), none] (gEn1 (List.forall_mem_cons.mpr ⟨cat_VR _, List.forall_mem_cons.mpr ⟨cat_VI _, fun _ h => nomatch h⟩⟩) rfl (Nat.le_of_ble_eq_true rfl) rfl) ?_
  intro X x en rm th hr
  have hr0 := hr
  have hS := hW.1.1
  have hZ := hS.z
  have hss := hZ.m
  refine G_aload0 x eX10_cycles_0 ?_
  refine G_iload1 x eX10_cycles_1 ?_
  refine G_cVX x th eX10_cycles_2 kX10_39 ⟨im_yX10_replicaAt, se_yX10_replicaAt⟩ hZ.m rm (ct_X10_replicaAt hS h0) (fun _ _ _ _ _ h9 => cThr.tx h9.2 1 (by have q9 := h9.1; unfold iThr; (repeat' split) <;> first | rfl | omega) (by omega) rfl FrC.rf hW) rfl (fun v2 T2 I2 J2 O2 p2 => ?_)
  refine G_rg (fun hr => ?_)
  obtain ⟨q1, rfl, e1, e2, e3, e4⟩ := p2
  obtain rfl := e1.symm
  obtain rfl := e2.symm
  obtain rfl := e3.symm
  obtain rfl := e4.symm
  have hp := (hS.rp q1.1 q1.2).1
  obtain ⟨hR, hG, hC⟩ := hW.2.1 r q1.1 q1.2
  have hbhp := rpA_b (ss := ss) q1.1 q1.2
  have hBs := hW.1.2.1
  refine G_astore2 x eX10_cycles_5 ?_
  refine G_aload2 x eX10_cycles_6 ?_
  refine G_getq x eX10_cycles_7 fX10_122 rfl rfl hp.m hp.o_calculation ?_
  refine G_aload2 x eX10_cycles_10 ?_
  refine G_cVg x eX10_cycles_11 kX10_126 im_yX0_upToDate se_yX0_upToDate rm hp.s_calculation.m (ct_X0_upToDate hp rfl (by omega) hR (hI.cw q1.1 q1.2) (hI.fm q1.1 q1.2) q1.1 q1.2 (fun c hc => hI.nf q1.1 q1.2 hc) hC) rfl (fun v11 T11 I11 J11 O11 p11 => ?_)
  refine G_rg (fun hr => ?_)
  obtain ⟨hW', hF⟩ := hW.ut hI q1.1 q1.2 p11
  obtain ⟨rfl, e1, -, -, -, hA, -⟩ := p11
  obtain rfl := e1.symm
  have hCa := (hW'.1.1.rp q1.1 q1.2).1.s_calculation
  refine G_cV x eX10_cycles_14 kX10_163 im_yX0_cycleCount se_yX0_cycleCount rm hCa.m (ct_X0_cycleCount hCa) rfl ?_
  rw [hA.2.2.2.1]
  refine G_rg (fun hr => ?_)
  refine G_ireturn x en eX10_cycles_17 (by omega) (by omega) ?_
  exact ⟨by unfold iThr; rw [if_pos q1], rfl, hF, hW'⟩
set_option maxRecDepth 20000 in
theorem ct_q_order {T : gT} {I : gI} {J : gJ} {O : gO} {B ss : Nat} {S : Int → Int} {n : Int} {Rc Xt : Int → Int} {L : Int} (hW : WW B ss T I J O S n Rc Xt L) (hI : Inv S) {r k : Int} (h0 : in32 r) (h1 : in32 k) : Cx yX10_order cX10_order 4 (some .int) [va_rf (some ss), VI r, VI k] 7 150 1 6 T I J O (cRet B ss T I J O (iThr r) (VI (orA S r k)) S n Rc Xt L) (cThr B ss T I J O (iThr r) nIS S n Rc Xt L) := by
  refine Cx.of' (by decide) [some (va_rf (some ss)), some (VI r), some (VI k), none] (gEn1 (List.forall_mem_cons.mpr ⟨cat_VR _, List.forall_mem_cons.mpr ⟨cat_VI _, List.forall_mem_cons.mpr ⟨cat_VI _, fun _ h => nomatch h⟩⟩⟩) rfl (Nat.le_of_ble_eq_true rfl) rfl) ?_
  intro X x en rm th hr
  have hr0 := hr
  have hS := hW.1.1
  have hZ := hS.z
  have hss := hZ.m
  refine G_aload0 x eX10_order_0 ?_
  refine G_iload1 x eX10_order_1 ?_
  refine G_cVX x th eX10_order_2 kX10_39 ⟨im_yX10_replicaAt, se_yX10_replicaAt⟩ hZ.m rm (ct_X10_replicaAt hS h0) (fun _ _ _ _ _ h9 => cThr.tx h9.2 1 (by have q9 := h9.1; unfold iThr; (repeat' split) <;> first | rfl | omega) (by omega) rfl FrC.rf hW) rfl (fun v2 T2 I2 J2 O2 p2 => ?_)
  refine G_rg (fun hr => ?_)
  obtain ⟨q1, rfl, e1, e2, e3, e4⟩ := p2
  obtain rfl := e1.symm
  obtain rfl := e2.symm
  obtain rfl := e3.symm
  obtain rfl := e4.symm
  have hp := (hS.rp q1.1 q1.2).1
  obtain ⟨hR, hG, hC⟩ := hW.2.1 r q1.1 q1.2
  have hbhp := rpA_b (ss := ss) q1.1 q1.2
  have hBs := hW.1.2.1
  refine G_astore3 x eX10_order_5 ?_
  refine G_aload3 x eX10_order_6 ?_
  refine G_getq x eX10_order_7 fX10_122 rfl rfl hp.m hp.o_calculation ?_
  refine G_aload3 x eX10_order_10 ?_
  refine G_cVg x eX10_order_11 kX10_126 im_yX0_upToDate se_yX0_upToDate rm hp.s_calculation.m (ct_X0_upToDate hp rfl (by omega) hR (hI.cw q1.1 q1.2) (hI.fm q1.1 q1.2) q1.1 q1.2 (fun c hc => hI.nf q1.1 q1.2 hc) hC) rfl (fun v11 T11 I11 J11 O11 p11 => ?_)
  refine G_rg (fun hr => ?_)
  obtain ⟨hW', hF⟩ := hW.ut hI q1.1 q1.2 p11
  obtain ⟨rfl, e1, -, -, -, hA, -⟩ := p11
  obtain rfl := e1.symm
  have hCa := (hW'.1.1.rp q1.1 q1.2).1.s_calculation
  refine G_rg (fun hr => ?_)
  refine G_iload2 x eX10_order_14 ?_
  refine G_cS x eX10_order_15 kX10_166 sm_yX10_toldOrder rm (ct_X10_toldOrder hCa hA h1) rfl ?_
  refine G_ireturn x en eX10_order_18 (by omega) (by omega) ?_
  exact ⟨by unfold iThr; rw [if_pos q1], rfl, hF, hW'⟩
set_option maxRecDepth 20000 in
theorem ct_q_write {T : gT} {I : gI} {J : gJ} {O : gO} {B ss : Nat} {S : Int → Int} {n : Int} {Rc Xt : Int → Int} {L : Int} (hW : WW B ss T I J O S n Rc Xt L) (hI : Inv S) {r row col : Int} (h0 : in32 r) (h1 : in32 row) (h2 : in32 col) (hX : txW Xt L) : Cx yX10_write cX10_write 6 (some .int) [va_rf (some ss), VI r, VI row, VI col] 8 133 4 24 T I J O (fun v T' I' J' O' => ∃ fl, fmlAt S (idS S r (12 * row + col)) fl ∧ cRet B ss T I J O (wtThr S r row col) (VI ((wtT S r fl).length : Nat)) S n Rc (txA Xt 0 (wtT S r fl)) ((wtT S r fl).length : Nat) v T' I' J' O') (cThr B ss T I J O (wtThr S r row col) nIS S n Rc Xt L) := by
  refine Cx.of' (by decide) [some (va_rf (some ss)), some (VI r), some (VI row), some (VI col), none, none] (gEn1 (List.forall_mem_cons.mpr ⟨cat_VR _, List.forall_mem_cons.mpr ⟨cat_VI _, List.forall_mem_cons.mpr ⟨cat_VI _, List.forall_mem_cons.mpr ⟨cat_VI _, fun _ h => nomatch h⟩⟩⟩⟩) rfl (Nat.le_of_ble_eq_true rfl) rfl) ?_
  intro X x en rm th hr
  have hr0 := hr
  have hS := hW.1.1
  have hZ := hS.z
  have hss := hZ.m
  refine G_aload0 x eX10_write_0 ?_
  refine G_iload1 x eX10_write_1 ?_
  refine G_cVX x th eX10_write_2 kX10_39 ⟨im_yX10_replicaAt, se_yX10_replicaAt⟩ hZ.m rm (ct_X10_replicaAt hS h0) (fun _ _ _ _ _ h9 => cThr.tx h9.2 1 (by have q9 := h9.1; unfold wtThr; (repeat' split) <;> first | rfl | omega) (by omega) rfl FrC.rf hW) rfl (fun v2 T2 I2 J2 O2 p2 => ?_)
  refine G_rg (fun hr => ?_)
  obtain ⟨q1, rfl, e1, e2, e3, e4⟩ := p2
  obtain rfl := e1.symm
  obtain rfl := e2.symm
  obtain rfl := e3.symm
  obtain rfl := e4.symm
  have hp := (hS.rp q1.1 q1.2).1
  obtain ⟨hR, hG, hC⟩ := hW.2.1 r q1.1 q1.2
  have hbhp := rpA_b (ss := ss) q1.1 q1.2
  have hBs := hW.1.2.1
  refine G_astore4 x eX10_write_5 ?_
  refine G_aload4 x eX10_write_7 ?_
  refine G_iload2 x eX10_write_9 ?_
  refine G_iload3 x eX10_write_10 ?_
  refine G_cSX x th eX10_write_11 kX10_92 sm_yX10_requireCell rm (ct_X10_requireCell hp hR.2.2.1.R.1 hR.2.2.2.1.R.1 h1 h2) (fun _ _ _ _ _ h9 => cThr.tx h9.2 1 (by have q9 := h9.1; unfold wtThr; (repeat' split) <;> first | rfl | omega) (by omega) rfl FrC.rf hW) rfl (fun v11 T11 I11 J11 O11 p11 => ?_)
  refine G_rg (fun hr => ?_)
  obtain ⟨q2, rfl, e1, e2, e3, e4⟩ := p11
  obtain rfl := e1.symm
  obtain rfl := e2.symm
  obtain rfl := e3.symm
  obtain rfl := e4.symm
  have nb0 := (rwE S r 0 (-1)).2.1
  have nb1 := (rwE S r 1 (-1)).2.1
  have ec : row * 12 + col = 12 * row + col := by omega
  have hic := inC.of q2
  refine G_aload4 x eX10_write_14 ?_
  refine G_iload2 x eX10_write_16 ?_
  refine G_push x eX10_write_17 ?_
  refine G_imul x eX10_write_19 ?_
  refine G_iload3 x eX10_write_20 ?_
  refine G_iadd x eX10_write_21 ?_
  rw [ec]
  refine G_cVg x eX10_write_22 kX10_142 im_yX8_contentAt se_yX8_contentAt rm hp.m (ct_X8_contentAt hp hR (hI.cw q1.1 q1.2) hic) rfl (fun v22 T22 I22 J22 O22 p22 => ?_)
  refine G_rg (fun hr => ?_)
  obtain ⟨e1, e2, e3, e4, co, rfl, hco⟩ := p22
  obtain rfl := e1.symm
  obtain rfl := e2.symm
  obtain rfl := e3.symm
  obtain rfl := e4.symm
  have hco1 := hco.1
  have hcase : (∃ fa fl, O co 2 = some fa ∧ fmH B T I O fa fl ∧ fmlAt S (idS S r (12 * row + col)) fl ∧ wtThr S r row col = 0) ∨ (O co 2 = none ∧ wtThr S r row col = 2) := by
    unfold wtThr
    rw [if_pos ⟨q1, q2⟩]
    rcases hco.2 with ⟨z1, -, -, z2⟩ | ⟨z1, z2⟩
    · exact Or.inr ⟨z2, if_pos (Or.inl z1)⟩
    · rcases z2.2.2.2.2 with ⟨y1, fa, fl, y2, y3, y4⟩ | ⟨y1, y2⟩
      · exact Or.inl ⟨fa, fl, y2, y3, y4, if_neg (by omega)⟩
      · exact Or.inr ⟨y2, if_pos (Or.inr y1)⟩
  refine G_getr x eX10_write_25 fX10_146 rfl rfl hco1 ?_
  rcases hcase with ⟨fa, fl, o2, hfa, hfl, hth⟩ | ⟨o2, hth⟩
  · rw [o2]
    have hF1 := hfa.1.1
    have hle := wt_l9 (S := S) (r := r) fl
    have hl24 := hfl.2.2.2.2
    have hTx := hZ.s_text
    have hTx1 : TxAt T O (ss + 4) := hTx
    have hk9 : hiK B T T I (uI I (ss + 4) 1 0) O O := ⟨Nat.le_refl _, fun b b1 b2 => ⟨rfl, fun j => uI_a (by omega) j, fun j => rfl⟩⟩
    have hL9 : LkR (uI I (ss + 4) 1 0) (rpA ss r) S r := by
      have h9 := hR.L
      refine ⟨⟨?_, fun i i0 i1 => ?_⟩, ?_, fun i i0 i1 => ?_⟩
      · rw [uI_a (by omega)]; exact h9.1.1
      · rw [uI_a (by omega)]; exact h9.1.2 i i0 i1
      · rw [uI_a (by omega)]; exact h9.2.1
      · rw [uI_a (by omega)]; exact h9.2.2 i i0 i1
    have eN : apC (uI I (ss + 4) 1 0) (ss + 4) (wtT S r fl) (ss + 4) 1 = ((wtT S r fl).length : Nat) := by rw [apC_n, uI_s]; omega
    have hw := hW.lo (I' := apC (uI I (ss + 4) 1 0) (ss + 4) (wtT S r fl)) (n' := n) (Rc' := Rc) (X' := txA (I (ss + 5)) 0 (wtT S r fl)) (fun b j hb => by rw [apC_o (by omega) (by omega), uI_a (by omega)]) (by rw [apC_o (by omega) (by omega), uI_a (by omega)]; exact hW.2.2.1.1) (fun j j0 j1 => by rw [apC_o (by omega) (by omega), uI_a (by omega)]; exact hW.2.2.1.2 j j0 j1) eN (fun i i0 i1 => by rw [show ss + 5 = ss + 4 + 1 from rfl, apC_c, uI_s, show uI I (ss + 4) 1 0 (ss + 4 + 1) = I (ss + 4 + 1) from funext fun j => uI_a (by omega) j])
    have hw2 := hw.1.r (Rc' := Rc) (X' := txA Xt 0 (wtT S r fl)) (fun _ _ _ => rfl) (fun i i0 i1 => txA_e i0 (by omega))
    refine G_rg (fun hr => ?_)
    refine G_astore5 x eX10_write_28 ?_
    refine G_aload5 x eX10_write_30 ?_
    refine G_ifnonnull x eX10_write_32 (fun b32 c32 => ?_) (fun c32 => ?_)
    · refine G_aload0 x eX10_write_45 ?_
      refine G_getq x eX10_write_46 fX10_25 rfl rfl hZ.m hZ.o_text ?_
      refine G_cVv x eX10_write_49 kX10_151 im_yX9_empty se_yX9_empty rm hZ.s_text.m (ct_X9_empty hTx) rfl ?_
      refine G_aload5 x eX10_write_52 ?_
      refine G_aload0 x eX10_write_54 ?_
      refine G_getq x eX10_write_55 fX10_25 rfl rfl hZ.m hZ.o_text ?_
      refine G_aload4 x eX10_write_58 ?_
      refine G_cVv x eX10_write_60 kX10_154 im_yX3_appendTo se_yX3_appendTo rm (by assumption) (ct_X3_appendTo (hfa.mv hk9).1 (fl_le hfl.2.2) hfl.2.2.2.1 hTx hp hL9 (by omega) (by rw [uI_s]; omega) (by rw [uI_s]; omega) hfl.2.2.1) rfl ?_
      refine G_aload0 x eX10_write_63 ?_
      refine G_getq x eX10_write_64 fX10_25 rfl rfl hZ.m hZ.o_text ?_
      refine G_cV x eX10_write_67 kX10_160 im_yX9_length se_yX9_length rm hZ.s_text.m (ct_X9_length hTx) rfl ?_
      refine G_ireturn x en eX10_write_70 (by omega) (by omega) ?_
      rw [eN]; exact ⟨fl, hfl, hth, rfl, hw.2, hw2⟩
    · contradiction
  · rw [o2]
    refine G_rg (fun hr => ?_)
    refine G_astore5 x eX10_write_28 ?_
    refine G_aload5 x eX10_write_30 ?_
    refine G_ifnonnull x eX10_write_32 (fun b32 c32 => ?_) (fun c32 => ?_)
    · cases c32
    · refine G_throw x th rm tf_S tk_S ti_S ts_149 tw_S tg_S eX10_write_35.1 eX10_write_38.1 eX10_write_39.1 eX10_write_41.1 eX10_write_44.1 (Nat.le_of_ble_eq_true rfl) (Nat.le_of_ble_eq_true rfl) (Nat.le_of_ble_eq_true rfl) (by omega) (by omega) (by omega) (by omega) ?_
      exact fun N hN => cThr.of 2 hth (by omega) rfl (FrC.t hN) (hW.t hN)
set_option maxRecDepth 20000 in
theorem ct_q_type {T : gT} {I : gI} {J : gJ} {O : gO} {B ss : Nat} {S : Int → Int} {n : Int} {Rc Xt : Int → Int} {L : Int} (hW : WW B ss T I J O S n Rc Xt L) (hI : Inv S) {c : Int} (h0 : in32 c) (hX : txW Xt L) : Cx yX10_type cX10_type 2 (some .int) [va_rf (some ss), VI c] 7 112 2 12 T I J O (cRet B ss T I J O (tyThr L c) (VI (L + 1)) S n Rc (sU Xt L c) (L + 1)) (cThr B ss T I J O (tyThr L c) nAS S n Rc Xt L) := by
  refine Cx.of' (by decide) [some (va_rf (some ss)), some (VI c)] (gEn1 (List.forall_mem_cons.mpr ⟨cat_VR _, List.forall_mem_cons.mpr ⟨cat_VI _, fun _ h => nomatch h⟩⟩) rfl (Nat.le_of_ble_eq_true rfl) rfl) ?_
  intro X x en rm th hr
  have hr0 := hr
  have hS := hW.1.1
  have hZ := hS.z
  have hss := hZ.m
  have eL := hW.2.2.2.1
  have hL1 := hX.1
  refine G_iload1 x eX10_type_0 ?_
  refine G_push x eX10_type_1 ?_
  refine G_push x eX10_type_3 ?_
  refine G_cSX x th eX10_type_5 kX10_85 sm_yX10_requireArgument rm (ct_X10_requireArgument (a := c) (l := 32) (m := 126) h0 (by omega) (by omega)) (fun _ _ _ _ _ h9 => cThr.tx h9.2 1 (by have q9 := h9.1; unfold tyThr; (repeat' split) <;> first | rfl | omega) (by omega) rfl FrC.rf hW) rfl (fun v5 T5 I5 J5 O5 p5 => ?_)
  refine G_rg (fun hr => ?_)
  obtain ⟨q1, rfl, e1, e2, e3, e4⟩ := p5
  obtain rfl := e1.symm
  obtain rfl := e2.symm
  obtain rfl := e3.symm
  obtain rfl := e4.symm
  have hTx := hZ.s_text
  have cF := ct_X9_isFull (I := I) (J := J) hTx
  rw [eL] at cF
  have hw := hW.lo (I' := ap1 I (ss + 4) c) (n' := n) (Rc' := Rc) (X' := sU Xt L c) (L' := L + 1) (fun b j hb => ap1_o (by omega) (by omega)) (by rw [ap1_o (by omega) (by omega)]; exact hW.2.2.1.1) (fun j j0 j1 => by rw [ap1_o (by omega) (by omega)]; exact hW.2.2.1.2 j j0 j1) (by rw [ap1_n, eL]) (fun i i0 i1 => by
    rw [show ss + 5 = ss + 4 + 1 from rfl, ap1_c, eL]
    unfold sU
    by_cases e : i = L
    · rw [if_pos e, if_pos e]
    · rw [if_neg e, if_neg e]
      exact hW.2.2.2.2 i i0 (by omega))
  refine G_rg (fun hr => ?_)
  refine G_aload0 x eX10_type_8 ?_
  refine G_getq x eX10_type_9 fX10_25 rfl rfl hZ.m hZ.o_text ?_
  refine G_cV x eX10_type_12 kX10_227 im_yX9_isFull se_yX9_isFull rm hZ.s_text.m cF rfl ?_
  refine G_ifb_eq x eX10_type_15 (fun c15 => ?_) (fun c15 => ?_)
  · refine G_aload0 x eX10_type_28 ?_
    refine G_getq x eX10_type_29 fX10_25 rfl rfl hZ.m hZ.o_text ?_
    refine G_iload1 x eX10_type_32 ?_
    refine G_cVv x eX10_type_33 kX10_233 im_yX9_append se_yX9_append rm hZ.s_text.m (ct_X9_append hTx (by omega) (by omega) (by omega) (by omega)) rfl ?_
    refine G_aload0 x eX10_type_36 ?_
    refine G_getq x eX10_type_37 fX10_25 rfl rfl hZ.m hZ.o_text ?_
    refine G_cV x eX10_type_40 kX10_160 im_yX9_length se_yX9_length rm hZ.s_text.m (ct_X9_length hTx) rfl ?_
    refine G_ireturn x en eX10_type_43 (by omega) (by omega) ?_
    exact ⟨by unfold tyThr; rw [if_pos q1, if_pos (by omega)], by rw [ap1_n, eL], hw.2, hw.1⟩
  · refine G_throw x th rm tf_S tk_S ti_S ts_231 tw_S tg_S eX10_type_18.1 eX10_type_21.1 eX10_type_22.1 eX10_type_24.1 eX10_type_27.1 (Nat.le_of_ble_eq_true rfl) (Nat.le_of_ble_eq_true rfl) (Nat.le_of_ble_eq_true rfl) (by omega) (by omega) (by omega) (by omega) ?_
    exact fun N hN => cThr.of 2 (by unfold tyThr; rw [if_pos q1, if_neg (by omega)]) (by omega) rfl (FrC.t hN) (hW.t hN)
set_option maxRecDepth 20000 in
theorem ct_q_clearText {T : gT} {I : gI} {J : gJ} {O : gO} {B ss : Nat} {S : Int → Int} {n : Int} {Rc Xt : Int → Int} {L : Int} (hW : WW B ss T I J O S n Rc Xt L) (hI : Inv S) : Ct yX10_clearText cX10_clearText 2 (some .int) [va_rf (some ss)] 1 20 0 0 T I J O (cRet B ss T I J O 0 (VI L) S n Rc Xt 0) := by
  refine Ct.of (by decide) [some (va_rf (some ss)), none] (gEn1 (List.forall_mem_cons.mpr ⟨cat_VR _, fun _ h => nomatch h⟩) rfl (Nat.le_of_ble_eq_true rfl) rfl) ?_
  intro X x en rm ini hr hz
  have hr0 := hr
  have hS := hW.1.1
  have hZ := hS.z
  have hss := hZ.m
  have eL := hW.2.2.2.1
  have hTx := hZ.s_text
  have hw := hW.lo (I' := uI I (ss + 4) 1 0) (n' := n) (Rc' := Rc) (X' := Xt) (L' := 0) (fun b j hb => uI_a (by omega) j) (by rw [uI_a (by omega)]; exact hW.2.2.1.1) (fun j j0 j1 => by rw [uI_a (by omega)]; exact hW.2.2.1.2 j j0 j1) uI_s (fun i i0 i1 => by omega)
  refine G_rg (fun hr => ?_)
  refine G_aload0 x eX10_clearText_0 ?_
  refine G_getq x eX10_clearText_1 fX10_25 rfl rfl hZ.m hZ.o_text ?_
  refine G_cV x eX10_clearText_4 kX10_160 im_yX9_length se_yX9_length rm hZ.s_text.m (ct_X9_length hTx) rfl ?_
  refine G_istore1 x eX10_clearText_7 ?_
  refine G_aload0 x eX10_clearText_8 ?_
  refine G_getq x eX10_clearText_9 fX10_25 rfl rfl hZ.m hZ.o_text ?_
  refine G_cVv x eX10_clearText_12 kX10_151 im_yX9_empty se_yX9_empty rm hZ.s_text.m (ct_X9_empty hTx) rfl ?_
  refine G_iload1 x eX10_clearText_15 ?_
  refine G_ireturn x en eX10_clearText_16 (by omega) (by omega) ?_
  exact ⟨rfl, by rw [eL], hw.2, hw.1⟩
set_option maxRecDepth 20000 in
theorem ct_q_character {T : gT} {I : gI} {J : gJ} {O : gO} {B ss : Nat} {S : Int → Int} {n : Int} {Rc Xt : Int → Int} {L : Int} (hW : WW B ss T I J O S n Rc Xt L) (hI : Inv S) {i : Int} (h0 : in32 i) (hX : txW Xt L) : Ct yX10_character cX10_character 2 (some .int) [va_rf (some ss), VI i] 1 21 0 0 T I J O (cRet B ss T I J O 0 (VI (if 0 ≤ i ∧ i < L then Xt i else -1)) S n Rc Xt L) := by
  refine Ct.of (by decide) [some (va_rf (some ss)), some (VI i)] (gEn1 (List.forall_mem_cons.mpr ⟨cat_VR _, List.forall_mem_cons.mpr ⟨cat_VI _, fun _ h => nomatch h⟩⟩) rfl (Nat.le_of_ble_eq_true rfl) rfl) ?_
  intro X x en rm ini hr hz
  have hr0 := hr
  have hS := hW.1.1
  have hZ := hS.z
  have hss := hZ.m
  have eL := hW.2.2.2.1
  have hL1 := hX.1
  have hTx := hZ.s_text
  have cA := ct_X9_at (I := I) (J := J) hTx h0 (by rw [eL]; omega)
  rw [eL] at cA
  have fin : ch (I (ss + 4 + 1)) L i = if 0 ≤ i ∧ i < L then Xt i else -1 := by
    rw [ch_e9 (X := Xt) (fun i i0 i1 => hW.2.2.2.2 i i0 i1)]
    rfl
  rw [fin] at cA
  refine G_rg (fun hr => ?_)
  refine G_aload0 x eX10_character_0 ?_
  refine G_getq x eX10_character_1 fX10_25 rfl rfl hZ.m hZ.o_text ?_
  refine G_iload1 x eX10_character_4 ?_
  refine G_cV x eX10_character_5 kX10_236 im_yX9_at se_yX9_at rm hZ.s_text.m cA rfl ?_
  refine G_ireturn x en eX10_character_8 (by omega) (by omega) ?_
  exact ⟨rfl, rfl, FrC.rf, hW⟩
set_option maxRecDepth 20000 in
theorem ct_q_fault {T : gT} {I : gI} {J : gJ} {O : gO} {B ss : Nat} {S : Int → Int} {n : Int} {Rc Xt : Int → Int} {L : Int} (hW : WW B ss T I J O S n Rc Xt L) (hI : Inv S) {r : Int} (h0 : in32 r) (hX : txW Xt L) : Cx yX10_fault cX10_fault 2 (some .int) [va_rf (some ss), VI r] 7 120 1 6 T I J O (cRet B ss T I J O (iThr r) (VI (flS Xt L S r).1) S n Rc Xt L) (cThr B ss T I J O (iThr r) nIS S n Rc Xt L) := by
  refine Cx.of' (by decide) [some (va_rf (some ss)), some (VI r)] (gEn1 (List.forall_mem_cons.mpr ⟨cat_VR _, List.forall_mem_cons.mpr ⟨cat_VI _, fun _ h => nomatch h⟩⟩) rfl (Nat.le_of_ble_eq_true rfl) rfl) ?_
  intro X x en rm th hr
  have hr0 := hr
  have hS := hW.1.1
  have hZ := hS.z
  have hss := hZ.m
  have eL := hW.2.2.2.1
  have hL1 := hX.1
  have hTx := hZ.s_text
  have hRd := hZ.s_reader
  refine G_aload0 x eX10_fault_0 ?_
  refine G_getq x eX10_fault_1 fX10_32 rfl rfl hZ.m hZ.o_reader ?_
  refine G_aload0 x eX10_fault_4 ?_
  refine G_getq x eX10_fault_5 fX10_25 rfl rfl hZ.m hZ.o_text ?_
  refine G_aload0 x eX10_fault_8 ?_
  refine G_iload1 x eX10_fault_9 ?_
  refine G_cVX x th eX10_fault_10 kX10_39 ⟨im_yX10_replicaAt, se_yX10_replicaAt⟩ hZ.m rm (ct_X10_replicaAt hS h0) (fun _ _ _ _ _ h9 => cThr.tx h9.2 1 (by have q9 := h9.1; unfold iThr; (repeat' split) <;> first | rfl | omega) (by omega) rfl FrC.rf hW) rfl (fun v10 T10 I10 J10 O10 p10 => ?_)
  refine G_rg (fun hr => ?_)
  obtain ⟨q1, rfl, e1, e2, e3, e4⟩ := p10
  obtain rfl := e1.symm
  obtain rfl := e2.symm
  obtain rfl := e3.symm
  obtain rfl := e4.symm
  have hp := (hS.rp q1.1 q1.2).1
  obtain ⟨hR, hG, hC⟩ := hW.2.1 r q1.1 q1.2
  have hbhp := rpA_b (ss := ss) q1.1 q1.2
  have hBs := hW.1.2.1
  have eF : flS (I (ss + 4 + 1)) L S r = flS Xt L S r := flS_e9 (fun i i0 i1 => hW.2.2.2.2 i i0 i1)
  have eC : ch (I (ss + 4 + 1)) L = ch Xt L := ch_e9 (fun i i0 i1 => hW.2.2.2.2 i i0 i1)
  refine G_cVg x eX10_fault_13 kX10_105 im_yX6_read se_yX6_read rm hRd.m (ct_X6_read hRd hTx hp hR.L (by rw [eL]; omega) (by rw [eL]; omega) (by omega) (by omega) (fun i => by rw [eL, eC]; exact ch_b9 hX i)) rfl (fun v13 T13 I13 J13 O13 p13 => ?_)
  refine G_rg (fun hr => ?_)
  obtain ⟨e1, e2, e3, eI, rfl, h32, -⟩ := p13
  obtain rfl := e1.symm
  obtain rfl := e2.symm
  obtain rfl := e3.symm
  rw [eL, eF] at h32 ⊢
  have hw := hW.lo (I' := I13) (n' := n) (Rc' := Rc) (X' := Xt) (L' := L) (fun b j hb => eI b j (by omega) (by omega)) (by rw [eI _ _ (by omega) (by omega)]; exact hW.2.2.1.1) (fun j j0 j1 => by rw [eI _ _ (by omega) (by omega)]; exact hW.2.2.1.2 j j0 j1) (by rw [eI _ _ (by omega) (by omega)]; exact eL) (fun i i0 i1 => by rw [eI _ _ (by omega) (by omega)]; exact hW.2.2.2.2 i i0 i1)
  refine G_rg (fun hr => ?_)
  refine G_ireturn x en eX10_fault_16 (by omega) (by omega) ?_
  exact ⟨by unfold iThr; rw [if_pos q1], rfl, hw.2, hw.1⟩
