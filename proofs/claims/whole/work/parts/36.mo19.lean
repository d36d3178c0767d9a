theorem nmP_c {X rF cF rF' cF' : Int → Int} {L rN cN : Int} (hr : ∀ i, 0 ≤ i → i < rN → rF i = rF' i) (hc : ∀ i, 0 ≤ i → i < cN → cF i = cF' i) : nmP X L rF rN cF cN = nmP X L rF' rN cF' cN := by
  funext a
  unfold nmP
  split
  · next h =>
    split
    · next h2 => rw [hr _ (by omega) (by omega), hc _ (by omega) (by omega)]
    · rfl
  · rfl
theorem facP_c {X rF cF rF' cF' : Int → Int} {L rN cN : Int} (hr : ∀ i, 0 ≤ i → i < rN → rF i = rF' i) (hc : ∀ i, 0 ≤ i → i < cN → cF i = cF' i) : facP X L rF rN cF cN = facP X L rF' rN cF' cN := by
  funext a
  unfold facP sumP celP
  rw [nmP_c hr hc]
/-- a text read at a replica -/
noncomputable def flS (X : Int → Int) (L : Int) (S : Int → Int) (r : Int) : Int × List (Int × Int × Int × Int) := prs9 (facP X L (rwF S r 0 (-1)) (rwN S r 0 (-1)) (rwF S r 1 (-1)) (rwN S r 1 (-1))) X L 13 43 0
theorem prsM_S {I I' : gI} {mo : Nat} {r : Int} (h : lkI I I' mo r) : prsM I' mo = flS (I (mo + 4)) (I mo 5) (I (mo + 1)) r := by
  obtain ⟨l1, l2, l3, l4, l5, l6⟩ := h
  unfold prsM flS
  have e4 : I' (mo + 4) = I (mo + 4) := funext fun j => l1 _ (by omega) (by omega) (by omega) j
  have e5 : I' mo 5 = I mo 5 := l2 _ (by omega) (by omega)
  rw [e4, e5, l3, l4, facP_c (rF := I' (mo + 5)) (cF := I' (mo + 6)) l5 l6]
theorem lkI.ln {I I' : gI} {mo : Nat} {r : Int} (h : lkI I I' mo r) : lnIn (I' (mo + 5)) (I' mo 9) ∧ lnIn (I' (mo + 6)) (I' mo 10) := by
  obtain ⟨l1, l2, l3, l4, l5, l6⟩ := h
  refine ⟨⟨by rw [l3]; exact (rwB _ _ _ _).1, by rw [l3]; exact (rwB _ _ _ _).2, fun i i0 i1 => ?_⟩, ⟨by rw [l4]; exact (rwB _ _ _ _).1, by rw [l4]; exact (rwB _ _ _ _).2, fun i i0 i1 => ?_⟩⟩
  · rw [l3] at i1; rw [l5 i i0 i1]; exact rwI _ i0 i1
  · rw [l4] at i1; rw [l6 i i0 i1]; exact rwI _ i0 i1
set_option maxRecDepth 20000 in
theorem ct_X11_fault {T : gT} {I : gI} {J : gJ} {O : gO} {mo : Nat} {r : Int} (hM : MoAt T O mo) (h0 : in32 r) (h1 : 0 ≤ I mo 5) (h2 : I mo 5 ≤ 24) : Ct yX11_fault cX11_fault 2 (some .int) [va_rf (some mo), VI r] 5 110 0 0 T I J O (if 0 ≤ r ∧ r ≤ 2 then mSay T I J O mo (flS (I (mo + 4)) (I mo 5) (I (mo + 1)) r).1 0 else mSay T I J O mo 0 1) := by
  refine Ct.of (by decide) [some (va_rf (some mo)), some (VI r)] (gEn1 (List.forall_mem_cons.mpr ⟨cat_VR _, List.forall_mem_cons.mpr ⟨cat_VI _, fun _ h => nomatch h⟩⟩) rfl (Nat.le_of_ble_eq_true rfl) rfl) ?_
  intro X x en rm ini hr hz
  have hr0 := hr
  refine G_iload1 x eX11_fault_0 ?_
  refine G_cS x eX11_fault_1 kX11_127 sm_yX11_isReplica rm (ct_X11_isReplica (by first | omega | exact hr _ _ | exact hr0 _ _)) rfl ?_
  refine G_ifb_ne x eX11_fault_4 (fun c4 => ?_) (fun c4 => ?_)
  · refine G_aload0 x eX11_fault_13 ?_
    refine G_iload1 x eX11_fault_14 ?_
    refine G_cVg x eX11_fault_15 kX11_155 im_yX11_looks se_yX11_looks rm hM.m (ct_X11_looks hM (by omega) (by omega)) rfl (fun v15 T15 I15 J15 O15 p15 => ?_)
    refine G_rg (fun hr => ?_)
    obtain ⟨rfl, rfl, rfl, rfl, hlk⟩ := looksP.lk p15
    have e5 : I15 mo 5 = I mo 5 := hlk.2.1 _ (by omega) (by omega)
    refine G_aload0 x eX11_fault_18 ?_
    refine G_aload0 x eX11_fault_19 ?_
    refine G_cVg x eX11_fault_20 kX11_166 im_yX11_faultAt se_yX11_faultAt rm hM.m (ct_X11_faultAt hM (by rw [e5]; omega) (by rw [e5]; omega) hlk.ln.1 hlk.ln.2) rfl (fun v20 T20 I20 J20 O20 p20 => ?_)
    refine G_rg (fun hr => ?_)
    obtain ⟨rfl, rfl, rfl, hf, rfl, hb, -⟩ := p20
    rw [prsM_S hlk] at hb ⊢
    refine G_cV x eX11_fault_23 kX11_83 im_yX11_tells se_yX11_tells rm hM.m (ct_X11_tells hM (by first | omega | exact hr _ _ | exact hr0 _ _)) rfl ?_
    refine G_rg (fun hr => ?_)
    refine G_ireturn x en eX11_fault_26 (by omega) (by omega) ?_
    rw [if_pos c4]
    exact mSay_i (fun b hb j => ⟨by rw [hf b j (by omega) (by omega)]; exact hlk.1 b (by omega) (by omega) (by omega) j, rfl⟩) (fun j => by rw [hf _ j (by omega) (by omega)]; exact hlk.1 _ (by omega) (by omega) (by omega) j) (fun j => by rw [hf _ j (by omega) (by omega)]; exact hlk.1 _ (by omega) (by omega) (by omega) j) (fun j => by rw [hf _ j (by omega) (by omega)]; exact hlk.1 _ (by omega) (by omega) (by omega) j) (by rw [hf _ _ (by omega) (by omega)]; exact hlk.2.1 _ (by omega) (by omega)) (by rw [hf _ _ (by omega) (by omega)]; exact e5)
  · refine G_aload0 x eX11_fault_7 ?_
    refine G_push x eX11_fault_8 ?_
    refine G_cV x eX11_fault_9 kX11_131 im_yX11_fails se_yX11_fails rm hM.m (ct_X11_fails hM (by first | omega | exact hr _ _ | exact hr0 _ _)) rfl ?_
    refine G_rg (fun hr => ?_)
    refine G_ireturn x en eX11_fault_12 (by omega) (by omega) ?_
    rw [if_neg c4]
    exact mSay_i (fun b hb j => ⟨rfl, rfl⟩) (fun j => rfl) (fun j => rfl) (fun j => rfl) rfl rfl
noncomputable def fmThr (X : Int → Int) (L : Int) (S : Int → Int) (r row col : Int) : Int := if cellIn S r row col then (if (flS X L S r).1 = -1 then (if S r = 40 then 3 else 0) else 2) else 1
/-- the row s with a formula written: which signs it has -/
noncomputable def wfS (S : Int → Int) (r row col : Int) (tk : List Int) : Int → Int := wtS S r row col 2 0 tk.length (fun i => tk.getD i.toNat 0)
theorem wrS_c {S f g : Int → Int} {r kind num signs : Int} (h : ∀ i, 0 ≤ i → i < signs → f i = g i) : wrS S r kind num signs f = wrS S r kind num signs g := by
  funext j
  unfold wrS
  split
  · split
    · exact h _ (by omega) (by omega)
    · rfl
  · rfl
set_option maxHeartbeats 2000000 in
set_option maxRecDepth 20000 in
theorem ct_X11_setFormula {T : gT} {I : gI} {J : gJ} {O : gO} {mo : Nat} {r row col : Int} (hM : MoAt T O mo) (h0 : in32 r) (h1 : in32 row) (h2 : in32 col) (h3 : 0 ≤ I mo 3 ∧ I mo 3 ≤ 4) (h4 : 0 ≤ r → r ≤ 2 → prOk (I (mo + 1)) r) (h5 : 0 ≤ I mo 5) (h6 : I mo 5 ≤ 24) : Ct yX11_setFormula cX11_setFormula 4 (some .int) [va_rf (some mo), VI r, VI row, VI col] 5 115 0 0 T I J O (if fmThr (I (mo + 4)) (I mo 5) (I (mo + 1)) r row col = 0 then mDo T I J O mo (I (mo + 1) (3843 + 270 * r + 0) + 1) (wfS (I (mo + 1)) r row col (tks (flS (I (mo + 4)) (I mo 5) (I (mo + 1)) r).2)) else mSay T I J O mo 0 (fmThr (I (mo + 4)) (I mo 5) (I (mo + 1)) r row col)) := by
  refine Ct.of (by decide) [some (va_rf (some mo)), some (VI r), some (VI row), some (VI col)] (gEn1 (List.forall_mem_cons.mpr ⟨cat_VR _, List.forall_mem_cons.mpr ⟨cat_VI _, List.forall_mem_cons.mpr ⟨cat_VI _, List.forall_mem_cons.mpr ⟨cat_VI _, fun _ h => nomatch h⟩⟩⟩⟩) rfl (Nat.le_of_ble_eq_true rfl) rfl) ?_
  intro X x en rm ini hr hz
  have hr0 := hr
  refine G_aload0 x eX11_setFormula_0 ?_
  refine G_iload1 x eX11_setFormula_1 ?_
  refine G_iload2 x eX11_setFormula_2 ?_
  refine G_iload3 x eX11_setFormula_3 ?_
  refine G_cVg x eX11_setFormula_4 kX11_159 im_yX11_isCell se_yX11_isCell rm hM.m (ct_X11_isCell hM (by first | omega | exact hr _ _ | exact hr0 _ _) (by first | omega | exact hr _ _ | exact hr0 _ _) (by first | omega | exact hr _ _ | exact hr0 _ _)) rfl (fun v4 T4 I4 J4 O4 p4 => ?_)
  refine G_rg (fun hr => ?_)
  obtain ⟨rfl, rfl, rfl, rfl, hic⟩ := p4
  refine G_ifb_ne x eX11_setFormula_7 (fun c7 => ?_) (fun c7 => ?_)
  · have hlk := icP.lk hic c7.1
    have hs : ∀ j, I4 (mo + 1) j = I (mo + 1) j := hlk.1 _ (by omega) (by omega) (by omega)
    have hpr := h4 c7.1.1 c7.1.2
    have e5 : I4 mo 5 = I mo 5 := hlk.2.1 _ (by omega) (by omega)
    refine G_aload0 x eX11_setFormula_16 ?_
    refine G_cVg x eX11_setFormula_17 kX11_166 im_yX11_faultAt se_yX11_faultAt rm hM.m (ct_X11_faultAt hM (by rw [e5]; omega) (by rw [e5]; omega) hlk.ln.1 hlk.ln.2) rfl (fun v17 T17 I17 J17 O17 p17 => ?_)
    refine G_rg (fun hr => ?_)
    obtain ⟨rfl, rfl, rfl, hf, rfl, hb, hk⟩ := p17
    rw [prsM_S hlk] at hb hk ⊢
    generalize hfl : flS (I (mo + 4)) (I mo 5) (I (mo + 1)) r = fl at *
    have hlk2 : lkW I I17 mo r := by
      obtain ⟨l1, l2, l3, l4, l5, l6⟩ := hlk
      exact ⟨fun b b1 b2 b3 b4 j => by rw [hf b j b4 (Or.inl b3)]; exact l1 b b1 b2 b3 j, fun j j1 j2 j3 j4 => by rw [hf mo j (by omega) (Or.inr ⟨j3, j4⟩)]; exact l2 j j1 j2, by rw [hf _ _ (by omega) (by omega)]; exact l3, by rw [hf _ _ (by omega) (by omega)]; exact l4, fun i i0 i1 => by rw [hf _ _ (by omega) (by omega)]; exact l5 i i0 i1, fun i i0 i1 => by rw [hf _ _ (by omega) (by omega)]; exact l6 i i0 i1⟩
    have hs2 : ∀ j, I17 (mo + 1) j = I (mo + 1) j := hlk2.1 _ (by omega) (by omega) (by omega) (by omega)
    have e3 : I17 mo 3 = I mo 3 := hlk2.2.1 _ (by omega) (by omega) (by omega) (by omega)
    have hsay : ∀ ans thr, mSay T17 I J17 O17 mo ans thr (some (VI ans)) T17 (uI I17 mo 6 thr) J17 O17 := fun ans thr => mSay_i (fun b hb j => ⟨hlk2.1 b (by omega) (by omega) (by omega) (by omega) j, rfl⟩) hs2 (hlk2.1 _ (by omega) (by omega) (by omega) (by omega)) (hlk2.1 _ (by omega) (by omega) (by omega) (by omega)) e3 (hlk2.2.1 _ (by omega) (by omega) (by omega) (by omega))
    have ht : fmThr (I (mo + 4)) (I mo 5) (I (mo + 1)) r row col = if fl.1 = -1 then (if I (mo + 1) r = 40 then 3 else 0) else 2 := by unfold fmThr; rw [if_pos c7, hfl]
    refine G_push x eX11_setFormula_20 ?_
    refine G_icmp_eq x eX11_setFormula_21 (by first | omega | exact hr _ _ | exact hr0 _ _) (by first | omega | exact hr _ _ | exact hr0 _ _) (fun c21 => ?_) (fun c21 => ?_)
    · obtain ⟨k1, k2, k3⟩ := hk c21
      rw [if_pos c21] at ht
      refine G_aload0 x eX11_setFormula_30 ?_
      refine G_iload1 x eX11_setFormula_31 ?_
      refine G_cV x eX11_setFormula_32 kX11_138 im_yX11_isFull se_yX11_isFull rm hM.m (ct_X11_isFull hM (by omega) (by omega)) rfl ?_
      refine G_ifb_eq x eX11_setFormula_35 (fun c35 => ?_) (fun c35 => ?_)
      · rw [hs2] at c35
        refine G_aload0 x eX11_setFormula_46 ?_
        refine G_iload1 x eX11_setFormula_47 ?_
        refine G_iload2 x eX11_setFormula_48 ?_
        refine G_iload3 x eX11_setFormula_49 ?_
        refine G_push x eX11_setFormula_50 ?_
        refine G_push x eX11_setFormula_51 ?_
        refine G_aload0 x eX11_setFormula_52 ?_
        refine G_geti x eX11_setFormula_53 fX11_170 rfl rfl hM.m (fun h53 => ?_)
        rw [k1]
        refine G_cVg x eX11_setFormula_56 kX11_162 im_yX11_writes se_yX11_writes rm hM.m (ct_X11_writes (I0 := I) hM c7.1.1 c7.1.2 c7.2.1 c7.2.2 (by omega) (by omega) (by omega) (by omega) hpr c35 hlk2) rfl (fun v56 T56 I56 J56 O56 p56 => ?_)
        refine G_rg (fun hr => ?_)
        obtain ⟨rfl, hR⟩ := p56
        refine G_ireturn x en eX11_setFormula_59 (by omega) (by omega) ?_
        rw [ht, if_neg c35, if_pos rfl]
        have hw : wrS (I (mo + 1)) r 2 0 ((tks fl.2).length : Int) (I17 (mo + 8)) = wrS (I (mo + 1)) r 2 0 ((tks fl.2).length : Int) (fun i => (tks fl.2).getD i.toNat 0) := wrS_c (fun i i0 i1 => by
          have hi : i.toNat < (tks fl.2).length := by omega
          have := k3 i.toNat (tks fl.2)[i.toNat] (List.getElem?_eq_getElem hi)
          rw [Int.toNat_of_nonneg i0] at this
          rw [this]
          simp [hi])
        rw [hw] at hR
        exact ⟨rfl, hR⟩
      · rw [hs2] at c35
        refine G_aload0 x eX11_setFormula_38 ?_
        refine G_push x eX11_setFormula_39 ?_
        refine G_cV x eX11_setFormula_40 kX11_131 im_yX11_fails se_yX11_fails rm hM.m (ct_X11_fails hM (by first | omega | exact hr _ _ | exact hr0 _ _)) rfl ?_
        refine G_rg (fun hr => ?_)
        refine G_goto x eX11_setFormula_43 ?_
        refine G_ireturn x en eX11_setFormula_59 (by omega) (by omega) ?_
        rw [ht, if_pos c35, if_neg (by omega)]
        exact hsay _ _
    · rw [if_neg c21] at ht
      refine G_aload0 x eX11_setFormula_24 ?_
      refine G_push x eX11_setFormula_25 ?_
      refine G_cV x eX11_setFormula_26 kX11_131 im_yX11_fails se_yX11_fails rm hM.m (ct_X11_fails hM (by first | omega | exact hr _ _ | exact hr0 _ _)) rfl ?_
      refine G_rg (fun hr => ?_)
      refine G_ireturn x en eX11_setFormula_29 (by omega) (by omega) ?_
      rw [ht, if_neg (by omega)]
      exact hsay _ _
  · refine G_aload0 x eX11_setFormula_10 ?_
    refine G_push x eX11_setFormula_11 ?_
    refine G_cV x eX11_setFormula_12 kX11_131 im_yX11_fails se_yX11_fails rm hM.m (ct_X11_fails hM (by first | omega | exact hr _ _ | exact hr0 _ _)) rfl ?_
    refine G_rg (fun hr => ?_)
    refine G_ireturn x en eX11_setFormula_15 (by omega) (by omega) ?_
    have ht : fmThr (I (mo + 4)) (I mo 5) (I (mo + 1)) r row col = 1 := by unfold fmThr; rw [if_neg c7]
    rw [ht, if_neg (by omega)]
    exact icP.say hic
