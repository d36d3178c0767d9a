abbrev isOp (c : Int) : Prop := c = 43 ∨ c = 45 ∨ c = 42
def opT (c : Int) : Int := if c = 43 then -1 else if c = 45 then -2 else -3
/-- a text as a formula: the fault (none: -1), its factors, each with the sign ahead of it -/
def prs9 (fac : Int → Int × Int × Int × Int) (X : Int → Int) (L : Int) : Nat → Int → Int → Int × List (Int × Int × Int × Int)
  | 0, _, a => (a, [])
  | n + 1, sg, a =>
    if (fac a).2.1 = -1 then ((fac a).1, [])
    else if isOp (ch X L (fac a).1) then ((prs9 fac X L n (ch X L (fac a).1) ((fac a).1 + 1)).1, (sg, (fac a).2.1, (fac a).2.2.1, (fac a).2.2.2) :: (prs9 fac X L n (ch X L (fac a).1) ((fac a).1 + 1)).2)
    else (if (fac a).1 < L then (fac a).1 else -1, [(sg, (fac a).2.1, (fac a).2.2.1, (fac a).2.2.2)])
/-- the signs of a formula -/
def tks : List (Int × Int × Int × Int) → List Int
  | [] => []
  | [x] => facT x.2.1 x.2.2.1 x.2.2.2
  | x :: y :: l => facT x.2.1 x.2.2.1 x.2.2.2 ++ opT y.1 :: tks (y :: l)
theorem facT_l (k f s : Int) : (facT k f s).length = 1 ∨ (facT k f s).length = 3 ∧ k ≠ 0 ∧ k ≠ 1 := by
  unfold facT
  split
  · exact Or.inl rfl
  · split
    · exact Or.inl rfl
    · exact Or.inr ⟨rfl, by assumption, by assumption⟩
theorem facP_b {X rF cF : Int → Int} {L rN cN a : Int} (ha : 0 ≤ a) (haL : a ≤ L) : a ≤ (facP X L rF rN cF cN a).1 ∧ (facP X L rF rN cF cN a).1 ≤ a + 30 + L ∧ ((facP X L rF rN cF cN a).2.1 ≠ -1 → a + (facT (facP X L rF rN cF cN a).2.1 (facP X L rF rN cF cN a).2.2.1 (facP X L rF rN cF cN a).2.2.2).length ≤ (facP X L rF rN cF cN a).1 ∧ a + 1 ≤ (facP X L rF rN cF cN a).1 ∧ (facP X L rF rN cF cN a).1 ≤ L) := by
  unfold facP
  split
  · next h =>
    have h1 := nmD_1 (X := X) (L := L) (a := a) (v := 0) (k := 3) h
    have h2 := nmD_b (X := X) (L := L) 4 a 0 haL
    exact ⟨h2.1, by simp only; omega, fun _ => ⟨h1, h1, h2.2⟩⟩
  · split
    · next h =>
      unfold sumP
      have n1 := nmP_b (X := X) (L := L) (rF := rF) (rN := rN) (cF := cF) (cN := cN) (a := a + 2)
      have n2 := nmP_b (X := X) (L := L) (rF := rF) (rN := rN) (cF := cF) (cN := cN) (a := a + 5)
      split
      · split
        · exact ⟨by simp only; omega, by simp only; omega, fun h => absurd rfl h⟩
        · split
          · split
            · exact ⟨by simp only; omega, by simp only; omega, fun h => absurd rfl h⟩
            · split
              · next e =>
                have := ch_in (X := X) (L := L) (i := a + 7) (by omega)
                exact ⟨by simp only; omega, by simp only; omega, fun _ => ⟨by simp only [facT]; simp <;> omega, by simp only; omega, by simp only; omega⟩⟩
              · exact ⟨by simp only; omega, by simp only; omega, fun h => absurd rfl h⟩
          · exact ⟨by simp only; omega, by simp only; omega, fun h => absurd rfl h⟩
      · exact ⟨by simp only; omega, by simp only; omega, fun h => absurd rfl h⟩
    · unfold celP
      have n1 := nmP_b (X := X) (L := L) (rF := rF) (rN := rN) (cF := cF) (cN := cN) (a := a)
      split
      · exact ⟨by simp only; omega, by simp only; omega, fun h => absurd rfl h⟩
      · next e =>
        have := n1.2.2 e
        exact ⟨by simp only; omega, by simp only; omega, fun _ => ⟨by simp only [facT]; simp <;> omega, by simp only; omega, by simp only; omega⟩⟩
noncomputable def prsM (I : gI) (mo : Nat) : Int × List (Int × Int × Int × Int) := prs9 (facP (I (mo + 4)) (I mo 5) (I (mo + 5)) (I mo 9) (I (mo + 6)) (I mo 10)) (I (mo + 4)) (I mo 5) 13 43 0
def fltQ (T : gT) (I : gI) (J : gJ) (O : gO) (mo : Nat) : gP := fun v T' I' J' O' => T' = T ∧ J' = J ∧ O' = O ∧ (∀ b j, b ≠ mo + 8 → (b ≠ mo ∨ (j ≠ 13 ∧ j ≠ 14)) → I' b j = I b j) ∧ v = some (VI (prsM I mo).1) ∧ (-1 ≤ (prsM I mo).1 ∧ (prsM I mo).1 ≤ 100) ∧ ((prsM I mo).1 = -1 → I' mo 13 = (tks (prsM I mo).2).length ∧ (tks (prsM I mo).2).length ≤ 24 ∧ ∀ (i : Nat) (v : Int), (tks (prsM I mo).2)[i]? = some v → I' (mo + 8) i = v)
theorem prs_hd {fac : Int → Int × Int × Int × Int} {X : Int → Int} {L : Int} (hf : ∀ a, 0 ≤ a → 0 ≤ (fac a).1) {n : Nat} {c a : Int} (ha : 0 ≤ a) (h : (prs9 fac X L n c a).1 = -1) : ∃ y l, (prs9 fac X L n c a).2 = y :: l ∧ y.1 = c := by
  cases n with
  | zero => exfalso; have : a = -1 := h; omega
  | succ n =>
    unfold prs9 at h ⊢
    split at h
    · exfalso
      have := hf a ha
      simp only at h
      omega
    · next e =>
      rw [if_neg e]
      split at h
      · next e2 => rw [if_pos e2]; exact ⟨_, _, rfl, rfl⟩
      · next e2 => rw [if_neg e2]; exact ⟨_, _, rfl, rfl⟩
theorem facP_0 {X rF cF : Int → Int} {L rN cN a : Int} (ha : 0 ≤ a) : 0 ≤ (facP X L rF rN cF cN a).1 := by
  by_cases haL : a ≤ L
  · have := (facP_b (X := X) (rF := rF) (cF := cF) (rN := rN) (cN := cN) ha haL).1
    omega
  · have h1 : ch X L a = -1 := ch_no (by omega)
    unfold facP
    rw [h1, if_neg (by omega), if_neg (by omega)]
    unfold celP
    have n1 := nmP_b (X := X) (L := L) (rF := rF) (rN := rN) (cF := cF) (cN := cN) (a := a)
    split <;> (simp only; omega)
set_option maxHeartbeats 4000000 in
set_option maxRecDepth 20000 in
theorem ct_X11_faultAt {T : gT} {I : gI} {J : gJ} {O : gO} {mo : Nat} (hM : MoAt T O mo) (h2 : 0 ≤ I mo 5) (h3 : I mo 5 ≤ 24) (h4 : lnIn (I (mo + 5)) (I mo 9)) (h5 : lnIn (I (mo + 6)) (I mo 10)) : Ct yX11_faultAt cX11_faultAt 3 (some .int) [va_rf (some mo)] 4 88 0 0 T I J O (fltQ T I J O mo) := by
  refine Ct.of (by decide) [some (va_rf (some mo)), none, none] (gEn1 (List.forall_mem_cons.mpr ⟨cat_VR _, fun _ h => nomatch h⟩) rfl (Nat.le_of_ble_eq_true rfl) rfl) ?_
  intro X x en rm ini hr hz
  have hr0 := hr
  obtain ⟨ev, hev⟩ : ∃ ev : gI → Prop, ev = fun M => ∀ b j, b ≠ mo + 8 → (b ≠ mo ∨ (j ≠ 13 ∧ j ≠ 14)) → M b j = I b j := ⟨_, rfl⟩
  have hrow : ∀ M, ev M → M (mo + 4) = I (mo + 4) ∧ M mo 5 = I mo 5 ∧ M (mo + 5) = I (mo + 5) ∧ M mo 9 = I mo 9 ∧ M (mo + 6) = I (mo + 6) ∧ M mo 10 = I mo 10 := by
    intro M hM9
    rw [hev] at hM9
    exact ⟨funext fun j => hM9 _ j (by omega) (by omega), hM9 _ _ (by omega) (by omega), funext fun j => hM9 _ j (by omega) (by omega), hM9 _ _ (by omega) (by omega), funext fun j => hM9 _ j (by omega) (by omega), hM9 _ _ (by omega) (by omega)⟩
  have ev14 : ∀ M x, ev M → ev (uI M mo 14 x) := fun M x h => by rw [hev] at h ⊢; exact fun b j b1 b2 => by rw [show uI M mo 14 x b j = M b j by rcases b2 with b2 | b2; exact uI_a b2 j; exact uI_k b2.2]; exact h b j b1 b2
  have ev13 : ∀ M x, ev M → ev (uI M mo 13 x) := fun M x h => by rw [hev] at h ⊢; exact fun b j b1 b2 => by rw [show uI M mo 13 x b j = M b j by rcases b2 with b2 | b2; exact uI_a b2 j; exact uI_k b2.1]; exact h b j b1 b2
  have ev8 : ∀ M k x, ev M → ev (uI M (mo + 8) k x) := fun M k x h => by rw [hev] at h ⊢; exact fun b j b1 b2 => by rw [uI_a b1]; exact h b j b1 b2
  have ev0 : ev I := by rw [hev]; exact fun b j _ _ => rfl
  have hln : ∀ M, ev M → lnIn (M (mo + 5)) (M mo 9) ∧ lnIn (M (mo + 6)) (M mo 10) := fun M h => by rw [(hrow M h).2.2.1, (hrow M h).2.2.2.1, (hrow M h).2.2.2.2.1, (hrow M h).2.2.2.2.2]; exact ⟨h4, h5⟩
  generalize hfac : facP (I (mo + 4)) (I mo 5) (I (mo + 5)) (I mo 9) (I (mo + 6)) (I mo 10) = fac
  have hfn : ∀ a, 0 ≤ a → 0 ≤ (fac a).1 := fun a ha => by rw [← hfac]; exact facP_0 ha
  have hprs : prsM I mo = prs9 fac (I (mo + 4)) (I mo 5) 13 43 0 := by unfold prsM; rw [hfac]
  have loop : ∀ (n : Nat) (sg a : Int) (P : List Int) (M : gI) (o2 : Option Value), ev M → M mo 14 = a → 0 ≤ a → a ≤ I mo 5 → 2 * (13 - (n : Int)) ≤ a → (P.length : Int) ≤ a → M mo 13 = P.length → (∀ (i : Nat) (v : Int), P[i]? = some v → M (mo + 8) i = v) → (prsM I mo).1 = (prs9 fac (I (mo + 4)) (I mo 5) n sg a).1 → ((prsM I mo).1 = -1 → tks (prsM I mo).2 = P ++ tks (prs9 fac (I (mo + 4)) (I mo 5) n sg a).2) → G X 12 [some (va_rf (some mo)), some (VI 1), o2] [] T M J O 0 0 := by
    intro n
    induction n with
    | zero => intro sg a P M o2 v1 v2 v3 v4 v5; omega
    | succ n ih =>
    intro sg a P M o2 v1 v2 v3 v4 v5 v6 v7 v8 v9 v10
    obtain ⟨z1, z2, z3, z4, z5, z6⟩ := hrow M v1
    have hmf : mFac M mo = fac a := by unfold mFac; rw [z1, z2, z3, z4, z5, z6, v2, hfac]
    have hfb := facP_b (X := I (mo + 4)) (L := I mo 5) (rF := I (mo + 5)) (rN := I mo 9) (cF := I (mo + 6)) (cN := I mo 10) v3 v4
    rw [hfac] at hfb
    refine G_iload1 x eX11_faultAt_12 ?_
    refine G_if_eq x eX11_faultAt_13 (by omega) (fun h9 => absurd h9 (by omega)) (fun _ => ?_)
    refine G_aload0 x eX11_faultAt_16 ?_
    refine G_cVg x eX11_faultAt_17 kX11_192 im_yX11_isFactor se_yX11_isFactor rm hM.m (ct_X11_isFactor hM (by rw [v2]; omega) (by rw [v2, z2]; omega) (by rw [z2]; omega) (hln M v1).1 (hln M v1).2 (by rw [v7]; omega) (by rw [v7, v2]; omega)) rfl (fun v17 T17 I17 J17 O17 p17 => ?_)
    refine G_rg (fun hr => ?_)
    obtain ⟨rfl, rfl, rfl, f4, rfl, f6, f7⟩ := p17
    rw [hmf] at f6 f7 ⊢
    have v17 : ev I17 := by rw [hev] at v1 ⊢; exact fun b j b1 b2 => by rw [f4 b j b1 b2]; exact v1 b j b1 b2
    obtain ⟨z1, z2, z3, z4, z5, z6⟩ := hrow I17 v17
    by_cases e1 : (fac a).2.1 = -1
    · rw [if_pos e1]
      refine G_if_ne x eX11_faultAt_20 (by omega) (fun h9 => absurd rfl h9) (fun _ => ?_)
      refine G_aload0 x eX11_faultAt_23 ?_
      refine G_geti x eX11_faultAt_24 fX11_173 rfl rfl hM.m (fun h24 => ?_)
      refine G_ireturn x en eX11_faultAt_27 (by omega) (by omega) ?_
      rw [f6]
      have hp1 : (prsM I mo).1 = (fac a).1 := by rw [v9]; unfold prs9; rw [if_pos e1]
      refine ⟨rfl, rfl, rfl, by rw [hev] at v17; exact v17, by rw [hp1], by omega, fun h9 => ?_⟩
      omega
    · rw [if_neg e1]
      refine G_if_ne x eX11_faultAt_20 (by omega) (fun _ => ?_) (fun h9 => absurd h9 (by omega))
      obtain ⟨g1, g2, g3⟩ := f7 e1
      obtain ⟨b1, b2, b3⟩ := hfb.2.2 e1
      generalize hft : facT (fac a).2.1 (fac a).2.2.1 (fac a).2.2.2 = ft at *
      have g13 : I17 mo 13 = (P ++ ft).length := by rw [g1, v7]; simp
      have gar : ∀ (i : Nat) (v : Int), (P ++ ft)[i]? = some v → I17 (mo + 8) i = v := by
        intro i v hv
        by_cases e : i < P.length
        · rw [List.getElem?_append_left e] at hv
          rw [g2 i (by omega)]
          exact v8 i v hv
        · rw [List.getElem?_append_right (by omega)] at hv
          have := g3 (i - P.length) v hv
          rw [v7, show (P.length : Int) + ((i - P.length : Nat) : Int) = i by omega] at this
          exact this
      have hlen : ((P ++ ft).length : Int) ≤ (fac a).1 := by simp; omega
      -- the sign behind the factor
      have hgo : ∀ c, ch (I (mo + 4)) (I mo 5) (fac a).1 = c → isOp c → G X 76 [some (va_rf (some mo)), some (VI 1), o2] [VI (opT c)] T17 I17 J17 O17 0 0 := by
        intro c hc hop
        have hq := ch_in (X := I (mo + 4)) (L := I mo 5) (i := (fac a).1) (by omega)
        have hot : -3 ≤ opT c ∧ opT c ≤ -1 := by unfold opT; split; omega; split <;> omega
        have hpr : prs9 fac (I (mo + 4)) (I mo 5) (n + 1) sg a = ((prs9 fac (I (mo + 4)) (I mo 5) n c ((fac a).1 + 1)).1, (sg, (fac a).2.1, (fac a).2.2.1, (fac a).2.2.2) :: (prs9 fac (I (mo + 4)) (I mo 5) n c ((fac a).1 + 1)).2) := by
          conv => lhs; unfold prs9
          rw [if_neg e1, hc, if_pos hop]
        refine G_istore2 x eX11_faultAt_76 ?_
        refine G_iload2 x eX11_faultAt_77 ?_
        refine G_if_ge x eX11_faultAt_78 (by omega) (fun h9 => by omega) (fun _ => ?_)
        refine G_push x eX11_faultAt_81 ?_
        refine G_goto x eX11_faultAt_82 ?_
        refine G_istore1 x eX11_faultAt_86 ?_
        refine G_iload1 x eX11_faultAt_87 ?_
        refine G_if_eq x eX11_faultAt_88 (by omega) (fun h9 => absurd h9 (by omega)) (fun _ => ?_)
        refine G_aload0 x eX11_faultAt_91 ?_
        refine G_iload2 x eX11_faultAt_92 ?_
        refine G_cVv x eX11_faultAt_93 kX11_182 im_yX11_adds se_yX11_adds rm hM.m (ct_X11_adds hM (by omega) (by rw [g13]; omega) (by rw [g13]; omega)) rfl ?_
        refine G_rg (fun hr => ?_)
        rw [g13]
        generalize hM2 : uI (uI I17 (mo + 8) ((P ++ ft).length : Int) (opT c)) mo 13 (((P ++ ft).length : Int) + 1) = M2
        have v2' : ev M2 := by rw [← hM2]; exact ev13 _ _ (ev8 _ _ _ v17)
        have w14 : M2 mo 14 = (fac a).1 := by rw [← hM2, uI_k (by omega), uI_a (by omega)]; exact f6
        refine G_aload0 x eX11_faultAt_96 ?_
        refine G_dup x eX11_faultAt_97 (by first | rfl | exact cat_rf _) ?_
        refine G_geti x eX11_faultAt_98 fX11_173 rfl rfl hM.m (fun h98 => ?_)
        rw [w14]
        refine G_push x eX11_faultAt_101 ?_
        refine G_iadd x eX11_faultAt_102 ?_
        refine G_puti x eX11_faultAt_103 fX11_173 rfl (Or.inl rfl) rfl hM.m (by first | omega | exact hr _ _ | exact hr0 _ _) ?_
        refine G_rg (fun hr => ?_)
        refine G_goto x eX11_faultAt_106 ?_
        refine ih c _ (P ++ ft ++ [opT c]) _ _ (ev14 _ _ v2') uI_s (by omega) (by omega) (by omega) (by simp; simp at hlen; omega) ?_ ?_ (by rw [v9, hpr]) ?_
        · rw [uI_k (by omega), ← hM2, uI_s]; simp; omega
        · intro i v hv
          rw [uI_a (by omega), ← hM2, uI_a (by omega)]
          by_cases e : i < (P ++ ft).length
          · rw [List.getElem?_append_left e] at hv
            rw [uI_k (by omega)]
            exact gar i v hv
          · rw [List.getElem?_append_right (by omega)] at hv
            have hi : i - (P ++ ft).length = 0 := by have := (List.getElem?_eq_some_iff.mp hv).1; simp only [List.length_cons, List.length_nil] at this; omega
            rw [hi] at hv
            cases hv
            rw [show (i : Int) = ((P ++ ft).length : Int) by omega, uI_s]
        · intro h9
          have h10 : (prs9 fac (I (mo + 4)) (I mo 5) n c ((fac a).1 + 1)).1 = -1 := by rw [← h9, v9, hpr]
          obtain ⟨y, l, hl, hy⟩ := prs_hd hfn (by omega) h10
          rw [v10 h9, hpr]
          simp only
          rw [hl]
          show P ++ (facT _ _ _ ++ opT y.1 :: tks (y :: l)) = _
          rw [hft, hy]
          simp
      -- no sign: the end
      have hend : ¬ isOp (ch (I (mo + 4)) (I mo 5) (fac a).1) → G X 75 [some (va_rf (some mo)), some (VI 1), o2] [] T17 I17 J17 O17 0 0 := by
        intro hop
        have hpr : prs9 fac (I (mo + 4)) (I mo 5) (n + 1) sg a = (if (fac a).1 < I mo 5 then (fac a).1 else -1, [(sg, (fac a).2.1, (fac a).2.2.1, (fac a).2.2.2)]) := by
          conv => lhs; unfold prs9
          rw [if_neg e1, if_neg hop]
        have hp1 : (prsM I mo).1 = if (fac a).1 < I mo 5 then (fac a).1 else -1 := by rw [v9, hpr]
        refine G_push x eX11_faultAt_75 ?_
        refine G_istore2 x eX11_faultAt_76 ?_
        refine G_iload2 x eX11_faultAt_77 ?_
        refine G_if_ge x eX11_faultAt_78 (by omega) (fun _ => ?_) (fun h9 => absurd (Int.le_refl _) h9)
        refine G_push x eX11_faultAt_85 ?_
        refine G_istore1 x eX11_faultAt_86 ?_
        refine G_iload1 x eX11_faultAt_87 ?_
        refine G_if_eq x eX11_faultAt_88 (by omega) (fun _ => ?_) (fun h9 => absurd rfl h9)
        refine G_goto x eX11_faultAt_106 ?_
        refine G_iload1 x eX11_faultAt_12 ?_
        refine G_if_eq x eX11_faultAt_13 (by omega) (fun _ => ?_) (fun h9 => absurd rfl h9)
        refine G_aload0 x eX11_faultAt_109 ?_
        refine G_geti x eX11_faultAt_110 fX11_173 rfl rfl hM.m (fun h110 => ?_)
        rw [f6]
        refine G_aload0 x eX11_faultAt_113 ?_
        refine G_geti x eX11_faultAt_114 fX11_176 rfl rfl hM.m (fun h114 => ?_)
        rw [z2]
        refine G_icmp_ge x eX11_faultAt_117 (by first | omega | exact hr _ _ | exact hr0 _ _) (by first | omega | exact hr _ _ | exact hr0 _ _) (fun c117 => ?_) (fun c117 => ?_)
        · refine G_push x eX11_faultAt_127 ?_
          refine G_ireturn x en eX11_faultAt_128 (by omega) (by omega) ?_
          rw [if_neg (by omega)] at hp1
          refine ⟨rfl, rfl, rfl, by rw [hev] at v17; exact v17, by rw [hp1], by omega, fun h9 => ?_⟩
          have ht := v10 h9
          rw [hpr] at ht
          have ht2 : tks (prsM I mo).2 = P ++ ft := by rw [ht]; show P ++ facT _ _ _ = _; rw [hft]
          rw [ht2]
          exact ⟨g13, by omega, gar⟩
        · refine G_aload0 x eX11_faultAt_120 ?_
          refine G_geti x eX11_faultAt_121 fX11_173 rfl rfl hM.m (fun h121 => ?_)
          refine G_goto x eX11_faultAt_124 ?_
          refine G_ireturn x en eX11_faultAt_128 (by omega) (by omega) ?_
          rw [if_pos (by omega)] at hp1
          rw [f6]
          refine ⟨rfl, rfl, rfl, by rw [hev] at v17; exact v17, by rw [hp1], by omega, fun h9 => ?_⟩
          omega
      have hsg : ∀ c, 0 ≤ c → (if c ≤ ch (I17 (mo + 4)) (I17 mo 5) (I17 mo 14) ∧ ch (I17 (mo + 4)) (I17 mo 5) (I17 mo 14) ≤ c then (1 : Int) else 0) = if ch (I (mo + 4)) (I mo 5) (fac a).1 = c then 1 else 0 := by
        intro c _
        rw [z1, z2, f6]
        by_cases e : ch (I (mo + 4)) (I mo 5) (fac a).1 = c
        · rw [if_pos (by omega), if_pos e]
        · rw [if_neg (by omega), if_neg e]
      refine G_aload0 x eX11_faultAt_28 ?_
      refine G_push x eX11_faultAt_29 ?_
      refine G_push x eX11_faultAt_31 ?_
      refine G_cV x eX11_faultAt_33 kX11_179 im_yX11_isAt se_yX11_isAt rm hM.m (ct_X11_isAt hM (by omega) (by omega) (by rw [f6]; omega) (by rw [z2]; omega) (by omega)) rfl ?_
      rw [hsg 43 (by omega)]
      refine G_ifb_eq x eX11_faultAt_36 (fun c36 => ?_) (fun c36 => ?_)
      · refine G_aload0 x eX11_faultAt_43 ?_
        refine G_push x eX11_faultAt_44 ?_
        refine G_push x eX11_faultAt_46 ?_
        refine G_cV x eX11_faultAt_48 kX11_179 im_yX11_isAt se_yX11_isAt rm hM.m (ct_X11_isAt hM (by omega) (by omega) (by rw [f6]; omega) (by rw [z2]; omega) (by omega)) rfl ?_
        rw [hsg 45 (by omega)]
        refine G_ifb_eq x eX11_faultAt_51 (fun c51 => ?_) (fun c51 => ?_)
        · refine G_aload0 x eX11_faultAt_59 ?_
          refine G_push x eX11_faultAt_60 ?_
          refine G_push x eX11_faultAt_62 ?_
          refine G_cV x eX11_faultAt_64 kX11_179 im_yX11_isAt se_yX11_isAt rm hM.m (ct_X11_isAt hM (by omega) (by omega) (by rw [f6]; omega) (by rw [z2]; omega) (by omega)) rfl ?_
          rw [hsg 42 (by omega)]
          refine G_ifb_eq x eX11_faultAt_67 (fun c67 => ?_) (fun c67 => ?_)
          · exact hend (by omega)
          · refine G_push x eX11_faultAt_70 ?_
            refine G_goto x eX11_faultAt_72 ?_
            exact hgo 42 c67 (by omega)
        · refine G_push x eX11_faultAt_54 ?_
          refine G_goto x eX11_faultAt_56 ?_
          exact hgo 45 c51 (by omega)
      · refine G_push x eX11_faultAt_39 ?_
        refine G_goto x eX11_faultAt_40 ?_
        exact hgo 43 c36 (by omega)
  have hfin : ∀ M, ev M → M mo 14 = 0 → M mo 13 = 0 → ∀ o2, G X 12 [some (va_rf (some mo)), some (VI 1), o2] [] T M J O 0 0 := fun M m1 m2 m3 o2 => loop 13 43 0 [] M o2 m1 m2 (by omega) (by omega) (by omega) (by simp) (by rw [m3]; rfl) (fun i v hv => by cases hv) (by rw [hprs]) (fun _ => by rw [hprs]; rfl)
  refine G_aload0 x eX11_faultAt_0 ?_
  refine G_push x eX11_faultAt_1 ?_
  refine G_puti x eX11_faultAt_2 fX11_173 rfl (Or.inl rfl) rfl hM.m (by first | omega | exact hr _ _ | exact hr0 _ _) ?_
  refine G_rg (fun hr => ?_)
  refine G_aload0 x eX11_faultAt_5 ?_
  refine G_push x eX11_faultAt_6 ?_
  refine G_puti x eX11_faultAt_7 fX11_170 rfl (Or.inl rfl) rfl hM.m (by first | omega | exact hr _ _ | exact hr0 _ _) ?_
  refine G_rg (fun hr => ?_)
  refine G_push x eX11_faultAt_10 ?_
  refine G_istore1 x eX11_faultAt_11 ?_
  exact hfin _ (ev13 _ _ (ev14 _ _ ev0)) (by rw [uI_k (by omega), uI_s]) uI_s _
