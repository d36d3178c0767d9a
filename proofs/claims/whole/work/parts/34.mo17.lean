/-- the signs of a factor -/
def facT (k f s : Int) : List Int := if k = 0 then [f] else if k = 1 then [10000 + f] else [-4, 10000 + f, 10000 + s]
/-- a list written into a row from a place on -/
def wrL (I : gI) (a : Nat) : Int → List Int → gI
  | _, [] => I
  | k, v :: l => uI (wrL I a (k + 1) l) a k v
theorem nmP_b {X rF cF : Int → Int} {L rN cN a : Int} : a ≤ (nmP X L rF rN cF cN a).1 ∧ (nmP X L rF rN cF cN a).1 ≤ a + 2 ∧ ((nmP X L rF rN cF cN a).2 ≠ -1 → (nmP X L rF rN cF cN a).1 = a + 2 ∧ a + 2 ≤ L) := by
  unfold nmP
  split
  · next h =>
    split
    · next h2 =>
      have := ch_in (X := X) (L := L) (i := a + 1) (by omega)
      exact ⟨by simp only; omega, by simp only; omega, fun _ => ⟨rfl, by omega⟩⟩
    · exact ⟨by simp only; omega, by simp only; omega, fun h => absurd rfl h⟩
  · exact ⟨by simp only; omega, by simp only; omega, fun h => absurd rfl h⟩
theorem nmI_o {I : gI} {mo b : Nat} {j : Int} (h : b ≠ mo + 8) (h2 : b ≠ mo ∨ (j ≠ 13 ∧ j ≠ 14)) : nmI I mo b j = I b j := by
  unfold nmI
  split
  · rcases h2 with h2 | h2
    · rw [uI_a h2]
    · rw [uI_k h2.2]
  · rcases h2 with h2 | h2
    · rw [uI_a h2, uI_a h2, uI_a h]
    · rw [uI_k h2.2, uI_k h2.1, uI_a h]
theorem nmI_14 {I : gI} {mo : Nat} : nmI I mo mo 14 = (nmP (I (mo + 4)) (I mo 5) (I (mo + 5)) (I mo 9) (I (mo + 6)) (I mo 10) (I mo 14)).1 := by
  unfold nmI
  split <;> rw [uI_s]
theorem nmI_13 {I : gI} {mo : Nat} : nmI I mo mo 13 = if (nmP (I (mo + 4)) (I mo 5) (I (mo + 5)) (I mo 9) (I (mo + 6)) (I mo 10) (I mo 14)).2 = -1 then I mo 13 else I mo 13 + 1 := by
  unfold nmI
  split
  · rw [uI_k (by omega)]
  · rw [uI_k (by omega), uI_s]
theorem nmD_b {X : Int → Int} {L : Int} (k : Nat) (a v : Int) (ha : a ≤ L) : a ≤ (nmD X L k a v).1 ∧ (nmD X L k a v).1 ≤ L := by
  induction k generalizing a v with
  | zero => exact ⟨Int.le_refl _, ha⟩
  | succ k ih =>
    unfold nmD
    split
    · next h =>
      have := ch_in (X := X) (L := L) (i := a) (by omega)
      have h5 := ih (a + 1) (10 * v + ch X L a - 48) (by omega)
      exact ⟨by omega, h5.2⟩
    · exact ⟨Int.le_refl _, ha⟩
theorem nmD_1 {X : Int → Int} {L a v : Int} {k : Nat} (h : 48 ≤ ch X L a ∧ ch X L a ≤ 57) : a + 1 ≤ (nmD X L (k + 1) a v).1 := by
  have := ch_in (X := X) (L := L) (i := a) (by omega)
  unfold nmD
  rw [if_pos h]
  exact (nmD_b k (a + 1) _ (by omega)).1
abbrev mFac (I : gI) (mo : Nat) : Int × Int × Int × Int := facP (I (mo + 4)) (I mo 5) (I (mo + 5)) (I mo 9) (I (mo + 6)) (I mo 10) (I mo 14)
def facQ (T : gT) (I : gI) (J : gJ) (O : gO) (mo : Nat) : gP := fun v T' I' J' O' => T' = T ∧ J' = J ∧ O' = O ∧ (∀ b j, b ≠ mo + 8 → (b ≠ mo ∨ (j ≠ 13 ∧ j ≠ 14)) → I' b j = I b j) ∧ v = some (VI (if (mFac I mo).2.1 = -1 then 0 else 1)) ∧ I' mo 14 = (mFac I mo).1 ∧ ((mFac I mo).2.1 ≠ -1 → I' mo 13 = I mo 13 + (facT (mFac I mo).2.1 (mFac I mo).2.2.1 (mFac I mo).2.2.2).length ∧ (∀ j, j < I mo 13 → I' (mo + 8) j = I (mo + 8) j) ∧ ∀ (i : Nat) (v : Int), (facT (mFac I mo).2.1 (mFac I mo).2.2.1 (mFac I mo).2.2.2)[i]? = some v → I' (mo + 8) (I mo 13 + i) = v)
set_option maxHeartbeats 4000000 in
set_option maxRecDepth 20000 in
theorem ct_X11_isFactor {T : gT} {I : gI} {J : gJ} {O : gO} {mo : Nat} (hM : MoAt T O mo) (h2 : 0 ≤ I mo 14) (h2b : I mo 14 ≤ I mo 5) (h3 : I mo 5 ≤ 24) (h4 : lnIn (I (mo + 5)) (I mo 9)) (h5 : lnIn (I (mo + 6)) (I mo 10)) (h6 : 0 ≤ I mo 13) (h7 : I mo 13 ≤ I mo 14) : Ct yX11_isFactor cX11_isFactor 3 (some .boolean) [va_rf (some mo)] 3 66 0 0 T I J O (facQ T I J O mo) := by
  refine Ct.of (by decide) [some (va_rf (some mo)), none, none] (gEn1 (List.forall_mem_cons.mpr ⟨cat_VR _, fun _ h => nomatch h⟩) rfl (Nat.le_of_ble_eq_true rfl) rfl) ?_
  intro X x en rm ini hr hz
  have hr0 := hr
  have loop : ∀ (d : Nat) (k : Nat) (v a : Int), d = 4 - k → k ≤ 4 → 0 ≤ v → v ≤ 9999 → (k ≤ 3 → v ≤ 999) → (k ≤ 2 → v ≤ 99) → (k ≤ 1 → v ≤ 9) → (k ≤ 0 → v ≤ 0) → I mo 14 ≤ a → a ≤ I mo 5 → nmD (I (mo + 4)) (I mo 5) (4 - k) a v = nmD (I (mo + 4)) (I mo 5) 4 (I mo 14) 0 → (48 ≤ ch (I (mo + 4)) (I mo 5) (I mo 14) ∧ ch (I (mo + 4)) (I mo 5) (I mo 14) ≤ 57) → G X 15 [some (va_rf (some mo)), some (VI v), some (VI (k : Int))] [] T (uI I mo 14 a) J O 0 0 := by
    intro d
    induction d using Nat.strongRecOn with
    | ind d ih =>
    intro k v a hd hk v0 v1 v2 v3 v4 v5 a0 a1 hnm hdg
    have m14 : uI I mo 14 a mo 14 = a := uI_s
    have m5 : uI I mo 14 a mo 5 = I mo 5 := uI_k (by omega)
    have m13 : uI I mo 14 a mo 13 = I mo 13 := uI_k (by omega)
    have mr : ∀ b, b ≠ mo → uI I mo 14 a b = I b := fun b hb => funext fun j => uI_a hb j
    have hend : nmD (I (mo + 4)) (I mo 5) 4 (I mo 14) 0 = (a, v) → G X 65 [some (va_rf (some mo)), some (VI v), some (VI (k : Int))] [] T (uI I mo 14 a) J O 0 0 := by
      intro he
      have ha1 := nmD_1 (k := 3) (v := 0) hdg
      rw [he] at ha1
      simp only at ha1
      have hF : mFac I mo = (a, 0, v, 0) := by unfold mFac facP; rw [if_pos hdg, he]
      refine G_aload0 x eX11_isFactor_65 ?_
      refine G_iload1 x eX11_isFactor_66 ?_
      refine G_cVv x eX11_isFactor_67 kX11_182 im_yX11_adds se_yX11_adds rm hM.m (ct_X11_adds hM (by omega) (by rw [m13]; omega) (by rw [m13]; omega)) rfl ?_
      refine G_rg (fun hr => ?_)
      refine G_push x eX11_isFactor_70 ?_
      refine G_zreturn x en eX11_isFactor_71 (by omega) (by omega) ?_ ?_
      · right; rfl
      · rw [m13]
        refine ⟨rfl, rfl, rfl, fun b j b1 b2 => ?_, by rw [hF]; rfl, ?_, fun _ => ?_⟩
        · rcases b2 with b2 | b2
          · rw [uI_a b2, uI_a b1, uI_a b2]
          · rw [uI_k b2.1, uI_a b1, uI_k b2.2]
        · rw [uI_k (by omega), uI_a (by omega), uI_s, hF]
        · rw [hF]
          refine ⟨uI_s, fun j hj => by rw [uI_a (by omega), uI_k (by omega), uI_a (by omega)], fun i w hw => ?_⟩
          simp only [facT, ↓reduceIte] at hw
          match i, hw with
          | 0, hw => cases hw; rw [uI_a (by omega), show I mo 13 + ((0 : Nat) : Int) = I mo 13 by omega]; exact uI_s
    refine G_iload2 x eX11_isFactor_15 ?_
    refine G_push x eX11_isFactor_16 ?_
    refine G_icmp_ge x eX11_isFactor_17 (by first | omega | exact hr _ _ | exact hr0 _ _) (by first | omega | exact hr _ _ | exact hr0 _ _) (fun c17 => ?_) (fun c17 => ?_)
    · refine hend ?_
      rw [← hnm, show 4 - k = 0 by omega]
      rfl
    · refine G_aload0 x eX11_isFactor_20 ?_
      refine G_push x eX11_isFactor_21 ?_
      refine G_push x eX11_isFactor_23 ?_
      refine G_cV x eX11_isFactor_25 kX11_179 im_yX11_isAt se_yX11_isAt rm hM.m (ct_X11_isAt hM (by omega) (by omega) (by rw [m14]; omega) (by rw [m5]; omega) (by omega)) rfl ?_
      rw [mr _ (by omega), m5, m14]
      refine G_ifb_eq x eX11_isFactor_28 (fun c28 => ?_) (fun c28 => ?_)
      · refine hend ?_
        rw [← hnm, show 4 - k = (3 - k) + 1 by omega]
        unfold nmD
        rw [if_neg c28]
      · have hc := ch_in (X := I (mo + 4)) (L := I mo 5) (i := a) (by omega)
        refine G_push x eX11_isFactor_31 ?_
        refine G_iload1 x eX11_isFactor_33 ?_
        refine G_imul x eX11_isFactor_34 ?_
        refine G_aload0 x eX11_isFactor_35 ?_
        refine G_getq x eX11_isFactor_36 fX11_19 rfl rfl hM.m hM.o_text ?_
        refine G_aload0 x eX11_isFactor_39 ?_
        refine G_geti x eX11_isFactor_40 fX11_173 rfl rfl hM.m (fun h40 => ?_)
        rw [m14]
        refine G_iald x eX11_isFactor_43 rfl hM.t_text (by omega) (by omega) (by omega) (fun h43 => ?_)
        rw [uI_a (by omega)] at h43 ⊢
        refine G_iadd x eX11_isFactor_44 ?_
        refine G_push x eX11_isFactor_45 ?_
        refine G_isub x eX11_isFactor_47 ?_
        refine G_istore1 x eX11_isFactor_48 ?_
        refine G_aload0 x eX11_isFactor_49 ?_
        refine G_dup x eX11_isFactor_50 (by first | rfl | exact cat_rf _) ?_
        refine G_geti x eX11_isFactor_51 fX11_173 rfl rfl hM.m (fun h51 => ?_)
        rw [m14]
        refine G_push x eX11_isFactor_54 ?_
        refine G_iadd x eX11_isFactor_55 ?_
        refine G_puti x eX11_isFactor_56 fX11_173 rfl (Or.inl rfl) rfl hM.m (by first | omega | exact hr _ _ | exact hr0 _ _) ?_
        refine G_rg (fun hr => ?_)
        rw [uI_uI]
        refine G_iinc2 x eX11_isFactor_59 ?_
        refine G_goto x eX11_isFactor_62 ?_
        refine ih _ (by omega) (k + 1) _ _ rfl (by omega) (by omega) (by omega) (by omega) (by omega) (by omega) (by omega) (by omega) (by omega) ?_ hdg
        rw [← hnm, show 4 - k = (4 - (k + 1)) + 1 by omega]
        conv => rhs; unfold nmD
        rw [if_pos c28, hc.2.2]
  refine G_aload0 x eX11_isFactor_0 ?_
  refine G_push x eX11_isFactor_1 ?_
  refine G_push x eX11_isFactor_3 ?_
  refine G_cV x eX11_isFactor_5 kX11_179 im_yX11_isAt se_yX11_isAt rm hM.m (ct_X11_isAt hM (by omega) (by omega) (by omega) (by omega) (by omega)) rfl ?_
  refine G_ifb_eq x eX11_isFactor_8 (fun c8 => ?_) (fun c8 => ?_)
  · obtain ⟨ev, hev⟩ : ∃ ev : gI → Prop, ev = fun M => ∀ b j, b ≠ mo + 8 → (b ≠ mo ∨ (j ≠ 13 ∧ j ≠ 14)) → M b j = I b j := ⟨_, rfl⟩
    have hrow : ∀ M, ev M → M (mo + 4) = I (mo + 4) ∧ M mo 5 = I mo 5 ∧ M (mo + 5) = I (mo + 5) ∧ M mo 9 = I mo 9 ∧ M (mo + 6) = I (mo + 6) ∧ M mo 10 = I mo 10 := by
      intro M hM9
      rw [hev] at hM9
      exact ⟨funext fun j => hM9 _ j (by omega) (by omega), hM9 _ _ (by omega) (by omega), funext fun j => hM9 _ j (by omega) (by omega), hM9 _ _ (by omega) (by omega), funext fun j => hM9 _ j (by omega) (by omega), hM9 _ _ (by omega) (by omega)⟩
    have ev14 : ∀ M x, ev M → ev (uI M mo 14 x) := fun M x h => by rw [hev] at h ⊢; exact fun b j b1 b2 => by rw [show uI M mo 14 x b j = M b j by rcases b2 with b2 | b2; exact uI_a b2 j; exact uI_k b2.2]; exact h b j b1 b2
    have ev13 : ∀ M x, ev M → ev (uI M mo 13 x) := fun M x h => by rw [hev] at h ⊢; exact fun b j b1 b2 => by rw [show uI M mo 13 x b j = M b j by rcases b2 with b2 | b2; exact uI_a b2 j; exact uI_k b2.1]; exact h b j b1 b2
    have ev8 : ∀ M k x, ev M → ev (uI M (mo + 8) k x) := fun M k x h => by rw [hev] at h ⊢; exact fun b j b1 b2 => by rw [uI_a b1]; exact h b j b1 b2
    have evn : ∀ M, ev M → ev (nmI M mo) := fun M h => by rw [hev] at h ⊢; exact fun b j b1 b2 => by rw [nmI_o b1 b2]; exact h b j b1 b2
    have ev0 : ev I := by rw [hev]; exact fun b j _ _ => rfl
    have hln : ∀ M, ev M → lnIn (M (mo + 5)) (M mo 9) ∧ lnIn (M (mo + 6)) (M mo 10) := fun M h => by rw [(hrow M h).2.2.1, (hrow M h).2.2.2.1, (hrow M h).2.2.2.2.1, (hrow M h).2.2.2.2.2]; exact ⟨h4, h5⟩
    have hbad : ∀ M, ev M → M mo 14 = (mFac I mo).1 → (mFac I mo).2.1 = -1 → ∀ Ls, G X 132 Ls [] T M J O 0 0 := by
      intro M h h14 hF Ls
      refine G_push x eX11_isFactor_132 ?_
      refine G_zreturn x en eX11_isFactor_133 (by omega) (by omega) ?_ ?_
      · left; rfl
      · exact ⟨rfl, rfl, rfl, by rw [hev] at h; exact h, by rw [if_pos hF], h14, fun h9 => absurd hF h9⟩
    have hF0 : mFac I mo = if ch (I (mo + 4)) (I mo 5) (I mo 14) = 83 then sumP (I (mo + 4)) (I mo 5) (I (mo + 5)) (I mo 9) (I (mo + 6)) (I mo 10) (I mo 14) else celP (I (mo + 4)) (I mo 5) (I (mo + 5)) (I mo 9) (I (mo + 6)) (I mo 10) (I mo 14) := by unfold mFac facP; rw [if_neg c8]
    refine G_aload0 x eX11_isFactor_72 ?_
    refine G_push x eX11_isFactor_73 ?_
    refine G_cV x eX11_isFactor_75 kX11_185 im_yX11_takes se_yX11_takes rm hM.m (ct_X11_takes hM (by omega) (by omega) (by omega) (by omega)) rfl ?_
    by_cases e1 : ch (I (mo + 4)) (I mo 5) (I mo 14) = 83
    · rw [if_pos e1] at hF0 ⊢
      have q1 := ch_in (X := I (mo + 4)) (L := I mo 5) (i := I mo 14) (by omega)
      unfold sumP at hF0
      refine G_if_eq x eX11_isFactor_78 (by omega) (fun h9 => absurd h9 (by omega)) (fun _ => ?_)
      have m13 : uI I mo 14 (I mo 14 + 1) mo 13 = I mo 13 := uI_k (by omega)
      refine G_aload0 x eX11_isFactor_81 ?_
      refine G_push x eX11_isFactor_82 ?_
      refine G_cVv x eX11_isFactor_84 kX11_182 im_yX11_adds se_yX11_adds rm hM.m (ct_X11_adds hM (by omega) (by rw [m13]; omega) (by rw [m13]; omega)) rfl ?_
      refine G_rg (fun hr => ?_)
      rw [m13]
      generalize hM2 : uI (uI (uI I mo 14 (I mo 14 + 1)) (mo + 8) (I mo 13) (-4)) mo 13 (I mo 13 + 1) = M2
      have v2 : ev M2 := by rw [← hM2]; exact ev13 _ _ (ev8 _ _ _ (ev14 _ _ ev0))
      have w2 : M2 mo 14 = I mo 14 + 1 := by rw [← hM2, uI_k (by omega), uI_a (by omega), uI_s]
      have x2 : M2 mo 13 = I mo 13 + 1 := by rw [← hM2, uI_s]
      have y2 : (∀ j, j < I mo 13 → M2 (mo + 8) j = I (mo + 8) j) ∧ M2 (mo + 8) (I mo 13) = -4 := by rw [← hM2]; exact ⟨fun j hj => by rw [uI_a (by omega), uI_k (by omega), uI_a (by omega)], by rw [uI_a (by omega), uI_s]⟩
      obtain ⟨z1, z2, z3, z4, z5, z6⟩ := hrow M2 v2
      refine G_aload0 x eX11_isFactor_87 ?_
      refine G_push x eX11_isFactor_88 ?_
      refine G_cV x eX11_isFactor_90 kX11_185 im_yX11_takes se_yX11_takes rm hM.m (ct_X11_takes hM (by omega) (by rw [w2]; omega) (by rw [z2]; omega) (by omega)) rfl ?_
      rw [z1, z2, w2]
      by_cases e2 : ch (I (mo + 4)) (I mo 5) (I mo 14 + 1) = 40
      · rw [if_pos e2] at hF0 ⊢
        refine G_if_eq x eX11_isFactor_93 (by omega) (fun h9 => absurd h9 (by omega)) (fun _ => ?_)
        have q2 := ch_in (X := I (mo + 4)) (L := I mo 5) (i := I mo 14 + 1) (by omega)
        generalize hM3 : uI M2 mo 14 (I mo 14 + 1 + 1) = M3
        have v3 : ev M3 := by rw [← hM3]; exact ev14 _ _ v2
        have w3 : M3 mo 14 = I mo 14 + 2 := by rw [← hM3, uI_s]; omega
        have x3 : M3 mo 13 = I mo 13 + 1 := by rw [← hM3, uI_k (by omega)]; exact x2
        have y3 : (∀ j, j < I mo 13 → M3 (mo + 8) j = I (mo + 8) j) ∧ M3 (mo + 8) (I mo 13) = -4 := by rw [← hM3]; exact ⟨fun j hj => by rw [uI_a (by omega)]; exact y2.1 j hj, by rw [uI_a (by omega)]; exact y2.2⟩
        obtain ⟨z1, z2, z3, z4, z5, z6⟩ := hrow M3 v3
        have hnb := nmP_b (X := I (mo + 4)) (L := I mo 5) (rF := I (mo + 5)) (rN := I mo 9) (cF := I (mo + 6)) (cN := I mo 10) (a := I mo 14 + 2)
        have hnm : nmP (M3 (mo + 4)) (M3 mo 5) (M3 (mo + 5)) (M3 mo 9) (M3 (mo + 6)) (M3 mo 10) (M3 mo 14) = nmP (I (mo + 4)) (I mo 5) (I (mo + 5)) (I mo 9) (I (mo + 6)) (I mo 10) (I mo 14 + 2) := by rw [z1, z2, z3, z4, z5, z6, w3]
        refine G_aload0 x eX11_isFactor_96 ?_
        refine G_cV x eX11_isFactor_97 kX11_188 im_yX11_isNamed se_yX11_isNamed rm hM.m (ct_X11_isNamed hM (by rw [w3]; omega) (by rw [z2]; omega) (hln M3 v3).1 (hln M3 v3).2 (by rw [x3]; omega) (by rw [x3, w3]; omega)) rfl ?_
        rw [hnm]
        generalize hn : nmP (I (mo + 4)) (I mo 5) (I (mo + 5)) (I mo 9) (I (mo + 6)) (I mo 10) (I mo 14 + 2) = nm at *
        by_cases e3 : nm.2 = -1
        · rw [if_pos e3] at hF0 ⊢
          refine G_if_eq x eX11_isFactor_100 (by omega) (fun _ => ?_) (fun h9 => absurd rfl h9)
          exact hbad _ (evn _ v3) (by rw [nmI_14, hnm, hF0]) (by rw [hF0]) _
        · rw [if_neg e3] at hF0 ⊢
          refine G_if_eq x eX11_isFactor_100 (by omega) (fun h9 => absurd h9 (by omega)) (fun _ => ?_)
          have hnb2 := hnb.2.2 e3
          generalize hM4 : nmI M3 mo = M4
          have v4 : ev M4 := by rw [← hM4]; exact evn _ v3
          have w4 : M4 mo 14 = I mo 14 + 4 := by rw [← hM4, nmI_14, hnm, hnb2.1]; omega
          have x4 : M4 mo 13 = I mo 13 + 2 := by rw [← hM4, nmI_13, hnm, if_neg e3, x3]; omega
          have y4 : (∀ j, j < I mo 13 → M4 (mo + 8) j = I (mo + 8) j) ∧ M4 (mo + 8) (I mo 13) = -4 ∧ M4 (mo + 8) (I mo 13 + 1) = 10000 + nm.2 := by
            rw [← hM4]
            unfold nmI
            rw [hnm, if_neg e3, x3]
            refine ⟨fun j hj => ?_, ?_, ?_⟩
            · rw [uI_a (by omega), uI_a (by omega), uI_k (by omega)]; exact y3.1 j hj
            · rw [uI_a (by omega), uI_a (by omega), uI_k (by omega)]; exact y3.2
            · rw [uI_a (by omega), uI_a (by omega), uI_s]
          obtain ⟨z1, z2, z3, z4, z5, z6⟩ := hrow M4 v4
          refine G_aload0 x eX11_isFactor_103 ?_
          refine G_push x eX11_isFactor_104 ?_
          refine G_cV x eX11_isFactor_106 kX11_185 im_yX11_takes se_yX11_takes rm hM.m (ct_X11_takes hM (by omega) (by rw [w4]; omega) (by rw [z2]; omega) (by omega)) rfl ?_
          rw [z1, z2, w4]
          by_cases e4 : ch (I (mo + 4)) (I mo 5) (I mo 14 + 4) = 58
          · rw [if_pos e4] at hF0 ⊢
            refine G_if_eq x eX11_isFactor_109 (by omega) (fun h9 => absurd h9 (by omega)) (fun _ => ?_)
            have q4 := ch_in (X := I (mo + 4)) (L := I mo 5) (i := I mo 14 + 4) (by omega)
            generalize hM5 : uI M4 mo 14 (I mo 14 + 4 + 1) = M5
            have v5 : ev M5 := by rw [← hM5]; exact ev14 _ _ v4
            have w5 : M5 mo 14 = I mo 14 + 5 := by rw [← hM5, uI_s]; omega
            have x5 : M5 mo 13 = I mo 13 + 2 := by rw [← hM5, uI_k (by omega)]; exact x4
            have y5 : ∀ j, M5 (mo + 8) j = M4 (mo + 8) j := fun j => by rw [← hM5, uI_a (by omega)]
            obtain ⟨z1, z2, z3, z4, z5, z6⟩ := hrow M5 v5
            have hnbb := nmP_b (X := I (mo + 4)) (L := I mo 5) (rF := I (mo + 5)) (rN := I mo 9) (cF := I (mo + 6)) (cN := I mo 10) (a := I mo 14 + 5)
            have hnm2 : nmP (M5 (mo + 4)) (M5 mo 5) (M5 (mo + 5)) (M5 mo 9) (M5 (mo + 6)) (M5 mo 10) (M5 mo 14) = nmP (I (mo + 4)) (I mo 5) (I (mo + 5)) (I mo 9) (I (mo + 6)) (I mo 10) (I mo 14 + 5) := by rw [z1, z2, z3, z4, z5, z6, w5]
            refine G_aload0 x eX11_isFactor_112 ?_
            refine G_cV x eX11_isFactor_113 kX11_188 im_yX11_isNamed se_yX11_isNamed rm hM.m (ct_X11_isNamed hM (by rw [w5]; omega) (by rw [z2]; omega) (hln M5 v5).1 (hln M5 v5).2 (by rw [x5]; omega) (by rw [x5, w5]; omega)) rfl ?_
            rw [hnm2]
            generalize hn2 : nmP (I (mo + 4)) (I mo 5) (I (mo + 5)) (I mo 9) (I (mo + 6)) (I mo 10) (I mo 14 + 5) = nm2 at *
            by_cases e5 : nm2.2 = -1
            · rw [if_pos e5] at hF0 ⊢
              refine G_if_eq x eX11_isFactor_116 (by omega) (fun _ => ?_) (fun h9 => absurd rfl h9)
              exact hbad _ (evn _ v5) (by rw [nmI_14, hnm2, hF0]) (by rw [hF0]) _
            · rw [if_neg e5] at hF0 ⊢
              refine G_if_eq x eX11_isFactor_116 (by omega) (fun h9 => absurd h9 (by omega)) (fun _ => ?_)
              have hnb3 := hnbb.2.2 e5
              generalize hM6 : nmI M5 mo = M6
              have v6 : ev M6 := by rw [← hM6]; exact evn _ v5
              have w6 : M6 mo 14 = I mo 14 + 7 := by rw [← hM6, nmI_14, hnm2, hnb3.1]; omega
              have x6 : M6 mo 13 = I mo 13 + 3 := by rw [← hM6, nmI_13, hnm2, if_neg e5, x5]; omega
              have y6 : (∀ j, j < I mo 13 + 2 → M6 (mo + 8) j = M4 (mo + 8) j) ∧ M6 (mo + 8) (I mo 13 + 2) = 10000 + nm2.2 := by
                rw [← hM6]
                unfold nmI
                rw [hnm2, if_neg e5, x5]
                refine ⟨fun j hj => ?_, ?_⟩
                · rw [uI_a (by omega), uI_a (by omega), uI_k (by omega)]; exact y5 j
                · rw [uI_a (by omega), uI_a (by omega), uI_s]
              obtain ⟨z1, z2, z3, z4, z5, z6⟩ := hrow M6 v6
              refine G_aload0 x eX11_isFactor_119 ?_
              refine G_push x eX11_isFactor_120 ?_
              refine G_cV x eX11_isFactor_122 kX11_185 im_yX11_takes se_yX11_takes rm hM.m (ct_X11_takes hM (by omega) (by rw [w6]; omega) (by rw [z2]; omega) (by omega)) rfl ?_
              rw [z1, z2, w6]
              by_cases e6 : ch (I (mo + 4)) (I mo 5) (I mo 14 + 7) = 41
              · rw [if_pos e6] at hF0 ⊢
                refine G_if_eq x eX11_isFactor_125 (by omega) (fun h9 => absurd h9 (by omega)) (fun _ => ?_)
                refine G_push x eX11_isFactor_128 ?_
                refine G_goto x eX11_isFactor_129 ?_
                refine G_zreturn x en eX11_isFactor_133 (by omega) (by omega) ?_ ?_
                · right; rfl
                · refine ⟨rfl, rfl, rfl, by have := ev14 _ (I mo 14 + 7 + 1) v6; rw [hev] at this; exact this, by rw [hF0]; rfl, by rw [hF0, uI_s]; simp only; omega, fun _ => ?_⟩
                  rw [hF0]
                  refine ⟨by rw [uI_k (by omega), x6]; rfl, fun j hj => by rw [uI_a (by omega), y6.1 j (by omega)]; exact y4.1 j hj, fun i w hw => ?_⟩
                  rw [uI_a (by omega)]
                  match i, hw with
                  | 0, hw => cases hw; rw [show I mo 13 + ((0 : Nat) : Int) = I mo 13 by omega, y6.1 _ (by omega)]; exact y4.2.1
                  | 1, hw => cases hw; rw [show I mo 13 + ((1 : Nat) : Int) = I mo 13 + 1 by omega, y6.1 _ (by omega)]; exact y4.2.2
                  | 2, hw => cases hw; rw [show I mo 13 + ((2 : Nat) : Int) = I mo 13 + 2 by omega]; exact y6.2
              · rw [if_neg e6] at hF0 ⊢
                refine G_if_eq x eX11_isFactor_125 (by omega) (fun _ => ?_) (fun h9 => absurd rfl h9)
                exact hbad _ (ev14 _ _ v6) (by rw [uI_s, hF0]; simp only; omega) (by rw [hF0]) _
          · rw [if_neg e4] at hF0 ⊢
            refine G_if_eq x eX11_isFactor_109 (by omega) (fun _ => ?_) (fun h9 => absurd rfl h9)
            exact hbad _ (ev14 _ _ v4) (by rw [uI_s, hF0]; simp only; omega) (by rw [hF0]) _
      · rw [if_neg e2] at hF0 ⊢
        refine G_if_eq x eX11_isFactor_93 (by omega) (fun _ => ?_) (fun h9 => absurd rfl h9)
        exact hbad _ (ev14 _ _ v2) (by rw [uI_s, hF0]; simp only; omega) (by rw [hF0]) _
    · rw [if_neg e1, Int.add_zero, uI_id rfl] 
      rw [if_neg e1] at hF0
      unfold celP at hF0
      refine G_if_eq x eX11_isFactor_78 (by omega) (fun _ => ?_) (fun h9 => absurd rfl h9)
      refine G_aload0 x eX11_isFactor_134 ?_
      refine G_cV x eX11_isFactor_135 kX11_188 im_yX11_isNamed se_yX11_isNamed rm hM.m (ct_X11_isNamed hM h2 h3 h4 h5 h6 h7) rfl ?_
      refine G_zreturn x en eX11_isFactor_138 (by omega) (by omega) ?_ ?_
      · split <;> omega
      · generalize hn : nmP (I (mo + 4)) (I mo 5) (I (mo + 5)) (I mo 9) (I (mo + 6)) (I mo 10) (I mo 14) = nm at *
        by_cases en1 : nm.2 = -1
        · rw [if_pos en1] at hF0 ⊢
          refine ⟨rfl, rfl, rfl, by have := evn I ev0; rw [hev] at this; exact this, by rw [hF0]; rfl, by rw [hF0, nmI_14, hn], fun h9 => absurd (by rw [hF0]) h9⟩
        · rw [if_neg en1] at hF0 ⊢
          refine ⟨rfl, rfl, rfl, by have := evn I ev0; rw [hev] at this; exact this, by rw [hF0]; rfl, by rw [hF0, nmI_14, hn], fun _ => ?_⟩
          rw [hF0]
          unfold nmI
          rw [hn, if_neg en1]
          refine ⟨by rw [uI_k (by omega), uI_s]; rfl, fun j hj => by rw [uI_a (by omega), uI_a (by omega), uI_k (by omega)], fun i w hw => ?_⟩
          match i, hw with
          | 0, hw => cases hw; rw [uI_a (by omega), uI_a (by omega), show I mo 13 + ((0 : Nat) : Int) = I mo 13 by omega, uI_s]
  · refine G_push x eX11_isFactor_11 ?_
    refine G_istore1 x eX11_isFactor_12 ?_
    refine G_push x eX11_isFactor_13 ?_
    refine G_istore2 x eX11_isFactor_14 ?_
    have hx := loop _ 0 0 (I mo 14) rfl (by omega) (by omega) (by omega) (by omega) (by omega) (by omega) (by omega) (by omega) (by omega) rfl c8
    rw [uI_id rfl] at hx
    exact hx
