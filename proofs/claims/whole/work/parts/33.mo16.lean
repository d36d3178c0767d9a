/-! reading a text: characters X, L of them; rows and columns as they are shown -/
def ch (X : Int → Int) (L i : Int) : Int := if 0 ≤ i ∧ i < L then X i else -1
def nmP (X : Int → Int) (L : Int) (rF : Int → Int) (rN : Int) (cF : Int → Int) (cN : Int) (a : Int) : Int × Int :=
  if 65 ≤ ch X L a ∧ ch X L a < 65 + cN then (if 49 ≤ ch X L (a + 1) ∧ ch X L (a + 1) ≤ 57 ∧ ch X L (a + 1) - 49 < rN then (a + 2, 12 * rF (ch X L (a + 1) - 49) + cF (ch X L a - 65)) else (a + 1, -1)) else (a, -1)
def nmD (X : Int → Int) (L : Int) : Nat → Int → Int → Int × Int
  | 0, a, v => (a, v)
  | k + 1, a, v => if 48 ≤ ch X L a ∧ ch X L a ≤ 57 then nmD X L k (a + 1) (10 * v + ch X L a - 48) else (a, v)
/-- a sum, from its S on -/
def sumP (X : Int → Int) (L : Int) (rF : Int → Int) (rN : Int) (cF : Int → Int) (cN : Int) (a : Int) : Int × Int × Int × Int :=
  if ch X L (a + 1) = 40 then
    if (nmP X L rF rN cF cN (a + 2)).2 = -1 then ((nmP X L rF rN cF cN (a + 2)).1, -1, 0, 0)
    else if ch X L (a + 4) = 58 then
      if (nmP X L rF rN cF cN (a + 5)).2 = -1 then ((nmP X L rF rN cF cN (a + 5)).1, -1, 0, 0)
      else if ch X L (a + 7) = 41 then (a + 8, 2, (nmP X L rF rN cF cN (a + 2)).2, (nmP X L rF rN cF cN (a + 5)).2)
      else (a + 7, -1, 0, 0)
    else (a + 4, -1, 0, 0)
  else (a + 1, -1, 0, 0)
def celP (X : Int → Int) (L : Int) (rF : Int → Int) (rN : Int) (cF : Int → Int) (cN : Int) (a : Int) : Int × Int × Int × Int :=
  if (nmP X L rF rN cF cN a).2 = -1 then ((nmP X L rF rN cF cN a).1, -1, 0, 0) else ((nmP X L rF rN cF cN a).1, 1, (nmP X L rF rN cF cN a).2, (nmP X L rF rN cF cN a).2)
/-- a factor: where it ends, its kind (none: -1), its two numbers -/
def facP (X : Int → Int) (L : Int) (rF : Int → Int) (rN : Int) (cF : Int → Int) (cN : Int) (a : Int) : Int × Int × Int × Int :=
  if 48 ≤ ch X L a ∧ ch X L a ≤ 57 then ((nmD X L 4 a 0).1, 0, (nmD X L 4 a 0).2, 0)
  else if ch X L a = 83 then sumP X L rF rN cF cN a else celP X L rF rN cF cN a
theorem ch_in {X : Int → Int} {L i : Int} (h : ch X L i ≠ -1) : 0 ≤ i ∧ i < L ∧ ch X L i = X i := by
  unfold ch at *
  split at h
  · next e => rw [if_pos e]; exact ⟨e.1, e.2, rfl⟩
  · exact absurd rfl h
theorem ch_eq {X : Int → Int} {L i : Int} (h0 : 0 ≤ i) (h1 : i < L) : ch X L i = X i := by unfold ch; rw [if_pos ⟨h0, h1⟩]
theorem ch_no {X : Int → Int} {L i : Int} (h1 : L ≤ i) : ch X L i = -1 := by unfold ch; rw [if_neg (by omega)]
theorem ch_is {X : Int → Int} {L i lo hi : Int} (h0 : 0 ≤ i) (hl : 0 ≤ lo) : (i < L ∧ lo ≤ X i ∧ X i ≤ hi) ↔ (lo ≤ ch X L i ∧ ch X L i ≤ hi) := by
  unfold ch
  split <;> omega
set_option maxRecDepth 20000 in
theorem ct_X11_isAt {T : gT} {I : gI} {J : gJ} {O : gO} {mo : Nat} {lo hi : Int} (hM : MoAt T O mo) (h0 : in32 lo) (h1 : in32 hi) (h2 : 0 ≤ I mo 14) (h3 : I mo 5 ≤ 24) (h4 : 0 ≤ lo) : Ct yX11_isAt cX11_isAt 3 (some .boolean) [va_rf (some mo), VI lo, VI hi] 1 22 0 0 T I J O (pv (some (VI (if lo ≤ ch (I (mo + 4)) (I mo 5) (I mo 14) ∧ ch (I (mo + 4)) (I mo 5) (I mo 14) ≤ hi then 1 else 0))) T I J O) := by
  refine Ct.of (by decide) [some (va_rf (some mo)), some (VI lo), some (VI hi)] (gEn1 (List.forall_mem_cons.mpr ⟨cat_VR _, List.forall_mem_cons.mpr ⟨cat_VI _, List.forall_mem_cons.mpr ⟨cat_VI _, fun _ h => nomatch h⟩⟩⟩) rfl (Nat.le_of_ble_eq_true rfl) rfl) ?_
  intro X x en rm ini hr hz
  have hr0 := hr
  have hc := ch_is (X := I (mo + 4)) (L := I mo 5) (hi := hi) h2 h4
  refine G_rg (fun hr => ?_)
  refine G_aload0 x eX11_isAt_0 ?_
  refine G_geti x eX11_isAt_1 fX11_173 rfl rfl hM.m (fun h1 => ?_)
  refine G_aload0 x eX11_isAt_4 ?_
  refine G_geti x eX11_isAt_5 fX11_176 rfl rfl hM.m (fun h5 => ?_)
  refine G_icmp_ge x eX11_isAt_8 (by first | omega | exact hr _ _ | exact hr0 _ _) (by first | omega | exact hr _ _ | exact hr0 _ _) (fun c8 => ?_) (fun c8 => ?_)
  · refine G_push x eX11_isAt_32 ?_
    refine G_zreturn x en eX11_isAt_33 (by omega) (by omega) ?_ ?_
    · first | exact Or.inl rfl | exact Or.inr rfl | omega
    · refine ⟨?_, rfl, rfl, rfl, rfl⟩; first | rw [if_pos (by omega)] | rw [if_neg (by omega)]
  · refine G_aload0 x eX11_isAt_11 ?_
    refine G_getq x eX11_isAt_12 fX11_19 rfl rfl hM.m hM.o_text ?_
    refine G_aload0 x eX11_isAt_15 ?_
    refine G_geti x eX11_isAt_16 fX11_173 rfl rfl hM.m (fun h16 => ?_)
    refine G_iald x eX11_isAt_19 rfl hM.t_text (by omega) (by omega) (by omega) (fun h19 => ?_)
    refine G_iload1 x eX11_isAt_20 ?_
    refine G_iload2 x eX11_isAt_21 ?_
    refine G_cS x eX11_isAt_22 kX11_87 sm_yX11_in rm (ct_X11_in (by first | omega | exact hr _ _ | exact hr0 _ _) (by first | omega | exact hr _ _ | exact hr0 _ _) (by first | omega | exact hr _ _ | exact hr0 _ _)) rfl ?_
    refine G_ifb_eq x eX11_isAt_25 (fun c25 => ?_) (fun c25 => ?_)
    · refine G_push x eX11_isAt_32 ?_
      refine G_zreturn x en eX11_isAt_33 (by omega) (by omega) ?_ ?_
      · first | exact Or.inl rfl | exact Or.inr rfl | omega
      · refine ⟨?_, rfl, rfl, rfl, rfl⟩; first | rw [if_pos (by omega)] | rw [if_neg (by omega)]
    · refine G_push x eX11_isAt_28 ?_
      refine G_goto x eX11_isAt_29 ?_
      refine G_zreturn x en eX11_isAt_33 (by omega) (by omega) ?_ ?_
      · first | exact Or.inl rfl | exact Or.inr rfl | omega
      · refine ⟨?_, rfl, rfl, rfl, rfl⟩; first | rw [if_pos (by omega)] | rw [if_neg (by omega)]
set_option maxRecDepth 20000 in
theorem ct_X11_adds {T : gT} {I : gI} {J : gJ} {O : gO} {mo : Nat} {c : Int} (hM : MoAt T O mo) (h0 : in32 c) (h1 : 0 ≤ I mo 13) (h2 : I mo 13 < 24) : Ct yX11_adds cX11_adds 2 none [va_rf (some mo), VI c] 0 0 0 0 T I J O (pv none T (uI (uI I (mo + 8) (I mo 13) c) mo 13 (I mo 13 + 1)) J O) := by
  refine Ct.of (by decide) [some (va_rf (some mo)), some (VI c)] (gEn1 (List.forall_mem_cons.mpr ⟨cat_VR _, List.forall_mem_cons.mpr ⟨cat_VI _, fun _ h => nomatch h⟩⟩) rfl (Nat.le_of_ble_eq_true rfl) rfl) ?_
  intro X x en rm ini hr hz
  have hr0 := hr
  refine G_rg (fun hr => ?_)
  refine G_aload0 x eX11_adds_0 ?_
  refine G_getq x eX11_adds_1 fX11_31 rfl rfl hM.m hM.o_read ?_
  refine G_aload0 x eX11_adds_4 ?_
  refine G_geti x eX11_adds_5 fX11_170 rfl rfl hM.m (fun h5 => ?_)
  refine G_iload1 x eX11_adds_8 ?_
  refine G_iast x eX11_adds_9 rfl hM.t_read (by omega) (by omega) (by omega) (by first | omega | exact hr _ _ | exact hr0 _ _) ?_
  refine G_rg (fun hr => ?_)
  refine G_aload0 x eX11_adds_10 ?_
  refine G_dup x eX11_adds_11 (by first | rfl | exact cat_rf _) ?_
  refine G_geti x eX11_adds_12 fX11_170 rfl rfl hM.m (fun h12 => ?_)
  rw [uI_a (b := mo) (by omega)]
  rw [uI_a (b := mo) (by omega)] at h12
  refine G_push x eX11_adds_15 ?_
  refine G_iadd x eX11_adds_16 ?_
  refine G_puti x eX11_adds_17 fX11_170 rfl (Or.inl rfl) rfl hM.m (by first | omega | exact hr _ _ | exact hr0 _ _) ?_
  refine G_rg (fun hr => ?_)
  refine G_return x en eX11_adds_20 (by omega) (by omega) ?_
  exact pv_i
set_option maxRecDepth 20000 in
theorem ct_X11_takes {T : gT} {I : gI} {J : gJ} {O : gO} {mo : Nat} {c : Int} (hM : MoAt T O mo) (h0 : in32 c) (h2 : 0 ≤ I mo 14) (h3 : I mo 5 ≤ 24) (h4 : 0 ≤ c) : Ct yX11_takes cX11_takes 3 (some .boolean) [va_rf (some mo), VI c] 2 44 0 0 T I J O (pv (some (VI (if ch (I (mo + 4)) (I mo 5) (I mo 14) = c then 1 else 0))) T (uI I mo 14 (I mo 14 + (if ch (I (mo + 4)) (I mo 5) (I mo 14) = c then 1 else 0))) J O) := by
  refine Ct.of (by decide) [some (va_rf (some mo)), some (VI c), none] (gEn1 (List.forall_mem_cons.mpr ⟨cat_VR _, List.forall_mem_cons.mpr ⟨cat_VI _, fun _ h => nomatch h⟩⟩) rfl (Nat.le_of_ble_eq_true rfl) rfl) ?_
  intro X x en rm ini hr hz
  have hr0 := hr
  have hb : I mo 14 < 1000 ∨ ¬ ch (I (mo + 4)) (I mo 5) (I mo 14) = c := by
    by_cases e : ch (I (mo + 4)) (I mo 5) (I mo 14) = c
    · have := ch_in (X := I (mo + 4)) (L := I mo 5) (i := I mo 14) (by omega)
      omega
    · exact Or.inr e
  have he : (if c ≤ ch (I (mo + 4)) (I mo 5) (I mo 14) ∧ ch (I (mo + 4)) (I mo 5) (I mo 14) ≤ c then (1 : Int) else 0) = if ch (I (mo + 4)) (I mo 5) (I mo 14) = c then 1 else 0 := by
    by_cases e : ch (I (mo + 4)) (I mo 5) (I mo 14) = c
    · rw [if_pos (by omega), if_pos e]
    · rw [if_neg (by omega), if_neg e]
  refine G_aload0 x eX11_takes_0 ?_
  refine G_iload1 x eX11_takes_1 ?_
  refine G_iload1 x eX11_takes_2 ?_
  refine G_cV x eX11_takes_3 kX11_179 im_yX11_isAt se_yX11_isAt rm hM.m (ct_X11_isAt hM (by first | omega | exact hr _ _ | exact hr0 _ _) (by first | omega | exact hr _ _ | exact hr0 _ _) (by first | omega | exact hr _ _ | exact hr0 _ _) (by first | omega | exact hr _ _ | exact hr0 _ _) (by omega)) rfl ?_
  rw [he]
  by_cases e : ch (I (mo + 4)) (I mo 5) (I mo 14) = c
  · rw [if_pos e] at en ⊢
    refine G_rg (fun hr => ?_)
    refine G_istore2 x eX11_takes_6 ?_
    refine G_aload0 x eX11_takes_7 ?_
    refine G_dup x eX11_takes_8 (by first | rfl | exact cat_rf _) ?_
    refine G_geti x eX11_takes_9 fX11_173 rfl rfl hM.m (fun h9 => ?_)
    refine G_iload2 x eX11_takes_12 ?_
    refine G_if_eq x eX11_takes_13 (by first | omega | exact hr _ _ | exact hr0 _ _) (fun c13 => ?_) (fun c13 => ?_)
    · refine G_push x eX11_takes_20 ?_
      refine G_iadd0 x eX11_takes_21 ?_
      refine G_puti x eX11_takes_22 fX11_173 rfl (Or.inl rfl) rfl hM.m (by first | omega | exact hr _ _ | exact hr0 _ _) ?_
      refine G_rg (fun hr => ?_)
      refine G_iload2 x eX11_takes_25 ?_
      refine G_zreturn x en eX11_takes_26 (by omega) (by omega) ?_ ?_
      · first | exact Or.inl rfl | exact Or.inr rfl | omega
      · first | exact pv_i | (rw [Int.add_zero]; exact pv_i) | (exfalso; omega)
    · refine G_push x eX11_takes_16 ?_
      refine G_goto x eX11_takes_17 ?_
      refine G_iadd x eX11_takes_21 ?_
      refine G_puti x eX11_takes_22 fX11_173 rfl (Or.inl rfl) rfl hM.m (by first | omega | exact hr _ _ | exact hr0 _ _) ?_
      refine G_rg (fun hr => ?_)
      refine G_iload2 x eX11_takes_25 ?_
      refine G_zreturn x en eX11_takes_26 (by omega) (by omega) ?_ ?_
      · first | exact Or.inl rfl | exact Or.inr rfl | omega
      · first | exact pv_i | (rw [Int.add_zero]; exact pv_i) | (exfalso; omega)
  · rw [if_neg e] at en ⊢
    refine G_rg (fun hr => ?_)
    refine G_istore2 x eX11_takes_6 ?_
    refine G_aload0 x eX11_takes_7 ?_
    refine G_dup x eX11_takes_8 (by first | rfl | exact cat_rf _) ?_
    refine G_geti x eX11_takes_9 fX11_173 rfl rfl hM.m (fun h9 => ?_)
    refine G_iload2 x eX11_takes_12 ?_
    refine G_if_eq x eX11_takes_13 (by first | omega | exact hr _ _ | exact hr0 _ _) (fun c13 => ?_) (fun c13 => ?_)
    · refine G_push x eX11_takes_20 ?_
      refine G_iadd0 x eX11_takes_21 ?_
      refine G_puti x eX11_takes_22 fX11_173 rfl (Or.inl rfl) rfl hM.m (by first | omega | exact hr _ _ | exact hr0 _ _) ?_
      refine G_rg (fun hr => ?_)
      refine G_iload2 x eX11_takes_25 ?_
      refine G_zreturn x en eX11_takes_26 (by omega) (by omega) ?_ ?_
      · first | exact Or.inl rfl | exact Or.inr rfl | omega
      · first | exact pv_i | (rw [Int.add_zero]; exact pv_i) | (exfalso; omega)
    · refine G_push x eX11_takes_16 ?_
      refine G_goto x eX11_takes_17 ?_
      refine G_iadd x eX11_takes_21 ?_
      refine G_puti x eX11_takes_22 fX11_173 rfl (Or.inl rfl) rfl hM.m (by first | omega | exact hr _ _ | exact hr0 _ _) ?_
      refine G_rg (fun hr => ?_)
      refine G_iload2 x eX11_takes_25 ?_
      refine G_zreturn x en eX11_takes_26 (by omega) (by omega) ?_ ?_
      · first | exact Or.inl rfl | exact Or.inr rfl | omega
      · first | exact pv_i | (rw [Int.add_zero]; exact pv_i) | (exfalso; omega)
/-- isNamed: where it stands then, what it added -/
def nmI (I : gI) (mo : Nat) : gI :=
  if (nmP (I (mo + 4)) (I mo 5) (I (mo + 5)) (I mo 9) (I (mo + 6)) (I mo 10) (I mo 14)).2 = -1 then uI I mo 14 (nmP (I (mo + 4)) (I mo 5) (I (mo + 5)) (I mo 9) (I (mo + 6)) (I mo 10) (I mo 14)).1
  else uI (uI (uI I (mo + 8) (I mo 13) (10000 + (nmP (I (mo + 4)) (I mo 5) (I (mo + 5)) (I mo 9) (I (mo + 6)) (I mo 10) (I mo 14)).2)) mo 13 (I mo 13 + 1)) mo 14 (nmP (I (mo + 4)) (I mo 5) (I (mo + 5)) (I mo 9) (I (mo + 6)) (I mo 10) (I mo 14)).1
theorem uI_id {I : gI} {a : Nat} {k x : Int} (h : I a k = x) : uI I a k x = I := by
  funext b j
  unfold uI
  split
  · next e => rw [e.1, e.2, h]
  · rfl
theorem uI_uI {I : gI} {a : Nat} {k x y : Int} : uI (uI I a k x) a k y = uI I a k y := by
  funext b j
  unfold uI
  split <;> rfl
theorem uI_cm {I : gI} {a b : Nat} {k j x y : Int} (h : a ≠ b ∨ k ≠ j) : uI (uI I a k x) b j y = uI (uI I b j y) a k x := by
  funext c i
  unfold uI
  by_cases e1 : c = a ∧ i = k
  · rw [if_neg (by omega), if_pos e1, if_pos e1]
  · rw [if_neg e1]
    by_cases e2 : c = b ∧ i = j
    · rw [if_pos e2, if_neg e1]
    · rw [if_neg e2, if_neg e1]
def lnIn (f : Int → Int) (n : Int) : Prop := 0 ≤ n ∧ n ≤ 12 ∧ ∀ i, 0 ≤ i → i < n → 0 ≤ f i ∧ f i < 12
set_option maxHeartbeats 2000000 in
set_option maxRecDepth 20000 in
theorem ct_X11_isNamed {T : gT} {I : gI} {J : gJ} {O : gO} {mo : Nat} (hM : MoAt T O mo) (h2 : 0 ≤ I mo 14) (h3 : I mo 5 ≤ 24) (h4 : lnIn (I (mo + 5)) (I mo 9)) (h5 : lnIn (I (mo + 6)) (I mo 10)) (h6 : 0 ≤ I mo 13) (h7 : I mo 13 ≤ I mo 14) : Ct yX11_isNamed cX11_isNamed 2 (some .boolean) [va_rf (some mo)] 2 44 0 0 T I J O (pv (some (VI (if (nmP (I (mo + 4)) (I mo 5) (I (mo + 5)) (I mo 9) (I (mo + 6)) (I mo 10) (I mo 14)).2 = -1 then 0 else 1))) T (nmI I mo) J O) := by
  refine Ct.of (by decide) [some (va_rf (some mo)), none] (gEn1 (List.forall_mem_cons.mpr ⟨cat_VR _, fun _ h => nomatch h⟩) rfl (Nat.le_of_ble_eq_true rfl) rfl) ?_
  intro X x en rm ini hr hz
  have hr0 := hr
  obtain ⟨r0, r1, r2⟩ := h4
  obtain ⟨s0, s1, s2⟩ := h5
  refine G_aload0 x eX11_isNamed_0 ?_
  refine G_push x eX11_isNamed_1 ?_
  refine G_push x eX11_isNamed_3 ?_
  refine G_aload0 x eX11_isNamed_5 ?_
  refine G_geti x eX11_isNamed_6 fX11_102 rfl rfl hM.m (fun h6 => ?_)
  refine G_iadd x eX11_isNamed_9 ?_
  refine G_push x eX11_isNamed_10 ?_
  refine G_isub x eX11_isNamed_11 ?_
  refine G_cV x eX11_isNamed_12 kX11_179 im_yX11_isAt se_yX11_isAt rm hM.m (ct_X11_isAt hM (by first | omega | exact hr _ _ | exact hr0 _ _) (by first | omega | exact hr _ _ | exact hr0 _ _) (by first | omega | exact hr _ _ | exact hr0 _ _) (by first | omega | exact hr _ _ | exact hr0 _ _) (by omega)) rfl ?_
  refine G_ifb_ne x eX11_isNamed_15 (fun c15 => ?_) (fun c15 => ?_)
  · have hc := ch_in (X := I (mo + 4)) (L := I mo 5) (i := I mo 14) (by omega)
    have hs2 := s2 (I (mo + 4) (I mo 14) - 65) (by omega) (by omega)
    refine G_aload0 x eX11_isNamed_20 ?_
    refine G_getq x eX11_isNamed_21 fX11_25 rfl rfl hM.m hM.o_columns ?_
    refine G_aload0 x eX11_isNamed_24 ?_
    refine G_getq x eX11_isNamed_25 fX11_19 rfl rfl hM.m hM.o_text ?_
    refine G_aload0 x eX11_isNamed_28 ?_
    refine G_geti x eX11_isNamed_29 fX11_173 rfl rfl hM.m (fun h29 => ?_)
    refine G_iald x eX11_isNamed_32 rfl hM.t_text (by omega) (by omega) (by omega) (fun h32 => ?_)
    refine G_push x eX11_isNamed_33 ?_
    refine G_isub x eX11_isNamed_35 ?_
    refine G_iald x eX11_isNamed_36 rfl hM.t_columns (by omega) (by omega) (by omega) (fun h36 => ?_)
    refine G_istore1 x eX11_isNamed_37 ?_
    refine G_aload0 x eX11_isNamed_38 ?_
    refine G_dup x eX11_isNamed_39 (by first | rfl | exact cat_rf _) ?_
    refine G_geti x eX11_isNamed_40 fX11_173 rfl rfl hM.m (fun h40 => ?_)
    refine G_push x eX11_isNamed_43 ?_
    refine G_iadd x eX11_isNamed_44 ?_
    refine G_puti x eX11_isNamed_45 fX11_173 rfl (Or.inl rfl) rfl hM.m (by first | omega | exact hr _ _ | exact hr0 _ _) ?_
    refine G_rg (fun hr => ?_)
    have m14 : uI I mo 14 (I mo 14 + 1) mo 14 = I mo 14 + 1 := uI_s
    have m5 : uI I mo 14 (I mo 14 + 1) mo 5 = I mo 5 := uI_k (by omega)
    have m9 : uI I mo 14 (I mo 14 + 1) mo 9 = I mo 9 := uI_k (by omega)
    have m13 : uI I mo 14 (I mo 14 + 1) mo 13 = I mo 13 := uI_k (by omega)
    have mr : ∀ b, b ≠ mo → uI I mo 14 (I mo 14 + 1) b = I b := fun b hb => funext fun j => uI_a hb j
    have hbad : ¬ (49 ≤ ch (I (mo + 4)) (I mo 5) (I mo 14 + 1) ∧ ch (I (mo + 4)) (I mo 5) (I mo 14 + 1) ≤ 57 ∧ ch (I (mo + 4)) (I mo 5) (I mo 14 + 1) - 49 < I mo 9) → ∀ Ls, G X 78 Ls [] T (uI I mo 14 (I mo 14 + 1)) J O 0 0 := by
      intro hb Ls
      have hA : nmP (I (mo + 4)) (I mo 5) (I (mo + 5)) (I mo 9) (I (mo + 6)) (I mo 10) (I mo 14) = (I mo 14 + 1, -1) := by unfold nmP; rw [if_pos (by omega), if_neg hb]
      refine G_push x eX11_isNamed_78 ?_
      refine G_zreturn x en eX11_isNamed_79 (by omega) (by omega) ?_ ?_
      · left; rfl
      · refine ⟨by rw [hA]; rfl, rfl, ?_, rfl, rfl⟩
        unfold nmI
        rw [hA, if_pos rfl]
    refine G_aload0 x eX11_isNamed_48 ?_
    refine G_push x eX11_isNamed_49 ?_
    refine G_push x eX11_isNamed_51 ?_
    refine G_cV x eX11_isNamed_53 kX11_179 im_yX11_isAt se_yX11_isAt rm hM.m (ct_X11_isAt hM (by first | omega | exact hr _ _ | exact hr0 _ _) (by first | omega | exact hr _ _ | exact hr0 _ _) (by first | omega | exact hr _ _ | exact hr0 _ _) (by first | omega | exact hr _ _ | exact hr0 _ _) (by omega)) rfl ?_
    rw [mr _ (by omega), m5, m14]
    refine G_ifb_eq x eX11_isNamed_56 (fun c56 => ?_) (fun c56 => ?_)
    · exact hbad (by omega) _
    · have hc2 := ch_in (X := I (mo + 4)) (L := I mo 5) (i := I mo 14 + 1) (by omega)
      refine G_aload0 x eX11_isNamed_59 ?_
      refine G_getq x eX11_isNamed_60 fX11_19 rfl rfl hM.m hM.o_text ?_
      refine G_aload0 x eX11_isNamed_63 ?_
      refine G_geti x eX11_isNamed_64 fX11_173 rfl rfl hM.m (fun h64 => ?_)
      rw [m14]
      refine G_iald x eX11_isNamed_67 rfl hM.t_text (by omega) (by omega) (by omega) (fun h67 => ?_)
      rw [uI_a (by omega)] at h67 ⊢
      refine G_push x eX11_isNamed_68 ?_
      refine G_isub x eX11_isNamed_70 ?_
      refine G_aload0 x eX11_isNamed_71 ?_
      refine G_geti x eX11_isNamed_72 fX11_99 rfl rfl hM.m (fun h72 => ?_)
      refine G_icmp_lt x eX11_isNamed_75 (by first | omega | exact hr _ _ | exact hr0 _ _) (by first | omega | exact hr _ _ | exact hr0 _ _) (fun c75 => ?_) (fun c75 => ?_)
      · rw [m9] at c75
        have hA : nmP (I (mo + 4)) (I mo 5) (I (mo + 5)) (I mo 9) (I (mo + 6)) (I mo 10) (I mo 14) = (I mo 14 + 2, 12 * I (mo + 5) (I (mo + 4) (I mo 14 + 1) - 49) + I (mo + 6) (I (mo + 4) (I mo 14) - 65)) := by unfold nmP; rw [if_pos (by omega), if_pos (by omega), hc.2.2, hc2.2.2]
        have hr2 := r2 (I (mo + 4) (I mo 14 + 1) - 49) (by omega) (by omega)
        refine G_aload0 x eX11_isNamed_80 ?_
        refine G_push x eX11_isNamed_81 ?_
        refine G_push x eX11_isNamed_84 ?_
        refine G_aload0 x eX11_isNamed_86 ?_
        refine G_getq x eX11_isNamed_87 fX11_22 rfl rfl hM.m hM.o_rows ?_
        refine G_aload0 x eX11_isNamed_90 ?_
        refine G_getq x eX11_isNamed_91 fX11_19 rfl rfl hM.m hM.o_text ?_
        refine G_aload0 x eX11_isNamed_94 ?_
        refine G_geti x eX11_isNamed_95 fX11_173 rfl rfl hM.m (fun h95 => ?_)
        rw [m14]
        refine G_iald x eX11_isNamed_98 rfl hM.t_text (by omega) (by omega) (by omega) (fun h98 => ?_)
        rw [uI_a (by omega)] at h98 ⊢
        refine G_push x eX11_isNamed_99 ?_
        refine G_isub x eX11_isNamed_101 ?_
        refine G_iald x eX11_isNamed_102 rfl hM.t_rows (by omega) (by omega) (by omega) (fun h102 => ?_)
        rw [uI_a (by omega)] at h102 ⊢
        refine G_imul x eX11_isNamed_103 ?_
        refine G_iadd x eX11_isNamed_104 ?_
        refine G_iload1 x eX11_isNamed_105 ?_
        refine G_iadd x eX11_isNamed_106 ?_
        refine G_cVv x eX11_isNamed_107 kX11_182 im_yX11_adds se_yX11_adds rm hM.m (ct_X11_adds hM (by omega) (by rw [m13]; omega) (by rw [m13]; omega)) rfl ?_
        refine G_rg (fun hr => ?_)
        rw [m13]
        refine G_aload0 x eX11_isNamed_110 ?_
        refine G_dup x eX11_isNamed_111 (by first | rfl | exact cat_rf _) ?_
        refine G_geti x eX11_isNamed_112 fX11_173 rfl rfl hM.m (fun h112 => ?_)
        have m14b : uI (uI (uI I mo 14 (I mo 14 + 1)) (mo + 8) (I mo 13) (10000 + 12 * I (mo + 5) (I (mo + 4) (I mo 14 + 1) - 49) + I (mo + 6) (I (mo + 4) (I mo 14) - 65))) mo 13 (I mo 13 + 1) mo 14 = I mo 14 + 1 := by rw [uI_k (by omega), uI_a (by omega), uI_s]
        rw [m14b] at h112 ⊢
        refine G_push x eX11_isNamed_115 ?_
        refine G_iadd x eX11_isNamed_116 ?_
        refine G_puti x eX11_isNamed_117 fX11_173 rfl (Or.inl rfl) rfl hM.m (by first | omega | exact hr _ _ | exact hr0 _ _) ?_
        refine G_rg (fun hr => ?_)
        refine G_push x eX11_isNamed_120 ?_
        refine G_zreturn x en eX11_isNamed_121 (by omega) (by omega) ?_ ?_
        · right; rfl
        · refine ⟨by rw [hA, if_neg (show ¬ (12 * I (mo + 5) (I (mo + 4) (I mo 14 + 1) - 49) + I (mo + 6) (I (mo + 4) (I mo 14) - 65) = -1) by omega)], rfl, ?_, rfl, rfl⟩
          unfold nmI
          rw [hA, if_neg (show ¬ (12 * I (mo + 5) (I (mo + 4) (I mo 14 + 1) - 49) + I (mo + 6) (I (mo + 4) (I mo 14) - 65) = -1) by omega)]
          simp only
          rw [uI_cm (a := mo) (k := 14) (b := mo + 8) (Or.inl (by omega)), uI_cm (a := mo) (k := 14) (b := mo) (j := 13) (Or.inr (by omega)), uI_uI, show I mo 14 + 1 + 1 = I mo 14 + 2 by omega, Int.add_assoc 10000]
      · rw [m9] at c75
        exact hbad (by omega) _
  · have hA : nmP (I (mo + 4)) (I mo 5) (I (mo + 5)) (I mo 9) (I (mo + 6)) (I mo 10) (I mo 14) = (I mo 14, -1) := by unfold nmP; rw [if_neg (by omega)]
    refine G_push x eX11_isNamed_18 ?_
    refine G_zreturn x en eX11_isNamed_19 (by omega) (by omega) ?_ ?_
    · left; rfl
    · refine ⟨by rw [hA]; rfl, rfl, ?_, rfl, rfl⟩
      unfold nmI
      rw [hA, if_pos rfl]
      exact (uI_id rfl).symm
