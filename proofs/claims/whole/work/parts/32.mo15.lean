def dfK (S : Int → Int) (a b : Int) : Nat → Int
  | 0 => 0
  | k + 1 => dfK S a b k + (if S (3843 + 270 * a + (126 + (k : Int))) = S (3843 + 270 * b + (126 + (k : Int))) then 0 else 1)
theorem dfK_b (S : Int → Int) (a b : Int) (k : Nat) : 0 ≤ dfK S a b k ∧ dfK S a b k ≤ k := by
  induction k with
  | zero => exact ⟨by show (0 : Int) ≤ 0; omega, by show (0 : Int) ≤ _; omega⟩
  | succ k ih =>
    unfold dfK
    split <;> omega
set_option maxRecDepth 20000 in
theorem ct_X11_different {T : gT} {I : gI} {J : gJ} {O : gO} {mo : Nat} {a b : Int} (hM : MoAt T O mo) (h0 : in32 a) (h1 : in32 b) : Ct yX11_different cX11_different 5 (some .int) [va_rf (some mo), VI a, VI b] 2 42 0 0 T I J O (if (0 ≤ a ∧ a ≤ 2) ∧ 0 ≤ b ∧ b ≤ 2 then mSay T I J O mo (dfK (I (mo + 1)) a b 144) 0 else mSay T I J O mo 0 1) := by
  refine Ct.of (by decide) [some (va_rf (some mo)), some (VI a), some (VI b), none, none] (gEn1 (List.forall_mem_cons.mpr ⟨cat_VR _, List.forall_mem_cons.mpr ⟨cat_VI _, List.forall_mem_cons.mpr ⟨cat_VI _, fun _ h => nomatch h⟩⟩⟩) rfl (Nat.le_of_ble_eq_true rfl) rfl) ?_
  intro X x en rm ini hr hz
  have hr0 := hr
  have loop : ∀ (d : Nat) (k : Nat), d = 144 - k → k ≤ 144 → (0 ≤ a ∧ a ≤ 2) ∧ 0 ≤ b ∧ b ≤ 2 → G X 25 [some (va_rf (some mo)), some (VI a), some (VI b), some (VI (dfK (I (mo + 1)) a b k)), some (VI (k : Int))] [] T I J O 0 0 := by
    intro d
    induction d using Nat.strongRecOn with
    | ind d ih =>
    intro k hd hk hab
    have hb := dfK_b (I (mo + 1)) a b k
    have hnx : ∀ z, z = (if I (mo + 1) (3843 + 270 * a + (126 + (k : Int))) = I (mo + 1) (3843 + 270 * b + (126 + (k : Int))) then (0 : Int) else 1) → G X 25 [some (va_rf (some mo)), some (VI a), some (VI b), some (VI (dfK (I (mo + 1)) a b k + z)), some (VI ((k : Int) + 1))] [] T I J O 0 0 ∨ 144 ≤ k := by
      intro z hz
      by_cases e : 144 ≤ k
      · exact Or.inr e
      · rw [hz]
        exact Or.inl (ih _ (by omega) (k + 1) rfl (by omega) hab)
    refine G_rg (fun hr => ?_)
    refine G_iload4 x eX11_different_25 ?_
    refine G_push x eX11_different_27 ?_
    refine G_icmp_ge x eX11_different_30 (by first | omega | exact hr _ _ | exact hr0 _ _) (by first | omega | exact hr _ _ | exact hr0 _ _) (fun c30 => ?_) (fun c30 => ?_)
    · refine G_aload0 x eX11_different_70 ?_
      refine G_iload3 x eX11_different_71 ?_
      refine G_cV x eX11_different_72 kX11_83 im_yX11_tells se_yX11_tells rm hM.m (ct_X11_tells hM (by first | omega | exact hr _ _ | exact hr0 _ _)) rfl ?_
      refine G_rg (fun hr => ?_)
      refine G_ireturn x en eX11_different_75 (by omega) (by omega) ?_
      rw [if_pos hab, show (144 : Nat) = k by omega]; exact mSay_i (fun b hb j => ⟨rfl, rfl⟩) (fun j => rfl) (fun j => rfl) (fun j => rfl) rfl rfl
    · refine G_iload3 x eX11_different_33 ?_
      refine G_aload0 x eX11_different_34 ?_
      refine G_iload1 x eX11_different_35 ?_
      refine G_push x eX11_different_36 ?_
      refine G_iload4 x eX11_different_38 ?_
      refine G_iadd x eX11_different_40 ?_
      refine G_cV x eX11_different_41 kX11_108 im_yX11_of se_yX11_of rm hM.m (ct_X11_of hM (by omega) (by omega)) rfl ?_
      refine G_aload0 x eX11_different_44 ?_
      refine G_iload2 x eX11_different_45 ?_
      refine G_push x eX11_different_46 ?_
      refine G_iload4 x eX11_different_48 ?_
      refine G_iadd x eX11_different_50 ?_
      refine G_cV x eX11_different_51 kX11_108 im_yX11_of se_yX11_of rm hM.m (ct_X11_of hM (by omega) (by omega)) rfl ?_
      refine G_icmp_ne x eX11_different_54 (by first | omega | exact hr _ _ | exact hr0 _ _) (by first | omega | exact hr _ _ | exact hr0 _ _) (fun c54 => ?_) (fun c54 => ?_)
      · refine G_push x eX11_different_61 ?_
        refine G_iadd x eX11_different_62 ?_
        refine G_istore3 x eX11_different_63 ?_
        refine G_iinc4 x eX11_different_64 ?_
        refine G_goto x eX11_different_67 ?_
        first | exact (hnx 1 (by rw [if_neg c54])).resolve_right (by omega) | (have h9 := (hnx 0 (by rw [if_pos c54])).resolve_right (by omega); rw [Int.add_zero] at h9; exact h9)
      · refine G_push x eX11_different_57 ?_
        refine G_goto x eX11_different_58 ?_
        refine G_iadd0 x eX11_different_62 ?_
        refine G_istore3 x eX11_different_63 ?_
        refine G_iinc4 x eX11_different_64 ?_
        refine G_goto x eX11_different_67 ?_
        first | exact (hnx 1 (by rw [if_neg c54])).resolve_right (by omega) | (have h9 := (hnx 0 (by rw [if_pos c54])).resolve_right (by omega); rw [Int.add_zero] at h9; exact h9)
  refine G_rg (fun hr => ?_)
  refine G_iload1 x eX11_different_0 ?_
  refine G_cS x eX11_different_1 kX11_127 sm_yX11_isReplica rm (ct_X11_isReplica (by first | omega | exact hr _ _ | exact hr0 _ _)) rfl ?_
  refine G_ifb_eq x eX11_different_4 (fun c4 => ?_) (fun c4 => ?_)
  · refine G_aload0 x eX11_different_14 ?_
    refine G_push x eX11_different_15 ?_
    refine G_cV x eX11_different_16 kX11_131 im_yX11_fails se_yX11_fails rm hM.m (ct_X11_fails hM (by first | omega | exact hr _ _ | exact hr0 _ _)) rfl ?_
    refine G_rg (fun hr => ?_)
    refine G_ireturn x en eX11_different_19 (by omega) (by omega) ?_
    rw [if_neg (by omega)]; exact mSay_i (fun b hb j => ⟨rfl, rfl⟩) (fun j => rfl) (fun j => rfl) (fun j => rfl) rfl rfl
  · refine G_iload2 x eX11_different_7 ?_
    refine G_cS x eX11_different_8 kX11_127 sm_yX11_isReplica rm (ct_X11_isReplica (by first | omega | exact hr _ _ | exact hr0 _ _)) rfl ?_
    refine G_ifb_ne x eX11_different_11 (fun c11 => ?_) (fun c11 => ?_)
    · refine G_push x eX11_different_20 ?_
      refine G_istore3 x eX11_different_21 ?_
      refine G_push x eX11_different_22 ?_
      refine G_istore4 x eX11_different_23 ?_
      exact loop _ 0 rfl (by omega) (by omega)
    · refine G_aload0 x eX11_different_14 ?_
      refine G_push x eX11_different_15 ?_
      refine G_cV x eX11_different_16 kX11_131 im_yX11_fails se_yX11_fails rm hM.m (ct_X11_fails hM (by first | omega | exact hr _ _ | exact hr0 _ _)) rfl ?_
      refine G_rg (fun hr => ?_)
      refine G_ireturn x en eX11_different_19 (by omega) (by omega) ?_
      rw [if_neg (by omega)]; exact mSay_i (fun b hb j => ⟨rfl, rfl⟩) (fun j => rfl) (fun j => rfl) (fun j => rfl) rfl rfl
set_option maxRecDepth 20000 in
theorem ct_X11_shows {T : gT} {I : gI} {J : gJ} {O : gO} {mo : Nat} {c : Int} (hM : MoAt T O mo) (h0 : in32 c) (h1 : 0 ≤ I mo 5) (h2 : I mo 5 < 64) : Ct yX11_shows cX11_shows 2 none [va_rf (some mo), VI c] 0 0 0 0 T I J O (pv none T (uI (uI I (mo + 4) (I mo 5) c) mo 5 (I mo 5 + 1)) J O) := by
  refine Ct.of (by decide) [some (va_rf (some mo)), some (VI c)] (gEn1 (List.forall_mem_cons.mpr ⟨cat_VR _, List.forall_mem_cons.mpr ⟨cat_VI _, fun _ h => nomatch h⟩⟩) rfl (Nat.le_of_ble_eq_true rfl) rfl) ?_
  intro X x en rm ini hr hz
  have hr0 := hr
  refine G_rg (fun hr => ?_)
  refine G_aload0 x eX11_shows_0 ?_
  refine G_getq x eX11_shows_1 fX11_19 rfl rfl hM.m hM.o_text ?_
  refine G_aload0 x eX11_shows_4 ?_
  refine G_geti x eX11_shows_5 fX11_176 rfl rfl hM.m (fun h5 => ?_)
  refine G_iload1 x eX11_shows_8 ?_
  refine G_iast x eX11_shows_9 rfl hM.t_text (by omega) (by omega) (by omega) (by first | omega | exact hr _ _ | exact hr0 _ _) ?_
  refine G_rg (fun hr => ?_)
  refine G_aload0 x eX11_shows_10 ?_
  refine G_dup x eX11_shows_11 (by first | rfl | exact cat_rf _) ?_
  refine G_geti x eX11_shows_12 fX11_176 rfl rfl hM.m (fun h12 => ?_)
  rw [uI_a (b := mo) (by omega)]
  rw [uI_a (b := mo) (by omega)] at h12
  refine G_push x eX11_shows_15 ?_
  refine G_iadd x eX11_shows_16 ?_
  refine G_puti x eX11_shows_17 fX11_176 rfl (Or.inl rfl) rfl hM.m (by first | omega | exact hr _ _ | exact hr0 _ _) ?_
  refine G_rg (fun hr => ?_)
  refine G_return x en eX11_shows_20 (by omega) (by omega) ?_
  exact pv_i
/-- what the text becomes -/
abbrev mTxt (T : gT) (I : gI) (J : gJ) (O : gO) (mo : Nat) (ans : Int) (X : Int → Int) (nt : Int) : gP := mOut T I J O mo ans 0 (I (mo + 1)) (I (mo + 2)) (I mo 3) X nt
set_option maxRecDepth 20000 in
theorem ct_X11_type {T : gT} {I : gI} {J : gJ} {O : gO} {mo : Nat} {c : Int} (hM : MoAt T O mo) (h0 : in32 c) (h1 : 0 ≤ I mo 5) (h2 : I mo 5 ≤ 24) : Ct yX11_type cX11_type 2 (some .int) [va_rf (some mo), VI c] 1 22 0 0 T I J O (if 32 ≤ c ∧ c ≤ 126 then (if I mo 5 < 24 then mTxt T I J O mo (I mo 5 + 1) (sU (I (mo + 4)) (I mo 5) c) (I mo 5 + 1) else mSay T I J O mo 0 2) else mSay T I J O mo 0 1) := by
  refine Ct.of (by decide) [some (va_rf (some mo)), some (VI c)] (gEn1 (List.forall_mem_cons.mpr ⟨cat_VR _, List.forall_mem_cons.mpr ⟨cat_VI _, fun _ h => nomatch h⟩⟩) rfl (Nat.le_of_ble_eq_true rfl) rfl) ?_
  intro X x en rm ini hr hz
  have hr0 := hr
  refine G_rg (fun hr => ?_)
  refine G_iload1 x eX11_type_0 ?_
  refine G_push x eX11_type_1 ?_
  refine G_push x eX11_type_3 ?_
  refine G_cS x eX11_type_5 kX11_87 sm_yX11_in rm (ct_X11_in (by first | omega | exact hr _ _ | exact hr0 _ _) (by first | omega | exact hr _ _ | exact hr0 _ _) (by first | omega | exact hr _ _ | exact hr0 _ _)) rfl ?_
  refine G_ifb_ne x eX11_type_8 (fun c8 => ?_) (fun c8 => ?_)
  · refine G_aload0 x eX11_type_17 ?_
    refine G_geti x eX11_type_18 fX11_176 rfl rfl hM.m (fun h18 => ?_)
    refine G_push x eX11_type_21 ?_
    refine G_icmp_lt x eX11_type_23 (by first | omega | exact hr _ _ | exact hr0 _ _) (by first | omega | exact hr _ _ | exact hr0 _ _) (fun c23 => ?_) (fun c23 => ?_)
    · refine G_aload0 x eX11_type_32 ?_
      refine G_iload1 x eX11_type_33 ?_
      refine G_cVv x eX11_type_34 kX11_269 im_yX11_shows se_yX11_shows rm hM.m (ct_X11_shows hM (by omega) (by omega) (by omega)) rfl ?_
      refine G_rg (fun hr => ?_)
      refine G_aload0 x eX11_type_37 ?_
      refine G_aload0 x eX11_type_38 ?_
      refine G_geti x eX11_type_39 fX11_176 rfl rfl hM.m (fun h39 => ?_)
      rw [uI_s] at *
      refine G_cV x eX11_type_42 kX11_83 im_yX11_tells se_yX11_tells rm hM.m (ct_X11_tells hM (by first | omega | exact hr _ _ | exact hr0 _ _)) rfl ?_
      refine G_rg (fun hr => ?_)
      refine G_ireturn x en eX11_type_45 (by omega) (by omega) ?_
      first | (rw [if_neg (by omega)]; exact mSay_i (fun b hb j => ⟨rfl, rfl⟩) (fun j => rfl) (fun j => rfl) (fun j => rfl) rfl rfl) | (rw [if_pos (by omega), if_neg (by omega)]; exact mSay_i (fun b hb j => ⟨rfl, rfl⟩) (fun j => rfl) (fun j => rfl) (fun j => rfl) rfl rfl) | (rw [if_pos (by omega), if_pos (by omega)]; exact ⟨rfl, rfl, rfl, fun b hb j => ⟨by rw [uI_a (by omega), uI_a (by omega), uI_a (by omega)], rfl⟩, uI_s, fun j _ _ => by rw [uI_a (by omega), uI_a (by omega), uI_a (by omega)], fun j _ _ => by rw [uI_a (by omega), uI_a (by omega), uI_a (by omega)], by rw [uI_k (by omega), uI_k (by omega), uI_a (by omega)], fun j => by rw [uI_a (by omega), uI_a (by omega), uI_row, rowI_s], by rw [uI_k (by omega), uI_s]⟩)
    · refine G_aload0 x eX11_type_26 ?_
      refine G_push x eX11_type_27 ?_
      refine G_cV x eX11_type_28 kX11_131 im_yX11_fails se_yX11_fails rm hM.m (ct_X11_fails hM (by first | omega | exact hr _ _ | exact hr0 _ _)) rfl ?_
      refine G_rg (fun hr => ?_)
      refine G_ireturn x en eX11_type_31 (by omega) (by omega) ?_
      first | (rw [if_neg (by omega)]; exact mSay_i (fun b hb j => ⟨rfl, rfl⟩) (fun j => rfl) (fun j => rfl) (fun j => rfl) rfl rfl) | (rw [if_pos (by omega), if_neg (by omega)]; exact mSay_i (fun b hb j => ⟨rfl, rfl⟩) (fun j => rfl) (fun j => rfl) (fun j => rfl) rfl rfl) | (rw [if_pos (by omega), if_pos (by omega)]; exact ⟨rfl, rfl, rfl, fun b hb j => ⟨by rw [uI_a (by omega), uI_a (by omega), uI_a (by omega)], rfl⟩, uI_s, fun j _ _ => by rw [uI_a (by omega), uI_a (by omega), uI_a (by omega)], fun j _ _ => by rw [uI_a (by omega), uI_a (by omega), uI_a (by omega)], by rw [uI_k (by omega), uI_k (by omega), uI_a (by omega)], fun j => by rw [uI_a (by omega), uI_a (by omega), uI_row, rowI_s], by rw [uI_k (by omega), uI_s]⟩)
  · refine G_aload0 x eX11_type_11 ?_
    refine G_push x eX11_type_12 ?_
    refine G_cV x eX11_type_13 kX11_131 im_yX11_fails se_yX11_fails rm hM.m (ct_X11_fails hM (by first | omega | exact hr _ _ | exact hr0 _ _)) rfl ?_
    refine G_rg (fun hr => ?_)
    refine G_ireturn x en eX11_type_16 (by omega) (by omega) ?_
    first | (rw [if_neg (by omega)]; exact mSay_i (fun b hb j => ⟨rfl, rfl⟩) (fun j => rfl) (fun j => rfl) (fun j => rfl) rfl rfl) | (rw [if_pos (by omega), if_neg (by omega)]; exact mSay_i (fun b hb j => ⟨rfl, rfl⟩) (fun j => rfl) (fun j => rfl) (fun j => rfl) rfl rfl) | (rw [if_pos (by omega), if_pos (by omega)]; exact ⟨rfl, rfl, rfl, fun b hb j => ⟨by rw [uI_a (by omega), uI_a (by omega), uI_a (by omega)], rfl⟩, uI_s, fun j _ _ => by rw [uI_a (by omega), uI_a (by omega), uI_a (by omega)], fun j _ _ => by rw [uI_a (by omega), uI_a (by omega), uI_a (by omega)], by rw [uI_k (by omega), uI_k (by omega), uI_a (by omega)], fun j => by rw [uI_a (by omega), uI_a (by omega), uI_row, rowI_s], by rw [uI_k (by omega), uI_s]⟩)
set_option maxRecDepth 20000 in
theorem ct_X11_clearText {T : gT} {I : gI} {J : gJ} {O : gO} {mo : Nat} (hM : MoAt T O mo) : Ct yX11_clearText cX11_clearText 2 (some .int) [va_rf (some mo)] 1 21 0 0 T I J O (mTxt T I J O mo (I mo 5) (I (mo + 4)) 0) := by
  refine Ct.of (by decide) [some (va_rf (some mo)), none] (gEn1 (List.forall_mem_cons.mpr ⟨cat_VR _, fun _ h => nomatch h⟩) rfl (Nat.le_of_ble_eq_true rfl) rfl) ?_
  intro X x en rm ini hr hz
  have hr0 := hr
  refine G_rg (fun hr => ?_)
  refine G_aload0 x eX11_clearText_0 ?_
  refine G_geti x eX11_clearText_1 fX11_176 rfl rfl hM.m (fun h1 => ?_)
  refine G_istore1 x eX11_clearText_4 ?_
  refine G_aload0 x eX11_clearText_5 ?_
  refine G_push x eX11_clearText_6 ?_
  refine G_puti x eX11_clearText_7 fX11_176 rfl (Or.inl rfl) rfl hM.m (by first | omega | exact hr _ _ | exact hr0 _ _) ?_
  refine G_rg (fun hr => ?_)
  refine G_aload0 x eX11_clearText_10 ?_
  refine G_iload1 x eX11_clearText_11 ?_
  refine G_cV x eX11_clearText_12 kX11_83 im_yX11_tells se_yX11_tells rm hM.m (ct_X11_tells hM (by first | omega | exact hr _ _ | exact hr0 _ _)) rfl ?_
  refine G_rg (fun hr => ?_)
  refine G_ireturn x en eX11_clearText_15 (by omega) (by omega) ?_
  exact ⟨rfl, rfl, rfl, fun b hb j => ⟨by rw [uI_a (by omega), uI_a (by omega)], rfl⟩, uI_s, fun j _ _ => by rw [uI_a (by omega), uI_a (by omega)], fun j _ _ => by rw [uI_a (by omega), uI_a (by omega)], by rw [uI_k (by omega), uI_k (by omega)], fun j => by rw [uI_a (by omega), uI_a (by omega)], by rw [uI_k (by omega), uI_s]⟩
set_option maxRecDepth 20000 in
theorem ct_X11_character {T : gT} {I : gI} {J : gJ} {O : gO} {mo : Nat} {i : Int} (hM : MoAt T O mo) (h0 : in32 i) (h1 : 0 ≤ I mo 5) (h2 : I mo 5 ≤ 24) : Ct yX11_character cX11_character 2 (some .int) [va_rf (some mo), VI i] 1 22 0 0 T I J O (mSay T I J O mo (if 0 ≤ i ∧ i < I mo 5 then I (mo + 4) i else -1) 0) := by
  refine Ct.of (by decide) [some (va_rf (some mo)), some (VI i)] (gEn1 (List.forall_mem_cons.mpr ⟨cat_VR _, List.forall_mem_cons.mpr ⟨cat_VI _, fun _ h => nomatch h⟩⟩) rfl (Nat.le_of_ble_eq_true rfl) rfl) ?_
  intro X x en rm ini hr hz
  have hr0 := hr
  refine G_rg (fun hr => ?_)
  refine G_aload0 x eX11_character_0 ?_
  refine G_iload1 x eX11_character_1 ?_
  refine G_push x eX11_character_2 ?_
  refine G_aload0 x eX11_character_3 ?_
  refine G_geti x eX11_character_4 fX11_176 rfl rfl hM.m (fun h4 => ?_)
  refine G_push x eX11_character_7 ?_
  refine G_isub x eX11_character_8 ?_
  refine G_cS x eX11_character_9 kX11_87 sm_yX11_in rm (ct_X11_in (by first | omega | exact hr _ _ | exact hr0 _ _) (by first | omega | exact hr _ _ | exact hr0 _ _) (by first | omega | exact hr _ _ | exact hr0 _ _)) rfl ?_
  refine G_ifb_eq x eX11_character_12 (fun c12 => ?_) (fun c12 => ?_)
  · refine G_push x eX11_character_24 ?_
    refine G_cV x eX11_character_25 kX11_83 im_yX11_tells se_yX11_tells rm hM.m (ct_X11_tells hM (by first | omega | exact hr _ _ | exact hr0 _ _)) rfl ?_
    refine G_rg (fun hr => ?_)
    refine G_ireturn x en eX11_character_28 (by omega) (by omega) ?_
    (repeat' split) <;> first | (exfalso; omega) | exact mSay_i (fun b hb j => ⟨rfl, rfl⟩) (fun j => rfl) (fun j => rfl) (fun j => rfl) rfl rfl
  · refine G_aload0 x eX11_character_15 ?_
    refine G_getq x eX11_character_16 fX11_19 rfl rfl hM.m hM.o_text ?_
    refine G_iload1 x eX11_character_19 ?_
    refine G_iald x eX11_character_20 rfl hM.t_text (by omega) (by omega) (by omega) (fun h20 => ?_)
    refine G_goto x eX11_character_21 ?_
    refine G_cV x eX11_character_25 kX11_83 im_yX11_tells se_yX11_tells rm hM.m (ct_X11_tells hM (by first | omega | exact hr _ _ | exact hr0 _ _)) rfl ?_
    refine G_rg (fun hr => ?_)
    refine G_ireturn x en eX11_character_28 (by omega) (by omega) ?_
    (repeat' split) <;> first | (exfalso; omega) | exact mSay_i (fun b hb j => ⟨rfl, rfl⟩) (fun j => rfl) (fun j => rfl) (fun j => rfl) rfl rfl
set_option maxRecDepth 20000 in
theorem ct_X11_undo {T : gT} {I : gI} {J : gJ} {O : gO} {mo : Nat} (hM : MoAt T O mo) (h3 : 0 ≤ I mo 3 ∧ I mo 3 ≤ 4) : Ct yX11_undo cX11_undo 2 (some .int) [va_rf (some mo)] 1 21 0 0 T I J O (if I mo 3 = 0 then mSay T I J O mo 0 1 else mOut T I J O mo (I mo 3 - 1) 0 (fun j => I (mo + 2) (4653 * (I mo 3 - 1) + j)) (I (mo + 2)) (I mo 3 - 1) (I (mo + 4)) (I mo 5)) := by
  refine Ct.of (by decide) [some (va_rf (some mo)), none] (gEn1 (List.forall_mem_cons.mpr ⟨cat_VR _, fun _ h => nomatch h⟩) rfl (Nat.le_of_ble_eq_true rfl) rfl) ?_
  intro X x en rm ini hr hz
  have hr0 := hr
  have loop : ∀ (n : Nat) (k : Int), n = (4653 - k).toNat → 0 ≤ k → k ≤ 4653 → ¬ I mo 3 = 0 → G X 25 [some (va_rf (some mo)), some (VI k)] [] T (cpI (uI I mo 3 (I mo 3 - 1)) (mo + 1) (mo + 2) 0 (4653 * (I mo 3 - 1)) k) J O 0 0 := by
    intro n
    induction n using Nat.strongRecOn with
    | ind n ih =>
    intro k hn h0 h1 hne
    have e3 : cpI (uI I mo 3 (I mo 3 - 1)) (mo + 1) (mo + 2) 0 (4653 * (I mo 3 - 1)) k mo 3 = I mo 3 - 1 := by rw [cpI_b (by omega), uI_s]
    refine G_rg (fun hr => ?_)
    refine G_iload1 x eX11_undo_25 ?_
    refine G_push x eX11_undo_26 ?_
    refine G_icmp_ge x eX11_undo_29 (by first | omega | exact hr _ _ | exact hr0 _ _) (by first | omega | exact hr _ _ | exact hr0 _ _) (fun c29 => ?_) (fun c29 => ?_)
    · refine G_aload0 x eX11_undo_59 ?_
      refine G_aload0 x eX11_undo_60 ?_
      refine G_geti x eX11_undo_61 fX11_80 rfl rfl hM.m (fun h61 => ?_)
      refine G_cV x eX11_undo_64 kX11_83 im_yX11_tells se_yX11_tells rm hM.m (ct_X11_tells hM (by first | omega | exact hr _ _ | exact hr0 _ _)) rfl ?_
      refine G_rg (fun hr => ?_)
      refine G_ireturn x en eX11_undo_67 (by omega) (by omega) ?_
      rw [if_neg hne, e3]; refine ⟨rfl, rfl, rfl, fun b hb j => ⟨by rw [uI_a (by omega), cpI_b (by omega), uI_a (by omega)], rfl⟩, uI_s, fun j a1 a2 => ?_, fun j _ _ => by rw [uI_a (by omega), cpI_b (by omega), uI_a (by omega)], by rw [uI_k (by omega), cpI_b (by omega), uI_s], fun j => by rw [uI_a (by omega), cpI_b (by omega), uI_a (by omega)], by rw [uI_k (by omega), cpI_b (by omega), uI_k (by omega)]⟩; rw [uI_a (by omega), show k = 4653 by omega, cpI_i (by omega) (by omega), uI_a (by omega)]; congr 1; omega
    · refine G_aload0 x eX11_undo_32 ?_
      refine G_getq x eX11_undo_33 fX11_7 rfl rfl hM.m hM.o_s ?_
      refine G_iload1 x eX11_undo_36 ?_
      refine G_aload0 x eX11_undo_37 ?_
      refine G_getq x eX11_undo_38 fX11_13 rfl rfl hM.m hM.o_past ?_
      refine G_push x eX11_undo_41 ?_
      refine G_aload0 x eX11_undo_44 ?_
      refine G_geti x eX11_undo_45 fX11_80 rfl rfl hM.m (fun h45 => ?_)
      refine G_imul x eX11_undo_48 ?_
      refine G_iload1 x eX11_undo_49 ?_
      refine G_iadd x eX11_undo_50 ?_
      refine G_iald x eX11_undo_51 rfl hM.t_past (by omega) (by omega) (by omega) (fun h51 => ?_)
      refine G_iast x eX11_undo_52 rfl hM.t_s (by omega) (by omega) (by omega) (by first | omega | exact hr _ _ | exact hr0 _ _) ?_
      refine G_rg (fun hr => ?_)
      refine G_iinc1 x eX11_undo_53 ?_
      refine G_goto x eX11_undo_56 ?_
      have hx := ih _ (by omega) (k + 1) rfl (by omega) (by omega) hne; rw [← cpI_s h0 rfl] at hx; rw [e3, cpI_b (by omega)]; rw [show (0 : Int) + k = k by omega, Int.add_comm k (4653 * (I mo 3 - 1))] at hx; exact hx
  refine G_rg (fun hr => ?_)
  refine G_aload0 x eX11_undo_0 ?_
  refine G_geti x eX11_undo_1 fX11_80 rfl rfl hM.m (fun h1 => ?_)
  refine G_if_ne x eX11_undo_4 (by first | omega | exact hr _ _ | exact hr0 _ _) (fun c4 => ?_) (fun c4 => ?_)
  · refine G_aload0 x eX11_undo_13 ?_
    refine G_dup x eX11_undo_14 (by first | rfl | exact cat_rf _) ?_
    refine G_geti x eX11_undo_15 fX11_80 rfl rfl hM.m (fun h15 => ?_)
    refine G_push x eX11_undo_18 ?_
    refine G_isub x eX11_undo_19 ?_
    refine G_puti x eX11_undo_20 fX11_80 rfl (Or.inl rfl) rfl hM.m (by first | omega | exact hr _ _ | exact hr0 _ _) ?_
    refine G_rg (fun hr => ?_)
    refine G_push x eX11_undo_23 ?_
    refine G_istore1 x eX11_undo_24 ?_
    have hx := loop _ 0 rfl (by omega) (by omega) (by assumption); rw [cpI_0] at hx; exact hx
  · refine G_aload0 x eX11_undo_7 ?_
    refine G_push x eX11_undo_8 ?_
    refine G_cV x eX11_undo_9 kX11_131 im_yX11_fails se_yX11_fails rm hM.m (ct_X11_fails hM (by first | omega | exact hr _ _ | exact hr0 _ _)) rfl ?_
    refine G_rg (fun hr => ?_)
    refine G_ireturn x en eX11_undo_12 (by omega) (by omega) ?_
    rw [if_pos (by omega)]; exact mSay_i (fun b hb j => ⟨rfl, rfl⟩) (fun j => rfl) (fun j => rfl) (fun j => rfl) rfl rfl
