/-! sets of cells -/
def csP (T : gT) (I : gI) (J : gJ) (O : gO) (cs : Nat) (R : Int → Int → Prop) : gP := fun v T' I' J' O' => v = none ∧ T' = T ∧ I' = I ∧ O' = O ∧ (∀ b j, b ≠ cs + 1 → J' b j = J b j) ∧ CsIs (J' (cs + 1)) R
theorem CsIs.put {B B' : Int → Int64} {R : Int → Int → Prop} {s c : Int} (h : CsIs B R) (s0 : 0 ≤ s) (s1 : s ≤ 144) (c0 : 0 ≤ c) (c1 : c < 144) (e1 : B' (s * 3 + c / 64) = B (s * 3 + c / 64) ||| msk (c % 64)) (e2 : ∀ j, j ≠ s * 3 + c / 64 → B' j = B j) : CsIs B' (fun s' c' => R s' c' ∨ (s' = s ∧ c' = c)) := by
  intro s' c' a1 a2 a3 a4
  show hasB B' s' c' ↔ (R s' c' ∨ (s' = s ∧ c' = c))
  rw [← h s' c' a1 a2 a3 a4]
  unfold hasB
  by_cases q : 3 * s' + c' / 64 = s * 3 + c / 64
  · rw [q, e1, Int64.toBitVec_or, BitVec.getLsbD_or, Bool.or_eq_true, msk_b (by omega) (by omega) (by omega)]
    refine or_congr Iff.rfl ?_
    rw [decide_eq_true_iff]
    omega
  · rw [e2 _ q]
    refine ⟨Or.inl, fun z => z.elim id (fun z => absurd (by omega) q)⟩
theorem CsIs.drop {B B' : Int → Int64} {R : Int → Int → Prop} {s c : Int} (h : CsIs B R) (s0 : 0 ≤ s) (s1 : s ≤ 144) (c0 : 0 ≤ c) (c1 : c < 144) (e1 : B' (s * 3 + c / 64) = B (s * 3 + c / 64) &&& (msk (c % 64) ^^^ -1)) (e2 : ∀ j, j ≠ s * 3 + c / 64 → B' j = B j) : CsIs B' (fun s' c' => R s' c' ∧ ¬ (s' = s ∧ c' = c)) := by
  intro s' c' a1 a2 a3 a4
  show hasB B' s' c' ↔ (R s' c' ∧ ¬ (s' = s ∧ c' = c))
  rw [← h s' c' a1 a2 a3 a4]
  unfold hasB
  by_cases q : 3 * s' + c' / 64 = s * 3 + c / 64
  · have hm : ∀ i, i < 64 → (-1 : Int64).toBitVec.getLsbD i = true := by decide +kernel
    rw [q, e1, Int64.toBitVec_and, BitVec.getLsbD_and, Bool.and_eq_true, Int64.toBitVec_xor, BitVec.getLsbD_xor, msk_b (by omega) (by omega) (by omega), hm _ (by omega)]
    refine and_congr Iff.rfl ?_
    simp only [Bool.bne_true, Bool.not_eq_true', decide_eq_false_iff_not]
    omega
  · rw [e2 _ q]
    exact ⟨fun z => ⟨z, fun w => q (by omega)⟩, fun z => z.1⟩
theorem uJ_at {J : gJ} {a : Nat} {k : Int} {x : Int64} : uJ J a k x a k = x := by simp [uJ]
set_option maxRecDepth 20000 in
theorem ct_X1_put {T : gT} {I : gI} {J : gJ} {O : gO} {cs : Nat} {s c : Int} {R : Int → Int → Prop} (hM : CsAt T O cs) (hR : CsIs (J (cs + 1)) R) (s0 : 0 ≤ s) (s1 : s ≤ 144) (c0 : 0 ≤ c) (c1 : c < 144) : Ct yX1_put cX1_put 3 none [va_rf (some cs), VI s, VI c] 1 20 0 0 T I J O (csP T I J O cs (fun s' c' => R s' c' ∨ (s' = s ∧ c' = c))) := by
  refine Ct.of (by decide) [some (va_rf (some cs)), some (VI s), some (VI c)] (gEn1 (List.forall_mem_cons.mpr ⟨cat_VR _, List.forall_mem_cons.mpr ⟨cat_VI _, List.forall_mem_cons.mpr ⟨cat_VI _, fun _ h => nomatch h⟩⟩⟩) rfl (Nat.le_of_ble_eq_true rfl) rfl) ?_
  intro X x en rm ini hr hz
  have hr0 := hr
  refine G_rg (fun hr => ?_)
  refine G_iload1 x eX1_put_0 ?_
  refine G_cS x eX1_put_1 kX1_27 sm_yX1_isSet rm (ct_X1_isSet (by first | omega | exact hr _ _ | exact hr0 _ _ | exact hrS _)) rfl ?_
  refine G_ifb_eq x eX1_put_4 (fun c4 => ?_) (fun c4 => ?_)
  · refine G_return x en eX1_put_36 (by omega) (by omega) ?_
    first | (exfalso; omega) | exact ⟨rfl, rfl, rfl, rfl, fun b j hb => uJ_a hb _, hR.put s0 s1 c0 c1 uJ_s (fun j hj => uJ_k hj)⟩
  · refine G_iload2 x eX1_put_7 ?_
    refine G_cN x eX1_put_8 knX1_31 sm_yX10_isCell rm (ct_X10_isCell (by first | omega | exact hr _ _ | exact hr0 _ _ | exact hrS _)) rfl ?_
    refine G_ifb_eq x eX1_put_11 (fun c11 => ?_) (fun c11 => ?_)
    · refine G_return x en eX1_put_36 (by omega) (by omega) ?_
      first | (exfalso; omega) | exact ⟨rfl, rfl, rfl, rfl, fun b j hb => uJ_a hb _, hR.put s0 s1 c0 c1 uJ_s (fun j hj => uJ_k hj)⟩
    · refine G_aload0 x eX1_put_14 ?_
      refine G_getq x eX1_put_15 fX1_11 rfl rfl hM.m hM.o_bits ?_
      refine G_iload1 x eX1_put_18 ?_
      refine G_push x eX1_put_19 ?_
      refine G_imul x eX1_put_20 ?_
      refine G_iload2 x eX1_put_21 ?_
      refine G_push x eX1_put_22 ?_
      refine G_idivn x eX1_put_24 (by omega) (by omega) (by omega) (by omega) ?_
      refine G_iadd x eX1_put_25 ?_
      refine G_dup2 x eX1_put_26 (by first | rfl | exact cat_rf _) (by first | rfl | exact cat_rf _) ?_
      refine G_lald x eX1_put_27 rfl hM.t_bits (by omega) (by omega) (by omega) ?_
      refine G_lconst x eX1_put_28 ?_
      refine G_iload2 x eX1_put_29 ?_
      refine G_push x eX1_put_30 ?_
      refine G_iremn x eX1_put_32 (by omega) (by omega) (by omega) (by omega) ?_
      refine G_lshl x eX1_put_33 ?_
      refine G_lor x eX1_put_34 ?_
      refine G_last x eX1_put_35 rfl hM.t_bits (by omega) (by omega) (by omega) ?_
      refine G_return x en eX1_put_36 (by omega) (by omega) ?_
      first | (exfalso; omega) | exact ⟨rfl, rfl, rfl, rfl, fun b j hb => uJ_a hb _, hR.put s0 s1 c0 c1 uJ_s (fun j hj => uJ_k hj)⟩
set_option maxRecDepth 20000 in
theorem ct_X1_drop {T : gT} {I : gI} {J : gJ} {O : gO} {cs : Nat} {s c : Int} {R : Int → Int → Prop} (hM : CsAt T O cs) (hR : CsIs (J (cs + 1)) R) (s0 : 0 ≤ s) (s1 : s ≤ 144) (c0 : 0 ≤ c) (c1 : c < 144) : Ct yX1_drop cX1_drop 3 none [va_rf (some cs), VI s, VI c] 1 20 0 0 T I J O (csP T I J O cs (fun s' c' => R s' c' ∧ ¬ (s' = s ∧ c' = c))) := by
  refine Ct.of (by decide) [some (va_rf (some cs)), some (VI s), some (VI c)] (gEn1 (List.forall_mem_cons.mpr ⟨cat_VR _, List.forall_mem_cons.mpr ⟨cat_VI _, List.forall_mem_cons.mpr ⟨cat_VI _, fun _ h => nomatch h⟩⟩⟩) rfl (Nat.le_of_ble_eq_true rfl) rfl) ?_
  intro X x en rm ini hr hz
  have hr0 := hr
  refine G_rg (fun hr => ?_)
  refine G_iload1 x eX1_drop_0 ?_
  refine G_cS x eX1_drop_1 kX1_27 sm_yX1_isSet rm (ct_X1_isSet (by first | omega | exact hr _ _ | exact hr0 _ _ | exact hrS _)) rfl ?_
  refine G_ifb_eq x eX1_drop_4 (fun c4 => ?_) (fun c4 => ?_)
  · refine G_return x en eX1_drop_40 (by omega) (by omega) ?_
    first | (exfalso; omega) | exact ⟨rfl, rfl, rfl, rfl, fun b j hb => uJ_a hb _, hR.drop s0 s1 c0 c1 uJ_s (fun j hj => uJ_k hj)⟩
  · refine G_iload2 x eX1_drop_7 ?_
    refine G_cN x eX1_drop_8 knX1_31 sm_yX10_isCell rm (ct_X10_isCell (by first | omega | exact hr _ _ | exact hr0 _ _ | exact hrS _)) rfl ?_
    refine G_ifb_eq x eX1_drop_11 (fun c11 => ?_) (fun c11 => ?_)
    · refine G_return x en eX1_drop_40 (by omega) (by omega) ?_
      first | (exfalso; omega) | exact ⟨rfl, rfl, rfl, rfl, fun b j hb => uJ_a hb _, hR.drop s0 s1 c0 c1 uJ_s (fun j hj => uJ_k hj)⟩
    · refine G_aload0 x eX1_drop_14 ?_
      refine G_getq x eX1_drop_15 fX1_11 rfl rfl hM.m hM.o_bits ?_
      refine G_iload1 x eX1_drop_18 ?_
      refine G_push x eX1_drop_19 ?_
      refine G_imul x eX1_drop_20 ?_
      refine G_iload2 x eX1_drop_21 ?_
      refine G_push x eX1_drop_22 ?_
      refine G_idivn x eX1_drop_24 (by omega) (by omega) (by omega) (by omega) ?_
      refine G_iadd x eX1_drop_25 ?_
      refine G_dup2 x eX1_drop_26 (by first | rfl | exact cat_rf _) (by first | rfl | exact cat_rf _) ?_
      refine G_lald x eX1_drop_27 rfl hM.t_bits (by omega) (by omega) (by omega) ?_
      refine G_lconst x eX1_drop_28 ?_
      refine G_iload2 x eX1_drop_29 ?_
      refine G_push x eX1_drop_30 ?_
      refine G_iremn x eX1_drop_32 (by omega) (by omega) (by omega) (by omega) ?_
      refine G_lshl x eX1_drop_33 ?_
      refine G_ldc2 x klX1_34 eX1_drop_34 ?_
      refine G_lxor x eX1_drop_37 ?_
      refine G_land x eX1_drop_38 ?_
      refine G_last x eX1_drop_39 rfl hM.t_bits (by omega) (by omega) (by omega) ?_
      refine G_return x en eX1_drop_40 (by omega) (by omega) ?_
      first | (exfalso; omega) | exact ⟨rfl, rfl, rfl, rfl, fun b j hb => uJ_a hb _, hR.drop s0 s1 c0 c1 uJ_s (fun j hj => uJ_k hj)⟩
theorem lc0 {y : Int64} : (if (0 : Int64) < y then (1 : Int) else if y = 0 then 0 else -1) = 0 ↔ y = 0 := by
  split
  · next h => exact ⟨fun z => by omega, fun z => by rw [z] at h; exact absurd h (by decide)⟩
  · split
    · next h => exact ⟨fun _ => h, fun _ => rfl⟩
    · next h => exact ⟨fun z => by omega, fun z => absurd z h⟩
theorem has_i {B : Int → Int64} {R : Int → Int → Prop} {s c : Int} (h : CsIs B R) (s0 : 0 ≤ s) (s1 : s ≤ 144) (c0 : 0 ≤ c) (c1 : c < 144) : B (s * 3 + c / 64) &&& msk (c % 64) ≠ 0 ↔ R s c := by
  rw [← h s c s0 s1 c0 (by omega), l_ne0]
  unfold hasB
  rw [show 3 * s + c / 64 = s * 3 + c / 64 by omega]
  constructor
  · rintro ⟨i, hi, z⟩
    rw [Int64.toBitVec_and, BitVec.getLsbD_and, Bool.and_eq_true, msk_b (by omega) (by omega) hi, decide_eq_true_iff] at z
    rw [show (c % 64).toNat = i by omega]
    exact z.1
  · intro z
    refine ⟨(c % 64).toNat, by omega, ?_⟩
    rw [Int64.toBitVec_and, BitVec.getLsbD_and, z, msk_b (by omega) (by omega) (by omega), decide_eq_true (by omega)]
    rfl
set_option maxRecDepth 20000 in
theorem ct_X1_has {T : gT} {I : gI} {J : gJ} {O : gO} {cs : Nat} {s c : Int} {R : Int → Int → Prop} (hM : CsAt T O cs) (hR : CsIs (J (cs + 1)) R) (s0 : 0 ≤ s) (s1 : s ≤ 144) (c0 : 0 ≤ c) (c1 : c < 144) : Ct yX1_has cX1_has 3 (some .boolean) [va_rf (some cs), VI s, VI c] 1 20 0 0 T I J O (pv (some (VI (b01 (R s c)))) T I J O) := by
  refine Ct.of (by decide) [some (va_rf (some cs)), some (VI s), some (VI c)] (gEn1 (List.forall_mem_cons.mpr ⟨cat_VR _, List.forall_mem_cons.mpr ⟨cat_VI _, List.forall_mem_cons.mpr ⟨cat_VI _, fun _ h => nomatch h⟩⟩⟩) rfl (Nat.le_of_ble_eq_true rfl) rfl) ?_
  intro X x en rm ini hr hz
  have hr0 := hr
  have hi := has_i hR s0 s1 c0 c1
  have bnd : in32 (if (0 : Int64) < (J (cs + 1) (s * 3 + c / 64) &&& msk (c % 64)) then (1 : Int) else if (J (cs + 1) (s * 3 + c / 64) &&& msk (c % 64)) = 0 then 0 else -1) := by split; omega; split <;> omega
  have b36 : G X 36 [some (va_rf (some cs)), some (VI s), some (VI c)] [VI (if (0 : Int64) < (J (cs + 1) (s * 3 + c / 64) &&& msk (c % 64)) then (1 : Int) else if (J (cs + 1) (s * 3 + c / 64) &&& msk (c % 64)) = 0 then 0 else -1)] T I J O 0 0 := by
    refine G_if_eq x eX1_has_36 bnd (fun c36 => ?_) (fun c36 => ?_)
    · refine G_rg (fun hr => ?_)
      refine G_push x eX1_has_43 ?_
      refine G_zreturn x en eX1_has_44 (by omega) (by omega) ?_ ?_
      · first | exact Or.inl rfl | exact Or.inr rfl | omega
      · exact ⟨by rw [b01_f (fun z => (hi.mpr z) (lc0.mp c36))], rfl, rfl, rfl, rfl⟩
    · refine G_rg (fun hr => ?_)
      refine G_push x eX1_has_39 ?_
      refine G_goto x eX1_has_40 ?_
      refine G_zreturn x en eX1_has_44 (by omega) (by omega) ?_ ?_
      · first | exact Or.inl rfl | exact Or.inr rfl | omega
      · exact ⟨by rw [b01_t (hi.mp (fun z => c36 (lc0.mpr z)))], rfl, rfl, rfl, rfl⟩
  refine G_rg (fun hr => ?_)
  refine G_iload1 x eX1_has_0 ?_
  refine G_cS x eX1_has_1 kX1_27 sm_yX1_isSet rm (ct_X1_isSet (by first | omega | exact hr _ _ | exact hr0 _ _ | exact hrS _)) rfl ?_
  refine G_ifb_eq x eX1_has_4 (fun c4 => ?_) (fun c4 => ?_)
  · refine G_push x eX1_has_43 ?_
    refine G_zreturn x en eX1_has_44 (by omega) (by omega) ?_ ?_
    · first | exact Or.inl rfl | exact Or.inr rfl | omega
    · exfalso; omega
  · refine G_iload2 x eX1_has_7 ?_
    refine G_cN x eX1_has_8 knX1_31 sm_yX10_isCell rm (ct_X10_isCell (by first | omega | exact hr _ _ | exact hr0 _ _ | exact hrS _)) rfl ?_
    refine G_ifb_eq x eX1_has_11 (fun c11 => ?_) (fun c11 => ?_)
    · refine G_push x eX1_has_43 ?_
      refine G_zreturn x en eX1_has_44 (by omega) (by omega) ?_ ?_
      · first | exact Or.inl rfl | exact Or.inr rfl | omega
      · exfalso; omega
    · refine G_aload0 x eX1_has_14 ?_
      refine G_getq x eX1_has_15 fX1_11 rfl rfl hM.m hM.o_bits ?_
      refine G_iload1 x eX1_has_18 ?_
      refine G_push x eX1_has_19 ?_
      refine G_imul x eX1_has_20 ?_
      refine G_iload2 x eX1_has_21 ?_
      refine G_push x eX1_has_22 ?_
      refine G_idivn x eX1_has_24 (by omega) (by omega) (by omega) (by omega) ?_
      refine G_iadd x eX1_has_25 ?_
      refine G_lald x eX1_has_26 rfl hM.t_bits (by omega) (by omega) (by omega) ?_
      refine G_lconst x eX1_has_27 ?_
      refine G_iload2 x eX1_has_28 ?_
      refine G_push x eX1_has_29 ?_
      refine G_iremn x eX1_has_31 (by omega) (by omega) (by omega) (by omega) ?_
      refine G_lshl x eX1_has_32 ?_
      refine G_land x eX1_has_33 ?_
      refine G_lconst x eX1_has_34 ?_
      refine G_lcmp x eX1_has_35 ?_
      exact b36
theorem CsIs.join {B B' : Int → Int64} {R : Int → Int → Prop} {s o : Int} (h : CsIs B R) (s0 : 0 ≤ s) (s1 : s ≤ 144) (o0 : 0 ≤ o) (o1 : o ≤ 144) (e1 : ∀ w, 0 ≤ w → w < 3 → B' (3 * s + w) = B (3 * s + w) ||| B (3 * o + w)) (e2 : ∀ j, j < 3 * s ∨ 3 * s + 3 ≤ j → B' j = B j) : CsIs B' (fun s' c' => R s' c' ∨ (s' = s ∧ R o c')) := by
  intro s' c' a1 a2 a3 a4
  show hasB B' s' c' ↔ (R s' c' ∨ (s' = s ∧ R o c'))
  rw [← h s' c' a1 a2 a3 a4, ← h o c' o0 o1 a3 a4]
  unfold hasB
  by_cases q : s' = s
  · rw [q, e1 _ (by omega) (by omega), Int64.toBitVec_or, BitVec.getLsbD_or, Bool.or_eq_true]
    exact or_congr Iff.rfl ⟨fun z => ⟨rfl, z⟩, fun z => z.2⟩
  · rw [e2 _ (by omega)]
    exact ⟨Or.inl, fun z => z.elim id (fun z => absurd z.1 q)⟩
set_option maxRecDepth 20000 in
theorem ct_X1_join {T : gT} {I : gI} {J : gJ} {O : gO} {cs : Nat} {s o : Int} {R : Int → Int → Prop} (hM : CsAt T O cs) (hR : CsIs (J (cs + 1)) R) (s0 : 0 ≤ s) (s1 : s ≤ 144) (o0 : 0 ≤ o) (o1 : o ≤ 144) : Ct yX1_join cX1_join 4 none [va_rf (some cs), VI s, VI o] 1 20 0 0 T I J O (csP T I J O cs (fun s' c' => R s' c' ∨ (s' = s ∧ R o c'))) := by
  refine Ct.of (by decide) [some (va_rf (some cs)), some (VI s), some (VI o), none] (gEn1 (List.forall_mem_cons.mpr ⟨cat_VR _, List.forall_mem_cons.mpr ⟨cat_VI _, List.forall_mem_cons.mpr ⟨cat_VI _, fun _ h => nomatch h⟩⟩⟩) rfl (Nat.le_of_ble_eq_true rfl) rfl) ?_
  intro X x en rm ini hr hz
  have hr0 := hr
  have loop : ∀ (d : Nat) (w : Int) (J1 : gJ), w + d = 3 → 0 ≤ w → (∀ b j, b ≠ cs + 1 → J1 b j = J b j) → (∀ u, 0 ≤ u → u < w → J1 (cs + 1) (3 * s + u) = J (cs + 1) (3 * s + u) ||| J (cs + 1) (3 * o + u)) → (∀ j, j < 3 * s ∨ 3 * s + w ≤ j → J1 (cs + 1) j = J (cs + 1) j) → G X 16 [some (va_rf (some cs)), some (VI s), some (VI o), some (VI w)] [] T I J1 O 0 0 := by
    intro d
    induction d with
    | zero =>
      intro w J1 hd w0 h1 h2 h3
      have ew : w = 3 := by omega
      subst ew
      refine G_rg (fun hr => ?_)
      refine G_iload3 x eX1_join_16 ?_
      refine G_push x eX1_join_17 ?_
      refine G_icmp_ge x eX1_join_18 (by first | omega | exact hr _ _ | exact hr0 _ _ | exact hrS _) (by first | omega | exact hr _ _ | exact hr0 _ _ | exact hrS _) (fun c18 => ?_) (fun c18 => ?_)
      · refine G_return x en eX1_join_50 (by omega) (by omega) ?_
        exact ⟨rfl, rfl, rfl, rfl, h1, hR.join s0 s1 o0 o1 h2 h3⟩
      · omega
    | succ d ih =>
      intro w J1 hd w0 h1 h2 h3
      have r1 : J1 (cs + 1) (s * 3 + w) = J (cs + 1) (s * 3 + w) := h3 _ (by omega)
      have r2 : J1 (cs + 1) (o * 3 + w) = J (cs + 1) (o * 3 + w) := h3 _ (by omega)
      have step : ∀ u, 0 ≤ u → u < w + 1 → uJ J1 (cs + 1) (s * 3 + w) (J (cs + 1) (s * 3 + w) ||| J (cs + 1) (o * 3 + w)) (cs + 1) (3 * s + u) = J (cs + 1) (3 * s + u) ||| J (cs + 1) (3 * o + u) := fun u u0 u1 => by
        rcases (by omega : u < w ∨ u = w) with q | q
        · rw [uJ_k (by omega)]; exact h2 u u0 q
        · rw [q, show 3 * s + w = s * 3 + w by omega, show 3 * o + w = o * 3 + w by omega, uJ_s]
      refine G_rg (fun hr => ?_)
      refine G_iload3 x eX1_join_16 ?_
      refine G_push x eX1_join_17 ?_
      refine G_icmp_ge x eX1_join_18 (by first | omega | exact hr _ _ | exact hr0 _ _ | exact hrS _) (by first | omega | exact hr _ _ | exact hr0 _ _ | exact hrS _) (fun c18 => ?_) (fun c18 => ?_)
      · omega
      · refine G_aload0 x eX1_join_21 ?_
        refine G_getq x eX1_join_22 fX1_11 rfl rfl hM.m hM.o_bits ?_
        refine G_iload1 x eX1_join_25 ?_
        refine G_push x eX1_join_26 ?_
        refine G_imul x eX1_join_27 ?_
        refine G_iload3 x eX1_join_28 ?_
        refine G_iadd x eX1_join_29 ?_
        refine G_dup2 x eX1_join_30 (by first | rfl | exact cat_rf _) (by first | rfl | exact cat_rf _) ?_
        refine G_lald x eX1_join_31 rfl hM.t_bits (by omega) (by omega) (by omega) ?_
        refine G_aload0 x eX1_join_32 ?_
        refine G_getq x eX1_join_33 fX1_11 rfl rfl hM.m hM.o_bits ?_
        refine G_iload2 x eX1_join_36 ?_
        refine G_push x eX1_join_37 ?_
        refine G_imul x eX1_join_38 ?_
        refine G_iload3 x eX1_join_39 ?_
        refine G_iadd x eX1_join_40 ?_
        refine G_lald x eX1_join_41 rfl hM.t_bits (by omega) (by omega) (by omega) ?_
        rw [r1, r2]
        refine G_lor x eX1_join_42 ?_
        refine G_last x eX1_join_43 rfl hM.t_bits (by omega) (by omega) (by omega) ?_
        refine G_iinc3 x eX1_join_44 ?_
        refine G_goto x eX1_join_47 ?_
        refine ih (w + 1) _ (by omega) (by omega) (fun b j hb => by rw [uJ_a hb]; exact h1 b j hb) step (fun j hj => by rw [uJ_k (by omega)]; exact h3 j (by omega))
  refine G_rg (fun hr => ?_)
  refine G_iload1 x eX1_join_0 ?_
  refine G_cS x eX1_join_1 kX1_27 sm_yX1_isSet rm (ct_X1_isSet (by first | omega | exact hr _ _ | exact hr0 _ _ | exact hrS _)) rfl ?_
  refine G_ifb_eq x eX1_join_4 (fun c4 => ?_) (fun c4 => ?_)
  · refine G_return x en eX1_join_50 (by omega) (by omega) ?_
    exfalso; omega
  · refine G_iload2 x eX1_join_7 ?_
    refine G_cS x eX1_join_8 kX1_27 sm_yX1_isSet rm (ct_X1_isSet (by first | omega | exact hr _ _ | exact hr0 _ _ | exact hrS _)) rfl ?_
    refine G_ifb_eq x eX1_join_11 (fun c11 => ?_) (fun c11 => ?_)
    · refine G_return x en eX1_join_50 (by omega) (by omega) ?_
      exfalso; omega
    · refine G_push x eX1_join_14 ?_
      refine G_istore3 x eX1_join_15 ?_
      exact loop 3 0 J (by omega) (by omega) (fun _ _ _ => rfl) (fun u _ _ => by omega) (fun _ _ => rfl)
theorem com_i {B : Int → Int64} {R : Int → Int → Prop} {s o w : Int} (h : CsIs B R) (s0 : 0 ≤ s) (s1 : s ≤ 144) (o0 : 0 ≤ o) (o1 : o ≤ 144) (w0 : 0 ≤ w) (w1 : w < 3) : B (s * 3 + w) &&& B (o * 3 + w) ≠ 0 ↔ ∃ c, 64 * w ≤ c ∧ c < 64 * w + 64 ∧ R s c ∧ R o c := by
  rw [l_ne0]
  constructor
  · rintro ⟨i, hi, z⟩
    rw [Int64.toBitVec_and, BitVec.getLsbD_and, Bool.and_eq_true] at z
    refine ⟨64 * w + i, by omega, by omega, ?_, ?_⟩
    · rw [← h _ _ s0 s1 (by omega) (by omega)]
      unfold hasB
      rw [show 3 * s + (64 * w + (i : Int)) / 64 = s * 3 + w by omega, show ((64 * w + (i : Int)) % 64).toNat = i by omega]
      exact z.1
    · rw [← h _ _ o0 o1 (by omega) (by omega)]
      unfold hasB
      rw [show 3 * o + (64 * w + (i : Int)) / 64 = o * 3 + w by omega, show ((64 * w + (i : Int)) % 64).toNat = i by omega]
      exact z.2
  · rintro ⟨c, c0, c1, z1, z2⟩
    rw [← h _ _ s0 s1 (by omega) (by omega)] at z1
    rw [← h _ _ o0 o1 (by omega) (by omega)] at z2
    unfold hasB at z1 z2
    rw [show 3 * s + c / 64 = s * 3 + w by omega] at z1
    rw [show 3 * o + c / 64 = o * 3 + w by omega] at z2
    exact ⟨(c % 64).toNat, by omega, by rw [Int64.toBitVec_and, BitVec.getLsbD_and, z1, z2]; rfl⟩
set_option maxRecDepth 20000 in
theorem ct_X1_haveCommon {T : gT} {I : gI} {J : gJ} {O : gO} {cs : Nat} {s o : Int} {R : Int → Int → Prop} (hM : CsAt T O cs) (hR : CsIs (J (cs + 1)) R) (s0 : 0 ≤ s) (s1 : s ≤ 144) (o0 : 0 ≤ o) (o1 : o ≤ 144) : Ct yX1_haveCommon cX1_haveCommon 4 (some .boolean) [va_rf (some cs), VI s, VI o] 1 20 0 0 T I J O (pv (some (VI (b01 (∃ c, 0 ≤ c ∧ c < 192 ∧ R s c ∧ R o c)))) T I J O) := by
  refine Ct.of (by decide) [some (va_rf (some cs)), some (VI s), some (VI o), none] (gEn1 (List.forall_mem_cons.mpr ⟨cat_VR _, List.forall_mem_cons.mpr ⟨cat_VI _, List.forall_mem_cons.mpr ⟨cat_VI _, fun _ h => nomatch h⟩⟩⟩) rfl (Nat.le_of_ble_eq_true rfl) rfl) ?_
  intro X x en rm ini hr hz
  have hr0 := hr
  have loop : ∀ (d : Nat) (w : Int), w + d = 3 → 0 ≤ w → (∀ c, 0 ≤ c → c < 64 * w → ¬ (R s c ∧ R o c)) → G X 16 [some (va_rf (some cs)), some (VI s), some (VI o), some (VI w)] [] T I J O 0 0 := by
    intro d
    induction d with
    | zero =>
      intro w hd w0 h1
      refine G_rg (fun hr => ?_)
      refine G_iload3 x eX1_haveCommon_16 ?_
      refine G_push x eX1_haveCommon_17 ?_
      refine G_icmp_ge x eX1_haveCommon_18 (by first | omega | exact hr _ _ | exact hr0 _ _ | exact hrS _) (by first | omega | exact hr _ _ | exact hr0 _ _ | exact hrS _) (fun c18 => ?_) (fun c18 => ?_)
      · refine G_push x eX1_haveCommon_55 ?_
        refine G_zreturn x en eX1_haveCommon_56 (by omega) (by omega) ?_ ?_
        · first | exact Or.inl rfl | exact Or.inr rfl | omega
        · exact ⟨by rw [b01_f (fun ⟨c, c0, c1, z⟩ => h1 c c0 (by omega) z)], rfl, rfl, rfl, rfl⟩
      · omega
    | succ d ih =>
      intro w hd w0 h1
      have hi := com_i (w := w) hR s0 s1 o0 o1 w0 (by omega)
      have bnd : in32 (if (0 : Int64) < (J (cs + 1) (s * 3 + w) &&& J (cs + 1) (o * 3 + w)) then (1 : Int) else if (J (cs + 1) (s * 3 + w) &&& J (cs + 1) (o * 3 + w)) = 0 then 0 else -1) := by split; omega; split <;> omega
      have b44 : G X 44 [some (va_rf (some cs)), some (VI s), some (VI o), some (VI w)] [VI (if (0 : Int64) < (J (cs + 1) (s * 3 + w) &&& J (cs + 1) (o * 3 + w)) then (1 : Int) else if (J (cs + 1) (s * 3 + w) &&& J (cs + 1) (o * 3 + w)) = 0 then 0 else -1)] T I J O 0 0 := by
        refine G_if_eq x eX1_haveCommon_44 bnd (fun c44 => ?_) (fun c44 => ?_)
        · refine G_rg (fun hr => ?_)
          refine G_iinc3 x eX1_haveCommon_49 ?_
          refine G_goto x eX1_haveCommon_52 ?_
          exact ih (w + 1) (by omega) (by omega) (fun c c0 c1 z => by by_cases q : c < 64 * w; exact h1 c c0 q z; exact (hi.mpr ⟨c, by omega, by omega, z⟩) (lc0.mp c44))
        · obtain ⟨c, c0, c1, z⟩ := hi.mp (fun z => c44 (lc0.mpr z))
          refine G_rg (fun hr => ?_)
          refine G_push x eX1_haveCommon_47 ?_
          refine G_zreturn x en eX1_haveCommon_48 (by omega) (by omega) ?_ ?_
          · first | exact Or.inl rfl | exact Or.inr rfl | omega
          · exact ⟨by rw [b01_t ⟨c, by omega, by omega, z⟩], rfl, rfl, rfl, rfl⟩
      refine G_rg (fun hr => ?_)
      refine G_iload3 x eX1_haveCommon_16 ?_
      refine G_push x eX1_haveCommon_17 ?_
      refine G_icmp_ge x eX1_haveCommon_18 (by first | omega | exact hr _ _ | exact hr0 _ _ | exact hrS _) (by first | omega | exact hr _ _ | exact hr0 _ _ | exact hrS _) (fun c18 => ?_) (fun c18 => ?_)
      · omega
      · refine G_aload0 x eX1_haveCommon_21 ?_
        refine G_getq x eX1_haveCommon_22 fX1_11 rfl rfl hM.m hM.o_bits ?_
        refine G_iload1 x eX1_haveCommon_25 ?_
        refine G_push x eX1_haveCommon_26 ?_
        refine G_imul x eX1_haveCommon_27 ?_
        refine G_iload3 x eX1_haveCommon_28 ?_
        refine G_iadd x eX1_haveCommon_29 ?_
        refine G_lald x eX1_haveCommon_30 rfl hM.t_bits (by omega) (by omega) (by omega) ?_
        refine G_aload0 x eX1_haveCommon_31 ?_
        refine G_getq x eX1_haveCommon_32 fX1_11 rfl rfl hM.m hM.o_bits ?_
        refine G_iload2 x eX1_haveCommon_35 ?_
        refine G_push x eX1_haveCommon_36 ?_
        refine G_imul x eX1_haveCommon_37 ?_
        refine G_iload3 x eX1_haveCommon_38 ?_
        refine G_iadd x eX1_haveCommon_39 ?_
        refine G_lald x eX1_haveCommon_40 rfl hM.t_bits (by omega) (by omega) (by omega) ?_
        refine G_land x eX1_haveCommon_41 ?_
        refine G_lconst x eX1_haveCommon_42 ?_
        refine G_lcmp x eX1_haveCommon_43 ?_
        exact b44
  refine G_rg (fun hr => ?_)
  refine G_iload1 x eX1_haveCommon_0 ?_
  refine G_cS x eX1_haveCommon_1 kX1_27 sm_yX1_isSet rm (ct_X1_isSet (by first | omega | exact hr _ _ | exact hr0 _ _ | exact hrS _)) rfl ?_
  refine G_ifb_eq x eX1_haveCommon_4 (fun c4 => ?_) (fun c4 => ?_)
  · refine G_push x eX1_haveCommon_55 ?_
    refine G_zreturn x en eX1_haveCommon_56 (by omega) (by omega) ?_ ?_
    · first | exact Or.inl rfl | exact Or.inr rfl | omega
    · exfalso; omega
  · refine G_iload2 x eX1_haveCommon_7 ?_
    refine G_cS x eX1_haveCommon_8 kX1_27 sm_yX1_isSet rm (ct_X1_isSet (by first | omega | exact hr _ _ | exact hr0 _ _ | exact hrS _)) rfl ?_
    refine G_ifb_eq x eX1_haveCommon_11 (fun c11 => ?_) (fun c11 => ?_)
    · refine G_push x eX1_haveCommon_55 ?_
      refine G_zreturn x en eX1_haveCommon_56 (by omega) (by omega) ?_ ?_
      · first | exact Or.inl rfl | exact Or.inr rfl | omega
      · exfalso; omega
    · refine G_push x eX1_haveCommon_14 ?_
      refine G_istore3 x eX1_haveCommon_15 ?_
      exact loop 3 0 (by omega) (by omega) (fun c _ _ => by omega)
theorem sm_add {m : Int → Int} (a b : Nat) : sm m (a + b) = sm m a + sm (fun i => m (a + i)) b := by
  induction b with
  | zero => show sm m a = sm m a + 0; omega
  | succ b ih =>
    show sm m (a + b) + m ((a + b : Nat) : Int) = sm m a + (sm (fun i => m (a + i)) b + m (a + b))
    rw [ih, show ((a + b : Nat) : Int) = (a : Int) + b by omega]
    omega
theorem siz_i {B : Int → Int64} {R : Int → Int → Prop} {s : Int} {w : Nat} (h : CsIs B R) (s0 : 0 ≤ s) (s1 : s ≤ 144) (w1 : w < 3) : sm (fun c => b01 (R s c)) (64 * (w + 1)) = sm (fun c => b01 (R s c)) (64 * w) + ((cntB (uN (B (s * 3 + w))) 64 : Nat) : Int) := by
  rw [show 64 * (w + 1) = 64 * w + 64 by omega, sm_add, cntB_sm]
  congr 1
  refine sm_c 64 (fun i i0 i1 => b01_e ?_)
  rw [← h s _ s0 s1 (by omega) (by omega)]
  unfold hasB
  rw [show 3 * s + (((64 * w : Nat) : Int) + i) / 64 = s * 3 + w by omega, show (((64 * w : Nat) : Int) + i) % 64 = i by omega]
theorem cntB_le (x n : Nat) : cntB x n ≤ n := by
  induction n with
  | zero => show 0 ≤ 0; omega
  | succ n ih => show cntB x n + x / 2 ^ n % 2 ≤ n + 1; omega
set_option maxRecDepth 20000 in
theorem ct_X1_size {T : gT} {I : gI} {J : gJ} {O : gO} {cs : Nat} {s : Int} {R : Int → Int → Prop} (hM : CsAt T O cs) (hR : CsIs (J (cs + 1)) R) (s0 : 0 ≤ s) (s1 : s ≤ 144) : Ct yX1_size cX1_size 4 (some .int) [va_rf (some cs), VI s] 1 21 0 0 T I J O (pv (some (VI (sm (fun c => b01 (R s c)) 192))) T I J O) := by
  refine Ct.of (by decide) [some (va_rf (some cs)), some (VI s), none, none] (gEn1 (List.forall_mem_cons.mpr ⟨cat_VR _, List.forall_mem_cons.mpr ⟨cat_VI _, fun _ h => nomatch h⟩⟩) rfl (Nat.le_of_ble_eq_true rfl) rfl) ?_
  intro X x en rm ini hr hz
  have hr0 := hr
  have loop : ∀ (d w : Nat), w + d = 3 → G X 11 [some (va_rf (some cs)), some (VI s), some (VI (sm (fun c => b01 (R s c)) (64 * w))), some (VI w)] [] T I J O 0 0 := by
    intro d
    induction d with
    | zero =>
      intro w hd
      have ew : w = 3 := by omega
      subst ew
      refine G_rg (fun hr => ?_)
      refine G_iload3 x eX1_size_11 ?_
      refine G_push x eX1_size_12 ?_
      refine G_icmp_ge x eX1_size_13 (by first | omega | exact hr _ _ | exact hr0 _ _ | exact hrS _) (by first | omega | exact hr _ _ | exact hr0 _ _ | exact hrS _) (fun c13 => ?_) (fun c13 => ?_)
      · refine G_iload2 x eX1_size_38 ?_
        refine G_ireturn x en eX1_size_39 (by omega) (by omega) ?_
        exact pv_i
      · omega
    | succ d ih =>
      intro w hd
      have hi := siz_i (w := w) hR s0 s1 (by omega)
      have ih := ih (w + 1) (by omega)
      rw [hi] at ih
      refine G_rg (fun hr => ?_)
      refine G_iload3 x eX1_size_11 ?_
      refine G_push x eX1_size_12 ?_
      refine G_icmp_ge x eX1_size_13 (by first | omega | exact hr _ _ | exact hr0 _ _ | exact hrS _) (by first | omega | exact hr _ _ | exact hr0 _ _ | exact hrS _) (fun c13 => ?_) (fun c13 => ?_)
      · omega
      · refine G_iload2 x eX1_size_16 ?_
        refine G_aload0 x eX1_size_17 ?_
        refine G_getq x eX1_size_18 fX1_11 rfl rfl hM.m hM.o_bits ?_
        refine G_iload1 x eX1_size_21 ?_
        refine G_push x eX1_size_22 ?_
        refine G_imul x eX1_size_23 ?_
        refine G_iload3 x eX1_size_24 ?_
        refine G_iadd x eX1_size_25 ?_
        refine G_lald x eX1_size_26 rfl hM.t_bits (by omega) (by omega) (by omega) ?_
        refine G_cS x eX1_size_27 kX1_36 sm_yJ13_bitCount_95d88 rm ct_J13_bitCount_95d88 rfl ?_
        refine G_iadd x eX1_size_30 ?_
        refine G_istore2 x eX1_size_31 ?_
        refine G_iinc3 x eX1_size_32 ?_
        refine G_goto x eX1_size_35 ?_
        exact ih
  refine G_rg (fun hr => ?_)
  refine G_push x eX1_size_0 ?_
  refine G_istore2 x eX1_size_1 ?_
  refine G_iload1 x eX1_size_2 ?_
  refine G_cS x eX1_size_3 kX1_27 sm_yX1_isSet rm (ct_X1_isSet (by first | omega | exact hr _ _ | exact hr0 _ _ | exact hrS _)) rfl ?_
  refine G_ifb_eq x eX1_size_6 (fun c6 => ?_) (fun c6 => ?_)
  · refine G_iload2 x eX1_size_38 ?_
    refine G_ireturn x en eX1_size_39 (by omega) (by omega) ?_
    exfalso; omega
  · refine G_push x eX1_size_9 ?_
    refine G_istore3 x eX1_size_10 ?_
    exact loop 3 0 (by omega)
def flP (T : gT) (I : gI) (J : gJ) (O : gO) (a N : Nat) (w : Int64) : gP := fun v T' I' J' O' => v = none ∧ T' = T ∧ I' = I ∧ O' = O ∧ (∀ b j, b ≠ a → J' b j = J b j) ∧ ∀ j : Int, 0 ≤ j → j < N → J' a j = w
set_option maxRecDepth 20000 in
theorem ct_J7_fill_d0a16 {T : gT} {I : gI} {J : gJ} {O : gO} {a N : Nat} {w : Int64} (hT : T.2 a = some (.inr (3, N))) (hN : N ≤ 100000) : Ct yJ7_fill_d0a16 cJ7_fill_d0a16 5 none [va_rf (some a), Value.long w] 0 0 0 0 T I J O (flP T I J O a N w) := by
  refine Ct.ofF (by decide +kernel) [some (va_rf (some a)), some (Value.long w), none, none, none] (gEnL rfl (Nat.le_of_ble_eq_true rfl) rfl) ?_
  intro X x en rm ini hr hz
  have hr0 := hr
  have loop : ∀ (d : Nat) (i : Int) (J1 : gJ), i + d = N → 0 ≤ i → (∀ b j, b ≠ a → J1 b j = J b j) → (∀ j, 0 ≤ j → j < i → J1 a j = w) → G X 6 [some (va_rf (some a)), some (.long w), none, some (VI i), some (VI N)] [] T I J1 O 0 0 := by
    intro d
    induction d with
    | zero =>
      intro i J1 hd i0 h1 h2
      refine G_rg (fun hr => ?_)
      refine G_iload3 x eJ7_fill_d0a16_6 ?_
      refine G_iload4 x eJ7_fill_d0a16_7 ?_
      refine G_icmp_ge x eJ7_fill_d0a16_9 (by first | omega | exact hr _ _ | exact hr0 _ _ | exact hrS _) (by first | omega | exact hr _ _ | exact hr0 _ _ | exact hrS _) (fun c9 => ?_) (fun c9 => ?_)
      · refine G_return x en eJ7_fill_d0a16_22 (by omega) (by omega) ?_
        exact ⟨rfl, rfl, rfl, rfl, h1, fun j j0 j1 => h2 j j0 (by omega)⟩
      · omega
    | succ d ih =>
      intro i J1 hd i0 h1 h2
      refine G_rg (fun hr => ?_)
      refine G_iload3 x eJ7_fill_d0a16_6 ?_
      refine G_iload4 x eJ7_fill_d0a16_7 ?_
      refine G_icmp_ge x eJ7_fill_d0a16_9 (by first | omega | exact hr _ _ | exact hr0 _ _ | exact hrS _) (by first | omega | exact hr _ _ | exact hr0 _ _ | exact hrS _) (fun c9 => ?_) (fun c9 => ?_)
      · omega
      · refine G_aload0 x eJ7_fill_d0a16_12 ?_
        refine G_iload3 x eJ7_fill_d0a16_13 ?_
        refine G_lload1 x eJ7_fill_d0a16_14 ?_
        refine G_last x eJ7_fill_d0a16_15 rfl hT (by omega) (by omega) (by omega) ?_
        refine G_iinc3 x eJ7_fill_d0a16_16 ?_
        refine G_goto x eJ7_fill_d0a16_19 ?_
        exact ih (i + 1) _ (by omega) (by omega) (fun b j hb => by rw [uJ_a hb]; exact h1 b j hb) (fun j j0 j1 => by rcases (by omega : j < i ∨ j = i) with q | q; (rw [uJ_k (by omega)]; exact h2 j j0 q); (rw [q, uJ_s]))
  refine G_push x eJ7_fill_d0a16_0 ?_
  refine G_istore3 x eJ7_fill_d0a16_1 ?_
  refine G_aload0 x eJ7_fill_d0a16_2 ?_
  refine G_alen x eJ7_fill_d0a16_3 rfl hT (fun _ => rfl) ?_
  refine G_istore4 x eJ7_fill_d0a16_4 ?_
  exact loop N 0 J (by omega) (by omega) (fun _ _ _ => rfl) (fun j _ _ => by omega)
def fiP (T : gT) (I : gI) (J : gJ) (O : gO) (a N : Nat) (w : Int) : gP := fun v T' I' J' O' => v = none ∧ T' = T ∧ J' = J ∧ O' = O ∧ (∀ b j, b ≠ a → I' b j = I b j) ∧ ∀ j : Int, 0 ≤ j → j < N → I' a j = w
set_option maxRecDepth 20000 in
theorem ct_J7_fill_53178 {T : gT} {I : gI} {J : gJ} {O : gO} {a N : Nat} {w : Int} (hT : T.2 a = some (.inr (0, N))) (hN : N ≤ 100000) (hw : in32 w) : Ct yJ7_fill_53178 cJ7_fill_53178 4 none [va_rf (some a), VI w] 0 0 0 0 T I J O (fiP T I J O a N w) := by
  refine Ct.ofF (by decide +kernel) [some (va_rf (some a)), some (VI w), none, none] (gEn1 (List.forall_mem_cons.mpr ⟨cat_VR _, List.forall_mem_cons.mpr ⟨cat_VI _, fun _ h => nomatch h⟩⟩) rfl (Nat.le_of_ble_eq_true rfl) rfl) ?_
  intro X x en rm ini hr hz
  have hr0 := hr
  have loop : ∀ (d : Nat) (i : Int) (I1 : gI), i + d = N → 0 ≤ i → (∀ b j, b ≠ a → I1 b j = I b j) → (∀ j, 0 ≤ j → j < i → I1 a j = w) → G X 5 [some (va_rf (some a)), some (VI w), some (VI i), some (VI N)] [] T I1 J O 0 0 := by
    intro d
    induction d with
    | zero =>
      intro i I1 hd i0 h1 h2
      refine G_rg (fun hr => ?_)
      refine G_iload2 x eJ7_fill_53178_5 ?_
      refine G_iload3 x eJ7_fill_53178_6 ?_
      refine G_icmp_ge x eJ7_fill_53178_7 (by first | omega | exact hr _ _ | exact hr0 _ _ | exact hrS _) (by first | omega | exact hr _ _ | exact hr0 _ _ | exact hrS _) (fun c7 => ?_) (fun c7 => ?_)
      · refine G_return x en eJ7_fill_53178_20 (by omega) (by omega) ?_
        exact ⟨rfl, rfl, rfl, rfl, h1, fun j j0 j1 => h2 j j0 (by omega)⟩
      · omega
    | succ d ih =>
      intro i I1 hd i0 h1 h2
      refine G_rg (fun hr => ?_)
      refine G_iload2 x eJ7_fill_53178_5 ?_
      refine G_iload3 x eJ7_fill_53178_6 ?_
      refine G_icmp_ge x eJ7_fill_53178_7 (by first | omega | exact hr _ _ | exact hr0 _ _ | exact hrS _) (by first | omega | exact hr _ _ | exact hr0 _ _ | exact hrS _) (fun c7 => ?_) (fun c7 => ?_)
      · omega
      · refine G_aload0 x eJ7_fill_53178_10 ?_
        refine G_iload2 x eJ7_fill_53178_11 ?_
        refine G_iload1 x eJ7_fill_53178_12 ?_
        refine G_iast x eJ7_fill_53178_13 rfl hT (by omega) (by omega) (by omega) (by first | omega | exact hr _ _ | exact hr0 _ _ | exact hrS _) ?_
        refine G_rg (fun hr => ?_)
        refine G_iinc2 x eJ7_fill_53178_14 ?_
        refine G_goto x eJ7_fill_53178_17 ?_
        exact ih (i + 1) _ (by omega) (by omega) (fun b j hb => by rw [uI_a hb]; exact h1 b j hb) (fun j j0 j1 => by rcases (by omega : j < i ∨ j = i) with q | q; (rw [uI_k (by omega)]; exact h2 j j0 q); (rw [q, uI_s]))
  refine G_push x eJ7_fill_53178_0 ?_
  refine G_istore2 x eJ7_fill_53178_1 ?_
  refine G_aload0 x eJ7_fill_53178_2 ?_
  refine G_alen x eJ7_fill_53178_3 rfl hT (fun _ => rfl) ?_
  refine G_istore3 x eJ7_fill_53178_4 ?_
  exact loop N 0 I (by omega) (by omega) (fun _ _ _ => rfl) (fun j _ _ => by omega)
theorem CsIs.none {B : Int → Int64} (h : ∀ j, 0 ≤ j → j < 435 → B j = 0) : CsIs B (fun _ _ => False) := by
  intro s c s0 s1 c0 c1
  unfold hasB
  rw [h _ (by omega) (by omega)]
  simp
set_option maxRecDepth 20000 in
theorem ct_X1_empty {T : gT} {I : gI} {J : gJ} {O : gO} {cs : Nat} (hM : CsAt T O cs) : Ct yX1_empty cX1_empty 1 none [va_rf (some cs)] 1 24 0 0 T I J O (csP T I J O cs (fun _ _ => False)) := by
  refine Ct.of (by decide) [some (va_rf (some cs))] (gEn1 (List.forall_mem_cons.mpr ⟨cat_VR _, fun _ h => nomatch h⟩) rfl (Nat.le_of_ble_eq_true rfl) rfl) ?_
  intro X x en rm ini hr hz
  have hr0 := hr
  refine G_rg (fun hr => ?_)
  refine G_aload0 x eX1_empty_0 ?_
  refine G_getq x eX1_empty_1 fX1_11 rfl rfl hM.m hM.o_bits ?_
  refine G_lconst x eX1_empty_4 ?_
  refine G_cSg x eX1_empty_5 kX1_15 sm_yJ7_fill_d0a16 rm (ct_J7_fill_d0a16 hM.t_bits (by omega)) rfl (fun v5 T5 I5 J5 O5 p5 => ?_)
  refine G_rg (fun hr => ?_)
  obtain ⟨rfl, rfl, rfl, rfl, k1, k2⟩ := p5
  refine G_return x en eX1_empty_8 (by omega) (by omega) ?_
  exact ⟨rfl, rfl, rfl, rfl, k1, CsIs.none k2⟩
