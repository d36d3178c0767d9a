/-! records of the class -/
set_option maxRecDepth 20000 in
theorem ct_X7_count {T : gT} {I : gI} {J : gJ} {O : gO} {rc : Nat} (hM : RcAt T O rc) : Ct yX7_count cX7_count 1 (some .int) [va_rf (some rc)] 0 0 0 0 T I J O (pv (some (VI (I rc 1))) T I J O) := by
  refine Ct.of (by decide) [some (va_rf (some rc))] (gEn1 (List.forall_mem_cons.mpr ⟨cat_VR _, fun _ h => nomatch h⟩) rfl (Nat.le_of_ble_eq_true rfl) rfl) ?_
  intro X x en rm ini hr hz
  have hr0 := hr
  refine G_rg (fun hr => ?_)
  refine G_aload0 x eX7_count_0 ?_
  refine G_geti x eX7_count_1 fX7_15 rfl rfl hM.m (fun h1 => ?_)
  refine G_ireturn x en eX7_count_4 (by omega) (by omega) ?_
  first | exact pv_i | (refine ⟨?_, rfl, rfl, rfl, rfl⟩; split <;> first | rfl | omega)
def dpP (T : gT) (I : gI) (J : gJ) (O : gO) (rc : Nat) : gP := fun v T' I' J' O' => v = none ∧ T' = T ∧ J' = J ∧ O' = O ∧ (∀ b j, b ≠ rc + 1 → (b ≠ rc ∨ j ≠ 1) → I' b j = I b j) ∧ I' rc 1 = 3 ∧ ∀ j, 0 ≤ j → j < 36 → I' (rc + 1) j = if j < 27 then I (rc + 1) (j + 9) else I (rc + 1) j
set_option maxRecDepth 20000 in
theorem ct_X7_dropOldest {T : gT} {I : gI} {J : gJ} {O : gO} {rc : Nat} (hM : RcAt T O rc) : Ct yX7_dropOldest cX7_dropOldest 2 none [va_rf (some rc)] 0 0 0 0 T I J O (dpP T I J O rc) := by
  refine Ct.of (by decide) [some (va_rf (some rc)), none] (gEn1 (List.forall_mem_cons.mpr ⟨cat_VR _, fun _ h => nomatch h⟩) rfl (Nat.le_of_ble_eq_true rfl) rfl) ?_
  intro X x en rm ini hr hz
  have hr0 := hr
  have loop : ∀ (d : Nat) (k : Int) (I1 : gI), k + d = 36 → 9 ≤ k → (∀ b j, b ≠ rc + 1 → I1 b j = I b j) → (∀ j, 0 ≤ j → j < 36 → I1 (rc + 1) j = if j < k - 9 then I (rc + 1) (j + 9) else I (rc + 1) j) → G X 3 [some (va_rf (some rc)), some (VI k)] [] T I1 J O 0 0 := by
    intro d
    induction d with
    | zero =>
      intro k I1 hd k9 h1 h2
      refine G_rg (fun hr => ?_)
      refine G_iload1 x eX7_dropOldest_3 ?_
      refine G_aload0 x eX7_dropOldest_4 ?_
      refine G_getq x eX7_dropOldest_5 fX7_11 rfl rfl hM.m hM.o_carried ?_
      refine G_alen x eX7_dropOldest_8 rfl hM.t_carried (fun _ => rfl) ?_
      refine G_icmp_ge x eX7_dropOldest_9 (by first | omega | exact hr _ _ | exact hr0 _ _ | exact hrS _) (by first | omega | exact hr _ _ | exact hr0 _ _ | exact hrS _) (fun c9 => ?_) (fun c9 => ?_)
      · refine G_aload0 x eX7_dropOldest_33 ?_
        refine G_push x eX7_dropOldest_34 ?_
        refine G_puti x eX7_dropOldest_35 fX7_15 rfl (Or.inl rfl) rfl hM.m (by first | omega | exact hr _ _ | exact hr0 _ _ | exact hrS _) ?_
        refine G_rg (fun hr => ?_)
        refine G_return x en eX7_dropOldest_38 (by omega) (by omega) ?_
        exact ⟨rfl, rfl, rfl, rfl, fun b j b1 b2 => by rw [uI_o b2]; exact h1 b j b1, uI_s, fun j j0 j1 => by rw [uI_a (by omega), h2 j j0 j1, show k - 9 = 27 by omega]⟩
      · omega
    | succ d ih =>
      intro k I1 hd k9 h1 h2
      have e := h2 k (by omega) (by omega)
      rw [if_neg (by omega)] at e
      refine G_rg (fun hr => ?_)
      refine G_iload1 x eX7_dropOldest_3 ?_
      refine G_aload0 x eX7_dropOldest_4 ?_
      refine G_getq x eX7_dropOldest_5 fX7_11 rfl rfl hM.m hM.o_carried ?_
      refine G_alen x eX7_dropOldest_8 rfl hM.t_carried (fun _ => rfl) ?_
      refine G_icmp_ge x eX7_dropOldest_9 (by first | omega | exact hr _ _ | exact hr0 _ _ | exact hrS _) (by first | omega | exact hr _ _ | exact hr0 _ _ | exact hrS _) (fun c9 => ?_) (fun c9 => ?_)
      · omega
      · refine G_aload0 x eX7_dropOldest_12 ?_
        refine G_getq x eX7_dropOldest_13 fX7_11 rfl rfl hM.m hM.o_carried ?_
        refine G_iload1 x eX7_dropOldest_16 ?_
        refine G_push x eX7_dropOldest_17 ?_
        refine G_isub x eX7_dropOldest_19 ?_
        refine G_aload0 x eX7_dropOldest_20 ?_
        refine G_getq x eX7_dropOldest_21 fX7_11 rfl rfl hM.m hM.o_carried ?_
        refine G_iload1 x eX7_dropOldest_24 ?_
        refine G_iald x eX7_dropOldest_25 rfl hM.t_carried (by omega) (by omega) (by omega) (fun h25 => ?_)
        rw [e]
        refine G_iast x eX7_dropOldest_26 rfl hM.t_carried (by omega) (by omega) (by omega) (by first | omega | exact hr _ _ | exact hr0 _ _ | exact hrS _) ?_
        refine G_rg (fun hr => ?_)
        refine G_iinc1 x eX7_dropOldest_27 ?_
        refine G_goto x eX7_dropOldest_30 ?_
        exact ih (k + 1) _ (by omega) (by omega) (fun b j hb => by rw [uI_a hb]; exact h1 b j hb) (fun j j0 j1 => by by_cases q : j = k - 9; (rw [q, uI_s, if_pos (by omega), show k - 9 + 9 = k by omega]); (rw [uI_k q, h2 j j0 j1]; by_cases q2 : j < k - 9; (rw [if_pos q2, if_pos (by omega)]); (rw [if_neg q2, if_neg (by omega)])))
  refine G_push x eX7_dropOldest_0 ?_
  refine G_istore1 x eX7_dropOldest_2 ?_
  exact loop 27 9 I (by omega) (by omega) (fun _ _ _ => rfl) (fun j j0 j1 => by rw [if_neg (by omega)])
def rKeep (P : Int → Int) (n : Int) (C : Int → Int) : Int → Int := fun j => if n = 4 then (if 27 ≤ j then C (j - 27) else P (j + 9)) else (if 9 * n ≤ j ∧ j < 9 * n + 9 then C (j - 9 * n) else P j)
def ctC (I : gI) (ss : Nat) : Int → Int := fun k => I (rpA ss (k / 3) + 26) (k % 3)
def kpP (T : gT) (I : gI) (J : gJ) (O : gO) (ss : Nat) : gP := fun v T' I' J' O' => v = none ∧ T' = T ∧ J' = J ∧ O' = O ∧ (∀ b j, b ≠ ss + 3 → (b ≠ ss + 2 ∨ j ≠ 1) → I' b j = I b j) ∧ I' (ss + 2) 1 = nEnd (I (ss + 2) 1) ∧ ∀ j, 0 ≤ j → j < 36 → I' (ss + 3) j = rKeep (I (ss + 3)) (I (ss + 2) 1) (ctC I ss) j
set_option maxRecDepth 20000 in
theorem ct_X7_keep {T : gT} {I : gI} {J : gJ} {O : gO} {ss : Nat} (hS : SsAt T O ss) (n0 : 0 ≤ I (ss + 2) 1) (n1 : I (ss + 2) 1 ≤ 4) : Ct yX7_keep cX7_keep 3 none [va_rf (some (ss + 2)), va_rf (some (ss + 1))] 1 21 0 0 T I J O (kpP T I J O ss) := by
  refine Ct.of (by decide) [some (va_rf (some (ss + 2))), some (va_rf (some (ss + 1))), none] (gEn1 (List.forall_mem_cons.mpr ⟨cat_VR _, List.forall_mem_cons.mpr ⟨cat_VR _, fun _ h => nomatch h⟩⟩) rfl (Nat.le_of_ble_eq_true rfl) rfl) ?_
  intro X x en rm ini hr hz
  have hr0 := hr
  have hM : RcAt T O (ss + 2) := hS.z.s_records
  have ht : T.2 (ss + 1) = some (.inr (4, 3)) := hS.z.t_replicas
  have loop : ∀ (d : Nat) (k m : Int) (I0 I1 : gI), k + d = 9 → 0 ≤ k → 0 ≤ m → m ≤ 3 → I0 (ss + 2) 1 = m → (∀ b j, b ≠ ss + 3 → (b ≠ ss + 2 ∨ j ≠ 1) → I0 b j = I b j) → nEnd (I (ss + 2) 1) = m + 1 → (∀ j, 0 ≤ j → j < 36 → (if 9 * m ≤ j ∧ j < 9 * m + 9 then ctC I ss (j - 9 * m) else I0 (ss + 3) j) = rKeep (I (ss + 3)) (I (ss + 2) 1) (ctC I ss) j) → (∀ b j, b ≠ ss + 3 → I1 b j = I0 b j) → (∀ j, 0 ≤ j → j < 36 → I1 (ss + 3) j = if 9 * m ≤ j ∧ j < 9 * m + k then ctC I ss (j - 9 * m) else I0 (ss + 3) j) → G X 14 [some (va_rf (some (ss + 2))), some (va_rf (some (ss + 1))), some (VI k)] [] T I1 J O 0 0 := by
    intro d
    induction d with
    | zero =>
      intro k m I0 I1 hd k0 m0 m1 hm hf hn hE h1 h2
      have ek : k = 9 := by omega
      subst ek
      have em : I1 (ss + 2) 1 = m := (h1 _ _ (by omega)).trans hm
      refine G_rg (fun hr => ?_)
      refine G_iload2 x eX7_keep_14 ?_
      refine G_push x eX7_keep_15 ?_
      refine G_icmp_ge x eX7_keep_17 (by first | omega | exact hr _ _ | exact hr0 _ _ | exact hrS _) (by first | omega | exact hr _ _ | exact hr0 _ _ | exact hrS _) (fun c17 => ?_) (fun c17 => ?_)
      · refine G_aload0 x eX7_keep_51 ?_
        refine G_dup x eX7_keep_52 (by first | rfl | exact cat_rf _) ?_
        refine G_geti x eX7_keep_53 fX7_15 rfl rfl hM.m (fun h53 => ?_)
        rw [em]
        refine G_push x eX7_keep_56 ?_
        refine G_iadd x eX7_keep_57 ?_
        refine G_puti x eX7_keep_58 fX7_15 rfl (Or.inl rfl) rfl hM.m (by first | omega | exact hr _ _ | exact hr0 _ _ | exact hrS _) ?_
        refine G_rg (fun hr => ?_)
        refine G_return x en eX7_keep_61 (by omega) (by omega) ?_
        exact ⟨rfl, rfl, rfl, rfl, fun b j b1 b2 => by rw [uI_o b2, h1 b j b1]; exact hf b j b1 b2, by rw [uI_s, hn], fun j j0 j1 => by rw [uI_a (by omega), h2 j j0 j1]; exact hE j j0 j1⟩
      · omega
    | succ d ih =>
      intro k m I0 I1 hd k0 m0 m1 hm hf hn hE h1 h2
      have em : I1 (ss + 2) 1 = m := (h1 _ _ (by omega)).trans hm
      have hr3 := hS.rp (r := k / 3) (by omega) (by omega)
      have ec : I1 (rpA ss (k / 3) + 26) (k % 3) = ctC I ss k := by
        rw [h1 _ _ (by unfold rpA; omega), hf _ _ (by unfold rpA; omega) (by unfold rpA; omega)]
        rfl
      have i32 := hr0 (rpA ss (k / 3) + 26) (k % 3)
      refine G_rg (fun hr => ?_)
      refine G_iload2 x eX7_keep_14 ?_
      refine G_push x eX7_keep_15 ?_
      refine G_icmp_ge x eX7_keep_17 (by first | omega | exact hr _ _ | exact hr0 _ _ | exact hrS _) (by first | omega | exact hr _ _ | exact hr0 _ _ | exact hrS _) (fun c17 => ?_) (fun c17 => ?_)
      · omega
      · refine G_aload0 x eX7_keep_20 ?_
        refine G_getq x eX7_keep_21 fX7_11 rfl rfl hM.m hM.o_carried ?_
        refine G_aload0 x eX7_keep_24 ?_
        refine G_geti x eX7_keep_25 fX7_15 rfl rfl hM.m (fun h25 => ?_)
        rw [em]
        refine G_push x eX7_keep_28 ?_
        refine G_imul x eX7_keep_30 ?_
        refine G_iload2 x eX7_keep_31 ?_
        refine G_iadd x eX7_keep_32 ?_
        refine G_aload1 x eX7_keep_33 ?_
        refine G_iload2 x eX7_keep_34 ?_
        refine G_push x eX7_keep_35 ?_
        refine G_idivn x eX7_keep_36 (by omega) (by omega) (by omega) (by omega) ?_
        refine G_aald x eX7_keep_37 rfl ht (fun _ => rfl) (by omega) (by omega) (by omega) ?_
        rw [hr3.2]
        refine G_iload2 x eX7_keep_38 ?_
        refine G_push x eX7_keep_39 ?_
        refine G_iremn x eX7_keep_40 (by omega) (by omega) (by omega) (by omega) ?_
        refine G_cV x eX7_keep_41 kX7_22 im_yX8_carriedOf se_yX8_carriedOf rm hr3.1.m (ct_X8_carriedOf hr3.1 (by omega) (by omega)) rfl ?_
        rw [ec]
        refine G_iast x eX7_keep_44 rfl hM.t_carried (by omega) (by omega) (by omega) (by first | omega | exact hr _ _ | exact hr0 _ _ | exact hrS _) ?_
        refine G_rg (fun hr => ?_)
        refine G_iinc2 x eX7_keep_45 ?_
        refine G_goto x eX7_keep_48 ?_
        exact ih (k + 1) m I0 _ (by omega) (by omega) m0 m1 hm hf hn hE (fun b j hb => by rw [uI_a hb]; exact h1 b j hb) (fun j j0 j1 => by by_cases q : j = m * 9 + k; (rw [q, uI_s, if_pos (by omega), show m * 9 + k - 9 * m = k by omega]); (rw [uI_k q, h2 j j0 j1]; by_cases q2 : 9 * m ≤ j ∧ j < 9 * m + k; (rw [if_pos q2, if_pos (by omega)]); (rw [if_neg q2, if_neg (by omega)])))
  by_cases q : I (ss + 2) 1 = 4
  · refine G_rg (fun hr => ?_)
    refine G_aload0 x eX7_keep_0 ?_
    refine G_geti x eX7_keep_1 fX7_15 rfl rfl hM.m (fun h1 => ?_)
    refine G_push x eX7_keep_4 ?_
    refine G_icmp_lt x eX7_keep_5 (by first | omega | exact hr _ _ | exact hr0 _ _ | exact hrS _) (by first | omega | exact hr _ _ | exact hr0 _ _ | exact hrS _) (fun c5 => ?_) (fun c5 => ?_)
    · try obtain ⟨rfl, rfl, rfl, rfl, u1, u2, u3⟩ := p9
      refine G_push x eX7_keep_12 ?_
      refine G_istore2 x eX7_keep_13 ?_
      first | (exfalso; omega) | exact loop 9 0 3 _ _ (by omega) (by omega) (by omega) (by omega) u2 u1 (by rw [q]; rfl) (fun j j0 j1 => by unfold rKeep; rw [if_pos q, u3 j j0 j1]; by_cases z : 27 ≤ j; (rw [if_pos (by omega), if_pos z, show 9 * 3 = (27 : Int) by omega]); (rw [if_neg (by omega), if_neg z, if_pos (by omega)])) (fun _ _ _ => rfl) (fun j j0 j1 => by rw [if_neg (by omega)])
    · refine G_aload0 x eX7_keep_8 ?_
      refine G_cVg x eX7_keep_9 kX7_19 im_yX7_dropOldest se_yX7_dropOldest rm hM.m (ct_X7_dropOldest hM) rfl (fun v9 T9 I9 J9 O9 p9 => ?_)
      refine G_rg (fun hr => ?_)
      try obtain ⟨rfl, rfl, rfl, rfl, u1, u2, u3⟩ := p9
      refine G_push x eX7_keep_12 ?_
      refine G_istore2 x eX7_keep_13 ?_
      first | (exfalso; omega) | exact loop 9 0 3 _ _ (by omega) (by omega) (by omega) (by omega) u2 u1 (by rw [q]; rfl) (fun j j0 j1 => by unfold rKeep; rw [if_pos q, u3 j j0 j1]; by_cases z : 27 ≤ j; (rw [if_pos (by omega), if_pos z, show 9 * 3 = (27 : Int) by omega]); (rw [if_neg (by omega), if_neg z, if_pos (by omega)])) (fun _ _ _ => rfl) (fun j j0 j1 => by rw [if_neg (by omega)])
  · refine G_rg (fun hr => ?_)
    refine G_aload0 x eX7_keep_0 ?_
    refine G_geti x eX7_keep_1 fX7_15 rfl rfl hM.m (fun h1 => ?_)
    refine G_push x eX7_keep_4 ?_
    refine G_icmp_lt x eX7_keep_5 (by first | omega | exact hr _ _ | exact hr0 _ _ | exact hrS _) (by first | omega | exact hr _ _ | exact hr0 _ _ | exact hrS _) (fun c5 => ?_) (fun c5 => ?_)
    · refine G_push x eX7_keep_12 ?_
      refine G_istore2 x eX7_keep_13 ?_
      exact loop 9 0 (I (ss + 2) 1) I I (by omega) (by omega) n0 (by omega) rfl (fun _ _ _ _ => rfl) (by unfold nEnd; rw [if_neg q]) (fun j j0 j1 => by unfold rKeep; rw [if_neg q]) (fun _ _ _ => rfl) (fun j j0 j1 => by rw [if_neg (by omega)])
    · omega
