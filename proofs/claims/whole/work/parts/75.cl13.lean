/-- the row s with one replica as new -/
def zR (S : Int → Int) (r : Int) : Int → Int := fun j => if j = r ∨ (3843 + 270 * r ≤ j ∧ j < 3843 + 270 * r + 270) then S0 j else S j
theorem zR_i {S : Int → Int} {r j : Int} (h : 3843 + 270 * r ≤ j) (h2 : j < 3843 + 270 * r + 270) : zR S r j = S0 j := if_pos (Or.inr ⟨h, h2⟩)
theorem zR_o {S : Int → Int} {r j : Int} (h : j ≠ r) (h2 : j < 3843 + 270 * r ∨ 3843 + 270 * r + 270 ≤ j) : zR S r j = S j := if_neg (fun z => by omega)
theorem zR_c {S : Int → Int} {r f : Int} (r0 : 0 ≤ r) (r1 : r ≤ 2) (f0 : 0 ≤ f) (f1 : f ≤ 2) : zR S r (cIx r f) = 0 := by
  rcases cIx_b r0 r1 f0 f1 with ⟨z1, z2⟩ | ⟨z1, z2, z3, z4⟩
  · rw [z1]; show (if _ then S0 r else _) = 0; rw [if_pos (Or.inl rfl)]; exact S0_o (by omega)
  · rw [z4, zR_i (by omega) (by omega)]; exact S0_h r0 r1 (by omega) (by omega)
theorem zR_ln {I : gI} {ln : Nat} {S : Int → Int} {r kd : Int} (r0 : 0 ≤ r) (r1 : r ≤ 2) (k0 : 0 ≤ kd) (k1 : kd ≤ 1) (h : lnZ I ln 12) (hE : LnOk I ln) : lnTb I ln (zR S r) r kd := by
  refine ⟨fun l l0 l1 => ?_, hE⟩
  obtain ⟨z1, z2, z3, z4, z5⟩ := h l l0 l1
  have m : (12 * kd + l) % 12 = l := by omega
  have e : ∀ w, 0 ≤ w → w < 5 → zR S r (lA r kd l + w) = if w = 0 then (if l < 3 then 1000 * (l + 1) else -1) else if w = 1 then (if l < 3 then 0 else -1) else if w = 3 then (if l < 3 then 1 else 0) else 0 := fun w w0 w1 => by
    rw [zR_i (by simp only [lA]; omega) (by simp only [lA]; omega)]
    have := S0_l (r := r) (l := 12 * kd + l) (w := w) r0 r1 (by omega) (by omega) w0 w1
    rw [m] at this
    exact this
  have e0 := e 0 (by omega) (by omega)
  rw [show lA r kd l + 0 = lA r kd l by omega] at e0
  exact ⟨z1.trans e0.symm, z2.trans (e 1 (by omega) (by omega)).symm, z3.trans (e 2 (by omega) (by omega)).symm, z4.trans (e 3 (by omega) (by omega)).symm, z5.trans (e 4 (by omega) (by omega)).symm⟩
theorem LnOk.c {I I' : gI} {ln : Nat} (h : LnOk I ln) (e : ∀ b j, ln ≤ b → b ≤ ln + 6 → I' b j = I b j) : LnOk I' ln := by
  unfold LnOk at h ⊢
  rw [show I' (ln + 1) = I (ln + 1) from funext fun j => e _ j (by omega) (by omega), show I' (ln + 6) = I (ln + 6) from funext fun j => e _ j (by omega) (by omega), e ln 6 (by omega) (by omega)]
  exact h.congr (fun _ _ _ => rfl) (fun y _ _ => by unfold lnSh; rw [e _ _ (by omega) (by omega), e _ _ (by omega) (by omega)])
theorem lnZ.c {I I' : gI} {ln : Nat} {m : Int} (h : lnZ I ln m) (e : ∀ b j, ln ≤ b → b ≤ ln + 6 → I' b j = I b j) : lnZ I' ln m := fun l l0 l1 => by
  rw [e _ _ (by omega) (by omega), e _ _ (by omega) (by omega), e _ _ (by omega) (by omega), e _ _ (by omega) (by omega), e _ _ (by omega) (by omega)]
  exact h l l0 l1
def zP (B : Nat) (T : gT) (I : gI) (J : gJ) (O : gO) (p : Nat) (S : Int → Int) (r : Int) : gP := fun v T' I' J' O' => v = none ∧ T' = T ∧ J' = J ∧ coK T I I' O O' p ∧ RpR B T I' O' p (zR S r) r ∧ I' (p + 15) 11 = 0
set_option maxHeartbeats 4000000 in
set_option maxRecDepth 20000 in
theorem ct_X8_reset {T : gT} {I : gI} {J : gJ} {O : gO} {B p : Nat} {S : Int → Int} {r : Int} (hM : RpAt T O p) (h0 : I p 0 = r) (h28 : I (p + 28) 0 = 0 ∧ I (p + 28) 1 = 0 ∧ O (p + 28) 2 = none) (r0 : 0 ≤ r) (r1 : r ≤ 2) : Ct yX8_reset cX8_reset 2 none [va_rf (some p)] 3 67 0 0 T I J O (zP B T I J O p S r) := by
  refine Ct.of (by decide) [some (va_rf (some p)), none] (gEn1 (List.forall_mem_cons.mpr ⟨cat_VR _, fun _ h => nomatch h⟩) rfl (Nat.le_of_ble_eq_true rfl) rfl) ?_
  intro X x en rm ini hr hz
  have hr0 := hr
  have loop : ∀ (d : Nat) (c : Int) (I1 : gI) (O1 : gO), c + d = 144 → 0 ≤ c → (∀ b j, (b < p ∨ p + 28 < b) → I1 b j = I b j) → (∀ b j, p + 15 ≤ b → b ≤ p + 25 → I1 b j = I b j) → I1 p 0 = I p 0 → I1 p 4 = 0 → (∀ f, 0 ≤ f → f < 3 → I1 (p + 26) f = 0) → (∀ j, I1 (p + 28) j = I (p + 28) j) → LnOk I1 (p + 1) → lnZ I1 (p + 1) 12 → LnOk I1 (p + 8) → lnZ I1 (p + 8) 12 → (∀ b j, b ≠ p + 27 → O1 b j = O b j) → (∀ j, 0 ≤ j → j < c → O1 (p + 27) j = none) → G X 29 [some (va_rf (some p)), some (VI c)] [] T I1 J O1 0 0 := by
    intro d
    induction d with
    | zero =>
      intro c I1 O1 hd c0 k1 k2 k3 k4 k5 k6 k7 k8 k9 k10 k11 k12
      have hM1 : RpAt T O1 p := hM.mv (fun _ _ _ => rfl) (fun b j b1 b2 b3 => k11 b j (by omega))
      have hF : RpR B T (uI I1 (p + 15) 11 0) O1 p (zR S r) r := by
        refine ⟨⟨by rw [uI_a (by omega), k3]; exact h0, by rw [uI_a (by omega), k4, zR_i (by omega) (by omega)]; have := S0_h (w := 0) r0 r1 (by omega) (by omega); rw [show 3843 + 270 * r + 0 = 3843 + 270 * r by omega] at this; exact this.symm⟩, fun f f0 f1 => by rw [uI_a (by omega), k5 f f0 (by omega), zR_c r0 r1 f0 f1], ?_, ?_, fun c' c0' c1' => Or.inl ⟨?_, k12 c' c0' (by omega)⟩, by rw [uI_a (by omega), k6]; exact h28.1, by rw [uI_a (by omega), k6]; exact h28.2.1, by rw [k11 _ _ (by omega)]; exact h28.2.2⟩
        · exact (zR_ln (S := S) (kd := 0) r0 r1 (by omega) (by omega) k8 k7).c (fun b j b1 b2 => uI_a (by omega) j) (fun _ _ _ _ _ _ => rfl)
        · exact (zR_ln (S := S) (kd := 1) r0 r1 (by omega) (by omega) k10 k9).c (fun b j b1 b2 => uI_a (by omega) j) (fun _ _ _ _ _ _ => rfl)
        · rw [zR_i (by omega) (by omega), show 3843 + 270 * r + (126 + c') = 3843 + 270 * r + 126 + c' by omega]; exact S0_c r0 r1 c0' c1'
      refine G_rg (fun hr => ?_)
      refine G_iload1 x eX8_reset_29 ?_
      refine G_push x eX8_reset_30 ?_
      refine G_icmp_ge x eX8_reset_33 (by first | omega | exact hr _ _ | exact hr0 _ _ | exact hrS _) (by first | omega | exact hr _ _ | exact hr0 _ _ | exact hrS _) (fun c33 => ?_) (fun c33 => ?_)
      · refine G_aload0 x eX8_reset_49 ?_
        refine G_getq x eX8_reset_50 fX8_24 rfl rfl hM1.m hM1.o_calculation ?_
        refine G_cVv x eX8_reset_53 kX8_100 im_yX0_outdate se_yX0_outdate rm hM1.s_calculation.m (ct_X0_outdate hM1.s_calculation.m) rfl ?_
        refine G_return x en eX8_reset_56 (by omega) (by omega) ?_
        exact ⟨rfl, rfl, rfl, ⟨fun b j hb => by rw [uI_a (by omega)]; exact k1 b j hb, k11, fun b j b1 b2 b3 => by rw [uI_o b3]; exact k2 b j b1 b2⟩, hF, uI_s⟩
      · omega
    | succ d ih =>
      intro c I1 O1 hd c0 k1 k2 k3 k4 k5 k6 k7 k8 k9 k10 k11 k12
      have hM1 : RpAt T O1 p := hM.mv (fun _ _ _ => rfl) (fun b j b1 b2 b3 => k11 b j (by omega))
      refine G_rg (fun hr => ?_)
      refine G_iload1 x eX8_reset_29 ?_
      refine G_push x eX8_reset_30 ?_
      refine G_icmp_ge x eX8_reset_33 (by first | omega | exact hr _ _ | exact hr0 _ _ | exact hrS _) (by first | omega | exact hr _ _ | exact hr0 _ _ | exact hrS _) (fun c33 => ?_) (fun c33 => ?_)
      · omega
      · refine G_aload0 x eX8_reset_36 ?_
        refine G_getq x eX8_reset_37 fX8_38 rfl rfl hM1.m hM1.o_writers ?_
        refine G_iload1 x eX8_reset_40 ?_
        refine G_null x eX8_reset_41 ?_
        refine G_aastN x eX8_reset_42 rfl hM1.t_writers (fun _ => rfl) rfl (by omega) (by omega) (by omega) ?_
        refine G_iinc1 x eX8_reset_43 ?_
        refine G_goto x eX8_reset_46 ?_
        exact ih (c + 1) I1 _ (by omega) (by omega) k1 k2 k3 k4 k5 k6 k7 k8 k9 k10 (fun b j hb => by unfold uO; rw [if_neg (fun z => hb z.1)]; exact k11 b j hb) (fun j j0 j1 => by unfold uO; split; rfl; exact k12 j j0 (by omega))
  refine G_rg (fun hr => ?_)
  refine G_aload0 x eX8_reset_0 ?_
  refine G_push x eX8_reset_1 ?_
  refine G_puti x eX8_reset_2 fX8_54 rfl (Or.inl rfl) rfl hM.m (by first | omega | exact hr _ _ | exact hr0 _ _ | exact hrS _) ?_
  refine G_rg (fun hr => ?_)
  refine G_aload0 x eX8_reset_5 ?_
  refine G_getq x eX8_reset_6 fX8_34 rfl rfl hM.m hM.o_carried ?_
  refine G_push x eX8_reset_9 ?_
  refine G_cSg x eX8_reset_10 kX8_91 sm_yJ7_fill_53178 rm (ct_J7_fill_53178 hM.t_carried (by omega) (by first | omega | exact hr _ _ | exact hr0 _ _ | exact hrS _)) rfl (fun v10 T10 I10 J10 O10 p10 => ?_)
  refine G_rg (fun hr => ?_)
  obtain ⟨rfl, rfl, rfl, rfl, u1, u2⟩ := p10
  refine G_aload0 x eX8_reset_13 ?_
  refine G_getq x eX8_reset_14 fX8_12 rfl rfl hM.m hM.o_rows ?_
  refine G_cVg x eX8_reset_17 kX8_97 im_yX4_reset se_yX4_reset rm hM.s_rows.m (ct_X4_reset hM.s_rows) rfl (fun v17 T17 I17 J17 O17 p17 => ?_)
  refine G_rg (fun hr => ?_)
  obtain ⟨rfl, rfl, rfl, rfl, w1, w2, w3⟩ := p17
  refine G_aload0 x eX8_reset_20 ?_
  refine G_getq x eX8_reset_21 fX8_18 rfl rfl hM.m hM.o_columns ?_
  refine G_cVg x eX8_reset_24 kX8_97 im_yX4_reset se_yX4_reset rm hM.s_columns.m (ct_X4_reset hM.s_columns) rfl (fun v24 T24 I24 J24 O24 p24 => ?_)
  refine G_rg (fun hr => ?_)
  obtain ⟨rfl, rfl, rfl, rfl, y1, y2, y3⟩ := p24
  refine G_push x eX8_reset_27 ?_
  refine G_istore1 x eX8_reset_28 ?_
  exact loop 144 0 _ _ (by omega) (by omega) (fun b j hb => by rw [y1 b (by omega), w1 b (by omega), u1 b j (by omega), uI_a (by omega)]) (fun b j b1 b2 => by rw [y1 b (by omega), w1 b (by omega), u1 b j (by omega), uI_a (by omega)]) (by rw [y1 _ (by omega), w1 _ (by omega), u1 _ _ (by omega), uI_k (by omega)]) (by rw [y1 _ (by omega), w1 _ (by omega), u1 _ _ (by omega), uI_s]) (fun f f0 f1 => by rw [y1 _ (by omega), w1 _ (by omega)]; exact u2 f f0 f1) (fun j => by rw [y1 _ (by omega), w1 _ (by omega), u1 _ _ (by omega), uI_a (by omega)]) (w2.c (fun b j b1 b2 => y1 b (by omega) j)) (w3.c (fun b j b1 b2 => y1 b (by omega) j)) y2 y3 (fun _ _ _ => rfl) (fun j _ _ => by omega)
