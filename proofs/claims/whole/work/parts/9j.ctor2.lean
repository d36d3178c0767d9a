/-! a new replica, a new object -/
def nwR (B : Nat) (T : gT) (I : gI) (J : gJ) (O : gO) (p : Nat) (r : Int) : gP := fun v T' I' J' O' => v = none ∧ T'.1 = p + 29 ∧ (∀ b, b ≤ p → T'.2 b = T.2 b) ∧ RpAt T' O' p ∧ J' = J ∧ (∀ b j, (b < p ∨ p + 28 < b) → I' b j = I b j ∧ O' b j = O b j) ∧ RpR B T' I' O' p S0 r ∧ I' (p + 15) 11 = 0
set_option maxHeartbeats 8000000 in
set_option maxRecDepth 20000 in
theorem ct_X8_init {T : gT} {I : gI} {J : gJ} {O : gO} {B p : Nat} {r : Int} (hm : T.2 p = some (.inl 8)) (hT1 : T.1 = p + 1) (r0 : 0 ≤ r) (r1 : r ≤ 2) (hp0 : ∀ j, I p j = 0) : Ct yX8_init cX8_init 2 none [va_rf (some p), VI r] 4 87 28 1957 T I J O (nwR B T I J O p r) := by
  refine Ct.of (by decide) [some (va_rf (some p)), some (VI r)] (gEn1 (List.forall_mem_cons.mpr ⟨cat_VR _, List.forall_mem_cons.mpr ⟨cat_VI _, fun _ h => nomatch h⟩⟩) rfl (Nat.le_of_ble_eq_true rfl) rfl) ?_
  intro X x en rm ini hr hz
  have hr0 := hr
  have hg4 : gN 4 = 7 := rfl
  have hg0 : gN 0 = 12 := rfl
  have hg2 : gN 2 = 3 := rfl
  refine G_aload0 x eX8_init_0 ?_
  refine G_oi x eX8_init_1 olX8 rm ?_
  refine G_aload0 x eX8_init_4 ?_
  refine G_nw x eX8_init_5 clX8_9 itX4 ini_X4 rfl rm (by omega) (by show _ + gN 4 ≤ _; simp only [gN]; omega) (fun i5 j5 o5 => ?_) (hdf_X4)
  refine G_dup x eX8_init_8 (by first | rfl | exact cat_rf _) ?_
  rw [hT1]
  refine G_cI x eX8_init_9 kX8_11 im_yX4_init rm (ct_X4_init (a := p + 1) (gpush_at hT1.symm) (by show T.1 + 1 = p + 1 + 1; omega)) rfl (fun v9 T9 I9 J9 O9 p9 => ?_)
  refine G_rg (fun hr => ?_)
  obtain ⟨rfl, t9, k9, L9, e9, o9, i9, z9, y9⟩ := p9
  obtain rfl := e9.symm
  have m9 : T9.2 p = some (.inl 8) := by rw [k9 p (by omega), gpush_k (by omega)]; exact hm
  refine G_putr x eX8_init_12 fX8_12 rfl (fun v => by cases v <;> exact ⟨rfl, rfl⟩) (Or.inr ⟨rfl, ini rfl, rfl⟩) rfl m9 ?_
  refine G_aload0 x eX8_init_15 ?_
  refine G_nw x eX8_init_16 clX8_9 itX4 ini_X4 rfl rm (by omega) (by show _ + gN 4 ≤ _; simp only [gN]; omega) (fun i16 j16 o16 => ?_) (hdf_X4)
  refine G_dup x eX8_init_19 (by first | rfl | exact cat_rf _) ?_
  rw [t9]
  refine G_cI x eX8_init_20 kX8_11 im_yX4_init rm (ct_X4_init (a := p + 8) (gpush_at (by rw [t9])) (by show T9.1 + 1 = p + 8 + 1; omega)) rfl (fun v20 T20 I20 J20 O20 p20 => ?_)
  refine G_rg (fun hr => ?_)
  obtain ⟨rfl, t20, k20, L20, e20, o20, i20, z20, y20⟩ := p20
  obtain rfl := e20.symm
  have m20 : T20.2 p = some (.inl 8) := by rw [k20 p (by omega), gpush_k (by omega)]; exact m9
  refine G_putr x eX8_init_23 fX8_18 rfl (fun v => by cases v <;> exact ⟨rfl, rfl⟩) (Or.inr ⟨rfl, ini rfl, rfl⟩) rfl m20 ?_
  refine G_aload0 x eX8_init_26 ?_
  refine G_nw x eX8_init_27 clX8_21 itX0 ini_X0 rfl rm (by omega) (by show _ + gN 0 ≤ _; simp only [gN]; omega) (fun i27 j27 o27 => ?_) (hdf_X0)
  refine G_dup x eX8_init_30 (by first | rfl | exact cat_rf _) ?_
  rw [t20]
  refine G_cIN x eX8_init_31 knX8_23 im_yX0_init rm (ct_X0_init (a := p + 15) (gpush_at (by rw [t20])) (by show T20.1 + 1 = p + 15 + 1; omega)) rfl (fun v31 T31 I31 J31 O31 p31 => ?_)
  refine G_rg (fun hr => ?_)
  obtain ⟨rfl, t31, k31, L31, e31, f31, o31⟩ := p31
  obtain rfl := e31.symm
  obtain rfl := f31.symm
  have m31 : T31.2 p = some (.inl 8) := by rw [k31 p (by omega), gpush_k (by omega)]; exact m20
  refine G_putr x eX8_init_34 fX8_24 rfl (fun v => by cases v <;> exact ⟨rfl, rfl⟩) (Or.inr ⟨rfl, ini rfl, rfl⟩) rfl m31 ?_
  obtain ⟨O3, hO3⟩ : ∃ O3, O3 = uO O31 p 3 (some (p + 15)) := ⟨_, rfl⟩
  rw [← hO3]
  obtain ⟨Ta, hTa⟩ : ∃ Ta, Ta = gpush T31 (.inr (5, 40)) := ⟨_, rfl⟩
  obtain ⟨Tb, hTb⟩ : ∃ Tb, Tb = gpush Ta (.inr (0, 3)) := ⟨_, rfl⟩
  obtain ⟨Tc, hTc⟩ : ∃ Tc, Tc = gpush Tb (.inr (5, 144)) := ⟨_, rfl⟩
  obtain ⟨Td, hTd⟩ : ∃ Td, Td = gpush Tc (.inl 2) := ⟨_, rfl⟩
  have ta1 : Ta.1 = p + 26 := by rw [hTa]; show T31.1 + 1 = _; omega
  have tb1 : Tb.1 = p + 27 := by rw [hTb]; show Ta.1 + 1 = _; omega
  have tc1 : Tc.1 = p + 28 := by rw [hTc]; show Tb.1 + 1 = _; omega
  have td1 : Td.1 = p + 29 := by rw [hTd]; show Tc.1 + 1 = _; omega
  have ka : ∀ b, b < p + 25 → Ta.2 b = T31.2 b := fun b hb => by rw [hTa]; exact gpush_k (by omega)
  have kb : ∀ b, b < p + 26 → Tb.2 b = Ta.2 b := fun b hb => by rw [hTb]; exact gpush_k (by omega)
  have kc : ∀ b, b < p + 27 → Tc.2 b = Tb.2 b := fun b hb => by rw [hTc]; exact gpush_k (by omega)
  have kd : ∀ b, b < p + 28 → Td.2 b = Tc.2 b := fun b hb => by rw [hTd]; exact gpush_k (by omega)
  have ma : Ta.2 p = some (.inl 8) := (ka p (by omega)).trans m31
  have mb : Tb.2 p = some (.inl 8) := (kb p (by omega)).trans ma
  have mc : Tc.2 p = some (.inl 8) := (kc p (by omega)).trans mb
  have md : Td.2 p = some (.inl 8) := (kd p (by omega)).trans mc
  have na : Ta.2 (p + 25) = some (.inr (5, 40)) := by rw [hTa]; exact gpush_at (by omega)
  have nb : Tb.2 (p + 26) = some (.inr (0, 3)) := by rw [hTb]; exact gpush_at (by omega)
  have nc : Tc.2 (p + 27) = some (.inr (5, 144)) := by rw [hTc]; exact gpush_at (by omega)
  have nd : Td.2 (p + 28) = some (.inl 2) := by rw [hTd]; exact gpush_at (by omega)
  refine G_aload0 x eX8_init_37 ?_
  refine G_push x eX8_init_38 ?_
  refine G_anX5 (N := 40) x eX8_init_40 clX8_28 rfl (by omega) rm (by omega) (by omega) (fun i40 j40 o40 => ?_)
  rw [← hTa, t31]
  refine G_putr x eX8_init_43 fX8_30 rfl (fun v => by cases v <;> exact ⟨rfl, rfl⟩) (Or.inr ⟨rfl, ini rfl, rfl⟩) rfl ma ?_
  refine G_aload0 x eX8_init_46 ?_
  refine G_push x eX8_init_47 ?_
  refine G_na_int (N := 3) x eX8_init_48 rfl (by omega) rm (by omega) (by omega) (fun i48 j48 o48 => ?_)
  rw [← hTb, ta1]
  refine G_putr x eX8_init_50 fX8_34 rfl (fun v => by cases v <;> exact ⟨rfl, rfl⟩) (Or.inr ⟨rfl, ini rfl, rfl⟩) rfl mb ?_
  refine G_aload0 x eX8_init_53 ?_
  refine G_push x eX8_init_54 ?_
  refine G_anX5 (N := 144) x eX8_init_57 clX8_28 rfl (by omega) rm (by omega) (by omega) (fun i57 j57 o57 => ?_)
  rw [← hTc, tb1]
  refine G_putr x eX8_init_60 fX8_38 rfl (fun v => by cases v <;> exact ⟨rfl, rfl⟩) (Or.inr ⟨rfl, ini rfl, rfl⟩) rfl mc ?_
  refine G_aload0 x eX8_init_63 ?_
  refine G_nw x eX8_init_64 clX8_41 itX2 ini_X2 rfl rm (by omega) (by show _ + gN 2 ≤ _; simp only [gN]; omega) (fun i64 j64 o64 => ?_) (hdf_X2)
  refine G_dup x eX8_init_67 (by first | rfl | exact cat_rf _) ?_
  refine G_push x eX8_init_68 ?_
  refine G_push x eX8_init_69 ?_
  refine G_null x eX8_init_70 ?_
  rw [← hTd, tc1]
  refine G_cI x eX8_init_71 kX8_43 im_yX2_init rm (ct_X2_init (fo := none) nd (by omega) (by omega)) rfl (fun v71 T71 I71 J71 O71 p71 => ?_)
  refine G_rg (fun hr => ?_)
  obtain ⟨rfl, e71, i71, j71, o71⟩ := p71
  obtain rfl := e71.symm
  obtain rfl := j71.symm
  refine G_putr x eX8_init_74 fX8_46 rfl (fun v => by cases v <;> exact ⟨rfl, rfl⟩) (Or.inr ⟨rfl, ini rfl, rfl⟩) rfl md ?_
  refine G_aload0 x eX8_init_77 ?_
  refine G_iload1 x eX8_init_78 ?_
  refine G_puti x eX8_init_79 fX8_50 rfl (Or.inr ⟨rfl, ini rfl, rfl⟩) rfl md (by first | omega | exact hr _ _ | exact hr0 _ _ | exact hrS _) ?_
  refine G_rg (fun hr => ?_)
  obtain ⟨O9f, hO9f⟩ : ∃ O9f, O9f = uO O71 p 8 (some (p + 28)) := ⟨_, rfl⟩
  rw [← hO9f]
  have oF : ∀ b j, b ≠ p → b ≠ p + 28 → O9f b j = O31 b j := fun b j h1 h2 => by
    rw [hO9f, uO_a h1, o71, uO_a h2, uO_a h1, uO_a h1, uO_a h1, hO3, uO_a h1]
  have oP : O9f p 1 = some (p + 1) ∧ O9f p 2 = some (p + 8) ∧ O9f p 3 = some (p + 15) ∧ O9f p 5 = some (p + 25) ∧ O9f p 6 = some (p + 26) ∧ O9f p 7 = some (p + 27) ∧ O9f p 8 = some (p + 28) := by
    have q1 : O31 p 1 = some (p + 1) := by rw [o31 _ _ (by omega), uO_k (by decide), o20 _ _ (by omega), uO_s]
    have q2 : O31 p 2 = some (p + 8) := by rw [o31 _ _ (by omega), uO_s]
    rw [hO9f, o71, hO3]
    refine ⟨?_, ?_, ?_, ?_, ?_, ?_, uO_s⟩
    · rw [uO_k (by decide), uO_a (by omega), uO_k (by decide), uO_k (by decide), uO_k (by decide), uO_k (by decide)]; exact q1
    · rw [uO_k (by decide), uO_a (by omega), uO_k (by decide), uO_k (by decide), uO_k (by decide), uO_k (by decide)]; exact q2
    · rw [uO_k (by decide), uO_a (by omega), uO_k (by decide), uO_k (by decide), uO_k (by decide), uO_s]
    · rw [uO_k (by decide), uO_a (by omega), uO_k (by decide), uO_k (by decide), uO_s]
    · rw [uO_k (by decide), uO_a (by omega), uO_k (by decide), uO_s]
    · rw [uO_k (by decide), uO_a (by omega), uO_s]
  have kF : ∀ b, b < p + 25 → Td.2 b = T31.2 b := fun b hb => by rw [kd b (by omega), kc b (by omega), kb b (by omega), ka b hb]
  have A1 : LnAt Td O9f (p + 1) := L9.mv (fun b b1 b2 => by rw [kF b (by omega), k31 b (by omega), gpush_k (by omega), k20 b (by omega), gpush_k (by omega)]) (fun j => by rw [oF _ _ (by omega) (by omega), o31 _ _ (by omega), uO_a (by omega), o20 _ _ (by omega), uO_a (by omega)])
  have A2 : LnAt Td O9f (p + 8) := L20.mv (fun b b1 b2 => by rw [kF b (by omega), k31 b (by omega), gpush_k (by omega)]) (fun j => by rw [oF _ _ (by omega) (by omega), o31 _ _ (by omega), uO_a (by omega)])
  have A3 : CaAt Td O9f (p + 15) := L31.mv (fun b b1 b2 => kF b (by omega)) (fun b j hb => oF _ _ (by omega) (by omega))
  have hAt : RpAt Td O9f p := ⟨md, oP.1, A1, oP.2.1, A2, oP.2.2.1, A3, oP.2.2.2.1, by rw [kd _ (by omega), kc _ (by omega), kb _ (by omega)]; exact na, oP.2.2.2.2.1, by rw [kd _ (by omega), kc _ (by omega)]; exact nb, oP.2.2.2.2.2.1, by rw [kd _ (by omega)]; exact nc, oP.2.2.2.2.2.2, nd⟩
  obtain ⟨I9f, hI9f⟩ : ∃ I9f, I9f = uI I71 p 0 r := ⟨_, rfl⟩
  rw [← hI9f]
  have iF : ∀ b j, (b ≠ p ∨ j ≠ 0) → (b ≠ p + 28) → I9f b j = I20 b j := fun b j h1 h2 => by
    rw [hI9f, uI_o h1, i71, uI_a h2, uI_a h2]
  have i28 : I9f (p + 28) 0 = 0 ∧ I9f (p + 28) 1 = 0 := by
    rw [hI9f, i71]
    refine ⟨?_, ?_⟩
    · rw [uI_a (by omega), uI_k (by decide), uI_s]
    · rw [uI_a (by omega), uI_s]
  have iZ : ∀ b j, p + 14 < b → b ≠ p + 28 → I9f b j = 0 := fun b j h1 h2 => by
    rw [iF b j (by omega) h2, i20 b j (by omega), i9 b j (by omega)]
    exact (hz b j (by omega)).1
  have oZ : ∀ b j, p + 24 < b → b ≠ p + 28 → O9f b j = none := fun b j h1 h2 => by
    rw [oF b j (by omega) h2, o31 b j (by omega), uO_a (by omega), o20 b j (by omega), uO_a (by omega), o9 b j (by omega)]
    exact (hz b j (by omega)).2.2
  have o28 : O9f (p + 28) 2 = none := by rw [hO9f, uO_a (by omega), o71, uO_s]
  have s0c : S0 (3843 + 270 * r) = 0 := by
    have := @S0_h r 0 r0 r1 (by omega) (by omega)
    rw [Int.add_zero] at this
    exact this
  have hl1 : lnTb I9f (p + 1) S0 r 0 := by
    have := zR_ln (S := S0) (r := r) (kd := 0) (I := I9f) (ln := p + 1) r0 r1 (by omega) (by omega) (y9.c (fun b j b1 b2 => by rw [iF b j (by omega) (by omega), i20 b j (by omega)])) (z9.c (fun b j b1 b2 => by rw [iF b j (by omega) (by omega), i20 b j (by omega)]))
    exact this.c (fun _ _ _ _ => rfl) (fun l w l0 l1 w0 w1 => (zR_i (by simp only [lA]; omega) (by simp only [lA]; omega)).symm)
  have hl2 : lnTb I9f (p + 8) S0 r 1 := by
    have := zR_ln (S := S0) (r := r) (kd := 1) (I := I9f) (ln := p + 8) r0 r1 (by omega) (by omega) (y20.c (fun b j b1 b2 => iF b j (by omega) (by omega))) (z20.c (fun b j b1 b2 => iF b j (by omega) (by omega)))
    exact this.c (fun _ _ _ _ => rfl) (fun l w l0 l1 w0 w1 => (zR_i (by simp only [lA]; omega) (by simp only [lA]; omega)).symm)
  have hRp : RpR B Td I9f O9f p S0 r := by
    refine ⟨⟨by rw [hI9f, uI_s], by rw [iF _ _ (by omega) (by omega), i20 _ _ (by omega), i9 _ _ (by omega), s0c]; exact hp0 4⟩, fun f f0 f1 => ?_, hl1, hl2, fun c c0 c1 => Or.inl ⟨?_, oZ _ _ (by omega) (by omega)⟩, i28.1, i28.2, o28⟩
    · rw [iZ _ _ (by omega) (by omega)]
      rcases cIx_b r0 r1 f0 f1 with z | z
      · rw [z.1]; exact (S0_o (by omega)).symm
      · rw [z.2.2.2]; exact (S0_h r0 r1 (by omega) (by omega)).symm
    · have := @S0_c r c r0 r1 c0 c1
      rw [show 3843 + 270 * r + (126 + c) = 3843 + 270 * r + 126 + c by omega]
      exact this
  have hfin : nwR B T I J O p r none Td I9f J O9f := by
    refine ⟨rfl, td1, fun b hb => ?_, hAt, rfl, fun b j hb => ⟨?_, ?_⟩, hRp, iZ _ _ (by omega) (by omega)⟩
    · rw [kF b (by omega), k31 b (by omega), gpush_k (by omega), k20 b (by omega), gpush_k (by omega), k9 b (by omega), gpush_k (by omega)]
    · rw [iF b j (by omega) (by omega), i20 b j (by omega), i9 b j (by omega)]
    · rw [oF b j (by omega) (by omega), o31 b j (by omega), uO_a (by omega), o20 b j (by omega), uO_a (by omega), o9 b j (by omega)]
  refine G_rg (fun hr => ?_)
  refine G_return x en eX8_init_82 (by omega) (by omega) ?_
  exact hfin
def nwS (B : Nat) (T : gT) (I : gI) (J : gJ) (O : gO) (ss : Nat) : gP := fun v T' I' J' O' => v = none ∧ T'.1 = ss + 95 ∧ (∀ b, b ≤ ss → T'.2 b = T.2 b) ∧ SsAt T' O' ss ∧ J' = J ∧ (∀ b j, (b < ss ∨ ss + 94 < b) → I' b j = I b j ∧ O' b j = O b j) ∧ (∀ r, 0 ≤ r → r ≤ 2 → RpR B T' I' O' (rpA ss r) S0 r ∧ I' (rpA ss r + 15) 11 = 0) ∧ I' (ss + 2) 1 = 0 ∧ I' (ss + 4) 1 = 0
set_option maxHeartbeats 8000000 in
set_option maxRecDepth 20000 in
theorem ct_X10_init {T : gT} {I : gI} {J : gJ} {O : gO} {B ss : Nat} (hm : T.2 ss = some (.inl 10)) (hT1 : T.1 = ss + 1) (hB : ss + 94 ≤ B) : Ct yX10_init cX10_init 2 none [va_rf (some ss)] 5 108 94 6024 T I J O (nwS B T I J O ss) := by
  refine Ct.of (by decide) [some (va_rf (some ss)), none] (gEn1 (List.forall_mem_cons.mpr ⟨cat_VR _, fun _ h => nomatch h⟩) rfl (Nat.le_of_ble_eq_true rfl) rfl) ?_
  intro X x en rm ini hr hz
  have hr0 := hr
  have hg7 : gN 7 = 2 := rfl
  have hg9 : gN 9 = 2 := rfl
  have hg6 : gN 6 = 3 := rfl
  have hg8 : gN 8 = 9 := rfl
  have loop : ∀ (d r : Nat) (T1 : gT) (I1 : gI) (O1 : gO) (k1 n1 : Nat), r + d = 3 → k1 = 7 + 29 * r → n1 = 122 + 1966 * r → T1.1 = ss + 8 + 29 * r → (∀ b, b ≤ ss → T1.2 b = T.2 b) → SsAt0 T1 O1 ss → (∀ b j, (b < ss ∨ ss + 7 + 29 * r < b) → I1 b j = I b j ∧ O1 b j = O b j) → (∀ r' : Int, 0 ≤ r' → r' < r → RpAt T1 O1 (rpA ss r') ∧ O1 (ss + 1) r' = some (rpA ss r') ∧ RpR B T1 I1 O1 (rpA ss r') S0 r' ∧ I1 (rpA ss r' + 15) 11 = 0) → I1 (ss + 2) 1 = 0 → I1 (ss + 4) 1 = 0 → G X 47 [some (va_rf (some ss)), some (VI (r : Int))] [] T1 I1 J O1 k1 n1 := by
    intro d
    induction d with
    | zero =>
      intro r T1 I1 O1 k1 n1 hd hk1 hn1 t1 t2 hZ hfr hrs c2 c4
      have hr3 : r = 3 := by omega
      subst hr3
      have a0 := hrs 0 (by omega) (by omega)
      have a1 := hrs 1 (by omega) (by omega)
      have a2 := hrs 2 (by omega) (by omega)
      have hfin : nwS B T I J O ss none T1 I1 J O1 := ⟨rfl, by omega, t2, ⟨hZ, ⟨a0.2.1, a1.2.1, a2.2.1⟩, a0.1, a1.1, a2.1⟩, rfl, fun b j hb => hfr b j (by omega), fun r' z0 z1 => ⟨(hrs r' z0 (by omega)).2.2.1, (hrs r' z0 (by omega)).2.2.2⟩, c2, c4⟩
      refine G_rg (fun hr => ?_)
      refine G_iload1 x eX10_init_47 ?_
      refine G_push x eX10_init_48 ?_
      refine G_icmp_ge x eX10_init_49 (by first | omega | exact hr _ _ | exact hr0 _ _ | exact hrS _) (by first | omega | exact hr _ _ | exact hr0 _ _ | exact hrS _) (fun c49 => ?_) (fun c49 => ?_)
      · refine G_return x en eX10_init_72 (by omega) (by omega) ?_
        exact hfin
      · exfalso; omega
    | succ d ih =>
      intro r T1 I1 O1 k1 n1 hd hk1 hn1 t1 t2 hZ hfr hrs c2 c4
      have hrp : rpA ss (r : Int) = ss + 8 + 29 * r := by unfold rpA; omega
      refine G_iload1 x eX10_init_47 ?_
      refine G_push x eX10_init_48 ?_
      refine G_icmp_ge x eX10_init_49 (by omega) (by omega) (fun c49 => absurd c49 (by omega)) (fun c49 => ?_)
      refine G_aload0 x eX10_init_52 ?_
      refine G_getq x eX10_init_53 fX10_11 rfl rfl hZ.m hZ.o_replicas ?_
      refine G_iload1 x eX10_init_56 ?_
      refine G_nw x eX10_init_57 clX10_9 itX8 ini_X8 rfl rm (by omega) (by show _ + gN 8 ≤ _; simp only [gN]; omega) (fun i57 j57 o57 => ?_) (hdf_X8)
      refine G_dup x eX10_init_60 (by first | rfl | exact cat_rf _) ?_
      refine G_iload1 x eX10_init_61 ?_
      rw [t1, ← hrp]
      refine G_cI x eX10_init_62 kX10_36 im_yX8_init rm (ct_X8_init (B := B) (p := rpA ss (r : Int)) (r := (r : Int)) (gpush_at (by omega)) (by show T1.1 + 1 = _; omega) (by omega) (by omega) (fun j => by rw [hrp, ← t1]; exact i57 j)) rfl (fun v62 T62 I62 J62 O62 p62 => ?_)
      refine G_rg (fun hr => ?_)
      obtain ⟨rfl, u1, u2, u3, u4, u5, u6, u7⟩ := p62
      obtain rfl := u4.symm
      have hk : ∀ b, b < ss + 8 + 29 * r → T62.2 b = T1.2 b := fun b hb => by rw [u2 b (by omega), gpush_k (by omega)]
      have hZ2 : SsAt0 T62 O62 ss := by
        have z1 := hZ.s_records.mv (T' := T62) (O' := O62) (fun b b1 b2 => hk b (by omega)) (fun j => (u5 _ j (by omega)).2)
        have z2 := hZ.s_text.mv (T' := T62) (O' := O62) (fun b b1 b2 => hk b (by omega)) (fun j => (u5 _ j (by omega)).2)
        have z3 := hZ.s_reader.mv (T' := T62) (O' := O62) (fun b b1 b2 => hk b (by omega)) (fun j => (u5 _ j (by omega)).2)
        have oa : ∀ j, O62 ss j = O1 ss j := fun j => (u5 _ j (by omega)).2
        obtain ⟨a1, a2, a3, a4, a5, a6, a7, a8, a9⟩ := hZ
        exact ⟨by rw [hk _ (by omega)]; exact a1, by rw [oa]; exact a2, by rw [hk _ (by omega)]; exact a3, by rw [oa]; exact a4, z1, by rw [oa]; exact a6, z2, by rw [oa]; exact a8, z3⟩
      have hm8 := u3.m
      have oB : ∀ b j, b ≠ ss + 1 → uO O62 (ss + 1) (r : Int) (some (rpA ss (r : Int))) b j = O62 b j := fun b j hb => uO_a hb j
      have ih9 := ih (r + 1) T62 I62 (uO O62 (ss + 1) (r : Int) (some (rpA ss (r : Int)))) (k1 + 1 + 28) (n1 + 9 + 1957) (by omega) (by omega) (by omega) (by omega) (fun b hb => by rw [hk b (by omega), t2 b hb])
        (by
          have z1 := hZ2.s_records.mv (T' := T62) (O' := uO O62 (ss + 1) (r : Int) (some (rpA ss (r : Int)))) (fun b b1 b2 => rfl) (fun j => oB _ j (by omega))
          have z2 := hZ2.s_text.mv (T' := T62) (O' := uO O62 (ss + 1) (r : Int) (some (rpA ss (r : Int)))) (fun b b1 b2 => rfl) (fun j => oB _ j (by omega))
          have z3 := hZ2.s_reader.mv (T' := T62) (O' := uO O62 (ss + 1) (r : Int) (some (rpA ss (r : Int)))) (fun b b1 b2 => rfl) (fun j => oB _ j (by omega))
          obtain ⟨a1, a2, a3, a4, a5, a6, a7, a8, a9⟩ := hZ2
          exact ⟨a1, by rw [oB _ _ (by omega)]; exact a2, a3, by rw [oB _ _ (by omega)]; exact a4, z1, by rw [oB _ _ (by omega)]; exact a6, z2, by rw [oB _ _ (by omega)]; exact a8, z3⟩)
        (fun b j hb => by
          have q := u5 b j (by omega)
          have q2 := hfr b j (by omega)
          exact ⟨q.1.trans q2.1, by rw [oB _ _ (by omega)]; exact q.2.trans q2.2⟩)
        (fun r' z0 z1 => by
          by_cases e : r' = (r : Int)
          · subst e
            have hhi : hiK B T62 T62 I62 I62 O62 (uO O62 (ss + 1) (r : Int) (some (rpA ss (r : Int)))) := ⟨Nat.le_refl _, fun b b1 b2 => ⟨rfl, fun j => rfl, fun j => oB _ j (by omega)⟩⟩
            exact ⟨u3.mv (fun _ _ _ => rfl) (fun b j b1 b2 b3 => oB _ j (by omega)), uO_s, u6.mv (by omega) hhi (fun _ _ _ _ _ _ => rfl) (fun _ _ _ _ _ => rfl) (fun j b hb => oB _ j (by omega)) (fun _ _ _ _ _ _ => rfl) (fun _ _ _ => rfl) rfl (by omega) (by omega), u7⟩
          · obtain ⟨w1, w2, w3, w4⟩ := hrs r' z0 (by omega)
            have hb9 : rpA ss r' + 28 < ss + 8 + 29 * r ∧ ss + 8 ≤ rpA ss r' := by unfold rpA; omega
            have eO : ∀ b j, b ≠ ss + 1 → b < ss + 8 + 29 * r → uO O62 (ss + 1) (r : Int) (some (rpA ss (r : Int))) b j = O1 b j := fun b j h1 h2 => by rw [oB _ _ h1]; exact (u5 b j (by omega)).2
            have eI : ∀ b j, b < ss + 8 + 29 * r → I62 b j = I1 b j := fun b j h2 => (u5 b j (by omega)).1
            refine ⟨w1.mv (fun b b1 b2 => hk b (by omega)) (fun b j b1 b2 b3 => eO b j (by omega) (by omega)), by rw [uO_k e, (u5 _ _ (by omega)).2]; exact w2, ?_, by rw [eI _ _ (by omega)]; exact w4⟩
            have hhi : hiK B T1 T62 I1 I62 O1 (uO O62 (ss + 1) (r : Int) (some (rpA ss (r : Int)))) := ⟨by omega, fun b b1 b2 => by omega⟩
            exact w3.mv (by omega) hhi (fun j _ b b1 b2 _ => eI b j (by omega)) (fun j b b1 b2 _ => eI b j (by omega)) (fun j b hb => eO b j (by omega) (by omega)) (fun _ _ _ _ _ _ => rfl) (fun _ _ _ => rfl) rfl z0 (by omega)) (by rw [(u5 _ _ (by omega)).1]; exact c2) (by rw [(u5 _ _ (by omega)).1]; exact c4)
      rw [show ((r + 1 : Nat) : Int) = (r : Int) + 1 by omega] at ih9
      refine G_aast x eX10_init_65 rfl hZ2.t_replicas (fun _ => rfl) rfl rfl hm8 (by omega) (by omega) (by omega) ?_
      refine G_rg (fun hr => ?_)
      refine G_iinc1 x eX10_init_66 ?_
      refine G_goto x eX10_init_69 ?_
      exact ih9
  refine G_aload0 x eX10_init_0 ?_
  refine G_oi x eX10_init_1 olX10 rm ?_
  refine G_aload0 x eX10_init_4 ?_
  refine G_push x eX10_init_5 ?_
  refine G_anX8 (N := 3) x eX10_init_6 clX10_9 rfl (by omega) rm (by omega) (by omega) (fun i6 j6 o6 => ?_)
  rw [hT1]
  obtain ⟨Ta, hTa⟩ : ∃ Ta, Ta = gpush T (.inr (4, 3)) := ⟨_, rfl⟩
  have ta1 : Ta.1 = ss + 2 := by rw [hTa]; show T.1 + 1 = _; omega
  have ka : ∀ b, b < ss + 1 → Ta.2 b = T.2 b := fun b hb => by rw [hTa]; exact gpush_k (by omega)
  have na : Ta.2 (ss + 1) = some (.inr (4, 3)) := by rw [hTa]; exact gpush_at (by omega)
  have ma : Ta.2 ss = some (.inl 10) := (ka ss (by omega)).trans hm
  rw [← hTa]
  refine G_putr x eX10_init_9 fX10_11 rfl (fun v => by cases v <;> exact ⟨rfl, rfl⟩) (Or.inr ⟨rfl, ini rfl, rfl⟩) rfl ma ?_
  refine G_aload0 x eX10_init_12 ?_
  refine G_nw x eX10_init_13 clX10_15 itX7 ini_X7 rfl rm (by omega) (by show _ + gN 7 ≤ _; simp only [gN]; omega) (fun i13 j13 o13 => ?_) (hdf_X7)
  refine G_dup x eX10_init_16 (by first | rfl | exact cat_rf _) ?_
  rw [ta1]
  refine G_cIN x eX10_init_17 knX10_17 im_yX7_init rm (ct_X7_init (a := ss + 2) (gpush_at ta1.symm) (by show Ta.1 + 1 = _; omega)) rfl (fun v17 T17 I17 J17 O17 p17 => ?_)
  refine G_rg (fun hr => ?_)
  obtain ⟨rfl, u1, u2, u3, u4, u5, u6⟩ := p17
  obtain rfl := u4.symm
  obtain rfl := u5.symm
  have m17 : T17.2 ss = some (.inl 10) := by rw [u2 _ (by omega), gpush_k (by omega)]; exact ma
  refine G_putr x eX10_init_20 fX10_18 rfl (fun v => by cases v <;> exact ⟨rfl, rfl⟩) (Or.inr ⟨rfl, ini rfl, rfl⟩) rfl m17 ?_
  refine G_aload0 x eX10_init_23 ?_
  refine G_nw x eX10_init_24 clX10_22 itX9 ini_X9 rfl rm (by omega) (by show _ + gN 9 ≤ _; simp only [gN]; omega) (fun i24 j24 o24 => ?_) (hdf_X9)
  refine G_dup x eX10_init_27 (by first | rfl | exact cat_rf _) ?_
  rw [u1]
  refine G_cIN x eX10_init_28 knX10_24 im_yX9_init rm (ct_X9_init (a := ss + 4) (gpush_at (by omega)) (by show T17.1 + 1 = _; omega)) rfl (fun v28 T28 I28 J28 O28 p28 => ?_)
  refine G_rg (fun hr => ?_)
  obtain ⟨rfl, v1, v2, v3, v4, v5, v6⟩ := p28
  obtain rfl := v4.symm
  obtain rfl := v5.symm
  have m28 : T28.2 ss = some (.inl 10) := by rw [v2 _ (by omega), gpush_k (by omega)]; exact m17
  refine G_putr x eX10_init_31 fX10_25 rfl (fun v => by cases v <;> exact ⟨rfl, rfl⟩) (Or.inr ⟨rfl, ini rfl, rfl⟩) rfl m28 ?_
  refine G_aload0 x eX10_init_34 ?_
  refine G_nw x eX10_init_35 clX10_29 itX6 ini_X6 rfl rm (by omega) (by show _ + gN 6 ≤ _; simp only [gN]; omega) (fun i35 j35 o35 => ?_) (hdf_X6)
  refine G_dup x eX10_init_38 (by first | rfl | exact cat_rf _) ?_
  rw [v1]
  refine G_cIN x eX10_init_39 knX10_31 im_yX6_init rm (ct_X6_init (a := ss + 6) (gpush_at (by omega)) (by show T28.1 + 1 = _; omega)) rfl (fun v39 T39 I39 J39 O39 p39 => ?_)
  refine G_rg (fun hr => ?_)
  obtain ⟨rfl, w1, w2, w3, w4, w5, w6⟩ := p39
  obtain rfl := w4.symm
  obtain rfl := w5.symm
  have m39 : T39.2 ss = some (.inl 10) := by rw [w2 _ (by omega), gpush_k (by omega)]; exact m28
  refine G_putr x eX10_init_42 fX10_32 rfl (fun v => by cases v <;> exact ⟨rfl, rfl⟩) (Or.inr ⟨rfl, ini rfl, rfl⟩) rfl m39 ?_
  refine G_push x eX10_init_45 ?_
  refine G_istore1 x eX10_init_46 ?_
  have kk : ∀ b, b ≤ ss + 1 → T39.2 b = Ta.2 b := fun b hb => by rw [w2 b (by omega), gpush_k (by omega), v2 b (by omega), gpush_k (by omega), u2 b (by omega), gpush_k (by omega)]
  have eO : ∀ j, O39 ss j = (uO O28 ss 2 (some (ss + 4))) ss j := fun j => w6 _ j (by omega)
  have eO2 : ∀ j, O28 ss j = (uO O17 ss 1 (some (ss + 2))) ss j := fun j => v6 _ j (by omega)
  have eO3 : ∀ j, O17 ss j = (uO O ss 0 (some (ss + 1))) ss j := fun j => u6 _ j (by omega)
  have hl := loop 3 0 T39 I (uO O39 ss 3 (some (ss + 6))) _ _ rfl rfl rfl (by omega) (fun b hb => by rw [kk b (by omega), ka b (by omega)])
    ⟨m39, by rw [uO_k (by decide), eO, uO_k (by decide), eO2, uO_k (by decide), eO3, uO_s], by rw [kk _ (by omega)]; exact na, by rw [uO_k (by decide), eO, uO_k (by decide), eO2, uO_s],
      u3.mv (fun b b1 b2 => by rw [w2 b (by omega), gpush_k (by omega), v2 b (by omega), gpush_k (by omega)]) (fun j => by rw [uO_a (by omega), w6 _ _ (by omega), uO_a (by omega), v6 _ _ (by omega), uO_a (by omega)]),
      by rw [uO_k (by decide), eO, uO_s], v3.mv (fun b b1 b2 => by rw [w2 b (by omega), gpush_k (by omega)]) (fun j => by rw [uO_a (by omega), w6 _ _ (by omega), uO_a (by omega)]), uO_s, w3.mv (fun _ _ _ => rfl) (fun j => by rw [uO_a (by omega)])⟩
    (fun b j hb => ⟨rfl, by rw [uO_a (by omega), w6 _ _ (by omega), uO_a (by omega), v6 _ _ (by omega), uO_a (by omega), u6 _ _ (by omega), uO_a (by omega)]⟩) (fun r' z0 z1 => by omega) (hz _ _ (by omega)).1 (hz _ _ (by omega)).1
  exact hl
