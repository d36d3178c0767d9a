/-! the checksum -/
def mx (h v : Int64) : Int64 := 31 * h + v
def mxI (h : Int64) (z : Int) : Int64 := mx h (Int64.ofInt z)
set_option maxRecDepth 20000 in
theorem ct_X11_mix {T : gT} {I : gI} {J : gJ} {O : gO} {mo : Nat} {w : Int64} (hM : MoAt T O mo) : Ct yX11_mix cX11_mix 3 none [va_rf (some mo), Value.long w] 0 0 0 0 T I J O (pv none T I (uJ J mo 30 (mx (J mo 30) w)) O) := by
  refine Ct.of (by decide) [some (va_rf (some mo)), some (Value.long w), none] (gEnL rfl (Nat.le_of_ble_eq_true rfl) rfl) ?_
  intro X x en rm ini hr hz
  have hr0 := hr
  refine G_rg (fun hr => ?_)
  refine G_aload0 x eX11_mix_0 ?_
  refine G_ldc2 x klX11_293 eX11_mix_1 ?_
  refine G_aload0 x eX11_mix_4 ?_
  refine G_getl x eX11_mix_5 fX11_295 rfl rfl hM.m ?_
  refine G_lmul x eX11_mix_8 ?_
  refine G_lload1 x eX11_mix_9 ?_
  refine G_ladd x eX11_mix_10 ?_
  refine G_putl x eX11_mix_11 fX11_295 rfl (Or.inl rfl) rfl hM.m ?_
  refine G_return x en eX11_mix_14 (by omega) (by omega) ?_
  exact pv_i
noncomputable def lnM (S : Int → Int) (r kd : Int) (h : Int64) : Nat → Int64
  | 0 => h
  | k + 1 => mxI (mxI (lnM S r kd h k) (rwF S r kd (-1) k)) (plS S r kd (rwF S r kd (-1) k))
noncomputable def mlM (S : Int → Int) (r kd : Int) (h : Int64) : Int64 := lnM S r kd (mxI h (rwN S r kd (-1))) (rwN S r kd (-1)).toNat
def mlP (T : gT) (I : gI) (J : gJ) (O : gO) (mo : Nat) (r kd : Int) : gP := fun v T' I' J' O' => v = none ∧ T' = T ∧ O' = O ∧ (∀ b j, b ≠ mo + 7 → I' b j = I b j) ∧ J' = uJ J mo 30 (mlM (I (mo + 1)) r kd (J mo 30))
set_option maxRecDepth 20000 in
theorem ct_X11_mixLines {T : gT} {I : gI} {J : gJ} {O : gO} {mo : Nat} {r kd : Int} (hM : MoAt T O mo) (h0 : 0 ≤ r) (h1 : r ≤ 2) (h2 : 0 ≤ kd) (h3 : kd ≤ 1) : Ct yX11_mixLines cX11_mixLines 5 none [va_rf (some mo), VI r, VI kd] 3 71 0 0 T I J O (mlP T I J O mo r kd) := by
  refine Ct.of (by decide) [some (va_rf (some mo)), some (VI r), some (VI kd), none, none] (gEn1 (List.forall_mem_cons.mpr ⟨cat_VR _, List.forall_mem_cons.mpr ⟨cat_VI _, List.forall_mem_cons.mpr ⟨cat_VI _, fun _ h => nomatch h⟩⟩⟩) rfl (Nat.le_of_ble_eq_true rfl) rfl) ?_
  intro X x en rm ini hr hz
  have hr0 := hr
  refine G_aload0 x eX11_mixLines_0 ?_
  refine G_iload1 x eX11_mixLines_1 ?_
  refine G_iload2 x eX11_mixLines_2 ?_
  refine G_push x eX11_mixLines_3 ?_
  refine G_aload0 x eX11_mixLines_4 ?_
  refine G_getq x eX11_mixLines_5 fX11_28 rfl rfl hM.m hM.o_some ?_
  refine G_cVg x eX11_mixLines_8 kX11_95 im_yX11_lays se_yX11_lays rm hM.m (ct_X11_lays hM hM.t_some (by omega) (by omega) (by omega) (by omega) (by omega)) rfl (fun v8 T8 I8 J8 O8 p8 => ?_)
  refine G_rg (fun hr => ?_)
  obtain ⟨rfl, rfl, rfl, hf, n, rfl, hE⟩ := p8
  have hE2 := rw_eq hE
  have hb := rwB (I (mo + 1)) r kd (-1)
  have hEb := hE.2.1
  have hEa := hE.1
  have e1 : ∀ j, I8 (mo + 1) j = I (mo + 1) j := hf _ (by omega)
  have loop : ∀ (d : Nat) (k : Nat) (J1 : gJ), d = (n - k).toNat → (k : Int) ≤ n → J1 = uJ J8 mo 30 (lnM (I (mo + 1)) r kd (mxI (J8 mo 30) n) k) → G X 21 [some (va_rf (some mo)), some (VI r), some (VI kd), some (VI n), some (VI (k : Int))] [] T8 I8 J1 O8 0 0 := by
    intro d
    induction d using Nat.strongRecOn with
    | ind d ih =>
    intro k J1 hd hk hJ
    have hq := fun (z : (k : Int) < n) => rwI (I (mo + 1)) (r := r) (kd := kd) (w := -1) (i := k) (by omega) (by omega)
    have e7 := fun (z : (k : Int) < n) => hE2.2 k (by omega) z
    refine G_iload4 x eX11_mixLines_21 ?_
    refine G_iload3 x eX11_mixLines_23 ?_
    refine G_icmp_ge x eX11_mixLines_24 (by first | omega | exact hr _ _ | exact hr0 _ _ | exact hrS _) (by first | omega | exact hr _ _ | exact hr0 _ _ | exact hrS _) (fun c24 => ?_) (fun c24 => ?_)
    · refine G_rg (fun hr => ?_)
      refine G_return x en eX11_mixLines_73 (by omega) (by omega) ?_
      refine ⟨rfl, rfl, rfl, fun b j hb => hf b hb j, ?_⟩; rw [hJ]; unfold mlM; rw [← hE2.1, show n.toNat = k by omega]
    · have hq := hq (by omega)
      have e7 := e7 (by omega)
      refine G_aload0 x eX11_mixLines_27 ?_
      refine G_aload0 x eX11_mixLines_28 ?_
      refine G_getq x eX11_mixLines_29 fX11_28 rfl rfl hM.m hM.o_some ?_
      refine G_iload4 x eX11_mixLines_32 ?_
      refine G_iald x eX11_mixLines_34 rfl hM.t_some (by omega) (by omega) (by omega) (fun h34 => ?_)
      rw [e7]
      refine G_i2l x eX11_mixLines_35 (by first | omega | exact hr _ _ | exact hr0 _ _ | exact hrS _) ?_
      refine G_cVv x eX11_mixLines_36 kX11_298 im_yX11_mix se_yX11_mix rm hM.m (ct_X11_mix hM) rfl ?_
      refine G_rg (fun hr => ?_)
      refine G_aload0 x eX11_mixLines_39 ?_
      refine G_aload0 x eX11_mixLines_40 ?_
      refine G_getq x eX11_mixLines_41 fX11_7 rfl rfl hM.m hM.o_s ?_
      refine G_iload1 x eX11_mixLines_44 ?_
      refine G_push x eX11_mixLines_45 ?_
      refine G_iload2 x eX11_mixLines_47 ?_
      refine G_imul x eX11_mixLines_48 ?_
      refine G_aload0 x eX11_mixLines_49 ?_
      refine G_getq x eX11_mixLines_50 fX11_28 rfl rfl hM.m hM.o_some ?_
      refine G_iload4 x eX11_mixLines_53 ?_
      refine G_iald x eX11_mixLines_55 rfl hM.t_some (by omega) (by omega) (by omega) (fun h55 => ?_)
      rw [e7]
      refine G_iadd x eX11_mixLines_56 ?_
      refine G_cS x eX11_mixLines_57 kX11_72 sm_yX11_lineAt rm ct_X11_lineAt rfl ?_
      refine G_push x eX11_mixLines_60 ?_
      refine G_iadd0 x eX11_mixLines_61 ?_
      refine G_iald x eX11_mixLines_62 rfl hM.t_s (by omega) (by omega) (by omega) (fun h62 => ?_)
      rw [e1]
      refine G_i2l x eX11_mixLines_63 (by first | omega | exact hr _ _ | exact hr0 _ _ | exact hrS _) ?_
      refine G_cVv x eX11_mixLines_64 kX11_298 im_yX11_mix se_yX11_mix rm hM.m (ct_X11_mix hM) rfl ?_
      refine G_rg (fun hr => ?_)
      have nx := ih _ (by omega) (k + 1) _ rfl (by omega) rfl
      have ee : uJ (uJ J1 mo 30 (mx (J1 mo 30) (Int64.ofInt (rwF (I (mo + 1)) r kd (-1) k)))) mo 30 (mx ((uJ J1 mo 30 (mx (J1 mo 30) (Int64.ofInt (rwF (I (mo + 1)) r kd (-1) k)))) mo 30) (Int64.ofInt (I (mo + 1) (3843 + 270 * r + 6 + 5 * (12 * kd + rwF (I (mo + 1)) r kd (-1) k))))) = uJ J8 mo 30 (lnM (I (mo + 1)) r kd (mxI (J8 mo 30) n) (k + 1)) := by
        rw [hJ, uJ_s, uJ_s, uJ_uJ, uJ_uJ]
        rfl
      rw [ee]
      refine G_rg (fun hr => ?_)
      refine G_iinc4 x eX11_mixLines_67 ?_
      refine G_goto x eX11_mixLines_70 ?_
      exact nx
  refine G_rg (fun hr => ?_)
  refine G_istore3 x eX11_mixLines_11 ?_
  refine G_aload0 x eX11_mixLines_12 ?_
  refine G_iload3 x eX11_mixLines_13 ?_
  refine G_i2l x eX11_mixLines_14 (by first | omega | exact hr _ _ | exact hr0 _ _ | exact hrS _) ?_
  refine G_cVv x eX11_mixLines_15 kX11_298 im_yX11_mix se_yX11_mix rm hM.m (ct_X11_mix hM) rfl ?_
  refine G_rg (fun hr => ?_)
  refine G_push x eX11_mixLines_18 ?_
  refine G_istore4 x eX11_mixLines_19 ?_
  exact loop _ 0 _ rfl (by omega) rfl
