/-! copies -/
set_option maxRecDepth 20000 in
theorem ct_X1_copyFrom {T : gT} {I : gI} {J : gJ} {O : gO} {cs co : Nat} {R : Int → Int → Prop} (hM : CsAt T O cs) (hN : CsAt T O co) (hne : co ≠ cs) (hR : CsIs (J (co + 1)) R) : Ct yX1_copyFrom cX1_copyFrom 2 none [va_rf (some cs), va_rf (some co)] 1 26 0 0 T I J O (csP T I J O cs R) := by
  refine Ct.of (by decide) [some (va_rf (some cs)), some (va_rf (some co))] (gEn1 (List.forall_mem_cons.mpr ⟨cat_VR _, List.forall_mem_cons.mpr ⟨cat_VR _, fun _ h => nomatch h⟩⟩) rfl (Nat.le_of_ble_eq_true rfl) rfl) ?_
  intro X x en rm ini hr hz
  have hr0 := hr
  refine G_aload1 x eX1_copyFrom_0 ?_
  refine G_getq x eX1_copyFrom_1 fX1_11 rfl rfl hN.m hN.o_bits ?_
  refine G_push x eX1_copyFrom_4 ?_
  refine G_aload0 x eX1_copyFrom_5 ?_
  refine G_getq x eX1_copyFrom_6 fX1_11 rfl rfl hM.m hM.o_bits ?_
  refine G_push x eX1_copyFrom_9 ?_
  refine G_aload0 x eX1_copyFrom_10 ?_
  refine G_getq x eX1_copyFrom_11 fX1_11 rfl rfl hM.m hM.o_bits ?_
  refine G_alen x eX1_copyFrom_14 rfl hM.t_bits (fun _ => rfl) ?_
  refine G_acpL x eX1_copyFrom_15 kaX1_21 rm rfl rfl hN.t_bits hM.t_bits (by omega) (by omega) (by omega) (by omega) rfl ?_
  refine G_rg (fun hr => ?_)
  refine G_return x en eX1_copyFrom_18 (by omega) (by omega) ?_
  exact ⟨rfl, rfl, rfl, rfl, fun b j hb => cpZ_a hb j, fun s c s0 s1 c0 c1 => by rw [← hR s c s0 s1 c0 c1]; unfold hasB; rw [cpZ_i (by omega) (by omega)]⟩
def coP (T : gT) (I : gI) (J : gJ) (O : gO) (a L : Nat) : gP := fun v T' I' J' O' => v = some (va_rf (some T.1)) ∧ T' = gpush T (.inr (0, L)) ∧ J' = J ∧ O' = O ∧ I' = cpZ I a T.1 L
set_option maxRecDepth 20000 in
theorem ct_J7_copyOf_59c91 {T : gT} {I : gI} {J : gJ} {O : gO} {a N L : Nat} (hT : T.2 a = some (.inr (0, N))) (ha : a < T.1) (hN : N ≤ 100000) (hL : L < N) : Ct yJ7_copyOf_59c91 cJ7_copyOf_59c91 3 (some (.array .int)) [va_rf (some a), VI (L : Int)] 1 26 1 L T I J O (coP T I J O a L) := by
  refine Ct.ofF (by decide +kernel) [some (va_rf (some a)), some (VI (L : Int)), none] (gEn1 (List.forall_mem_cons.mpr ⟨cat_VR _, List.forall_mem_cons.mpr ⟨cat_VI _, fun _ h => nomatch h⟩⟩) rfl (Nat.le_of_ble_eq_true rfl) rfl) ?_
  intro X x en rm ini hr hz
  have hr0 := hr
  have e0 : (L : Int) ≠ (N : Int) := by omega
  have hT2 : (gpush T (.inr (0, L))).2 a = some (.inr (0, N)) := by rw [gpush_k ha]; exact hT
  have hT3 : (gpush T (.inr (0, L))).2 T.1 = some (.inr (0, L)) := gpush_s
  have b14 : G X 14 [some (va_rf (some a)), some (VI (L : Int)), none] [] T I J O 0 0 := by
    refine G_iload1 x eJ7_copyOf_59c91_14 ?_
    refine G_na_int (N := L) x eJ7_copyOf_59c91_15 rfl (by omega) rm (by omega) (by omega) (fun i15 j15 o15 => ?_)
    refine G_astore2 x eJ7_copyOf_59c91_17 ?_
    refine G_aload0 x eJ7_copyOf_59c91_18 ?_
    refine G_push x eJ7_copyOf_59c91_19 ?_
    refine G_aload2 x eJ7_copyOf_59c91_20 ?_
    refine G_push x eJ7_copyOf_59c91_21 ?_
    refine G_aload0 x eJ7_copyOf_59c91_22 ?_
    refine G_alen x eJ7_copyOf_59c91_23 rfl hT2 (fun _ => rfl) ?_
    refine G_iload1 x eJ7_copyOf_59c91_24 ?_
    refine G_cS x eJ7_copyOf_59c91_25 kJ7_304 sm_yJ9_min_7cf53 rm (ct_J9_min_7cf53 (by first | omega | exact hr _ _ | exact hr0 _ _ | exact hrS _) (by first | omega | exact hr _ _ | exact hr0 _ _ | exact hrS _)) rfl ?_
    rw [show min (N : Int) (L : Int) = (L : Int) by omega]
    refine G_acpI x eJ7_copyOf_59c91_28 kaJ7_150 rm rfl rfl hT2 hT3 (by omega) (by omega) (by omega) (by omega) rfl ?_
    refine G_rg (fun hr => ?_)
    refine G_aload2 x eJ7_copyOf_59c91_31 ?_
    refine G_areturn x en (by first | exact Or.inl ⟨_, rfl⟩ | exact Or.inr ⟨_, rfl⟩) eJ7_copyOf_59c91_32 (by omega) (by omega) ?_
    exact ⟨rfl, rfl, rfl, rfl, rfl⟩
  refine G_rg (fun hr => ?_)
  refine G_iload1 x eJ7_copyOf_59c91_0 ?_
  refine G_aload0 x eJ7_copyOf_59c91_1 ?_
  refine G_alen x eJ7_copyOf_59c91_2 rfl hT (fun _ => rfl) ?_
  refine G_icmp_ne x eJ7_copyOf_59c91_3 (by first | omega | exact hr _ _ | exact hr0 _ _ | exact hrS _) (by first | omega | exact hr _ _ | exact hr0 _ _ | exact hrS _) (fun c3 => ?_) (fun c3 => ?_)
  · exact b14
  · omega
