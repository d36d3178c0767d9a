/-! a replica carries an operation out -/
theorem ct_cow1 {T : gT} {I : gI} {J : gJ} {O : gO} {p a : Nat} (hM : RpAt T O p) (hA : T.2 a = some (.inl 5)) (l0 : 0 ≤ I a 4) (l1 : I a 4 < 12) (l2 : 0 ≤ I a 5) (l3 : I a 5 < 12) (hc : O (p + 27) (I a 4 * 12 + I a 5) = none ∨ ∃ b, O (p + 27) (I a 4 * 12 + I a 5) = some b ∧ T.2 b = some (.inl 5) ∧ later (I a 1) (I a 2) (I b 1) (I b 2)) : Ct yX8_carryOutWrite cX8_carryOutWrite 4 none [va_rf (some p), va_rf (some a)] 1 22 0 0 T I J O (pv none T I J (uO O (p + 27) (I a 4 * 12 + I a 5) (some a))) := by
  refine Ct.of (by decide) [some (va_rf (some p)), some (va_rf (some a)), none, none] (gEn1 (List.forall_mem_cons.mpr ⟨cat_VR _, List.forall_mem_cons.mpr ⟨cat_VR _, fun _ h => nomatch h⟩⟩) rfl (Nat.le_of_ble_eq_true rfl) rfl) ?_
  intro X x en rm ini hr hz
  have hr0 := hr
  have ha1 := hr0 a 1
  have ha2 := hr0 a 2
  rcases hc with hc | ⟨b, hc, hb, hl⟩
  · refine G_rg (fun hr => ?_)
    refine G_aload1 x eX8_carryOutWrite_0 ?_
    refine G_geti x eX8_carryOutWrite_1 fX8_119 rfl rfl hA (fun h1 => ?_)
    refine G_push x eX8_carryOutWrite_4 ?_
    refine G_imul x eX8_carryOutWrite_6 ?_
    refine G_aload1 x eX8_carryOutWrite_7 ?_
    refine G_geti x eX8_carryOutWrite_8 fX8_122 rfl rfl hA (fun h8 => ?_)
    refine G_iadd x eX8_carryOutWrite_11 ?_
    refine G_istore2 x eX8_carryOutWrite_12 ?_
    refine G_iload2 x eX8_carryOutWrite_13 ?_
    refine G_cN x eX8_carryOutWrite_14 knX8_125 sm_yX10_isCell rm (ct_X10_isCell (by first | omega | exact hr _ _ | exact hr0 _ _ | exact hrS _)) rfl ?_
    refine G_ifb_ne x eX8_carryOutWrite_17 (fun c17 => ?_) (fun c17 => ?_)
    · refine G_aload0 x eX8_carryOutWrite_21 ?_
      refine G_getq x eX8_carryOutWrite_22 fX8_38 rfl rfl hM.m hM.o_writers ?_
      refine G_iload2 x eX8_carryOutWrite_25 ?_
      refine G_aald x eX8_carryOutWrite_26 rfl hM.t_writers (fun _ => rfl) (by omega) (by omega) (by omega) ?_
      rw [hc]
      refine G_astore3 x eX8_carryOutWrite_27 ?_
      refine G_aload3 x eX8_carryOutWrite_28 ?_
      refine G_ifnull x eX8_carryOutWrite_29 (fun c29 => ?_) (fun b29 c29 => ?_)
      · refine G_aload0 x eX8_carryOutWrite_47 ?_
        refine G_getq x eX8_carryOutWrite_48 fX8_38 rfl rfl hM.m hM.o_writers ?_
        refine G_iload2 x eX8_carryOutWrite_51 ?_
        refine G_aload1 x eX8_carryOutWrite_52 ?_
        refine G_aast x eX8_carryOutWrite_53 rfl hM.t_writers (fun _ => rfl) rfl rfl hA (by omega) (by omega) (by omega) ?_
        refine G_return x en eX8_carryOutWrite_54 (by omega) (by omega) ?_
        first | exact pv_i | (refine ⟨?_, rfl, rfl, rfl, rfl⟩; split <;> first | rfl | omega)
      · contradiction
    · omega
  · refine G_rg (fun hr => ?_)
    refine G_aload1 x eX8_carryOutWrite_0 ?_
    refine G_geti x eX8_carryOutWrite_1 fX8_119 rfl rfl hA (fun h1 => ?_)
    refine G_push x eX8_carryOutWrite_4 ?_
    refine G_imul x eX8_carryOutWrite_6 ?_
    refine G_aload1 x eX8_carryOutWrite_7 ?_
    refine G_geti x eX8_carryOutWrite_8 fX8_122 rfl rfl hA (fun h8 => ?_)
    refine G_iadd x eX8_carryOutWrite_11 ?_
    refine G_istore2 x eX8_carryOutWrite_12 ?_
    refine G_iload2 x eX8_carryOutWrite_13 ?_
    refine G_cN x eX8_carryOutWrite_14 knX8_125 sm_yX10_isCell rm (ct_X10_isCell (by first | omega | exact hr _ _ | exact hr0 _ _ | exact hrS _)) rfl ?_
    refine G_ifb_ne x eX8_carryOutWrite_17 (fun c17 => ?_) (fun c17 => ?_)
    · refine G_aload0 x eX8_carryOutWrite_21 ?_
      refine G_getq x eX8_carryOutWrite_22 fX8_38 rfl rfl hM.m hM.o_writers ?_
      refine G_iload2 x eX8_carryOutWrite_25 ?_
      refine G_aald x eX8_carryOutWrite_26 rfl hM.t_writers (fun _ => rfl) (by omega) (by omega) (by omega) ?_
      rw [hc]
      refine G_astore3 x eX8_carryOutWrite_27 ?_
      skip
      refine G_aload3 x eX8_carryOutWrite_28 ?_
      refine G_ifnull x eX8_carryOutWrite_29 (fun c29 => ?_) (fun b29 c29 => ?_)
      · refine G_aload0 x eX8_carryOutWrite_47 ?_
        refine G_getq x eX8_carryOutWrite_48 fX8_38 rfl rfl hM.m hM.o_writers ?_
        refine G_iload2 x eX8_carryOutWrite_51 ?_
        refine G_aload1 x eX8_carryOutWrite_52 ?_
        refine G_aast x eX8_carryOutWrite_53 rfl hM.t_writers (fun _ => rfl) rfl rfl hA (by omega) (by omega) (by omega) ?_
        refine G_return x en eX8_carryOutWrite_54 (by omega) (by omega) ?_
        first | exact pv_i | (exfalso; contradiction)
      · refine G_aload1 x eX8_carryOutWrite_32 ?_
        refine G_aload3 x eX8_carryOutWrite_33 ?_
        refine G_geti x eX8_carryOutWrite_34 fX8_106 rfl rfl hb (fun h34 => ?_)
        refine G_aload3 x eX8_carryOutWrite_37 ?_
        refine G_geti x eX8_carryOutWrite_38 fX8_103 rfl rfl hb (fun h38 => ?_)
        refine G_cV x eX8_carryOutWrite_41 kX8_128 im_yX5_isLaterThan se_yX5_isLaterThan rm hA (ct_X5_isLaterThan hA (by first | omega | exact hr _ _ | exact hr0 _ _ | exact hrS _) (by first | omega | exact hr _ _ | exact hr0 _ _ | exact hrS _)) rfl ?_
        refine G_ifb_eq x eX8_carryOutWrite_44 (fun c44 => ?_) (fun c44 => ?_)
        · refine G_return x en eX8_carryOutWrite_54 (by omega) (by omega) ?_
          first | exact pv_i | (exfalso; contradiction)
        · refine G_aload0 x eX8_carryOutWrite_47 ?_
          refine G_getq x eX8_carryOutWrite_48 fX8_38 rfl rfl hM.m hM.o_writers ?_
          refine G_iload2 x eX8_carryOutWrite_51 ?_
          refine G_aload1 x eX8_carryOutWrite_52 ?_
          refine G_aast x eX8_carryOutWrite_53 rfl hM.t_writers (fun _ => rfl) rfl rfl hA (by omega) (by omega) (by omega) ?_
          refine G_return x en eX8_carryOutWrite_54 (by omega) (by omega) ?_
          first | exact pv_i | (exfalso; contradiction)
    · omega
theorem ct_cow2 {T : gT} {I : gI} {J : gJ} {O : gO} {p a b : Nat} (hM : RpAt T O p) (hA : T.2 a = some (.inl 5)) (l0 : 0 ≤ I a 4) (l1 : I a 4 < 12) (l2 : 0 ≤ I a 5) (l3 : I a 5 < 12) (hc : O (p + 27) (I a 4 * 12 + I a 5) = some b) (hb : T.2 b = some (.inl 5)) (hl : ¬ later (I a 1) (I a 2) (I b 1) (I b 2)) : Ct yX8_carryOutWrite cX8_carryOutWrite 4 none [va_rf (some p), va_rf (some a)] 1 22 0 0 T I J O (pv none T I J O) := by
  refine Ct.of (by decide) [some (va_rf (some p)), some (va_rf (some a)), none, none] (gEn1 (List.forall_mem_cons.mpr ⟨cat_VR _, List.forall_mem_cons.mpr ⟨cat_VR _, fun _ h => nomatch h⟩⟩) rfl (Nat.le_of_ble_eq_true rfl) rfl) ?_
  intro X x en rm ini hr hz
  have hr0 := hr
  have ha1 := hr0 a 1
  have ha2 := hr0 a 2
  refine G_rg (fun hr => ?_)
  refine G_aload1 x eX8_carryOutWrite_0 ?_
  refine G_geti x eX8_carryOutWrite_1 fX8_119 rfl rfl hA (fun h1 => ?_)
  refine G_push x eX8_carryOutWrite_4 ?_
  refine G_imul x eX8_carryOutWrite_6 ?_
  refine G_aload1 x eX8_carryOutWrite_7 ?_
  refine G_geti x eX8_carryOutWrite_8 fX8_122 rfl rfl hA (fun h8 => ?_)
  refine G_iadd x eX8_carryOutWrite_11 ?_
  refine G_istore2 x eX8_carryOutWrite_12 ?_
  refine G_iload2 x eX8_carryOutWrite_13 ?_
  refine G_cN x eX8_carryOutWrite_14 knX8_125 sm_yX10_isCell rm (ct_X10_isCell (by first | omega | exact hr _ _ | exact hr0 _ _ | exact hrS _)) rfl ?_
  refine G_ifb_ne x eX8_carryOutWrite_17 (fun c17 => ?_) (fun c17 => ?_)
  · refine G_aload0 x eX8_carryOutWrite_21 ?_
    refine G_getq x eX8_carryOutWrite_22 fX8_38 rfl rfl hM.m hM.o_writers ?_
    refine G_iload2 x eX8_carryOutWrite_25 ?_
    refine G_aald x eX8_carryOutWrite_26 rfl hM.t_writers (fun _ => rfl) (by omega) (by omega) (by omega) ?_
    rw [hc]
    refine G_astore3 x eX8_carryOutWrite_27 ?_
    refine G_aload3 x eX8_carryOutWrite_28 ?_
    refine G_ifnull x eX8_carryOutWrite_29 (fun c29 => ?_) (fun b29 c29 => ?_)
    · refine G_aload0 x eX8_carryOutWrite_47 ?_
      refine G_getq x eX8_carryOutWrite_48 fX8_38 rfl rfl hM.m hM.o_writers ?_
      refine G_iload2 x eX8_carryOutWrite_51 ?_
      refine G_aload1 x eX8_carryOutWrite_52 ?_
      refine G_aast x eX8_carryOutWrite_53 rfl hM.t_writers (fun _ => rfl) rfl rfl hA (by omega) (by omega) (by omega) ?_
      refine G_return x en eX8_carryOutWrite_54 (by omega) (by omega) ?_
      first | exact pv_i | (exfalso; contradiction)
    · refine G_aload1 x eX8_carryOutWrite_32 ?_
      refine G_aload3 x eX8_carryOutWrite_33 ?_
      refine G_geti x eX8_carryOutWrite_34 fX8_106 rfl rfl hb (fun h34 => ?_)
      refine G_aload3 x eX8_carryOutWrite_37 ?_
      refine G_geti x eX8_carryOutWrite_38 fX8_103 rfl rfl hb (fun h38 => ?_)
      refine G_cV x eX8_carryOutWrite_41 kX8_128 im_yX5_isLaterThan se_yX5_isLaterThan rm hA (ct_X5_isLaterThan hA (by first | omega | exact hr _ _ | exact hr0 _ _ | exact hrS _) (by first | omega | exact hr _ _ | exact hr0 _ _ | exact hrS _)) rfl ?_
      refine G_ifb_eq x eX8_carryOutWrite_44 (fun c44 => ?_) (fun c44 => ?_)
      · refine G_return x en eX8_carryOutWrite_54 (by omega) (by omega) ?_
        first | exact pv_i | (exfalso; contradiction)
      · refine G_aload0 x eX8_carryOutWrite_47 ?_
        refine G_getq x eX8_carryOutWrite_48 fX8_38 rfl rfl hM.m hM.o_writers ?_
        refine G_iload2 x eX8_carryOutWrite_51 ?_
        refine G_aload1 x eX8_carryOutWrite_52 ?_
        refine G_aast x eX8_carryOutWrite_53 rfl hM.t_writers (fun _ => rfl) rfl rfl hA (by omega) (by omega) (by omega) ?_
        refine G_return x en eX8_carryOutWrite_54 (by omega) (by omega) ?_
        first | exact pv_i | (exfalso; contradiction)
  · refine G_return x en eX8_carryOutWrite_20 (by omega) (by omega) ?_
    first | exact pv_i | (exfalso; contradiction)
/-- what a replica keeps when an operation is carried out at it -/
def coK (T : gT) (I I' : gI) (O O' : gO) (p : Nat) : Prop := (∀ b j, (b < p ∨ p + 28 < b) → I' b j = I b j) ∧ (∀ b j, b ≠ p + 27 → O' b j = O b j) ∧ (∀ b j, p + 15 ≤ b → b ≤ p + 25 → (b ≠ p + 15 ∨ j ≠ 11) → I' b j = I b j)
def crP (B : Nat) (T : gT) (I : gI) (J : gJ) (O : gO) (p : Nat) (S : Int → Int) (r id : Int) : gP := fun v T' I' J' O' => v = none ∧ T' = T ∧ J' = J ∧ coK T I I' O O' p ∧ RpR B T I' O' p (cR S r id) r ∧ I' (p + 15) 11 = 0
theorem coK.hi {B : Nat} {T : gT} {I I' : gI} {O O' : gO} {p : Nat} (h : coK T I I' O O' p) (hB : p + 28 ≤ B) : hiK B T T I I' O O' := ⟨Nat.le_refl _, fun b b1 b2 => ⟨rfl, fun j => h.1 b j (by omega), fun j => h.2.1 b j (by omega)⟩⟩
set_option maxHeartbeats 4000000 in
set_option maxRecDepth 20000 in
theorem ct_X8_carryOut {T : gT} {I : gI} {J : gJ} {O : gO} {B p a : Nat} {S : Int → Int} {r id : Int} (hM : RpAt T O p) (hB : p + 28 ≤ B) (hR : RpR B T I O p S r) (r0 : 0 ≤ r) (r1 : r ≤ 2) (i0 : 0 ≤ id) (i1 : id < 120) (hA : opG B T I O S id a) (v : opV S id) (hb : bnS S r) (hcl : clOk S r) (hcn : ∀ f, 0 ≤ f → f ≤ 2 → S (cIx r f) ≤ 100) : Ct yX8_carryOut cX8_carryOut 2 none [va_rf (some p), va_rf (some a)] 3 67 0 0 T I J O (crP B T I J O p S r id) := by
  refine Ct.of (by decide) [some (va_rf (some p)), some (va_rf (some a))] (gEn1 (List.forall_mem_cons.mpr ⟨cat_VR _, List.forall_mem_cons.mpr ⟨cat_VR _, fun _ h => nomatch h⟩⟩) rfl (Nat.le_of_ble_eq_true rfl) rfl) ?_
  intro X x en rm ini hr hz
  have hr0 := hr
  have hA' := hA
  obtain ⟨ab, h1, ⟨g0, g1, g2, g3, g4, g5⟩, h4⟩ := hA
  obtain ⟨⟨a1, a2⟩, a3, a4, a5, a6, a7, a8, a9⟩ := hR
  obtain ⟨v1, v2, v3, v4⟩ := v
  have f0 : 0 ≤ I a 2 := by omega
  have f1 : I a 2 ≤ 2 := by omega
  have cc9 := a3 (I a 2) f0 f1
  have cc8 := hcn (I a 2) f0 f1
  -- behind the count and the clock
  have fin : ∀ (I1 : gI) (O1 : gO), (∀ b j, (b < p ∨ p + 28 < b) → I1 b j = I b j) → (∀ b j, b ≠ p + 27 → O1 b j = O b j) → (∀ b j, p + 15 ≤ b → b ≤ p + 25 → I1 b j = I b j) → RpR B T I1 O1 p (cR S r id) r → G X 85 [some (va_rf (some p)), some (va_rf (some a))] [] T I1 J O1 0 0 := by
    intro I1 O1 k1 k2 k3 k4
    have hM1 : RpAt T O1 p := hM.mv (fun _ _ _ => rfl) (fun b j b1 b2 b3 => k2 b j (by omega))
    refine G_rg (fun hr => ?_)
    refine G_aload0 x eX8_carryOut_85 ?_
    refine G_getq x eX8_carryOut_86 fX8_24 rfl rfl hM1.m hM1.o_calculation ?_
    refine G_cVv x eX8_carryOut_89 kX8_100 im_yX0_outdate se_yX0_outdate rm hM1.s_calculation.m (ct_X0_outdate hM1.s_calculation.m) rfl ?_
    refine G_return x en eX8_carryOut_92 (by omega) (by omega) ?_
    exact ⟨rfl, rfl, rfl, ⟨fun b j hb => by rw [uI_a (by omega)]; exact k1 b j hb, k2, fun b j b1 b2 b3 => by rw [uI_o b3]; exact k3 b j b1 b2⟩, k4.mv hB ⟨Nat.le_refl _, fun b b1 b2 => ⟨rfl, fun j => uI_a (by omega) _, fun _ => rfl⟩⟩ (fun j hj b b1 b2 b3 => uI_a (by omega) _) (fun j b b1 b2 b3 => uI_a (by omega) _) (fun _ _ _ => rfl) (fun _ _ _ _ _ _ => rfl) (fun _ _ _ => rfl) rfl r0 r1, uI_s⟩
  have v : opV S id := ⟨v1, v2, v3, v4⟩
  have hop : ∀ j, 3 ≤ j → j < 3843 → cR S r id j = S j := fun j b1 b2 => cR_op r0 r1 i0 i1 v b1 b2
  have hf : I a 2 = id / 40 := g2
  have mk : ∀ (I3 : gI) (O3 : gO), I3 p 0 = I p 0 → I3 p 4 = max (I p 4) (I a 1) → (∀ f', I3 (p + 26) f' = if f' = I a 2 then I (p + 26) f' + 1 else I (p + 26) f') → (∀ j, I3 (p + 28) j = I (p + 28) j) → (∀ j, O3 (p + 28) j = O (p + 28) j) → lnTb I3 (p + 1) (cR S r id) r 0 → lnTb I3 (p + 8) (cR S r id) r 1 → (∀ c, 0 ≤ c → c < 144 → wrG B T I3 O3 p (cR S r id) r c) → RpR B T I3 O3 p (cR S r id) r := by
    intro I3 O3 k1 k2 k3 k4 k5 k6 k7 k8
    refine ⟨⟨k1.trans a1, by rw [k2, a2, g1, cR_clk r0 r1 i0 i1 v]⟩, fun f' f0' f1' => ?_, k6, k7, k8, by rw [k4]; exact a7, by rw [k4]; exact a8, by rw [k5]; exact a9⟩
    rw [k3, cR_cnt r0 r1 i0 i1 v f0' f1', hf, a3 f' f0' f1']
  have mvop : ∀ (I3 : gI) (O3 : gO) (id' : Int) (b : Nat), (∀ b j, (b < p ∨ p + 28 < b) → I3 b j = I b j) → (∀ b j, b ≠ p + 27 → O3 b j = O b j) → 0 ≤ id' → id' < 120 → opG B T I O S id' b → opG B T I3 O3 (cR S r id) id' b := fun I3 O3 id' b k1 k2 j0 j1 h => h.mv ⟨Nat.le_refl _, fun b b1 b2 => ⟨rfl, fun j => k1 b j (by omega), fun j => k2 b j (by omega)⟩⟩ (fun w w0 w1 => hop _ (by omega) (by omega))
  have I2f : ∀ b j, (b < p ∨ p + 28 < b) → (uI (uI I (p + 26) (I a 2) (I (p + 26) (I a 2) + 1)) p 4 (max (I p 4) (I a 1))) b j = I b j := fun b j hb => by rw [uI_a (by omega), uI_a (by omega)]
  have I2g : ∀ b j, p < b → b ≠ p + 26 → (uI (uI I (p + 26) (I a 2) (I (p + 26) (I a 2) + 1)) p 4 (max (I p 4) (I a 1))) b j = I b j := fun b j hb hb2 => by rw [uI_a (by omega), uI_a (by omega)]
  have I20 : (uI (uI I (p + 26) (I a 2) (I (p + 26) (I a 2) + 1)) p 4 (max (I p 4) (I a 1))) p 0 = I p 0 := by rw [uI_k (by omega), uI_a (by omega)]
  have I24 : (uI (uI I (p + 26) (I a 2) (I (p + 26) (I a 2) + 1)) p 4 (max (I p 4) (I a 1))) p 4 = max (I p 4) (I a 1) := uI_s
  have I26 : ∀ f', (uI (uI I (p + 26) (I a 2) (I (p + 26) (I a 2) + 1)) p 4 (max (I p 4) (I a 1))) (p + 26) f' = if f' = I a 2 then I (p + 26) f' + 1 else I (p + 26) f' := fun f' => by
    rw [uI_a (by omega)]
    by_cases q : f' = I a 2
    · rw [if_pos q, q, uI_s]
    · rw [if_neg q, uI_k q]
  have mx4 : (uI I (p + 26) (I a 2) (I (p + 26) (I a 2) + 1)) p 4 = I p 4 := uI_a (by omega) _
  have mxa : (uI I (p + 26) (I a 2) (I (p + 26) (I a 2) + 1)) a 1 = I a 1 := uI_a (by omega) _
  have p32 := hr p 4
  have a32 := hr a 1
  generalize hI2 : (uI (uI I (p + 26) (I a 2) (I (p + 26) (I a 2) + 1)) p 4 (max (I p 4) (I a 1))) = I2 at *
  have I2a : ∀ j, I2 a j = I a j := fun j => I2f a j (by omega)
  have z4 : I2 a 4 = opS S id 3 := (I2a 4).trans g4
  have z5 : I2 a 5 = opS S id 4 := (I2a 5).trans g5
  have z0 : I2 a 0 = opS S id 0 := (I2a 0).trans g0
  have z3 : I2 a 3 = opS S id 2 := (I2a 3).trans g3
  have lnSame : opS S id 0 = 4 → lnTb I2 (p + 1) (cR S r id) r 0 ∧ lnTb I2 (p + 8) (cR S r id) r 1 := fun hk => ⟨a4.c (fun b j b1 b2 => I2g b j (by omega) (by omega)) (fun l w l0 l1 w0 w1 => cR_wl r0 r1 i0 i1 v hk (by simp only [lA]; omega) (by simp only [lA]; omega)), a5.c (fun b j b1 b2 => I2g b j (by omega) (by omega)) (fun l w l0 l1 w0 w1 => cR_wl r0 r1 i0 i1 v hk (by simp only [lA]; omega) (by simp only [lA]; omega))⟩
  have s48 : G X 48 [some (va_rf (some p)), some (va_rf (some a))] [] T I2 J O 0 0 := by
    by_cases hk : opS S id 0 = 4
    · have hk' : I a 0 = 4 := g0.trans hk
      have v3 := v3 hk
      have ec : I2 a 4 * 12 + I2 a 5 = 12 * opS S id 3 + opS S id 4 := by rw [z4, z5]; omega
      have w9 := a6 (12 * opS S id 3 + opS S id 4) (by omega) (by omega)
      have cell : ∀ O3, (∀ b j, b ≠ p + 27 → O3 b j = O b j) → (∀ c, c ≠ 12 * opS S id 3 + opS S id 4 → O3 (p + 27) c = O (p + 27) c) → wrG B T I2 O3 p (cR S r id) r (12 * opS S id 3 + opS S id 4) → G X 61 [some (va_rf (some p)), some (va_rf (some a))] [] T I2 J O3 0 0 := by
        intro O3 k1 k2 k3
        have hF := fin I2 O3 I2f k1 (fun b j b1 b2 => I2g b j (by omega) (by omega)) (mk I2 O3 I20 I24 I26 (fun j => I2g _ j (by omega) (by omega)) (fun j => k1 _ j (by omega)) (lnSame hk).1 (lnSame hk).2 (fun c c0 c1 => by
          by_cases q : c = 12 * opS S id 3 + opS S id 4
          · rw [q]; exact k3
          · have ew := cR_wc (c := c) r0 r1 i0 i1 v hk hcl c0 c1
            rw [if_neg (fun z => q z.1)] at ew
            rcases a6 c c0 c1 with ⟨q1, q2⟩ | ⟨q1, b, q2, q3⟩
            · exact Or.inl ⟨ew.trans q1, (k2 c q).trans q2⟩
            · refine Or.inr ⟨by rw [ew]; exact q1, b, (k2 c q).trans q2, ?_⟩
              rw [ew]
              exact mvop I2 O3 _ b I2f k1 q1.1 q1.2 q3))
        refine G_goto x eX8_carryOut_61 ?_
        exact hF
      have ew := cR_wc (c := 12 * opS S id 3 + opS S id 4) r0 r1 i0 i1 v hk hcl (by omega) (by omega)
      have yes : (S (3843 + 270 * r + (126 + (12 * opS S id 3 + opS S id 4))) = -1 ∨ later (opS S id 1) (id / 40) (opS S (S (3843 + 270 * r + (126 + (12 * opS S id 3 + opS S id 4)))) 1) (S (3843 + 270 * r + (126 + (12 * opS S id 3 + opS S id 4))) / 40)) → G X 61 [some (va_rf (some p)), some (va_rf (some a))] [] T I2 J (uO O (p + 27) (I2 a 4 * 12 + I2 a 5) (some a)) 0 0 := fun hy => by
        rw [if_pos ⟨rfl, hy⟩] at ew
        rw [ec]
        have k1 : ∀ b j, b ≠ p + 27 → (uO O (p + 27) (12 * opS S id 3 + opS S id 4) (some a)) b j = O b j := fun b j hb => by unfold uO; rw [if_neg (fun z => hb z.1)]
        refine cell _ k1 (fun c hc => by unfold uO; rw [if_neg (fun z => hc z.2)]) (Or.inr ⟨by rw [ew]; exact ⟨i0, i1⟩, a, by unfold uO; rw [if_pos ⟨rfl, rfl⟩], ?_⟩)
        rw [ew]
        exact mvop I2 _ id a I2f k1 i0 i1 hA'
      have c56 : G X 56 [some (va_rf (some p)), some (va_rf (some a))] [] T I2 J O 0 0 := by
        rcases w9 with ⟨q1, q2⟩ | ⟨q1, b, q2, q3⟩
        · have y := yes (Or.inl q1)
          refine G_aload0 x eX8_carryOut_56 ?_
          refine G_aload1 x eX8_carryOut_57 ?_
          refine G_cVv x eX8_carryOut_58 kX8_113 im_yX8_carryOutWrite se_yX8_carryOutWrite rm hM.m (ct_cow1 hM h1 (by omega) (by omega) (by omega) (by omega) (Or.inl (by rw [ec]; exact q2))) rfl ?_
          exact y
        · have q3' := q3
          obtain ⟨bb, b1, ⟨-, b3, b4, -, -, -⟩, -⟩ := q3
          have lt : later (I2 a 1) (I2 a 2) (I2 b 1) (I2 b 2) ↔ later (opS S id 1) (id / 40) (opS S (S (3843 + 270 * r + (126 + (12 * opS S id 3 + opS S id 4)))) 1) (S (3843 + 270 * r + (126 + (12 * opS S id 3 + opS S id 4))) / 40) := by
            rw [I2a, I2a, I2f b 1 (by omega), I2f b 2 (by omega), g1, g2, b3, b4]
          by_cases ql : later (I2 a 1) (I2 a 2) (I2 b 1) (I2 b 2)
          · have y := yes (Or.inr (lt.mp ql))
            refine G_aload0 x eX8_carryOut_56 ?_
            refine G_aload1 x eX8_carryOut_57 ?_
            refine G_cVv x eX8_carryOut_58 kX8_113 im_yX8_carryOutWrite se_yX8_carryOutWrite rm hM.m (ct_cow1 hM h1 (by omega) (by omega) (by omega) (by omega) (Or.inr ⟨b, by rw [ec]; exact q2, b1, ql⟩)) rfl ?_
            exact y
          · rw [if_neg (fun z => by rcases z.2 with z | z; omega; exact ql (lt.mpr z))] at ew
            have y := cell O (fun _ _ _ => rfl) (fun _ _ => rfl) (Or.inr ⟨by rw [ew]; exact q1, b, q2, by rw [ew]; exact mvop I2 O _ b I2f (fun _ _ _ => rfl) q1.1 q1.2 q3'⟩)
            refine G_aload0 x eX8_carryOut_56 ?_
            refine G_aload1 x eX8_carryOut_57 ?_
            refine G_cVv x eX8_carryOut_58 kX8_113 im_yX8_carryOutWrite se_yX8_carryOutWrite rm hM.m (ct_cow2 hM h1 (by omega) (by omega) (by omega) (by omega) (by rw [ec]; exact q2) b1 ql) rfl ?_
            exact y
      refine G_rg (fun hr => ?_)
      refine G_aload1 x eX8_carryOut_48 ?_
      refine G_geti x eX8_carryOut_49 fX8_110 rfl rfl h1 (fun h49 => ?_)
      rw [z0]
      refine G_push x eX8_carryOut_52 ?_
      refine G_icmp_ne x eX8_carryOut_53 (by first | omega | exact hr _ _ | exact hr0 _ _ | exact hrS _) (by first | omega | exact hr _ _ | exact hr0 _ _ | exact hrS _) (fun c53 => ?_) (fun c53 => ?_)
      · omega
      · exact c56
    · have hk' : I a 0 ≠ 4 := fun z => hk (g0.symm.trans z)
      have v4 := v4 hk
      have go : ∀ kd, kd = opS S id 2 → (kd = 0 ∨ kd = 1) → G X 81 [some (va_rf (some p)), some (va_rf (some a))] [va_rf (some (lnO p kd))] T I2 J O 0 0 := by
        intro kd hkd hkd2
        have hLn : LnAt T O (lnO p kd) := by
          unfold lnO
          split
          · exact hM.s_rows
          · exact hM.s_columns
        have lb : lnO p kd = p + 1 ∨ lnO p kd = p + 8 := by unfold lnO; split <;> omega
        have old : lnTb I2 (lnO p kd) S r kd := by
          rcases hkd2 with e | e
          · rw [e]; exact a4.c (fun b j b1 b2 => I2g b j (by omega) (by omega)) (fun _ _ _ _ _ _ => rfl)
          · rw [e]; exact a5.c (fun b j b1 b2 => I2g b j (by omega) (by omega)) (fun _ _ _ _ _ _ => rfl)
        have cC := ct_X4_carryOut (J := J) hLn h1 (by omega) (by omega) (by omega) old.2 (old.b hb (by omega) (by omega))
        have z1 : I2 a 1 = opS S id 1 := (I2a 1).trans g1
        have z2 : I2 a 2 = id / 40 := (I2a 2).trans g2
        refine G_aload1 x eX8_carryOut_81 ?_
        refine G_cVg x eX8_carryOut_82 kX8_118 im_yX4_carryOut se_yX4_carryOut rm hLn.m cC rfl (fun v82 T82 I82 J82 O82 p82 => ?_)
        refine G_rg (fun hr => ?_)
        obtain ⟨rfl, rfl, rfl, rfl, k1, k2, ⟨t4, t5, t1, t2, t3⟩⟩ := p82
        have tb : lnTb I82 (lnO p kd) (cR S r id) r kd := by
          refine ⟨fun l l0 l1 => ?_, k2⟩
          obtain ⟨o1, o2, o3, o4, o5⟩ := old.1 l l0 l1
          obtain ⟨n1, n2, n3, n4, n5⟩ := cR_ln (kd := kd) (l := l) r0 r1 i0 i1 v hk l0 l1 (by omega) (by omega)
          have cc : ∀ P : Prop, ((kd = opS S id 2 ∧ l = opS S id 3) ∧ P) ↔ (l = opS S id 3 ∧ P) := fun P => ⟨fun z => ⟨z.1.2, z.2⟩, fun z => ⟨⟨hkd, z.1⟩, z.2⟩⟩
          rw [t1 l, t2 l, t3 l, t4 l, t5 l, n1, n2, n3, n4, n5, z0, z1, z2, z4, z5, o1, o2, o3, o4, o5]
          simp only [cc]
          exact ⟨trivial, trivial, trivial, trivial, trivial⟩
        have oth : ∀ kd' ln', (kd' = 0 ∧ ln' = p + 1 ∨ kd' = 1 ∧ ln' = p + 8) → kd' ≠ kd → lnTb I2 ln' S r kd' → lnTb I82 ln' (cR S r id) r kd' := fun kd' ln' h9 hne ho => by
          have lnv : lnO p kd = p + 1 ∧ kd = 0 ∨ lnO p kd = p + 8 ∧ kd = 1 := by unfold lnO; split <;> omega
          refine ho.c (fun b j b1 b2 => k1 b (by omega) j) (fun l w l0 l1 w0 w1 => ?_)
          obtain ⟨n1, n2, n3, n4, n5⟩ := cR_ln (kd := kd') (l := l) r0 r1 i0 i1 v hk l0 l1 (by omega) (by omega)
          have nn : ¬ (kd' = opS S id 2 ∧ l = opS S id 3) := fun z => hne (by rw [z.1, hkd])
          rw [if_neg (fun z => nn z.1)] at n1 n2 n3 n4 n5
          rcases (by omega : w = 0 ∨ w = 1 ∨ w = 2 ∨ w = 3 ∨ w = 4) with e | e | e | e | e
          · rw [e, show lA r kd' l + 0 = lA r kd' l by omega]; exact n1
          · rw [e]; exact n2
          · rw [e]; exact n3
          · rw [e]; exact n4
          · rw [e]; exact n5
        have o0 : lnTb I2 (p + 1) S r 0 := a4.c (fun b j b1 b2 => I2g b j (by omega) (by omega)) (fun _ _ _ _ _ _ => rfl)
        have o1 : lnTb I2 (p + 8) S r 1 := a5.c (fun b j b1 b2 => I2g b j (by omega) (by omega)) (fun _ _ _ _ _ _ => rfl)
        have t0 : lnTb I82 (p + 1) (cR S r id) r 0 := by
          rcases hkd2 with e | e
          · subst e; exact tb
          · exact oth 0 (p + 1) (by omega) (by omega) o0
        have t11 : lnTb I82 (p + 8) (cR S r id) r 1 := by
          rcases hkd2 with e | e
          · exact oth 1 (p + 8) (by omega) (by omega) o1
          · subst e; exact tb
        have I3f : ∀ b j, (b < p ∨ p + 28 < b) → I82 b j = I b j := fun b j hb => (k1 b (by omega) j).trans (I2f b j hb)
        refine fin I82 _ I3f (fun _ _ _ => rfl) (fun b j b1 b2 => (k1 b (by omega) j).trans (I2g b j (by omega) (by omega))) (mk I82 _ ((k1 p (by omega) 0).trans I20) ((k1 p (by omega) 4).trans I24) (fun f' => (k1 _ (by omega) f').trans (I26 f')) (fun j => (k1 _ (by omega) j).trans (I2g _ j (by omega) (by omega))) (fun _ => rfl) t0 t11 (fun c c0 c1 => ?_))
        have ew := cR_lc (c := c) r0 r1 i0 i1 v hk c0 c1
        rcases a6 c c0 c1 with ⟨q1, q2⟩ | ⟨q1, b, q2, q3⟩
        · exact Or.inl ⟨ew.trans q1, q2⟩
        · refine Or.inr ⟨by rw [ew]; exact q1, b, q2, ?_⟩
          rw [ew]
          exact mvop I82 _ _ b I3f (fun _ _ _ => rfl) q1.1 q1.2 q3
      refine G_rg (fun hr => ?_)
      refine G_aload1 x eX8_carryOut_48 ?_
      refine G_geti x eX8_carryOut_49 fX8_110 rfl rfl h1 (fun h49 => ?_)
      rw [z0]
      refine G_push x eX8_carryOut_52 ?_
      refine G_icmp_ne x eX8_carryOut_53 (by first | omega | exact hr _ _ | exact hr0 _ _ | exact hrS _) (by first | omega | exact hr _ _ | exact hr0 _ _ | exact hrS _) (fun c53 => ?_) (fun c53 => ?_)
      · refine G_aload0 x eX8_carryOut_64 ?_
        refine G_aload1 x eX8_carryOut_65 ?_
        refine G_geti x eX8_carryOut_66 fX8_116 rfl rfl h1 (fun h66 => ?_)
        rw [z3]
        refine G_push x eX8_carryOut_69 ?_
        refine G_icmp_ne x eX8_carryOut_70 (by first | omega | exact hr _ _ | exact hr0 _ _ | exact hrS _) (by first | omega | exact hr _ _ | exact hr0 _ _ | exact hrS _) (fun c70 => ?_) (fun c70 => ?_)
        · refine G_push x eX8_carryOut_77 ?_
          refine G_cV x eX8_carryOut_78 kX8_57 im_yX8_linesOf se_yX8_linesOf rm hM.m (ct_X8_linesOf hM (by omega)) rfl ?_
          exact go _ (by omega) (by omega)
        · refine G_push x eX8_carryOut_73 ?_
          refine G_goto x eX8_carryOut_74 ?_
          refine G_cV x eX8_carryOut_78 kX8_57 im_yX8_linesOf se_yX8_linesOf rm hM.m (ct_X8_linesOf hM (by omega)) rfl ?_
          exact go _ (by omega) (by omega)
      · omega
  refine G_rg (fun hr => ?_)
  refine G_aload1 x eX8_carryOut_0 ?_
  refine G_ifnull x eX8_carryOut_1 (fun c1 => ?_) (fun b1 c1 => ?_)
  · first | contradiction | (exfalso; omega)
  · refine G_aload1 x eX8_carryOut_4 ?_
    refine G_geti x eX8_carryOut_5 fX8_103 rfl rfl h1 (fun h5 => ?_)
    refine G_if_lt x eX8_carryOut_8 (by first | omega | exact hr _ _ | exact hr0 _ _ | exact hrS _) (fun c8 => ?_) (fun c8 => ?_)
    · first | contradiction | (exfalso; omega)
    · refine G_aload1 x eX8_carryOut_11 ?_
      refine G_geti x eX8_carryOut_12 fX8_103 rfl rfl h1 (fun h12 => ?_)
      refine G_push x eX8_carryOut_15 ?_
      refine G_icmp_lt x eX8_carryOut_16 (by first | omega | exact hr _ _ | exact hr0 _ _ | exact hrS _) (by first | omega | exact hr _ _ | exact hr0 _ _ | exact hrS _) (fun c16 => ?_) (fun c16 => ?_)
      · refine G_aload0 x eX8_carryOut_20 ?_
        refine G_getq x eX8_carryOut_21 fX8_34 rfl rfl hM.m hM.o_carried ?_
        refine G_aload1 x eX8_carryOut_24 ?_
        refine G_geti x eX8_carryOut_25 fX8_103 rfl rfl h1 (fun h25 => ?_)
        refine G_dup2 x eX8_carryOut_28 (by first | rfl | exact cat_rf _) (by first | rfl | exact cat_rf _) ?_
        refine G_iald x eX8_carryOut_29 rfl hM.t_carried (by omega) (by omega) (by omega) (fun h29 => ?_)
        refine G_push x eX8_carryOut_30 ?_
        refine G_iadd x eX8_carryOut_31 ?_
        refine G_iast x eX8_carryOut_32 rfl hM.t_carried (by omega) (by omega) (by omega) (by first | omega | exact hr _ _ | exact hr0 _ _ | exact hrS _) ?_
        refine G_rg (fun hr => ?_)
        refine G_aload0 x eX8_carryOut_33 ?_
        refine G_aload0 x eX8_carryOut_34 ?_
        refine G_geti x eX8_carryOut_35 fX8_54 rfl rfl hM.m (fun h35 => ?_)
        refine G_aload1 x eX8_carryOut_38 ?_
        refine G_geti x eX8_carryOut_39 fX8_106 rfl rfl h1 (fun h39 => ?_)
        rw [mx4, mxa]
        refine G_cS x eX8_carryOut_42 kX8_107 sm_yJ9_max_7cf53 rm (ct_J9_max_7cf53 p32 a32) rfl ?_
        refine G_puti x eX8_carryOut_45 fX8_54 rfl (Or.inl rfl) rfl hM.m (by first | omega | exact hr _ _ | exact hr0 _ _ | exact hrS _) ?_
        refine G_rg (fun hr => ?_)
        rw [hI2]; exact s48
      · first | contradiction | (exfalso; omega)
