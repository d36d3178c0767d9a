/-! calculation in the class: limits, sums -/
set_option maxRecDepth 20000 in
theorem ct_X0_valueAt {T : gT} {I : gI} {J : gJ} {O : gO} {ca : Nat} {c : Int} (hM : CaAt T O ca) (c0 : 0 ≤ c) (c1 : c < 144) : Ct yX0_valueAt cX0_valueAt 2 (some .int) [va_rf (some ca), VI c] 1 20 0 0 T I J O (pv (some (VI (I (ca + 1) c))) T I J O) := by
  refine Ct.of (by decide) [some (va_rf (some ca)), some (VI c)] (gEn1 (List.forall_mem_cons.mpr ⟨cat_VR _, List.forall_mem_cons.mpr ⟨cat_VI _, fun _ h => nomatch h⟩⟩) rfl (Nat.le_of_ble_eq_true rfl) rfl) ?_
  intro X x en rm ini hr hz
  have hr0 := hr
  refine G_rg (fun hr => ?_)
  refine G_iload1 x eX0_valueAt_0 ?_
  refine G_cN x eX0_valueAt_1 knX0_65 sm_yX10_isCell rm (ct_X10_isCell (by first | omega | exact hr _ _ | exact hr0 _ _ | exact hrS _)) rfl ?_
  refine G_ifb_eq x eX0_valueAt_4 (fun c4 => ?_) (fun c4 => ?_)
  · refine G_push x eX0_valueAt_16 ?_
    refine G_ireturn x en eX0_valueAt_17 (by omega) (by omega) ?_
    first | exact pv_i | (exfalso; omega)
  · refine G_aload0 x eX0_valueAt_7 ?_
    refine G_getq x eX0_valueAt_8 fX0_9 rfl rfl hM.m hM.o_values ?_
    refine G_iload1 x eX0_valueAt_11 ?_
    refine G_iald x eX0_valueAt_12 rfl hM.t_values (by omega) (by omega) (by omega) (fun h12 => ?_)
    refine G_goto x eX0_valueAt_13 ?_
    refine G_ireturn x en eX0_valueAt_17 (by omega) (by omega) ?_
    first | exact pv_i | (exfalso; omega)
set_option maxRecDepth 20000 in
theorem ct_X0_errorAt {T : gT} {I : gI} {J : gJ} {O : gO} {ca : Nat} {c : Int} (hM : CaAt T O ca) (c0 : 0 ≤ c) (c1 : c < 144) : Ct yX0_errorAt cX0_errorAt 2 (some .int) [va_rf (some ca), VI c] 1 20 0 0 T I J O (pv (some (VI (I (ca + 2) c))) T I J O) := by
  refine Ct.of (by decide) [some (va_rf (some ca)), some (VI c)] (gEn1 (List.forall_mem_cons.mpr ⟨cat_VR _, List.forall_mem_cons.mpr ⟨cat_VI _, fun _ h => nomatch h⟩⟩) rfl (Nat.le_of_ble_eq_true rfl) rfl) ?_
  intro X x en rm ini hr hz
  have hr0 := hr
  refine G_rg (fun hr => ?_)
  refine G_iload1 x eX0_errorAt_0 ?_
  refine G_cN x eX0_errorAt_1 knX0_65 sm_yX10_isCell rm (ct_X10_isCell (by first | omega | exact hr _ _ | exact hr0 _ _ | exact hrS _)) rfl ?_
  refine G_ifb_eq x eX0_errorAt_4 (fun c4 => ?_) (fun c4 => ?_)
  · refine G_push x eX0_errorAt_16 ?_
    refine G_ireturn x en eX0_errorAt_17 (by omega) (by omega) ?_
    first | exact pv_i | (exfalso; omega)
  · refine G_aload0 x eX0_errorAt_7 ?_
    refine G_getq x eX0_errorAt_8 fX0_15 rfl rfl hM.m hM.o_errors ?_
    refine G_iload1 x eX0_errorAt_11 ?_
    refine G_iald x eX0_errorAt_12 rfl hM.t_errors (by omega) (by omega) (by omega) (fun h12 => ?_)
    refine G_goto x eX0_errorAt_13 ?_
    refine G_ireturn x en eX0_errorAt_17 (by omega) (by omega) ?_
    first | exact pv_i | (exfalso; omega)
set_option maxRecDepth 20000 in
theorem ct_X0_cycleCount {T : gT} {I : gI} {J : gJ} {O : gO} {ca : Nat} (hM : CaAt T O ca) : Ct yX0_cycleCount cX0_cycleCount 1 (some .int) [va_rf (some ca)] 0 0 0 0 T I J O (pv (some (VI (I ca 7))) T I J O) := by
  refine Ct.of (by decide) [some (va_rf (some ca))] (gEn1 (List.forall_mem_cons.mpr ⟨cat_VR _, fun _ h => nomatch h⟩) rfl (Nat.le_of_ble_eq_true rfl) rfl) ?_
  intro X x en rm ini hr hz
  have hr0 := hr
  refine G_rg (fun hr => ?_)
  refine G_aload0 x eX0_cycleCount_0 ?_
  refine G_geti x eX0_cycleCount_1 fX0_69 rfl rfl hM.m (fun h1 => ?_)
  refine G_ireturn x en eX0_cycleCount_4 (by omega) (by omega) ?_
  first | exact pv_i | (refine ⟨?_, rfl, rfl, rfl, rfl⟩; split <;> first | rfl | omega)
set_option maxRecDepth 20000 in
theorem ct_X0_orderedCount {T : gT} {I : gI} {J : gJ} {O : gO} {ca : Nat} (hM : CaAt T O ca) : Ct yX0_orderedCount cX0_orderedCount 1 (some .int) [va_rf (some ca)] 0 0 0 0 T I J O (pv (some (VI (I ca 6))) T I J O) := by
  refine Ct.of (by decide) [some (va_rf (some ca))] (gEn1 (List.forall_mem_cons.mpr ⟨cat_VR _, fun _ h => nomatch h⟩) rfl (Nat.le_of_ble_eq_true rfl) rfl) ?_
  intro X x en rm ini hr hz
  have hr0 := hr
  refine G_rg (fun hr => ?_)
  refine G_aload0 x eX0_orderedCount_0 ?_
  refine G_geti x eX0_orderedCount_1 fX0_54 rfl rfl hM.m (fun h1 => ?_)
  refine G_ireturn x en eX0_orderedCount_4 (by omega) (by omega) ?_
  first | exact pv_i | (refine ⟨?_, rfl, rfl, rfl, rfl⟩; split <;> first | rfl | omega)
set_option maxRecDepth 20000 in
theorem ct_X0_orderedAt {T : gT} {I : gI} {J : gJ} {O : gO} {ca : Nat} {k : Int} (hM : CaAt T O ca) (h0 : in32 k) (h1 : I ca 6 ≤ 144) : Ct yX0_orderedAt cX0_orderedAt 2 (some .int) [va_rf (some ca), VI k] 0 0 0 0 T I J O (pv (some (VI (if 0 ≤ k ∧ k < I ca 6 then I (ca + 5) k else -1))) T I J O) := by
  refine Ct.of (by decide) [some (va_rf (some ca)), some (VI k)] (gEn1 (List.forall_mem_cons.mpr ⟨cat_VR _, List.forall_mem_cons.mpr ⟨cat_VI _, fun _ h => nomatch h⟩⟩) rfl (Nat.le_of_ble_eq_true rfl) rfl) ?_
  intro X x en rm ini hr hz
  have hr0 := hr
  refine G_rg (fun hr => ?_)
  refine G_iload1 x eX0_orderedAt_0 ?_
  refine G_if_lt x eX0_orderedAt_1 (by first | omega | exact hr _ _ | exact hr0 _ _ | exact hrS _) (fun c1 => ?_) (fun c1 => ?_)
  · refine G_push x eX0_orderedAt_12 ?_
    refine G_goto x eX0_orderedAt_13 ?_
    refine G_ireturn x en eX0_orderedAt_22 (by omega) (by omega) ?_
    first | exact pv_i | (refine ⟨?_, rfl, rfl, rfl, rfl⟩; split <;> first | rfl | omega)
  · refine G_iload1 x eX0_orderedAt_4 ?_
    refine G_aload0 x eX0_orderedAt_5 ?_
    refine G_geti x eX0_orderedAt_6 fX0_54 rfl rfl hM.m (fun h6 => ?_)
    refine G_icmp_lt x eX0_orderedAt_9 (by first | omega | exact hr _ _ | exact hr0 _ _ | exact hrS _) (by first | omega | exact hr _ _ | exact hr0 _ _ | exact hrS _) (fun c9 => ?_) (fun c9 => ?_)
    · refine G_aload0 x eX0_orderedAt_16 ?_
      refine G_getq x eX0_orderedAt_17 fX0_27 rfl rfl hM.m hM.o_ordered ?_
      refine G_iload1 x eX0_orderedAt_20 ?_
      refine G_iald x eX0_orderedAt_21 rfl hM.t_ordered (by omega) (by omega) (by omega) (fun h21 => ?_)
      refine G_ireturn x en eX0_orderedAt_22 (by omega) (by omega) ?_
      first | exact pv_i | (refine ⟨?_, rfl, rfl, rfl, rfl⟩; split <;> first | rfl | omega)
    · refine G_push x eX0_orderedAt_12 ?_
      refine G_goto x eX0_orderedAt_13 ?_
      refine G_ireturn x en eX0_orderedAt_22 (by omega) (by omega) ?_
      first | exact pv_i | (refine ⟨?_, rfl, rfl, rfl, rfl⟩; split <;> first | rfl | omega)
/-- a number within the limits, or 0 with a problem -/
noncomputable def lmV (w : Int64) : Int64 := if b01 (far w) = 1 then 0 else w
noncomputable def lmE (e : Int) (w : Int64) : Int := if b01 (far w) = 1 then 3 else e
set_option maxRecDepth 20000 in
theorem ct_X0_limited {T : gT} {I : gI} {J : gJ} {O : gO} {ca : Nat} {w : Int64} (hM : T.2 ca = some (.inl 0)) : Ct yX0_limited cX0_limited 3 (some .long) [va_rf (some ca), Value.long w] 0 0 0 0 T I J O (pv (some (Value.long (lmV w))) T (uI I ca 10 (lmE (I ca 10) w)) J O) := by
  refine Ct.of (by decide) [some (va_rf (some ca)), some (Value.long w), none] (gEnL rfl (Nat.le_of_ble_eq_true rfl) rfl) ?_
  intro X x en rm ini hr hz
  have hr0 := hr
  have hf : far w → lmV w = 0 ∧ lmE (I ca 10) w = 3 := fun h => by unfold lmV lmE; rw [b01_t h]; exact ⟨rfl, rfl⟩
  have hn : ¬ far w → lmV w = w ∧ lmE (I ca 10) w = I ca 10 := fun h => by unfold lmV lmE; rw [b01_f h]; exact ⟨rfl, rfl⟩
  generalize lmV w = lv at *
  generalize lmE (I ca 10) w = le at *
  refine G_lload1 x eX0_limited_0 ?_
  refine G_ldc2 x klX0_194 eX0_limited_1 ?_
  refine G_lcmp x eX0_limited_4 ?_
  refine G_if_lt x eX0_limited_5 lcm_b (fun c5 => ?_) (fun c5 => ?_)
  · obtain ⟨e1, e2⟩ := hf (Or.inl (lcm_lt.mp c5))
    subst e1 e2
    refine G_rg (fun hr => ?_)
    refine G_aload0 x eX0_limited_16 ?_
    refine G_push x eX0_limited_17 ?_
    refine G_puti x eX0_limited_18 fX0_176 rfl (Or.inl rfl) rfl hM (by first | omega | exact hr _ _ | exact hr0 _ _ | exact hrS _) ?_
    refine G_rg (fun hr => ?_)
    refine G_lconst x eX0_limited_21 ?_
    refine G_lreturn x en eX0_limited_22 (by omega) (by omega) ?_
    first | exact pv_i | (refine ⟨?_, rfl, rfl, rfl, rfl⟩; split <;> first | rfl | omega)
  · have h5 := mt lcm_lt.mpr c5
    refine G_lload1 x eX0_limited_8 ?_
    refine G_ldc2 x klX0_196 eX0_limited_9 ?_
    refine G_lcmp x eX0_limited_12 ?_
    refine G_if_le x eX0_limited_13 lcm_b (fun c13 => ?_) (fun c13 => ?_)
    · have h13 := lcm_le.mp c13
      obtain ⟨e1, e2⟩ := hn (fun z => by
        have : (1000000000 : Int64).toInt = 1000000000 := rfl
        have : (-1000000000 : Int64).toInt = -1000000000 := rfl
        unfold far at z
        omega)
      subst e1 e2
      refine G_rg (fun hr => ?_)
      refine G_lload1 x eX0_limited_23 ?_
      refine G_lreturn x en eX0_limited_24 (by omega) (by omega) ?_
      exact ⟨rfl, rfl, (uI_id rfl).symm, rfl, rfl⟩
    · have h13 := mt lcm_le.mpr c13
      obtain ⟨e1, e2⟩ := hf (Or.inr (by
        have : (1000000000 : Int64).toInt = 1000000000 := rfl
        omega))
      subst e1 e2
      refine G_rg (fun hr => ?_)
      refine G_aload0 x eX0_limited_16 ?_
      refine G_push x eX0_limited_17 ?_
      refine G_puti x eX0_limited_18 fX0_176 rfl (Or.inl rfl) rfl hM (by first | omega | exact hr _ _ | exact hr0 _ _ | exact hrS _) ?_
      refine G_rg (fun hr => ?_)
      refine G_lconst x eX0_limited_21 ?_
      refine G_lreturn x en eX0_limited_22 (by omega) (by omega) ?_
      exact pv_i
abbrev vV (I : gI) (ca : Nat) : Int → Int64 := fun c => Int64.ofInt (I (ca + 1) c)
/-- a sum's problem and value -/
noncomputable def smV (V : Int → Int64) (E : Int → Int) (a b : Int) : Int × Int64 := ((smF V E a b).1, if (smF V E a b).1 = 0 then (smF V E a b).2 else 0)
set_option maxHeartbeats 4000000 in
set_option maxRecDepth 20000 in
theorem ct_X0_sumOf {T : gT} {I : gI} {J : gJ} {O : gO} {ca : Nat} {a b : Int} (hM : CaAt T O ca) (h2 : 0 ≤ a ∧ a < 144) (h3 : 0 ≤ b ∧ b < 144) (h4 : I ca 10 = 0) : Ct yX0_sumOf cX0_sumOf 9 (some .long) [va_rf (some ca), VI a, VI b] 1 22 0 0 T I J O (pv (some (Value.long (smV (vV I ca) (I (ca + 2)) a b).2)) T (uI I ca 10 (smV (vV I ca) (I (ca + 2)) a b).1) J O) := by
  refine Ct.of (by decide) [some (va_rf (some ca)), some (VI a), some (VI b), none, none, none, none, none, none] (gEn1 (List.forall_mem_cons.mpr ⟨cat_VR _, List.forall_mem_cons.mpr ⟨cat_VI _, List.forall_mem_cons.mpr ⟨cat_VI _, fun _ h => nomatch h⟩⟩⟩) rfl (Nat.le_of_ble_eq_true rfl) rfl) ?_
  intro X x en rm ini hr hz
  have hr0 := hr
  have hF : smF (vV I ca) (I (ca + 2)) a b = smR (vV I ca) (I (ca + 2)) (max (a % 12) (b % 12) - min (a % 12) (b % 12) + 1).toNat (min (a % 12) (b % 12)) (max (a / 12) (b / 12) - min (a / 12) (b / 12) + 1).toNat (min (a / 12) (b / 12)) 0 := rfl
  unfold smV at en
  generalize smF (vV I ca) (I (ca + 2)) a b = res at *
  have endd : ∀ (s : Int64), res = (0, s) → pv (some (Value.long (if res.1 = 0 then res.2 else 0))) T (uI I ca 10 res.1) J O (some (Value.long s)) T (uI I ca 10 0) J O := fun s hs => by rw [hs]; exact ⟨rfl, rfl, rfl, rfl, rfl⟩
  have ende : ∀ (e : Int) (s : Int64), e ≠ 0 → res = (e, s) → pv (some (Value.long (if res.1 = 0 then res.2 else 0))) T (uI I ca 10 res.1) J O (some (Value.long 0)) T (uI I ca 10 e) J O := fun e s he hs => by rw [hs]; exact ⟨by rw [if_neg he], rfl, rfl, rfl, rfl⟩
  -- one row
  have inner : ∀ (d dr : Nat) (row col : Int) (s : Int64), col + d = max (a % 12) (b % 12) + 1 → row + dr = max (a / 12) (b / 12) → min (a / 12) (b / 12) ≤ row → min (a % 12) (b % 12) ≤ col →
      res = (if (smC (vV I ca) (I (ca + 2)) row d col s).1 = 0 then smR (vV I ca) (I (ca + 2)) (max (a % 12) (b % 12) - min (a % 12) (b % 12) + 1).toNat (min (a % 12) (b % 12)) dr (row + 1) (smC (vV I ca) (I (ca + 2)) row d col s).2 else smC (vV I ca) (I (ca + 2)) row d col s) →
      (∀ (s : Int64) (o8 : Option Value), res = smR (vV I ca) (I (ca + 2)) (max (a % 12) (b % 12) - min (a % 12) (b % 12) + 1).toNat (min (a % 12) (b % 12)) dr (row + 1) s → G X 128 [some (va_rf (some ca)), some (VI a), some (VI b), some (.long s), none, some (VI (max (a / 12) (b / 12))), some (VI (max (a % 12) (b % 12))), some (VI row), o8] [] T (uI I ca 10 0) J O 0 0) →
      G X 61 [some (va_rf (some ca)), some (VI a), some (VI b), some (.long s), none, some (VI (max (a / 12) (b / 12))), some (VI (max (a % 12) (b % 12))), some (VI row), some (VI col)] [] T (uI I ca 10 0) J O 0 0 := by
    intro d
    induction d with
    | zero =>
      intro dr row col s hd hdr r0 q0 hr9 kk
      refine G_rg (fun hr => ?_)
      refine G_iload8 x eX0_sumOf_61 ?_
      refine G_iload6 x eX0_sumOf_63 ?_
      refine G_icmp_gt x eX0_sumOf_65 (by first | omega | exact hr _ _ | exact hr0 _ _ | exact hrS _) (by first | omega | exact hr _ _ | exact hr0 _ _ | exact hrS _) (fun c65 => ?_) (fun c65 => ?_)
      · exact kk _ _ hr9
      · omega
    | succ d ih =>
      intro dr row col s hd hdr r0 q0 hr9 kk
      have hx : in32 (I (ca + 2) (12 * row + col)) := hr0 _ _
      have hv32 : in32 (I (ca + 1) (12 * row + col)) := hr0 _ _
      have eE : (uI I ca 10 0) (ca + 2) (row * 12 + col) = I (ca + 2) (12 * row + col) := by rw [uI_a (by omega), show row * 12 + col = 12 * row + col by omega]
      have eV : ∀ z, (uI I ca 10 z) (ca + 1) (row * 12 + col) = I (ca + 1) (12 * row + col) := fun z => by rw [uI_a (by omega), show row * 12 + col = 12 * row + col by omega]
      have hC : smC (vV I ca) (I (ca + 2)) row (d + 1) col s = if I (ca + 2) (12 * row + col) = 0 then (if b01 (far (s + vV I ca (12 * row + col))) = 1 then (3, s + vV I ca (12 * row + col)) else smC (vV I ca) (I (ca + 2)) row d (col + 1) (s + vV I ca (12 * row + col))) else (I (ca + 2) (12 * row + col), s) := rfl
      rw [hC] at hr9
      clear hC
      by_cases e0 : I (ca + 2) (12 * row + col) = 0
      · rw [if_pos e0] at hr9
        by_cases ef : b01 (far (s + vV I ca (12 * row + col))) = 1
        · rw [if_pos ef] at hr9
          have hr9 : res = (3, s + vV I ca (12 * row + col)) := hr9
          have l1 : lmV (s + Int64.ofInt (I (ca + 1) (12 * row + col))) = 0 := if_pos ef
          have l2 : ∀ z, lmE z (s + Int64.ofInt (I (ca + 1) (12 * row + col))) = 3 := fun z => if_pos ef
          have b113 : G X 113 [some (va_rf (some ca)), some (VI a), some (VI b), some (.long 0), none, some (VI (max (a / 12) (b / 12))), some (VI (max (a % 12) (b % 12))), some (VI row), some (VI col)] [] T (uI I ca 10 3) J O 0 0 := by
            refine G_rg (fun hr => ?_)
            refine G_aload0 x eX0_sumOf_113 ?_
            refine G_geti x eX0_sumOf_114 fX0_176 rfl rfl hM.m (fun h114 => ?_)
            rw [uI_s]
            refine G_if_eq x eX0_sumOf_117 (by first | omega | exact hr _ _ | exact hr0 _ _ | exact hrS _) (fun c117 => ?_) (fun c117 => ?_)
            · omega
            · refine G_lconst x eX0_sumOf_120 ?_
              refine G_lreturn x en eX0_sumOf_121 (by omega) (by omega) ?_
              exact ende 3 _ (by omega) hr9
          refine G_rg (fun hr => ?_)
          refine G_iload8 x eX0_sumOf_61 ?_
          refine G_iload6 x eX0_sumOf_63 ?_
          refine G_icmp_gt x eX0_sumOf_65 (by first | omega | exact hr _ _ | exact hr0 _ _ | exact hrS _) (by first | omega | exact hr _ _ | exact hr0 _ _ | exact hrS _) (fun c65 => ?_) (fun c65 => ?_)
          · omega
          · refine G_aload0 x eX0_sumOf_68 ?_
            refine G_aload0 x eX0_sumOf_69 ?_
            refine G_getq x eX0_sumOf_70 fX0_15 rfl rfl hM.m hM.o_errors ?_
            refine G_iload7 x eX0_sumOf_73 ?_
            refine G_push x eX0_sumOf_75 ?_
            refine G_imul x eX0_sumOf_77 ?_
            refine G_iload8 x eX0_sumOf_78 ?_
            refine G_iadd x eX0_sumOf_80 ?_
            refine G_iald x eX0_sumOf_81 rfl hM.t_errors (by omega) (by omega) (by omega) (fun h81 => ?_)
            rw [eE, e0]
            refine G_puti x eX0_sumOf_82 fX0_176 rfl (Or.inl rfl) rfl hM.m (by first | omega | exact hr _ _ | exact hr0 _ _ | exact hrS _) ?_
            refine G_rg (fun hr => ?_)
            rw [uI_uI]
            refine G_aload0 x eX0_sumOf_85 ?_
            refine G_geti x eX0_sumOf_86 fX0_176 rfl rfl hM.m (fun h86 => ?_)
            rw [uI_s]
            refine G_if_ne x eX0_sumOf_89 (by first | omega | exact hr _ _ | exact hr0 _ _ | exact hrS _) (fun c89 => ?_) (fun c89 => ?_)
            · first | (exfalso; omega) | exact b113
            · refine G_aload0 x eX0_sumOf_92 ?_
              refine G_lload3 x eX0_sumOf_93 ?_
              refine G_aload0 x eX0_sumOf_94 ?_
              refine G_getq x eX0_sumOf_95 fX0_9 rfl rfl hM.m hM.o_values ?_
              refine G_iload7 x eX0_sumOf_98 ?_
              refine G_push x eX0_sumOf_100 ?_
              refine G_imul x eX0_sumOf_102 ?_
              refine G_iload8 x eX0_sumOf_103 ?_
              refine G_iadd x eX0_sumOf_105 ?_
              refine G_iald x eX0_sumOf_106 rfl hM.t_values (by omega) (by omega) (by omega) (fun h106 => ?_)
              rw [eV]
              refine G_i2l x eX0_sumOf_107 (by first | omega | exact hr _ _ | exact hr0 _ _ | exact hrS _) ?_
              refine G_ladd x eX0_sumOf_108 ?_
              refine G_cV x eX0_sumOf_109 kX0_186 im_yX0_limited se_yX0_limited rm hM.m (ct_X0_limited hM.m) rfl ?_
              rw [l1, l2, uI_uI]
              refine G_lstore3 x eX0_sumOf_112 ?_
              first | (exfalso; omega) | exact b113
        · rw [if_neg ef] at hr9
          have l1 : lmV (s + Int64.ofInt (I (ca + 1) (12 * row + col))) = s + vV I ca (12 * row + col) := if_neg ef
          have l2 : ∀ z, lmE z (s + Int64.ofInt (I (ca + 1) (12 * row + col))) = z := fun z => if_neg ef
          have b113 : G X 113 [some (va_rf (some ca)), some (VI a), some (VI b), some (.long (s + vV I ca (12 * row + col))), none, some (VI (max (a / 12) (b / 12))), some (VI (max (a % 12) (b % 12))), some (VI row), some (VI col)] [] T (uI I ca 10 0) J O 0 0 := by
            refine G_rg (fun hr => ?_)
            refine G_aload0 x eX0_sumOf_113 ?_
            refine G_geti x eX0_sumOf_114 fX0_176 rfl rfl hM.m (fun h114 => ?_)
            rw [uI_s]
            refine G_if_eq x eX0_sumOf_117 (by first | omega | exact hr _ _ | exact hr0 _ _ | exact hrS _) (fun c117 => ?_) (fun c117 => ?_)
            · refine G_iinc8 x eX0_sumOf_122 ?_
              refine G_goto x eX0_sumOf_125 ?_
              exact ih dr row (col + 1) _ (by omega) hdr r0 (by omega) hr9 kk
            · omega
          refine G_rg (fun hr => ?_)
          refine G_iload8 x eX0_sumOf_61 ?_
          refine G_iload6 x eX0_sumOf_63 ?_
          refine G_icmp_gt x eX0_sumOf_65 (by first | omega | exact hr _ _ | exact hr0 _ _ | exact hrS _) (by first | omega | exact hr _ _ | exact hr0 _ _ | exact hrS _) (fun c65 => ?_) (fun c65 => ?_)
          · omega
          · refine G_aload0 x eX0_sumOf_68 ?_
            refine G_aload0 x eX0_sumOf_69 ?_
            refine G_getq x eX0_sumOf_70 fX0_15 rfl rfl hM.m hM.o_errors ?_
            refine G_iload7 x eX0_sumOf_73 ?_
            refine G_push x eX0_sumOf_75 ?_
            refine G_imul x eX0_sumOf_77 ?_
            refine G_iload8 x eX0_sumOf_78 ?_
            refine G_iadd x eX0_sumOf_80 ?_
            refine G_iald x eX0_sumOf_81 rfl hM.t_errors (by omega) (by omega) (by omega) (fun h81 => ?_)
            rw [eE, e0]
            refine G_puti x eX0_sumOf_82 fX0_176 rfl (Or.inl rfl) rfl hM.m (by first | omega | exact hr _ _ | exact hr0 _ _ | exact hrS _) ?_
            refine G_rg (fun hr => ?_)
            rw [uI_uI]
            refine G_aload0 x eX0_sumOf_85 ?_
            refine G_geti x eX0_sumOf_86 fX0_176 rfl rfl hM.m (fun h86 => ?_)
            rw [uI_s]
            refine G_if_ne x eX0_sumOf_89 (by first | omega | exact hr _ _ | exact hr0 _ _ | exact hrS _) (fun c89 => ?_) (fun c89 => ?_)
            · first | (exfalso; omega) | exact b113
            · refine G_aload0 x eX0_sumOf_92 ?_
              refine G_lload3 x eX0_sumOf_93 ?_
              refine G_aload0 x eX0_sumOf_94 ?_
              refine G_getq x eX0_sumOf_95 fX0_9 rfl rfl hM.m hM.o_values ?_
              refine G_iload7 x eX0_sumOf_98 ?_
              refine G_push x eX0_sumOf_100 ?_
              refine G_imul x eX0_sumOf_102 ?_
              refine G_iload8 x eX0_sumOf_103 ?_
              refine G_iadd x eX0_sumOf_105 ?_
              refine G_iald x eX0_sumOf_106 rfl hM.t_values (by omega) (by omega) (by omega) (fun h106 => ?_)
              rw [eV]
              refine G_i2l x eX0_sumOf_107 (by first | omega | exact hr _ _ | exact hr0 _ _ | exact hrS _) ?_
              refine G_ladd x eX0_sumOf_108 ?_
              refine G_cV x eX0_sumOf_109 kX0_186 im_yX0_limited se_yX0_limited rm hM.m (ct_X0_limited hM.m) rfl ?_
              rw [l1, l2, uI_uI, uI_s]
              refine G_lstore3 x eX0_sumOf_112 ?_
              first | (exfalso; omega) | exact b113
      · rw [if_neg e0] at hr9
        have hr9 : res = (I (ca + 2) (12 * row + col), s) := by rw [if_neg e0] at hr9; exact hr9
        refine G_rg (fun hr => ?_)
        refine G_iload8 x eX0_sumOf_61 ?_
        refine G_iload6 x eX0_sumOf_63 ?_
        refine G_icmp_gt x eX0_sumOf_65 (by first | omega | exact hr _ _ | exact hr0 _ _ | exact hrS _) (by first | omega | exact hr _ _ | exact hr0 _ _ | exact hrS _) (fun c65 => ?_) (fun c65 => ?_)
        · omega
        · refine G_aload0 x eX0_sumOf_68 ?_
          refine G_aload0 x eX0_sumOf_69 ?_
          refine G_getq x eX0_sumOf_70 fX0_15 rfl rfl hM.m hM.o_errors ?_
          refine G_iload7 x eX0_sumOf_73 ?_
          refine G_push x eX0_sumOf_75 ?_
          refine G_imul x eX0_sumOf_77 ?_
          refine G_iload8 x eX0_sumOf_78 ?_
          refine G_iadd x eX0_sumOf_80 ?_
          refine G_iald x eX0_sumOf_81 rfl hM.t_errors (by omega) (by omega) (by omega) (fun h81 => ?_)
          rw [eE]
          refine G_puti x eX0_sumOf_82 fX0_176 rfl (Or.inl rfl) rfl hM.m (by first | omega | exact hr _ _ | exact hr0 _ _ | exact hrS _) ?_
          refine G_rg (fun hr => ?_)
          rw [uI_uI]
          refine G_aload0 x eX0_sumOf_85 ?_
          refine G_geti x eX0_sumOf_86 fX0_176 rfl rfl hM.m (fun h86 => ?_)
          rw [uI_s]
          refine G_if_ne x eX0_sumOf_89 (by first | omega | exact hr _ _ | exact hr0 _ _ | exact hrS _) (fun c89 => ?_) (fun c89 => ?_)
          · refine G_aload0 x eX0_sumOf_113 ?_
            refine G_geti x eX0_sumOf_114 fX0_176 rfl rfl hM.m (fun h114 => ?_)
            rw [uI_s]
            refine G_if_eq x eX0_sumOf_117 (by first | omega | exact hr _ _ | exact hr0 _ _ | exact hrS _) (fun c117 => ?_) (fun c117 => ?_)
            · omega
            · refine G_lconst x eX0_sumOf_120 ?_
              refine G_lreturn x en eX0_sumOf_121 (by omega) (by omega) ?_
              exact ende _ _ e0 hr9
          · omega
  have outer : ∀ (dr : Nat) (row : Int) (s : Int64) (o8 : Option Value), row + dr = max (a / 12) (b / 12) + 1 → min (a / 12) (b / 12) ≤ row → res = smR (vV I ca) (I (ca + 2)) (max (a % 12) (b % 12) - min (a % 12) (b % 12) + 1).toNat (min (a % 12) (b % 12)) dr row s → G X 41 [some (va_rf (some ca)), some (VI a), some (VI b), some (.long s), none, some (VI (max (a / 12) (b / 12))), some (VI (max (a % 12) (b % 12))), some (VI row), o8] [] T (uI I ca 10 0) J O 0 0 := by
    intro dr
    induction dr with
    | zero =>
      intro row s o8 hd r0 hr9
      refine G_rg (fun hr => ?_)
      refine G_iload7 x eX0_sumOf_41 ?_
      refine G_iload5 x eX0_sumOf_43 ?_
      refine G_icmp_gt x eX0_sumOf_45 (by first | omega | exact hr _ _ | exact hr0 _ _ | exact hrS _) (by first | omega | exact hr _ _ | exact hr0 _ _ | exact hrS _) (fun c45 => ?_) (fun c45 => ?_)
      · refine G_lload3 x eX0_sumOf_134 ?_
        refine G_lreturn x en eX0_sumOf_135 (by omega) (by omega) ?_
        exact endd s hr9
      · omega
    | succ dr ih =>
      intro row s o8 hd r0 hr9
      have hR : smR (vV I ca) (I (ca + 2)) (max (a % 12) (b % 12) - min (a % 12) (b % 12) + 1).toNat (min (a % 12) (b % 12)) (dr + 1) row s = if (smC (vV I ca) (I (ca + 2)) row (max (a % 12) (b % 12) - min (a % 12) (b % 12) + 1).toNat (min (a % 12) (b % 12)) s).1 = 0 then smR (vV I ca) (I (ca + 2)) (max (a % 12) (b % 12) - min (a % 12) (b % 12) + 1).toNat (min (a % 12) (b % 12)) dr (row + 1) (smC (vV I ca) (I (ca + 2)) row (max (a % 12) (b % 12) - min (a % 12) (b % 12) + 1).toNat (min (a % 12) (b % 12)) s).2 else smC (vV I ca) (I (ca + 2)) row (max (a % 12) (b % 12) - min (a % 12) (b % 12) + 1).toNat (min (a % 12) (b % 12)) s := rfl
      rw [hR] at hr9
      have nx := inner (max (a % 12) (b % 12) - min (a % 12) (b % 12) + 1).toNat dr row (min (a % 12) (b % 12)) s (by omega) (by omega) r0 (by omega) hr9 (fun s' o8' h9 => by
        have z := ih (row + 1) s' o8' (by omega) (by omega) h9
        refine G_iinc7 x eX0_sumOf_128 ?_
        refine G_goto x eX0_sumOf_131 ?_
        exact z)
      refine G_rg (fun hr => ?_)
      refine G_iload7 x eX0_sumOf_41 ?_
      refine G_iload5 x eX0_sumOf_43 ?_
      refine G_icmp_gt x eX0_sumOf_45 (by first | omega | exact hr _ _ | exact hr0 _ _ | exact hrS _) (by first | omega | exact hr _ _ | exact hr0 _ _ | exact hrS _) (fun c45 => ?_) (fun c45 => ?_)
      · omega
      · refine G_iload1 x eX0_sumOf_48 ?_
        refine G_push x eX0_sumOf_49 ?_
        refine G_iremn x eX0_sumOf_51 (by omega) (by omega) (by omega) (by omega) ?_
        refine G_iload2 x eX0_sumOf_52 ?_
        refine G_push x eX0_sumOf_53 ?_
        refine G_iremn x eX0_sumOf_55 (by omega) (by omega) (by omega) (by omega) ?_
        refine G_cS x eX0_sumOf_56 kX0_150 sm_yJ9_min_7cf53 rm (ct_J9_min_7cf53 (by first | omega | exact hr _ _ | exact hr0 _ _ | exact hrS _) (by first | omega | exact hr _ _ | exact hr0 _ _ | exact hrS _)) rfl ?_
        refine G_istore8 x eX0_sumOf_59 ?_
        exact nx
  have s0 := outer (max (a / 12) (b / 12) - min (a / 12) (b / 12) + 1).toNat (min (a / 12) (b / 12)) 0 none (by omega) (by omega) hF
  rw [uI_id h4] at s0
  refine G_rg (fun hr => ?_)
  refine G_lconst x eX0_sumOf_0 ?_
  refine G_lstore3 x eX0_sumOf_1 ?_
  refine G_iload1 x eX0_sumOf_2 ?_
  refine G_push x eX0_sumOf_3 ?_
  refine G_idivn x eX0_sumOf_5 (by omega) (by omega) (by omega) (by omega) ?_
  refine G_iload2 x eX0_sumOf_6 ?_
  refine G_push x eX0_sumOf_7 ?_
  refine G_idivn x eX0_sumOf_9 (by omega) (by omega) (by omega) (by omega) ?_
  refine G_cS x eX0_sumOf_10 kX0_144 sm_yJ9_max_7cf53 rm (ct_J9_max_7cf53 (by first | omega | exact hr _ _ | exact hr0 _ _ | exact hrS _) (by first | omega | exact hr _ _ | exact hr0 _ _ | exact hrS _)) rfl ?_
  refine G_istore5 x eX0_sumOf_13 ?_
  refine G_iload1 x eX0_sumOf_15 ?_
  refine G_push x eX0_sumOf_16 ?_
  refine G_iremn x eX0_sumOf_18 (by omega) (by omega) (by omega) (by omega) ?_
  refine G_iload2 x eX0_sumOf_19 ?_
  refine G_push x eX0_sumOf_20 ?_
  refine G_iremn x eX0_sumOf_22 (by omega) (by omega) (by omega) (by omega) ?_
  refine G_cS x eX0_sumOf_23 kX0_144 sm_yJ9_max_7cf53 rm (ct_J9_max_7cf53 (by first | omega | exact hr _ _ | exact hr0 _ _ | exact hrS _) (by first | omega | exact hr _ _ | exact hr0 _ _ | exact hrS _)) rfl ?_
  refine G_istore6 x eX0_sumOf_26 ?_
  refine G_iload1 x eX0_sumOf_28 ?_
  refine G_push x eX0_sumOf_29 ?_
  refine G_idivn x eX0_sumOf_31 (by omega) (by omega) (by omega) (by omega) ?_
  refine G_iload2 x eX0_sumOf_32 ?_
  refine G_push x eX0_sumOf_33 ?_
  refine G_idivn x eX0_sumOf_35 (by omega) (by omega) (by omega) (by omega) ?_
  refine G_cS x eX0_sumOf_36 kX0_150 sm_yJ9_min_7cf53 rm (ct_J9_min_7cf53 (by first | omega | exact hr _ _ | exact hr0 _ _ | exact hrS _) (by first | omega | exact hr _ _ | exact hr0 _ _ | exact hrS _)) rfl ?_
  refine G_istore7 x eX0_sumOf_39 ?_
  exact s0
