theorem lcm_lt {a b : Int64} : ((if b < a then (1 : Int) else if a = b then 0 else -1) < 0) ↔ a.toInt < b.toInt := by
  by_cases h : b < a
  · have h2 := Int64.lt_iff_toInt_lt.mp h
    rw [if_pos h]; omega
  · rw [if_neg h]
    have h2 : ¬ b.toInt < a.toInt := fun z => h (Int64.lt_iff_toInt_lt.mpr z)
    by_cases e : a = b
    · rw [if_pos e, e]; omega
    · rw [if_neg e]
      have : a.toInt ≠ b.toInt := fun z => e (Int64.toInt_inj.mp z)
      omega
theorem lcm_le {a b : Int64} : ((if b < a then (1 : Int) else if a = b then 0 else -1) ≤ 0) ↔ a.toInt ≤ b.toInt := by
  by_cases h : b < a
  · have h2 := Int64.lt_iff_toInt_lt.mp h
    rw [if_pos h]; omega
  · rw [if_neg h]
    have h2 : ¬ b.toInt < a.toInt := fun z => h (Int64.lt_iff_toInt_lt.mpr z)
    by_cases e : a = b
    · rw [if_pos e, e]; omega
    · rw [if_neg e]; omega
theorem lcm_0 {a b : Int64} : ((if b < a then (1 : Int) else if a = b then 0 else -1) = 0) ↔ a = b := by
  by_cases h : b < a
  · have h2 := Int64.lt_iff_toInt_lt.mp h
    rw [if_pos h]
    exact ⟨fun z => by omega, fun z => by rw [z] at h2; omega⟩
  · rw [if_neg h]
    by_cases e : a = b
    · rw [if_pos e]; exact ⟨fun _ => e, fun _ => rfl⟩
    · rw [if_neg e]; exact ⟨fun z => by omega, fun z => absurd z e⟩
theorem lcm_b {a b : Int64} : in32 (if b < a then (1 : Int) else if a = b then 0 else -1) := by
  split
  · exact ⟨by decide, by decide⟩
  · split <;> exact ⟨by decide, by decide⟩
def far (v : Int64) : Prop := v.toInt < -1000000000 ∨ 1000000000 < v.toInt
set_option maxRecDepth 20000 in
theorem ct_X11_isFar {T : gT} {I : gI} {J : gJ} {O : gO} {w : Int64} : Ct yX11_isFar cX11_isFar 2 (some .boolean) [Value.long w] 0 0 0 0 T I J O (pv (some (VI (b01 (far w)))) T I J O) := by
  refine Ct.of (by decide) [some (Value.long w), none] (gEnL rfl (Nat.le_of_ble_eq_true rfl) rfl) ?_
  intro X x en rm ini hr hz
  have hr0 := hr
  refine G_lload0 x eX11_isFar_0 ?_
  refine G_ldc2 x klX11_233 eX11_isFar_1 ?_
  refine G_lcmp x eX11_isFar_4 ?_
  refine G_if_lt x eX11_isFar_5 lcm_b (fun c5 => ?_) (fun c5 => ?_)
  · have h5 : far w := Or.inl (lcm_lt.mp c5)
    rw [b01_t h5] at en
    refine G_rg (fun hr => ?_)
    refine G_push x eX11_isFar_16 ?_
    refine G_goto x eX11_isFar_17 ?_
    refine G_zreturn x en eX11_isFar_21 (by omega) (by omega) ?_ ?_
    · first | exact Or.inl rfl | exact Or.inr rfl | omega
    · first | exact pv_i | (refine ⟨?_, rfl, rfl, rfl, rfl⟩; split <;> first | rfl | omega)
  · have h5 := mt lcm_lt.mpr c5
    refine G_lload0 x eX11_isFar_8 ?_
    refine G_ldc2 x klX11_235 eX11_isFar_9 ?_
    refine G_lcmp x eX11_isFar_12 ?_
    refine G_if_le x eX11_isFar_13 lcm_b (fun c13 => ?_) (fun c13 => ?_)
    · have h13 := lcm_le.mp c13
      have h9 : ¬ far w := fun z => by
        have : (1000000000 : Int64).toInt = 1000000000 := rfl
        have : (-1000000000 : Int64).toInt = -1000000000 := rfl
        unfold far at z
        omega
      rw [b01_f h9] at en
      refine G_rg (fun hr => ?_)
      refine G_push x eX11_isFar_20 ?_
      refine G_zreturn x en eX11_isFar_21 (by omega) (by omega) ?_ ?_
      · first | exact Or.inl rfl | exact Or.inr rfl | omega
      · first | exact pv_i | (refine ⟨?_, rfl, rfl, rfl, rfl⟩; split <;> first | rfl | omega)
    · have h13 := mt lcm_le.mpr c13
      have h9 : far w := Or.inr (by
        have : (1000000000 : Int64).toInt = 1000000000 := rfl
        omega)
      rw [b01_t h9] at en
      refine G_rg (fun hr => ?_)
      refine G_push x eX11_isFar_16 ?_
      refine G_goto x eX11_isFar_17 ?_
      refine G_zreturn x en eX11_isFar_21 (by omega) (by omega) ?_ ?_
      · first | exact Or.inl rfl | exact Or.inr rfl | omega
      · first | exact pv_i | (refine ⟨?_, rfl, rfl, rfl, rfl⟩; split <;> first | rfl | omega)
def meE (I : gI) (mo : Nat) (c : Int) : Int := if c = -1 then 2 else I (mo + 12) c
def meV (J : gJ) (mo : Nat) (c : Int) : Int64 := if c = -1 then 0 else J (mo + 11) c
set_option maxRecDepth 20000 in
theorem ct_X11_meets {T : gT} {I : gI} {J : gJ} {O : gO} {mo : Nat} {c : Int} (hM : MoAt T O mo) (h0 : -1 ≤ c) (h1 : c < 144) : Ct yX11_meets cX11_meets 2 none [va_rf (some mo), VI c] 0 0 0 0 T I J O (pv none T (uI I mo 25 (meE I mo c)) (uJ J mo 26 (meV J mo c)) O) := by
  refine Ct.of (by decide) [some (va_rf (some mo)), some (VI c)] (gEn1 (List.forall_mem_cons.mpr ⟨cat_VR _, List.forall_mem_cons.mpr ⟨cat_VI _, fun _ h => nomatch h⟩⟩) rfl (Nat.le_of_ble_eq_true rfl) rfl) ?_
  intro X x en rm ini hr hz
  have hr0 := hr
  have hrE : in32 (meE I mo c) := by unfold meE; split; exact ⟨by decide, by decide⟩; exact hr _ _
  by_cases e : c = -1
  · have e1 : meE I mo c = 2 := if_pos e
    have e2 : meV J mo c = 0 := if_pos e
    rw [e1, e2] at en
    refine G_rg (fun hr => ?_)
    refine G_aload0 x eX11_meets_0 ?_
    refine G_iload1 x eX11_meets_1 ?_
    refine G_push x eX11_meets_2 ?_
    refine G_icmp_ne x eX11_meets_3 (by first | omega | exact hr _ _ | exact hr0 _ _ | exact hrS _) (by first | omega | exact hr _ _ | exact hr0 _ _ | exact hrS _) (fun c3 => ?_) (fun c3 => ?_)
    · omega
    · refine G_push x eX11_meets_6 ?_
      refine G_goto x eX11_meets_7 ?_
      refine G_puti x eX11_meets_16 fX11_237 rfl (Or.inl rfl) rfl hM.m (by first | omega | exact hr _ _ | exact hr0 _ _ | exact hrS _) ?_
      refine G_rg (fun hr => ?_)
      refine G_aload0 x eX11_meets_19 ?_
      refine G_iload1 x eX11_meets_20 ?_
      refine G_push x eX11_meets_21 ?_
      refine G_icmp_ne x eX11_meets_22 (by first | omega | exact hr _ _ | exact hr0 _ _ | exact hrS _) (by first | omega | exact hr _ _ | exact hr0 _ _ | exact hrS _) (fun c22 => ?_) (fun c22 => ?_)
      · omega
      · refine G_lconst x eX11_meets_25 ?_
        refine G_goto x eX11_meets_26 ?_
        refine G_putl x eX11_meets_35 fX11_240 rfl (Or.inl rfl) rfl hM.m ?_
        refine G_return x en eX11_meets_38 (by omega) (by omega) ?_
        first | exact pv_i | (refine ⟨?_, rfl, rfl, rfl, rfl⟩; split <;> first | rfl | omega)
  · have e1 : meE I mo c = I (mo + 12) c := if_neg e
    have e2 : meV J mo c = J (mo + 11) c := if_neg e
    rw [e1, e2] at en
    refine G_rg (fun hr => ?_)
    refine G_aload0 x eX11_meets_0 ?_
    refine G_iload1 x eX11_meets_1 ?_
    refine G_push x eX11_meets_2 ?_
    refine G_icmp_ne x eX11_meets_3 (by first | omega | exact hr _ _ | exact hr0 _ _ | exact hrS _) (by first | omega | exact hr _ _ | exact hr0 _ _ | exact hrS _) (fun c3 => ?_) (fun c3 => ?_)
    · refine G_aload0 x eX11_meets_10 ?_
      refine G_getq x eX11_meets_11 fX11_44 rfl rfl hM.m hM.o_errors ?_
      refine G_iload1 x eX11_meets_14 ?_
      refine G_iald x eX11_meets_15 rfl hM.t_errors (by omega) (by omega) (by omega) (fun h15 => ?_)
      refine G_puti x eX11_meets_16 fX11_237 rfl (Or.inl rfl) rfl hM.m (by first | omega | exact hr _ _ | exact hr0 _ _ | exact hrS _) ?_
      refine G_rg (fun hr => ?_)
      refine G_aload0 x eX11_meets_19 ?_
      refine G_iload1 x eX11_meets_20 ?_
      refine G_push x eX11_meets_21 ?_
      refine G_icmp_ne x eX11_meets_22 (by first | omega | exact hr _ _ | exact hr0 _ _ | exact hrS _) (by first | omega | exact hr _ _ | exact hr0 _ _ | exact hrS _) (fun c22 => ?_) (fun c22 => ?_)
      · refine G_aload0 x eX11_meets_29 ?_
        refine G_getq x eX11_meets_30 fX11_40 rfl rfl hM.m hM.o_values ?_
        refine G_iload1 x eX11_meets_33 ?_
        refine G_lald x eX11_meets_34 rfl hM.t_values (by omega) (by omega) (by omega) ?_
        refine G_putl x eX11_meets_35 fX11_240 rfl (Or.inl rfl) rfl hM.m ?_
        refine G_return x en eX11_meets_38 (by omega) (by omega) ?_
        first | exact pv_i | (refine ⟨?_, rfl, rfl, rfl, rfl⟩; split <;> first | rfl | omega)
      · omega
    · omega
theorem uJ_uJ {J : gJ} {a : Nat} {k : Int} {x y : Int64} : uJ (uJ J a k x) a k y = uJ J a k y := by
  funext b j
  unfold uJ
  split <;> rfl
/-- the sum of some cells of a row, of a rectangle: the error, the sum -/
noncomputable def smC (V : Int → Int64) (E : Int → Int) (row : Int) : Nat → Int → Int64 → Int × Int64
  | 0, _, s => (0, s)
  | d + 1, col, s => if E (12 * row + col) = 0 then (if b01 (far (s + V (12 * row + col))) = 1 then (3, s + V (12 * row + col)) else smC V E row d (col + 1) (s + V (12 * row + col))) else (E (12 * row + col), s)
noncomputable def smR (V : Int → Int64) (E : Int → Int) (cd : Nat) (c0 : Int) : Nat → Int → Int64 → Int × Int64
  | 0, _, s => (0, s)
  | d + 1, row, s => if (smC V E row cd c0 s).1 = 0 then smR V E cd c0 d (row + 1) (smC V E row cd c0 s).2 else smC V E row cd c0 s
noncomputable def smF (V : Int → Int64) (E : Int → Int) (a b : Int) : Int × Int64 := smR V E (max (a % 12) (b % 12) - min (a % 12) (b % 12) + 1).toNat (min (a % 12) (b % 12)) (max (a / 12) (b / 12) - min (a / 12) (b / 12) + 1).toNat (min (a / 12) (b / 12)) 0
set_option maxHeartbeats 4000000 in
set_option maxRecDepth 20000 in
theorem ct_X11_sums {T : gT} {I : gI} {J : gJ} {O : gO} {mo : Nat} {a b : Int} (hM : MoAt T O mo) (h2 : 0 ≤ a ∧ a < 144) (h3 : 0 ≤ b ∧ b < 144) (h4 : I mo 25 = 0) : Ct yX11_sums cX11_sums 7 none [va_rf (some mo), VI a, VI b] 1 21 0 0 T I J O (pv none T (uI I mo 25 (smF (J (mo + 11)) (I (mo + 12)) a b).1) (uJ J mo 26 (smF (J (mo + 11)) (I (mo + 12)) a b).2) O) := by
  refine Ct.of (by decide) [some (va_rf (some mo)), some (VI a), some (VI b), none, none, none, none] (gEn1 (List.forall_mem_cons.mpr ⟨cat_VR _, List.forall_mem_cons.mpr ⟨cat_VI _, List.forall_mem_cons.mpr ⟨cat_VI _, fun _ h => nomatch h⟩⟩⟩) rfl (Nat.le_of_ble_eq_true rfl) rfl) ?_
  intro X x en rm ini hr hz
  have hr0 := hr
  generalize hres : smF (J (mo + 11)) (I (mo + 12)) a b = res at en
  have quit : ∀ (e row col : Int) (w s : Int64), e ≠ 0 → in32 e → in32 row → in32 col → row < 100 → col < 100 → res = (e, s) → G X 51 [some (va_rf (some mo)), some (VI a), some (VI b), some (.long s), none, some (VI row), some (VI col)] [] T (uI I mo 25 e) (uJ J mo 26 w) O 0 0 := by
    intro e row col w s he hi hrow hcol hrl hcl hr9
    rw [hr9] at en
    refine G_rg (fun hr => ?_)
    refine G_iload6 x eX11_sums_51 ?_
    refine G_iload1 x eX11_sums_53 ?_
    refine G_push x eX11_sums_54 ?_
    refine G_iremn x eX11_sums_56 (by omega) (by omega) (by omega) (by omega) ?_
    refine G_iload2 x eX11_sums_57 ?_
    refine G_push x eX11_sums_58 ?_
    refine G_iremn x eX11_sums_60 (by omega) (by omega) (by omega) (by omega) ?_
    refine G_cS x eX11_sums_61 kX11_208 sm_yX11_greatest rm (ct_X11_greatest (by first | omega | exact hr _ _ | exact hr0 _ _) (by first | omega | exact hr _ _ | exact hr0 _ _)) rfl ?_
    refine G_icmp_gt x eX11_sums_64 (by first | omega | exact hr _ _ | exact hr0 _ _ | exact hrS _) (by first | omega | exact hr _ _ | exact hr0 _ _ | exact hrS _) (fun c64 => ?_) (fun c64 => ?_)
    · refine G_iinc5 x eX11_sums_136 ?_
      refine G_goto x eX11_sums_139 ?_
      refine G_iload5 x eX11_sums_15 ?_
      refine G_iload1 x eX11_sums_17 ?_
      refine G_push x eX11_sums_18 ?_
      refine G_idivn x eX11_sums_20 (by omega) (by omega) (by omega) (by omega) ?_
      refine G_iload2 x eX11_sums_21 ?_
      refine G_push x eX11_sums_22 ?_
      refine G_idivn x eX11_sums_24 (by omega) (by omega) (by omega) (by omega) ?_
      refine G_cS x eX11_sums_25 kX11_208 sm_yX11_greatest rm (ct_X11_greatest (by first | omega | exact hr _ _ | exact hr0 _ _) (by first | omega | exact hr _ _ | exact hr0 _ _)) rfl ?_
      refine G_icmp_gt x eX11_sums_28 (by first | omega | exact hr _ _ | exact hr0 _ _ | exact hrS _) (by first | omega | exact hr _ _ | exact hr0 _ _ | exact hrS _) (fun c28 => ?_) (fun c28 => ?_)
      · refine G_aload0 x eX11_sums_142 ?_
        refine G_lload3 x eX11_sums_143 ?_
        refine G_putl x eX11_sums_144 fX11_240 rfl (Or.inl rfl) rfl hM.m ?_
        refine G_return x en eX11_sums_147 (by omega) (by omega) ?_
        rw [uJ_uJ]; exact pv_i
      · refine G_aload0 x eX11_sums_31 ?_
        refine G_geti x eX11_sums_32 fX11_237 rfl rfl hM.m (fun h32 => ?_)
        rw [uI_s]
        refine G_if_ne x eX11_sums_35 (by first | omega | exact hr _ _ | exact hr0 _ _ | exact hrS _) (fun c35 => ?_) (fun c35 => ?_)
        · refine G_aload0 x eX11_sums_142 ?_
          refine G_lload3 x eX11_sums_143 ?_
          refine G_putl x eX11_sums_144 fX11_240 rfl (Or.inl rfl) rfl hM.m ?_
          refine G_return x en eX11_sums_147 (by omega) (by omega) ?_
          rw [uJ_uJ]; exact pv_i
        · omega
    · refine G_aload0 x eX11_sums_67 ?_
      refine G_geti x eX11_sums_68 fX11_237 rfl rfl hM.m (fun h68 => ?_)
      rw [uI_s]
      refine G_if_ne x eX11_sums_71 (by first | omega | exact hr _ _ | exact hr0 _ _ | exact hrS _) (fun c71 => ?_) (fun c71 => ?_)
      · refine G_iinc5 x eX11_sums_136 ?_
        refine G_goto x eX11_sums_139 ?_
        refine G_iload5 x eX11_sums_15 ?_
        refine G_iload1 x eX11_sums_17 ?_
        refine G_push x eX11_sums_18 ?_
        refine G_idivn x eX11_sums_20 (by omega) (by omega) (by omega) (by omega) ?_
        refine G_iload2 x eX11_sums_21 ?_
        refine G_push x eX11_sums_22 ?_
        refine G_idivn x eX11_sums_24 (by omega) (by omega) (by omega) (by omega) ?_
        refine G_cS x eX11_sums_25 kX11_208 sm_yX11_greatest rm (ct_X11_greatest (by first | omega | exact hr _ _ | exact hr0 _ _) (by first | omega | exact hr _ _ | exact hr0 _ _)) rfl ?_
        refine G_icmp_gt x eX11_sums_28 (by first | omega | exact hr _ _ | exact hr0 _ _ | exact hrS _) (by first | omega | exact hr _ _ | exact hr0 _ _ | exact hrS _) (fun c28 => ?_) (fun c28 => ?_)
        · refine G_aload0 x eX11_sums_142 ?_
          refine G_lload3 x eX11_sums_143 ?_
          refine G_putl x eX11_sums_144 fX11_240 rfl (Or.inl rfl) rfl hM.m ?_
          refine G_return x en eX11_sums_147 (by omega) (by omega) ?_
          rw [uJ_uJ]; exact pv_i
        · refine G_aload0 x eX11_sums_31 ?_
          refine G_geti x eX11_sums_32 fX11_237 rfl rfl hM.m (fun h32 => ?_)
          rw [uI_s]
          refine G_if_ne x eX11_sums_35 (by first | omega | exact hr _ _ | exact hr0 _ _ | exact hrS _) (fun c35 => ?_) (fun c35 => ?_)
          · refine G_aload0 x eX11_sums_142 ?_
            refine G_lload3 x eX11_sums_143 ?_
            refine G_putl x eX11_sums_144 fX11_240 rfl (Or.inl rfl) rfl hM.m ?_
            refine G_return x en eX11_sums_147 (by omega) (by omega) ?_
            rw [uJ_uJ]; exact pv_i
          · omega
      · omega
  have inner : ∀ (d dr : Nat) (row col e : Int) (w s : Int64), d = (max (a % 12) (b % 12) + 1 - col).toNat → dr = (max (a / 12) (b / 12) - row).toNat → min (a / 12) (b / 12) ≤ row → row ≤ max (a / 12) (b / 12) → min (a % 12) (b % 12) ≤ col → col ≤ max (a % 12) (b % 12) + 1 → e = 0 →
      res = (if (smC (J (mo + 11)) (I (mo + 12)) row d col s).1 = 0 then smR (J (mo + 11)) (I (mo + 12)) (max (a % 12) (b % 12) - min (a % 12) (b % 12) + 1).toNat (min (a % 12) (b % 12)) dr (row + 1) (smC (J (mo + 11)) (I (mo + 12)) row d col s).2 else smC (J (mo + 11)) (I (mo + 12)) row d col s) →
      (∀ (s w : Int64) (o6 : Option Value), res = smR (J (mo + 11)) (I (mo + 12)) (max (a % 12) (b % 12) - min (a % 12) (b % 12) + 1).toNat (min (a % 12) (b % 12)) dr (row + 1) s → G X 15 [some (va_rf (some mo)), some (VI a), some (VI b), some (.long s), none, some (VI (row + 1)), o6] [] T (uI I mo 25 0) (uJ J mo 26 w) O 0 0) →
      G X 51 [some (va_rf (some mo)), some (VI a), some (VI b), some (.long s), none, some (VI row), some (VI col)] [] T (uI I mo 25 e) (uJ J mo 26 w) O 0 0 := by
    intro d
    induction d with
    | zero =>
      intro dr row col e w s hd hdr r0 r1 q0 q1 he hr9 kk
      subst he
      refine G_rg (fun hr => ?_)
      refine G_iload6 x eX11_sums_51 ?_
      refine G_iload1 x eX11_sums_53 ?_
      refine G_push x eX11_sums_54 ?_
      refine G_iremn x eX11_sums_56 (by omega) (by omega) (by omega) (by omega) ?_
      refine G_iload2 x eX11_sums_57 ?_
      refine G_push x eX11_sums_58 ?_
      refine G_iremn x eX11_sums_60 (by omega) (by omega) (by omega) (by omega) ?_
      refine G_cS x eX11_sums_61 kX11_208 sm_yX11_greatest rm (ct_X11_greatest (by first | omega | exact hr _ _ | exact hr0 _ _) (by first | omega | exact hr _ _ | exact hr0 _ _)) rfl ?_
      refine G_icmp_gt x eX11_sums_64 (by first | omega | exact hr _ _ | exact hr0 _ _ | exact hrS _) (by first | omega | exact hr _ _ | exact hr0 _ _ | exact hrS _) (fun c64 => ?_) (fun c64 => ?_)
      · refine G_iinc5 x eX11_sums_136 ?_
        refine G_goto x eX11_sums_139 ?_
        first | (exfalso; omega) | exact kk _ _ _ hr9
      · refine G_aload0 x eX11_sums_67 ?_
        refine G_geti x eX11_sums_68 fX11_237 rfl rfl hM.m (fun h68 => ?_)
        rw [uI_s]
        refine G_if_ne x eX11_sums_71 (by first | omega | exact hr _ _ | exact hr0 _ _ | exact hrS _) (fun c71 => ?_) (fun c71 => ?_)
        · refine G_iinc5 x eX11_sums_136 ?_
          refine G_goto x eX11_sums_139 ?_
          first | (exfalso; omega) | exact kk _ _ _ hr9
        · omega
    | succ d ih =>
      intro dr row col e w s hd hdr r0 r1 q0 q1 he hr9 kk
      subst he
      have hx : in32 (I (mo + 12) (12 * row + col)) := hr0 _ _
      have hmE : meE (uI I mo 25 0) mo (12 * row + col) = I (mo + 12) (12 * row + col) := by unfold meE; rw [if_neg (by omega), uI_a (by omega)]
      have hmV : meV (uJ J mo 26 w) mo (12 * row + col) = J (mo + 11) (12 * row + col) := by unfold meV; rw [if_neg (by omega), uJ_a (by omega)]
      have hC : smC (J (mo + 11)) (I (mo + 12)) row (d + 1) col s = if I (mo + 12) (12 * row + col) = 0 then (if b01 (far (s + J (mo + 11) (12 * row + col))) = 1 then (3, s + J (mo + 11) (12 * row + col)) else smC (J (mo + 11)) (I (mo + 12)) row d (col + 1) (s + J (mo + 11) (12 * row + col))) else (I (mo + 12) (12 * row + col), s) := rfl
      rw [hC] at hr9
      have go : G X 86 [some (va_rf (some mo)), some (VI a), some (VI b), some (.long s), none, some (VI row), some (VI col)] [] T (uI I mo 25 (I (mo + 12) (12 * row + col))) (uJ J mo 26 (J (mo + 11) (12 * row + col))) O 0 0 := by
        by_cases e0 : I (mo + 12) (12 * row + col) = 0
        · rw [if_pos e0] at hr9
          rw [e0]
          by_cases ef : far (s + J (mo + 11) (12 * row + col))
          · rw [b01_t ef, if_pos rfl, if_neg (show ¬ (3 : Int) = 0 by decide)] at hr9
            refine G_rg (fun hr => ?_)
            refine G_lload3 x eX11_sums_86 ?_
            refine G_aload0 x eX11_sums_87 ?_
            refine G_geti x eX11_sums_88 fX11_237 rfl rfl hM.m (fun h88 => ?_)
            rw [uI_s]
            refine G_if_ne x eX11_sums_91 (by first | omega | exact hr _ _ | exact hr0 _ _ | exact hrS _) (fun c91 => ?_) (fun c91 => ?_)
            · omega
            · refine G_aload0 x eX11_sums_94 ?_
              refine G_getl x eX11_sums_95 fX11_240 rfl rfl hM.m ?_
              refine G_goto x eX11_sums_98 ?_
              first | rw [uJ_s] | skip
              refine G_ladd x eX11_sums_102 ?_
              refine G_lstore3 x eX11_sums_103 ?_
              refine G_aload0 x eX11_sums_104 ?_
              refine G_aload0 x eX11_sums_105 ?_
              refine G_geti x eX11_sums_106 fX11_237 rfl rfl hM.m (fun h106 => ?_)
              rw [uI_s]
              refine G_if_ne x eX11_sums_109 (by first | omega | exact hr _ _ | exact hr0 _ _ | exact hrS _) (fun c109 => ?_) (fun c109 => ?_)
              · omega
              · refine G_lload3 x eX11_sums_112 ?_
                refine G_cS x eX11_sums_113 kX11_247 sm_yX11_isFar rm ct_X11_isFar rfl ?_
                rw [b01_t ef]
                refine G_if_eq x eX11_sums_116 (by omega) (fun c116 => ?_) (fun c116 => ?_)
                · omega
                · refine G_push x eX11_sums_119 ?_
                  refine G_goto x eX11_sums_120 ?_
                  refine G_puti x eX11_sums_127 fX11_237 rfl (Or.inl rfl) rfl hM.m (by first | omega | exact hr _ _ | exact hr0 _ _ | exact hrS _) ?_
                  refine G_rg (fun hr => ?_)
                  refine G_iinc6 x eX11_sums_130 ?_
                  refine G_goto x eX11_sums_133 ?_
                  rw [uI_uI]; exact quit _ _ _ _ _ (by omega) (by omega) (by omega) (by omega) (by omega) (by omega) hr9
          · rw [b01_f ef, if_neg (show ¬ (0 : Int) = 1 by decide)] at hr9
            refine G_rg (fun hr => ?_)
            refine G_lload3 x eX11_sums_86 ?_
            refine G_aload0 x eX11_sums_87 ?_
            refine G_geti x eX11_sums_88 fX11_237 rfl rfl hM.m (fun h88 => ?_)
            rw [uI_s]
            refine G_if_ne x eX11_sums_91 (by first | omega | exact hr _ _ | exact hr0 _ _ | exact hrS _) (fun c91 => ?_) (fun c91 => ?_)
            · omega
            · refine G_aload0 x eX11_sums_94 ?_
              refine G_getl x eX11_sums_95 fX11_240 rfl rfl hM.m ?_
              refine G_goto x eX11_sums_98 ?_
              first | rw [uJ_s] | skip
              refine G_ladd x eX11_sums_102 ?_
              refine G_lstore3 x eX11_sums_103 ?_
              refine G_aload0 x eX11_sums_104 ?_
              refine G_aload0 x eX11_sums_105 ?_
              refine G_geti x eX11_sums_106 fX11_237 rfl rfl hM.m (fun h106 => ?_)
              rw [uI_s]
              refine G_if_ne x eX11_sums_109 (by first | omega | exact hr _ _ | exact hr0 _ _ | exact hrS _) (fun c109 => ?_) (fun c109 => ?_)
              · refine G_aload0 x eX11_sums_123 ?_
                refine G_geti x eX11_sums_124 fX11_237 rfl rfl hM.m (fun h124 => ?_)
                rw [uI_s]
                refine G_puti x eX11_sums_127 fX11_237 rfl (Or.inl rfl) rfl hM.m (by first | omega | exact hr _ _ | exact hr0 _ _ | exact hrS _) ?_
                refine G_rg (fun hr => ?_)
                refine G_iinc6 x eX11_sums_130 ?_
                refine G_goto x eX11_sums_133 ?_
                first | (exfalso; omega) | (rw [uI_uI]; exact ih _ _ _ _ _ _ (by omega) hdr r0 r1 (by omega) (by omega) rfl hr9 kk)
              · refine G_lload3 x eX11_sums_112 ?_
                refine G_cS x eX11_sums_113 kX11_247 sm_yX11_isFar rm ct_X11_isFar rfl ?_
                rw [b01_f ef]
                refine G_if_eq x eX11_sums_116 (by omega) (fun c116 => ?_) (fun c116 => ?_)
                · refine G_aload0 x eX11_sums_123 ?_
                  refine G_geti x eX11_sums_124 fX11_237 rfl rfl hM.m (fun h124 => ?_)
                  rw [uI_s]
                  refine G_puti x eX11_sums_127 fX11_237 rfl (Or.inl rfl) rfl hM.m (by first | omega | exact hr _ _ | exact hr0 _ _ | exact hrS _) ?_
                  refine G_rg (fun hr => ?_)
                  refine G_iinc6 x eX11_sums_130 ?_
                  refine G_goto x eX11_sums_133 ?_
                  first | (exfalso; omega) | (rw [uI_uI]; exact ih _ _ _ _ _ _ (by omega) hdr r0 r1 (by omega) (by omega) rfl hr9 kk)
                · omega
        · rw [if_neg e0, if_neg e0] at hr9
          refine G_rg (fun hr => ?_)
          refine G_lload3 x eX11_sums_86 ?_
          refine G_aload0 x eX11_sums_87 ?_
          refine G_geti x eX11_sums_88 fX11_237 rfl rfl hM.m (fun h88 => ?_)
          rw [uI_s]
          refine G_if_ne x eX11_sums_91 (by first | omega | exact hr _ _ | exact hr0 _ _ | exact hrS _) (fun c91 => ?_) (fun c91 => ?_)
          · refine G_lconst x eX11_sums_101 ?_
            refine G_ladd x eX11_sums_102 ?_
            refine G_lstore3 x eX11_sums_103 ?_
            refine G_aload0 x eX11_sums_104 ?_
            refine G_aload0 x eX11_sums_105 ?_
            refine G_geti x eX11_sums_106 fX11_237 rfl rfl hM.m (fun h106 => ?_)
            rw [uI_s]
            refine G_if_ne x eX11_sums_109 (by first | omega | exact hr _ _ | exact hr0 _ _ | exact hrS _) (fun c109 => ?_) (fun c109 => ?_)
            · refine G_aload0 x eX11_sums_123 ?_
              refine G_geti x eX11_sums_124 fX11_237 rfl rfl hM.m (fun h124 => ?_)
              rw [uI_s]
              refine G_puti x eX11_sums_127 fX11_237 rfl (Or.inl rfl) rfl hM.m (by first | omega | exact hr _ _ | exact hr0 _ _ | exact hrS _) ?_
              refine G_rg (fun hr => ?_)
              refine G_iinc6 x eX11_sums_130 ?_
              refine G_goto x eX11_sums_133 ?_
              rw [uI_uI]; refine quit _ _ _ _ _ e0 (by omega) (by omega) (by omega) (by omega) (by omega) ?_; rw [hr9]; exact congrArg (Prod.mk _) (Int64.add_zero s).symm
            · omega
          · omega
      refine G_rg (fun hr => ?_)
      refine G_iload6 x eX11_sums_51 ?_
      refine G_iload1 x eX11_sums_53 ?_
      refine G_push x eX11_sums_54 ?_
      refine G_iremn x eX11_sums_56 (by omega) (by omega) (by omega) (by omega) ?_
      refine G_iload2 x eX11_sums_57 ?_
      refine G_push x eX11_sums_58 ?_
      refine G_iremn x eX11_sums_60 (by omega) (by omega) (by omega) (by omega) ?_
      refine G_cS x eX11_sums_61 kX11_208 sm_yX11_greatest rm (ct_X11_greatest (by first | omega | exact hr _ _ | exact hr0 _ _) (by first | omega | exact hr _ _ | exact hr0 _ _)) rfl ?_
      refine G_icmp_gt x eX11_sums_64 (by first | omega | exact hr _ _ | exact hr0 _ _ | exact hrS _) (by first | omega | exact hr _ _ | exact hr0 _ _ | exact hrS _) (fun c64 => ?_) (fun c64 => ?_)
      · first | omega | (rw [uI_s] at c71; omega)
      · refine G_aload0 x eX11_sums_67 ?_
        refine G_geti x eX11_sums_68 fX11_237 rfl rfl hM.m (fun h68 => ?_)
        refine G_if_ne x eX11_sums_71 (by first | omega | exact hr _ _ | exact hr0 _ _ | exact hrS _) (fun c71 => ?_) (fun c71 => ?_)
        · first | omega | (rw [uI_s] at c71; omega)
        · refine G_aload0 x eX11_sums_74 ?_
          refine G_push x eX11_sums_75 ?_
          refine G_iload5 x eX11_sums_77 ?_
          refine G_imul x eX11_sums_79 ?_
          refine G_iload6 x eX11_sums_80 ?_
          refine G_iadd x eX11_sums_82 ?_
          refine G_cVv x eX11_sums_83 kX11_244 im_yX11_meets se_yX11_meets rm hM.m (ct_X11_meets hM (by omega) (by omega)) rfl ?_
          refine G_rg (fun hr => ?_)
          rw [uI_uI, uJ_uJ, hmE, hmV]; exact go
  have outer : ∀ (dr : Nat) (row e : Int) (w s : Int64) (o6 : Option Value), dr = (max (a / 12) (b / 12) + 1 - row).toNat → min (a / 12) (b / 12) ≤ row → row ≤ max (a / 12) (b / 12) + 1 → res = smR (J (mo + 11)) (I (mo + 12)) (max (a % 12) (b % 12) - min (a % 12) (b % 12) + 1).toNat (min (a % 12) (b % 12)) dr row s → G X 15 [some (va_rf (some mo)), some (VI a), some (VI b), some (.long s), none, some (VI row), o6] [] T (uI I mo 25 0) (uJ J mo 26 w) O 0 0 := by
    intro dr
    induction dr with
    | zero =>
      intro row e w s o6 hd r0 r1 hr9
      have hr8 : res = (0, s) := hr9
      rw [hr8] at en
      refine G_rg (fun hr => ?_)
      refine G_iload5 x eX11_sums_15 ?_
      refine G_iload1 x eX11_sums_17 ?_
      refine G_push x eX11_sums_18 ?_
      refine G_idivn x eX11_sums_20 (by omega) (by omega) (by omega) (by omega) ?_
      refine G_iload2 x eX11_sums_21 ?_
      refine G_push x eX11_sums_22 ?_
      refine G_idivn x eX11_sums_24 (by omega) (by omega) (by omega) (by omega) ?_
      refine G_cS x eX11_sums_25 kX11_208 sm_yX11_greatest rm (ct_X11_greatest (by first | omega | exact hr _ _ | exact hr0 _ _) (by first | omega | exact hr _ _ | exact hr0 _ _)) rfl ?_
      refine G_icmp_gt x eX11_sums_28 (by first | omega | exact hr _ _ | exact hr0 _ _ | exact hrS _) (by first | omega | exact hr _ _ | exact hr0 _ _ | exact hrS _) (fun c28 => ?_) (fun c28 => ?_)
      · refine G_aload0 x eX11_sums_142 ?_
        refine G_lload3 x eX11_sums_143 ?_
        refine G_putl x eX11_sums_144 fX11_240 rfl (Or.inl rfl) rfl hM.m ?_
        refine G_return x en eX11_sums_147 (by omega) (by omega) ?_
        rw [uJ_uJ]; exact pv_i
      · omega
    | succ dr ih =>
      intro row e w s o6 hd r0 r1 hr9
      refine G_rg (fun hr => ?_)
      refine G_iload5 x eX11_sums_15 ?_
      refine G_iload1 x eX11_sums_17 ?_
      refine G_push x eX11_sums_18 ?_
      refine G_idivn x eX11_sums_20 (by omega) (by omega) (by omega) (by omega) ?_
      refine G_iload2 x eX11_sums_21 ?_
      refine G_push x eX11_sums_22 ?_
      refine G_idivn x eX11_sums_24 (by omega) (by omega) (by omega) (by omega) ?_
      refine G_cS x eX11_sums_25 kX11_208 sm_yX11_greatest rm (ct_X11_greatest (by first | omega | exact hr _ _ | exact hr0 _ _) (by first | omega | exact hr _ _ | exact hr0 _ _)) rfl ?_
      refine G_icmp_gt x eX11_sums_28 (by first | omega | exact hr _ _ | exact hr0 _ _ | exact hrS _) (by first | omega | exact hr _ _ | exact hr0 _ _ | exact hrS _) (fun c28 => ?_) (fun c28 => ?_)
      · omega
      · refine G_aload0 x eX11_sums_31 ?_
        refine G_geti x eX11_sums_32 fX11_237 rfl rfl hM.m (fun h32 => ?_)
        rw [uI_s]
        refine G_if_ne x eX11_sums_35 (by first | omega | exact hr _ _ | exact hr0 _ _ | exact hrS _) (fun c35 => ?_) (fun c35 => ?_)
        · omega
        · refine G_iload1 x eX11_sums_38 ?_
          refine G_push x eX11_sums_39 ?_
          refine G_iremn x eX11_sums_41 (by omega) (by omega) (by omega) (by omega) ?_
          refine G_iload2 x eX11_sums_42 ?_
          refine G_push x eX11_sums_43 ?_
          refine G_iremn x eX11_sums_45 (by omega) (by omega) (by omega) (by omega) ?_
          refine G_cS x eX11_sums_46 kX11_205 sm_yX11_least rm (ct_X11_least (by first | omega | exact hr _ _ | exact hr0 _ _) (by first | omega | exact hr _ _ | exact hr0 _ _)) rfl ?_
          refine G_istore6 x eX11_sums_49 ?_
          exact inner (max (a % 12) (b % 12) - min (a % 12) (b % 12) + 1).toNat dr _ _ _ _ _ (by omega) (by omega) r0 (by omega) (by omega) (by omega) rfl hr9 (fun s w o6 h => ih _ 0 _ _ _ (by omega) (by omega) (by omega) h)
  have h9 := outer (max (a / 12) (b / 12) - min (a / 12) (b / 12) + 1).toNat (min (a / 12) (b / 12)) 0 (J mo 26) 0 none (by omega) (by omega) (by omega) hres.symm
  have eI : uI I mo 25 0 = I := uI_id h4
  have eJ : uJ J mo 26 (J mo 26) = J := by
    funext b j
    unfold uJ
    split
    · next e => rw [e.1, e.2]
    · rfl
  rw [eI, eJ] at h9
  refine G_rg (fun hr => ?_)
  refine G_lconst x eX11_sums_0 ?_
  refine G_lstore3 x eX11_sums_1 ?_
  refine G_iload1 x eX11_sums_2 ?_
  refine G_push x eX11_sums_3 ?_
  refine G_idivn x eX11_sums_5 (by omega) (by omega) (by omega) (by omega) ?_
  refine G_iload2 x eX11_sums_6 ?_
  refine G_push x eX11_sums_7 ?_
  refine G_idivn x eX11_sums_9 (by omega) (by omega) (by omega) (by omega) ?_
  refine G_cS x eX11_sums_10 kX11_205 sm_yX11_least rm (ct_X11_least (by first | omega | exact hr _ _ | exact hr0 _ _) (by first | omega | exact hr _ _ | exact hr0 _ _)) rfl ?_
  refine G_istore5 x eX11_sums_13 ?_
  exact h9
/-- the factor at a place of the signs: the place behind it, the error, the value -/
noncomputable def rkF (S : Int → Int) (r id : Int) (V : Int → Int64) (E : Int → Int) (k : Int) (w : Int64) : Int × Int × Int64 :=
  if S (3 + 32 * id + (8 + k)) = -4 then
    (k + 3, if snS S r (S (3 + 32 * id + (8 + k + 1))) = -1 ∨ snS S r (S (3 + 32 * id + (8 + k + 2))) = -1 then (2, w) else smF V E (snS S r (S (3 + 32 * id + (8 + k + 1)))) (snS S r (S (3 + 32 * id + (8 + k + 2)))))
  else if 10000 ≤ S (3 + 32 * id + (8 + k)) then (k + 1, if snS S r (S (3 + 32 * id + (8 + k))) = -1 then (2, 0) else (E (snS S r (S (3 + 32 * id + (8 + k)))), V (snS S r (S (3 + 32 * id + (8 + k))))))
  else (k + 1, 0, Int64.ofInt (S (3 + 32 * id + (8 + k))))
set_option maxHeartbeats 4000000 in
set_option maxRecDepth 20000 in
theorem ct_X11_reckons {T : gT} {I : gI} {J : gJ} {O : gO} {mo : Nat} {S : Int → Int} {r id k : Int} (hM : MoAt T O mo) (hL : lkO I mo S r) (h0 : 0 ≤ id) (h1 : id < 120) (hs : sgOk S id) (k0 : 0 ≤ k) (k1 : k < S (3 + 32 * id + 7)) (h4 : I mo 25 = 0) : Ct yX11_reckons cX11_reckons 6 (some .int) [va_rf (some mo), VI id, VI k] 2 47 0 0 T I J O (pv (some (VI (rkF S r id (J (mo + 11)) (I (mo + 12)) k (J mo 26)).1)) T (uI I mo 25 (rkF S r id (J (mo + 11)) (I (mo + 12)) k (J mo 26)).2.1) (uJ J mo 26 (rkF S r id (J (mo + 11)) (I (mo + 12)) k (J mo 26)).2.2) O) := by
  refine Ct.of (by decide) [some (va_rf (some mo)), some (VI id), some (VI k), none, none, none] (gEn1 (List.forall_mem_cons.mpr ⟨cat_VR _, List.forall_mem_cons.mpr ⟨cat_VI _, List.forall_mem_cons.mpr ⟨cat_VI _, fun _ h => nomatch h⟩⟩⟩) rfl (Nat.le_of_ble_eq_true rfl) rfl) ?_
  intro X x en rm ini hr hz
  have hr0 := hr
  have hrS : ∀ (j : Int), in32 (S j) := fun j => by rw [← hL.1]; exact hr _ _
  obtain ⟨s0, s1, s2⟩ := hs
  have nb : ∀ g, snS S r g = -1 ∨ (0 ≤ snS S r g ∧ snS S r g < 144) := fun g => by
    rcases snS_b (S := S) (r := r) (g := g) with e | e
    · exact Or.inl e
    · exact Or.inr e.b
  have eI : ∀ e, e = 0 → uI I mo 25 e = I := fun e he => uI_id (h4.trans he.symm)
  have eJ : uJ J mo 26 (J mo 26) = J := by
    funext b j
    unfold uJ
    split
    · next e => rw [e.1, e.2]
    · rfl
  unfold rkF at en
  refine G_aload0 x eX11_reckons_0 ?_
  refine G_iload1 x eX11_reckons_1 ?_
  refine G_push x eX11_reckons_2 ?_
  refine G_iload2 x eX11_reckons_4 ?_
  refine G_iadd x eX11_reckons_5 ?_
  refine G_cV x eX11_reckons_6 kX11_105 im_yX11_op se_yX11_op rm hM.m (ct_X11_op hM (by omega) (by omega)) rfl ?_
  rw [hL.1]
  by_cases e4 : S (3 + 32 * id + (8 + k)) = -4
  · rw [if_pos e4] at en
    have hg := s2 k k0 k1 e4
    have nb1 := nb (S (3 + 32 * id + (8 + k + 1)))
    have nb2 := nb (S (3 + 32 * id + (8 + k + 2)))
    by_cases e5 : snS S r (S (3 + 32 * id + (8 + k + 1))) = -1 ∨ snS S r (S (3 + 32 * id + (8 + k + 2))) = -1
    · rw [if_pos e5] at en
      rw [eJ] at en
      refine G_rg (fun hr => ?_)
      refine G_istore3 x eX11_reckons_9 ?_
      refine G_iload3 x eX11_reckons_10 ?_
      refine G_push x eX11_reckons_11 ?_
      refine G_icmp_ne x eX11_reckons_13 (by first | omega | exact hr _ _ | exact hr0 _ _ | exact hrS _) (by first | omega | exact hr _ _ | exact hr0 _ _ | exact hrS _) (fun c13 => ?_) (fun c13 => ?_)
      · omega
      · refine G_aload0 x eX11_reckons_16 ?_
        refine G_aload0 x eX11_reckons_17 ?_
        refine G_iload1 x eX11_reckons_18 ?_
        refine G_push x eX11_reckons_19 ?_
        refine G_iload2 x eX11_reckons_21 ?_
        refine G_iadd x eX11_reckons_22 ?_
        refine G_push x eX11_reckons_23 ?_
        refine G_iadd x eX11_reckons_24 ?_
        refine G_cV x eX11_reckons_25 kX11_105 im_yX11_op se_yX11_op rm hM.m (ct_X11_op hM (by omega) (by omega)) rfl ?_
        rw [hL.1]
        refine G_cV x eX11_reckons_28 kX11_199 im_yX11_seen se_yX11_seen rm hM.m (ct_X11_seen hM hL (by omega) (by first | omega | exact hr _ _ | exact hr0 _ _ | exact hrS _)) rfl ?_
        refine G_istore4 x eX11_reckons_31 ?_
        refine G_aload0 x eX11_reckons_33 ?_
        refine G_aload0 x eX11_reckons_34 ?_
        refine G_iload1 x eX11_reckons_35 ?_
        refine G_push x eX11_reckons_36 ?_
        refine G_iload2 x eX11_reckons_38 ?_
        refine G_iadd x eX11_reckons_39 ?_
        refine G_push x eX11_reckons_40 ?_
        refine G_iadd x eX11_reckons_41 ?_
        refine G_cV x eX11_reckons_42 kX11_105 im_yX11_op se_yX11_op rm hM.m (ct_X11_op hM (by omega) (by omega)) rfl ?_
        rw [hL.1]
        refine G_cV x eX11_reckons_45 kX11_199 im_yX11_seen se_yX11_seen rm hM.m (ct_X11_seen hM hL (by omega) (by first | omega | exact hr _ _ | exact hr0 _ _ | exact hrS _)) rfl ?_
        refine G_istore5 x eX11_reckons_48 ?_
        refine G_aload0 x eX11_reckons_50 ?_
        refine G_iload4 x eX11_reckons_51 ?_
        refine G_push x eX11_reckons_53 ?_
        refine G_icmp_eq x eX11_reckons_54 (by first | omega | exact hr _ _ | exact hr0 _ _ | exact hrS _) (by first | omega | exact hr _ _ | exact hr0 _ _ | exact hrS _) (fun c54 => ?_) (fun c54 => ?_)
        · refine G_push x eX11_reckons_63 ?_
          refine G_goto x eX11_reckons_64 ?_
          refine G_puti x eX11_reckons_68 fX11_237 rfl (Or.inl rfl) rfl hM.m (by first | omega | exact hr _ _ | exact hr0 _ _ | exact hrS _) ?_
          refine G_rg (fun hr => ?_)
          refine G_aload0 x eX11_reckons_71 ?_
          refine G_geti x eX11_reckons_72 fX11_237 rfl rfl hM.m (fun h72 => ?_)
          rw [uI_s]
          refine G_if_ne x eX11_reckons_75 (by first | omega | exact hr _ _ | exact hr0 _ _ | exact hrS _) (fun c75 => ?_) (fun c75 => ?_)
          · refine G_iload2 x eX11_reckons_86 ?_
            refine G_push x eX11_reckons_87 ?_
            refine G_iadd x eX11_reckons_88 ?_
            refine G_ireturn x en eX11_reckons_89 (by omega) (by omega) ?_
            exact pv_i
          · omega
        · refine G_iload5 x eX11_reckons_57 ?_
          refine G_push x eX11_reckons_59 ?_
          refine G_icmp_ne x eX11_reckons_60 (by first | omega | exact hr _ _ | exact hr0 _ _ | exact hrS _) (by first | omega | exact hr _ _ | exact hr0 _ _ | exact hrS _) (fun c60 => ?_) (fun c60 => ?_)
          · omega
          · refine G_push x eX11_reckons_63 ?_
            refine G_goto x eX11_reckons_64 ?_
            refine G_puti x eX11_reckons_68 fX11_237 rfl (Or.inl rfl) rfl hM.m (by first | omega | exact hr _ _ | exact hr0 _ _ | exact hrS _) ?_
            refine G_rg (fun hr => ?_)
            refine G_aload0 x eX11_reckons_71 ?_
            refine G_geti x eX11_reckons_72 fX11_237 rfl rfl hM.m (fun h72 => ?_)
            rw [uI_s]
            refine G_if_ne x eX11_reckons_75 (by first | omega | exact hr _ _ | exact hr0 _ _ | exact hrS _) (fun c75 => ?_) (fun c75 => ?_)
            · refine G_iload2 x eX11_reckons_86 ?_
              refine G_push x eX11_reckons_87 ?_
              refine G_iadd x eX11_reckons_88 ?_
              refine G_ireturn x en eX11_reckons_89 (by omega) (by omega) ?_
              exact pv_i
            · omega
    · rw [if_neg e5] at en
      refine G_rg (fun hr => ?_)
      refine G_istore3 x eX11_reckons_9 ?_
      refine G_iload3 x eX11_reckons_10 ?_
      refine G_push x eX11_reckons_11 ?_
      refine G_icmp_ne x eX11_reckons_13 (by first | omega | exact hr _ _ | exact hr0 _ _ | exact hrS _) (by first | omega | exact hr _ _ | exact hr0 _ _ | exact hrS _) (fun c13 => ?_) (fun c13 => ?_)
      · omega
      · refine G_aload0 x eX11_reckons_16 ?_
        refine G_aload0 x eX11_reckons_17 ?_
        refine G_iload1 x eX11_reckons_18 ?_
        refine G_push x eX11_reckons_19 ?_
        refine G_iload2 x eX11_reckons_21 ?_
        refine G_iadd x eX11_reckons_22 ?_
        refine G_push x eX11_reckons_23 ?_
        refine G_iadd x eX11_reckons_24 ?_
        refine G_cV x eX11_reckons_25 kX11_105 im_yX11_op se_yX11_op rm hM.m (ct_X11_op hM (by omega) (by omega)) rfl ?_
        rw [hL.1]
        refine G_cV x eX11_reckons_28 kX11_199 im_yX11_seen se_yX11_seen rm hM.m (ct_X11_seen hM hL (by omega) (by first | omega | exact hr _ _ | exact hr0 _ _ | exact hrS _)) rfl ?_
        refine G_istore4 x eX11_reckons_31 ?_
        refine G_aload0 x eX11_reckons_33 ?_
        refine G_aload0 x eX11_reckons_34 ?_
        refine G_iload1 x eX11_reckons_35 ?_
        refine G_push x eX11_reckons_36 ?_
        refine G_iload2 x eX11_reckons_38 ?_
        refine G_iadd x eX11_reckons_39 ?_
        refine G_push x eX11_reckons_40 ?_
        refine G_iadd x eX11_reckons_41 ?_
        refine G_cV x eX11_reckons_42 kX11_105 im_yX11_op se_yX11_op rm hM.m (ct_X11_op hM (by omega) (by omega)) rfl ?_
        rw [hL.1]
        refine G_cV x eX11_reckons_45 kX11_199 im_yX11_seen se_yX11_seen rm hM.m (ct_X11_seen hM hL (by omega) (by first | omega | exact hr _ _ | exact hr0 _ _ | exact hrS _)) rfl ?_
        refine G_istore5 x eX11_reckons_48 ?_
        refine G_aload0 x eX11_reckons_50 ?_
        refine G_iload4 x eX11_reckons_51 ?_
        refine G_push x eX11_reckons_53 ?_
        refine G_icmp_eq x eX11_reckons_54 (by first | omega | exact hr _ _ | exact hr0 _ _ | exact hrS _) (by first | omega | exact hr _ _ | exact hr0 _ _ | exact hrS _) (fun c54 => ?_) (fun c54 => ?_)
        · omega
        · refine G_iload5 x eX11_reckons_57 ?_
          refine G_push x eX11_reckons_59 ?_
          refine G_icmp_ne x eX11_reckons_60 (by first | omega | exact hr _ _ | exact hr0 _ _ | exact hrS _) (by first | omega | exact hr _ _ | exact hr0 _ _ | exact hrS _) (fun c60 => ?_) (fun c60 => ?_)
          · refine G_push x eX11_reckons_67 ?_
            refine G_puti x eX11_reckons_68 fX11_237 rfl (Or.inl rfl) rfl hM.m (by first | omega | exact hr _ _ | exact hr0 _ _ | exact hrS _) ?_
            refine G_rg (fun hr => ?_)
            rw [eI 0 rfl]
            refine G_aload0 x eX11_reckons_71 ?_
            refine G_geti x eX11_reckons_72 fX11_237 rfl rfl hM.m (fun h72 => ?_)
            rw [h4]
            refine G_if_ne x eX11_reckons_75 (by first | omega | exact hr _ _ | exact hr0 _ _ | exact hrS _) (fun c75 => ?_) (fun c75 => ?_)
            · refine G_iload2 x eX11_reckons_86 ?_
              refine G_push x eX11_reckons_87 ?_
              refine G_iadd x eX11_reckons_88 ?_
              refine G_ireturn x en eX11_reckons_89 (by omega) (by omega) ?_
              first | (exfalso; omega) | exact pv_i
            · refine G_aload0 x eX11_reckons_78 ?_
              refine G_iload4 x eX11_reckons_79 ?_
              refine G_iload5 x eX11_reckons_81 ?_
              refine G_cVv x eX11_reckons_83 kX11_251 im_yX11_sums se_yX11_sums rm hM.m (ct_X11_sums hM (by omega) (by omega) h4) rfl ?_
              refine G_iload2 x eX11_reckons_86 ?_
              refine G_push x eX11_reckons_87 ?_
              refine G_iadd x eX11_reckons_88 ?_
              refine G_ireturn x en eX11_reckons_89 (by omega) (by omega) ?_
              first | (exfalso; omega) | exact pv_i
          · omega
  · rw [if_neg e4] at en
    by_cases e5 : 10000 ≤ S (3 + 32 * id + (8 + k))
    · rw [if_pos e5] at en
      have nb1 := nb (S (3 + 32 * id + (8 + k)))
      have e6 : (if snS S r (S (3 + 32 * id + (8 + k))) = -1 then ((2 : Int), (0 : Int64)) else (I (mo + 12) (snS S r (S (3 + 32 * id + (8 + k)))), J (mo + 11) (snS S r (S (3 + 32 * id + (8 + k)))))) = (meE I mo (snS S r (S (3 + 32 * id + (8 + k)))), meV J mo (snS S r (S (3 + 32 * id + (8 + k))))) := by
        unfold meE meV
        split <;> rfl
      rw [e6] at en
      refine G_rg (fun hr => ?_)
      refine G_istore3 x eX11_reckons_9 ?_
      refine G_iload3 x eX11_reckons_10 ?_
      refine G_push x eX11_reckons_11 ?_
      refine G_icmp_ne x eX11_reckons_13 (by first | omega | exact hr _ _ | exact hr0 _ _ | exact hrS _) (by first | omega | exact hr _ _ | exact hr0 _ _ | exact hrS _) (fun c13 => ?_) (fun c13 => ?_)
      · refine G_iload3 x eX11_reckons_90 ?_
        refine G_push x eX11_reckons_91 ?_
        refine G_icmp_lt x eX11_reckons_94 (by first | omega | exact hr _ _ | exact hr0 _ _ | exact hrS _) (by first | omega | exact hr _ _ | exact hr0 _ _ | exact hrS _) (fun c94 => ?_) (fun c94 => ?_)
        · omega
        · refine G_aload0 x eX11_reckons_97 ?_
          refine G_aload0 x eX11_reckons_98 ?_
          refine G_iload3 x eX11_reckons_99 ?_
          refine G_cV x eX11_reckons_100 kX11_199 im_yX11_seen se_yX11_seen rm hM.m (ct_X11_seen hM hL (by omega) (by first | omega | exact hr _ _ | exact hr0 _ _ | exact hrS _)) rfl ?_
          refine G_cVv x eX11_reckons_103 kX11_244 im_yX11_meets se_yX11_meets rm hM.m (ct_X11_meets hM (by omega) (by omega)) rfl ?_
          refine G_rg (fun hr => ?_)
          refine G_goto x eX11_reckons_106 ?_
          refine G_iload2 x eX11_reckons_115 ?_
          refine G_push x eX11_reckons_116 ?_
          refine G_iadd x eX11_reckons_117 ?_
          refine G_ireturn x en eX11_reckons_118 (by omega) (by omega) ?_
          exact pv_i
      · omega
    · rw [if_neg e5] at en
      rw [eI 0 rfl] at en
      refine G_rg (fun hr => ?_)
      refine G_istore3 x eX11_reckons_9 ?_
      refine G_iload3 x eX11_reckons_10 ?_
      refine G_push x eX11_reckons_11 ?_
      refine G_icmp_ne x eX11_reckons_13 (by first | omega | exact hr _ _ | exact hr0 _ _ | exact hrS _) (by first | omega | exact hr _ _ | exact hr0 _ _ | exact hrS _) (fun c13 => ?_) (fun c13 => ?_)
      · refine G_iload3 x eX11_reckons_90 ?_
        refine G_push x eX11_reckons_91 ?_
        refine G_icmp_lt x eX11_reckons_94 (by first | omega | exact hr _ _ | exact hr0 _ _ | exact hrS _) (by first | omega | exact hr _ _ | exact hr0 _ _ | exact hrS _) (fun c94 => ?_) (fun c94 => ?_)
        · refine G_aload0 x eX11_reckons_109 ?_
          refine G_iload3 x eX11_reckons_110 ?_
          refine G_i2l x eX11_reckons_111 (by first | omega | exact hr _ _ | exact hr0 _ _ | exact hrS _) ?_
          refine G_putl x eX11_reckons_112 fX11_240 rfl (Or.inl rfl) rfl hM.m ?_
          refine G_iload2 x eX11_reckons_115 ?_
          refine G_push x eX11_reckons_116 ?_
          refine G_iadd x eX11_reckons_117 ?_
          refine G_ireturn x en eX11_reckons_118 (by omega) (by omega) ?_
          exact pv_i
        · omega
      · omega
