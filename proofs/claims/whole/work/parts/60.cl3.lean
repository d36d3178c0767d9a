/-! lines: without one; between; an operation carried out; reset -/
def woF (f : Int → Int) (k : Int) : Int → Int := fun i => if k ≠ -1 ∧ k ≤ i then f (i + 1) else f i
def woN (n k : Int) : Int := if k ≠ -1 then n - 1 else n
theorem En.wo {pl : Int → Int} {sh : Int → Prop} {n w k : Int} {f : Int → Int} (h : En pl sh 12 f n) (hk : idxOf f n w k) : En pl (fun l => sh l ∧ l ≠ w) 12 (woF f k) (woN n k) := by
  obtain ⟨h1, h2, h3, h4, h5⟩ := h
  rcases hk with ⟨k1, k2⟩ | ⟨k1, k2, k3, k4⟩
  · have ef : woF f k = f := by funext i; exact if_neg (by omega)
    have en : woN n k = n := if_neg (by omega)
    rw [ef, en]
    exact ⟨h1, h2, h3, fun i a b => ⟨(h4 i a b).1, (h4 i a b).2.1, (h4 i a b).2.2, k2 i a b⟩, fun y a b c => h5 y a b c.1⟩
  · have en : woN n k = n - 1 := if_pos (by omega)
    have lo : ∀ i, i < k → woF f k i = f i := fun i hi => if_neg (by omega)
    have hi : ∀ i, k ≤ i → woF f k i = f (i + 1) := fun i hi => if_pos ⟨by omega, hi⟩
    have irr : ∀ i j, 0 ≤ i → i < n → 0 ≤ j → j < n → f i = f j → i = j := fun i j a b c d e => by
      rcases (by omega : i < j ∨ i = j ∨ j < i) with q | q | q
      · have := h3 i j a q d; rw [e] at this; exact absurd this lnLt_irr
      · exact q
      · have := h3 j i c q b; rw [e] at this; exact absurd this lnLt_irr
    rw [en]
    refine ⟨by omega, by omega, fun i j a b c => ?_, fun i a b => ?_, fun y a b c => ?_⟩
    · rcases (by omega : j < k ∨ (i < k ∧ k ≤ j) ∨ k ≤ i) with q | q | q
      · rw [lo i (by omega), lo j q]; exact h3 i j a b (by omega)
      · rw [lo i q.1, hi j q.2]; exact h3 i (j + 1) a (by omega) (by omega)
      · rw [hi i q, hi j (by omega)]; exact h3 (i + 1) (j + 1) (by omega) (by omega) (by omega)
    · by_cases q : i < k
      · rw [lo i q]; have := h4 i a (by omega); exact ⟨this.1, this.2.1, this.2.2, k4 i a q⟩
      · rw [hi i (by omega)]
        have := h4 (i + 1) (by omega) (by omega)
        exact ⟨this.1, this.2.1, this.2.2, fun z => by have := irr (i + 1) k (by omega) (by omega) k1 k2 (by rw [z, k3]); omega⟩
    · obtain ⟨i, i0, i1, i2⟩ := h5 y a b c.1
      have hne : i ≠ k := fun z => c.2 (by rw [← i2, z, k3])
      by_cases q : i < k
      · exact ⟨i, i0, by omega, by rw [lo i q]; exact i2⟩
      · exact ⟨i - 1, by omega, by omega, by rw [hi (i - 1) (by omega), show i - 1 + 1 = i by omega]; exact i2⟩
abbrev lnX (I : gI) (ln : Nat) (l : Int) : Int := ix (I (ln + 6)) (I ln 6) l
def nwA (I : gI) (ln : Nat) (p w : Int) : Int := if 0 ≤ p ∧ p < woN (I ln 6) (lnX I ln w) then woF (I (ln + 6)) (lnX I ln w) p else -1
set_option maxRecDepth 20000 in
theorem ct_X4_numberWithout {T : gT} {I : gI} {J : gJ} {O : gO} {ln : Nat} {p w : Int} (hM : LnAt T O ln) (h0 : -1 ≤ p) (h0b : p ≤ 12) (h1 : in32 w) (h2 : 0 ≤ I ln 6) (h3 : I ln 6 ≤ 12) : Ct yX4_numberWithout cX4_numberWithout 4 (some .int) [va_rf (some ln), VI p, VI w] 1 22 0 0 T I J O (pv (some (VI (nwA I ln p w))) T I J O) := by
  refine Ct.of (by decide) [some (va_rf (some ln)), some (VI p), some (VI w), none] (gEn1 (List.forall_mem_cons.mpr ⟨cat_VR _, List.forall_mem_cons.mpr ⟨cat_VI _, List.forall_mem_cons.mpr ⟨cat_VI _, fun _ h => nomatch h⟩⟩⟩) rfl (Nat.le_of_ble_eq_true rfl) rfl) ?_
  intro X x en rm ini hr hz
  have hr0 := hr
  have hx := @ix_b (I (ln + 6)) (I ln 6) w
  refine G_rg (fun hr => ?_)
  refine G_aload0 x eX4_numberWithout_0 ?_
  refine G_iload2 x eX4_numberWithout_1 ?_
  refine G_cV x eX4_numberWithout_2 kX4_76 im_yX4_positionOf se_yX4_positionOf rm hM.m (ct_X4_positionOf hM h1 h2 h3) rfl ?_
  refine G_istore3 x eX4_numberWithout_5 ?_
  refine G_aload0 x eX4_numberWithout_6 ?_
  refine G_iload3 x eX4_numberWithout_7 ?_
  refine G_push x eX4_numberWithout_8 ?_
  refine G_icmp_eq x eX4_numberWithout_9 (by first | omega | exact hr _ _ | exact hr0 _ _ | exact hrS _) (by first | omega | exact hr _ _ | exact hr0 _ _ | exact hrS _) (fun c9 => ?_) (fun c9 => ?_)
  · refine G_iload1 x eX4_numberWithout_23 ?_
    refine G_cV x eX4_numberWithout_24 kX4_79 im_yX4_numberAt se_yX4_numberAt rm hM.m (ct_X4_numberAt hM (by first | omega | exact hr _ _ | exact hr0 _ _ | exact hrS _) h3) rfl ?_
    refine G_ireturn x en eX4_numberWithout_27 (by omega) (by omega) ?_
    exact ⟨by unfold nwA lnA woF woN lnX; generalize ix (I (ln + 6)) (I ln 6) w = k at *; (repeat' split) <;> first | rfl | (exfalso; omega), rfl, rfl, rfl, rfl⟩
  · refine G_iload1 x eX4_numberWithout_12 ?_
    refine G_iload3 x eX4_numberWithout_13 ?_
    refine G_icmp_lt x eX4_numberWithout_14 (by first | omega | exact hr _ _ | exact hr0 _ _ | exact hrS _) (by first | omega | exact hr _ _ | exact hr0 _ _ | exact hrS _) (fun c14 => ?_) (fun c14 => ?_)
    · refine G_iload1 x eX4_numberWithout_23 ?_
      refine G_cV x eX4_numberWithout_24 kX4_79 im_yX4_numberAt se_yX4_numberAt rm hM.m (ct_X4_numberAt hM (by first | omega | exact hr _ _ | exact hr0 _ _ | exact hrS _) h3) rfl ?_
      refine G_ireturn x en eX4_numberWithout_27 (by omega) (by omega) ?_
      exact ⟨by unfold nwA lnA woF woN lnX; generalize ix (I (ln + 6)) (I ln 6) w = k at *; (repeat' split) <;> first | rfl | (exfalso; omega), rfl, rfl, rfl, rfl⟩
    · refine G_iload1 x eX4_numberWithout_17 ?_
      refine G_push x eX4_numberWithout_18 ?_
      refine G_iadd x eX4_numberWithout_19 ?_
      refine G_goto x eX4_numberWithout_20 ?_
      refine G_cV x eX4_numberWithout_24 kX4_79 im_yX4_numberAt se_yX4_numberAt rm hM.m (ct_X4_numberAt hM (by first | omega | exact hr _ _ | exact hr0 _ _ | exact hrS _) h3) rfl ?_
      refine G_ireturn x en eX4_numberWithout_27 (by omega) (by omega) ?_
      exact ⟨by unfold nwA lnA woF woN lnX; generalize ix (I (ln + 6)) (I ln 6) w = k at *; (repeat' split) <;> first | rfl | (exfalso; omega), rfl, rfl, rfl, rfl⟩
set_option maxRecDepth 20000 in
theorem ct_X4_placeBetween {T : gT} {I : gI} {J : gJ} {O : gO} {ln : Nat} {p w : Int} (hM : LnAt T O ln) (h0 : 0 ≤ p) (h0b : p ≤ woN (I ln 6) (lnX I ln w)) (h1 : in32 w) (hE : LnOk I ln) (hpl : ∀ l, 0 ≤ l → l < 12 → lnSh I ln l → 0 ≤ I (ln + 1) l ∧ I (ln + 1) l ≤ 1000000) : Ct yX4_placeBetween cX4_placeBetween 8 (some .int) [va_rf (some ln), VI p, VI w] 2 45 0 0 T I J O (pv (some (VI (btw (I (ln + 1)) (woF (I (ln + 6)) (lnX I ln w)) (woN (I ln 6) (lnX I ln w)) p))) T I J O) := by
  refine Ct.of (by decide) [some (va_rf (some ln)), some (VI p), some (VI w), none, none, none, none, none] (gEn1 (List.forall_mem_cons.mpr ⟨cat_VR _, List.forall_mem_cons.mpr ⟨cat_VI _, List.forall_mem_cons.mpr ⟨cat_VI _, fun _ h => nomatch h⟩⟩⟩) rfl (Nat.le_of_ble_eq_true rfl) rfl) ?_
  intro X x en rm ini hr hz
  have hr0 := hr
  have hW := hE.wo (ix_idx (l := w) hE.1)
  have h2 := hE.1
  have h3 := hE.2.1
  have n1 := hW.2.1
  have bnd : ∀ i, 0 ≤ i → i < woN (I ln 6) (lnX I ln w) → (0 ≤ woF (I (ln + 6)) (lnX I ln w) i ∧ woF (I (ln + 6)) (lnX I ln w) i < 12) ∧ 0 ≤ I (ln + 1) (woF (I (ln + 6)) (lnX I ln w) i) ∧ I (ln + 1) (woF (I (ln + 6)) (lnX I ln w) i) ≤ 1000000 := fun i a b => by
    have := hW.2.2.2.1 i a b
    exact ⟨⟨this.1, this.2.1⟩, hpl _ this.1 this.2.1 this.2.2.1⟩
  have hb : ∀ lo hi, lo = (if p = 0 then 0 else I (ln + 1) (woF (I (ln + 6)) (lnX I ln w) (p - 1))) → hi = (if p = woN (I ln 6) (lnX I ln w) then lo + 2000 else I (ln + 1) (woF (I (ln + 6)) (lnX I ln w) p)) → btw (I (ln + 1)) (woF (I (ln + 6)) (lnX I ln w)) (woN (I ln 6) (lnX I ln w)) p = if lo < (lo + hi) / 2 then (lo + hi) / 2 else -1 := fun lo hi h1 h2 => by subst h1; subst h2; rfl
  generalize btw (I (ln + 1)) (woF (I (ln + 6)) (lnX I ln w)) (woN (I ln 6) (lnX I ln w)) p = res at *
  have eA : nwA I ln (p - 1) w = if p = 0 then -1 else woF (I (ln + 6)) (lnX I ln w) (p - 1) := by
    unfold nwA
    by_cases q : p = 0
    · rw [if_pos q, if_neg (by omega)]
    · rw [if_neg q, if_pos (by omega)]
  have eB : nwA I ln p w = if p = woN (I ln 6) (lnX I ln w) then -1 else woF (I (ln + 6)) (lnX I ln w) p := by
    unfold nwA
    by_cases q : p = woN (I ln 6) (lnX I ln w)
    · rw [if_pos q, if_neg (by omega)]
    · rw [if_neg q, if_pos (by omega)]
  have bA : p ≠ 0 → (0 ≤ woF (I (ln + 6)) (lnX I ln w) (p - 1) ∧ woF (I (ln + 6)) (lnX I ln w) (p - 1) < 12) ∧ 0 ≤ I (ln + 1) (woF (I (ln + 6)) (lnX I ln w) (p - 1)) ∧ I (ln + 1) (woF (I (ln + 6)) (lnX I ln w) (p - 1)) ≤ 1000000 := fun q => bnd _ (by omega) (by omega)
  have bB : p ≠ woN (I ln 6) (lnX I ln w) → (0 ≤ woF (I (ln + 6)) (lnX I ln w) p ∧ woF (I (ln + 6)) (lnX I ln w) p < 12) ∧ 0 ≤ I (ln + 1) (woF (I (ln + 6)) (lnX I ln w) p) ∧ I (ln + 1) (woF (I (ln + 6)) (lnX I ln w) p) ≤ 1000000 := fun q => bnd _ (by omega) (by omega)
  clear bnd hW
  generalize woF (I (ln + 6)) (lnX I ln w) (p - 1) = fa at *
  generalize woF (I (ln + 6)) (lnX I ln w) p = fb at *
  have fin : ∀ (a b lo hi : Int), lo = (if p = 0 then 0 else I (ln + 1) fa) → hi = (if p = woN (I ln 6) (lnX I ln w) then lo + 2000 else I (ln + 1) fb) → G X 56 [some (va_rf (some ln)), some (VI p), some (VI w), some (VI a), some (VI b), some (VI lo), some (VI hi), none] [] T I J O 0 0 := by
    intro a b lo hi hl hh
    have hb := hb lo hi hl hh
    have l0 : 0 ≤ lo ∧ lo ≤ 1000000 := by
      by_cases q : p = 0
      · rw [if_pos q] at hl; omega
      · rw [if_neg q] at hl; have := bA q; omega
    have l1 : 0 ≤ hi ∧ hi ≤ 1002000 := by
      by_cases q : p = woN (I ln 6) (lnX I ln w)
      · rw [if_pos q] at hh; omega
      · rw [if_neg q] at hh; have := bB q; omega
    refine G_rg (fun hr => ?_)
    refine G_iload5 x eX4_placeBetween_56 ?_
    refine G_iload6 x eX4_placeBetween_58 ?_
    refine G_iadd x eX4_placeBetween_60 ?_
    refine G_push x eX4_placeBetween_61 ?_
    refine G_cS x eX4_placeBetween_62 kX4_71 sm_yJ9_floorDiv_7cf53 rm (ct_J9_floorDiv_7cf53 (by first | omega | exact hr _ _ | exact hr0 _ _ | exact hrS _) (by first | omega | exact hr _ _ | exact hr0 _ _ | exact hrS _) (by omega) (by omega)) rfl ?_
    refine G_istore7 x eX4_placeBetween_65 ?_
    refine G_iload7 x eX4_placeBetween_67 ?_
    refine G_iload5 x eX4_placeBetween_69 ?_
    refine G_icmp_le x eX4_placeBetween_71 (by first | omega | exact hr _ _ | exact hr0 _ _ | exact hrS _) (by first | omega | exact hr _ _ | exact hr0 _ _ | exact hrS _) (fun c71 => ?_) (fun c71 => ?_)
    · refine G_push x eX4_placeBetween_79 ?_
      refine G_ireturn x en eX4_placeBetween_80 (by omega) (by omega) ?_
      exact ⟨by rw [hb]; split <;> first | rfl | (exfalso; omega), rfl, rfl, rfl, rfl⟩
    · refine G_iload7 x eX4_placeBetween_74 ?_
      refine G_goto x eX4_placeBetween_76 ?_
      refine G_ireturn x en eX4_placeBetween_80 (by omega) (by omega) ?_
      exact ⟨by rw [hb]; split <;> first | rfl | (exfalso; omega), rfl, rfl, rfl, rfl⟩
  have n1 : woN (I ln 6) (lnX I ln w) ≤ 12 := n1
  have m33 : ∀ (a lo : Int), lo = (if p = 0 then 0 else I (ln + 1) fa) → G X 33 [some (va_rf (some ln)), some (VI p), some (VI w), some (VI a), some (VI (if p = woN (I ln 6) (lnX I ln w) then -1 else fb)), some (VI lo), none, none] [] T I J O 0 0 := by
    intro a lo hl
    by_cases q2 : p = woN (I ln 6) (lnX I ln w)
    · rw [if_pos q2]
      refine G_rg (fun hr => ?_)
      refine G_iload4 x eX4_placeBetween_33 ?_
      refine G_push x eX4_placeBetween_35 ?_
      refine G_icmp_ne x eX4_placeBetween_36 (by first | omega | exact hr _ _ | exact hr0 _ _ | exact hrS _) (by first | omega | exact hr _ _ | exact hr0 _ _ | exact hrS _) (fun c36 => ?_) (fun c36 => ?_)
      · omega
      · refine G_iload5 x eX4_placeBetween_39 ?_
        refine G_push x eX4_placeBetween_41 ?_
        refine G_iadd x eX4_placeBetween_44 ?_
        refine G_goto x eX4_placeBetween_45 ?_
        refine G_istore6 x eX4_placeBetween_54 ?_
        exact fin _ _ _ _ hl (by rw [if_pos q2])
    · rw [if_neg q2]
      have z := bB q2
      refine G_rg (fun hr => ?_)
      refine G_iload4 x eX4_placeBetween_33 ?_
      refine G_push x eX4_placeBetween_35 ?_
      refine G_icmp_ne x eX4_placeBetween_36 (by first | omega | exact hr _ _ | exact hr0 _ _ | exact hrS _) (by first | omega | exact hr _ _ | exact hr0 _ _ | exact hrS _) (fun c36 => ?_) (fun c36 => ?_)
      · refine G_aload0 x eX4_placeBetween_48 ?_
        refine G_iload4 x eX4_placeBetween_49 ?_
        refine G_cV x eX4_placeBetween_51 kX4_67 im_yX4_placeOf se_yX4_placeOf rm hM.m (ct_X4_placeOf hM (by first | omega | exact hr _ _ | exact hr0 _ _ | exact hrS _)) rfl ?_
        rw [if_pos z.1]
        refine G_istore6 x eX4_placeBetween_54 ?_
        exact fin _ _ _ _ hl (by rw [if_neg q2])
      · omega
  have m17 : G X 17 [some (va_rf (some ln)), some (VI p), some (VI w), some (VI (if p = 0 then -1 else fa)), some (VI (if p = woN (I ln 6) (lnX I ln w) then -1 else fb)), none, none, none] [] T I J O 0 0 := by
    by_cases q : p = 0
    · have m33 := m33 (-1) 0 (by rw [if_pos q])
      rw [if_pos q]
      refine G_rg (fun hr => ?_)
      refine G_iload3 x eX4_placeBetween_17 ?_
      refine G_push x eX4_placeBetween_18 ?_
      refine G_icmp_ne x eX4_placeBetween_19 (by first | omega | exact hr _ _ | exact hr0 _ _ | exact hrS _) (by first | omega | exact hr _ _ | exact hr0 _ _ | exact hrS _) (fun c19 => ?_) (fun c19 => ?_)
      · omega
      · refine G_push x eX4_placeBetween_22 ?_
        refine G_goto x eX4_placeBetween_23 ?_
        refine G_istore5 x eX4_placeBetween_31 ?_
        exact m33
    · have m33 := m33 fa (I (ln + 1) fa) (by rw [if_neg q])
      rw [if_neg q]
      have z := bA q
      refine G_rg (fun hr => ?_)
      refine G_iload3 x eX4_placeBetween_17 ?_
      refine G_push x eX4_placeBetween_18 ?_
      refine G_icmp_ne x eX4_placeBetween_19 (by first | omega | exact hr _ _ | exact hr0 _ _ | exact hrS _) (by first | omega | exact hr _ _ | exact hr0 _ _ | exact hrS _) (fun c19 => ?_) (fun c19 => ?_)
      · refine G_aload0 x eX4_placeBetween_26 ?_
        refine G_iload3 x eX4_placeBetween_27 ?_
        refine G_cV x eX4_placeBetween_28 kX4_67 im_yX4_placeOf se_yX4_placeOf rm hM.m (ct_X4_placeOf hM (by first | omega | exact hr _ _ | exact hr0 _ _ | exact hrS _)) rfl ?_
        rw [if_pos z.1]
        refine G_istore5 x eX4_placeBetween_31 ?_
        exact m33
      · omega
  refine G_rg (fun hr => ?_)
  refine G_aload0 x eX4_placeBetween_0 ?_
  refine G_iload1 x eX4_placeBetween_1 ?_
  refine G_push x eX4_placeBetween_2 ?_
  refine G_isub x eX4_placeBetween_3 ?_
  refine G_iload2 x eX4_placeBetween_4 ?_
  refine G_cV x eX4_placeBetween_5 kX4_63 im_yX4_numberWithout se_yX4_numberWithout rm hM.m (ct_X4_numberWithout hM (by omega) (by omega) h1 h2 h3) rfl ?_
  rw [eA]
  refine G_istore3 x eX4_placeBetween_8 ?_
  refine G_aload0 x eX4_placeBetween_9 ?_
  refine G_iload1 x eX4_placeBetween_10 ?_
  refine G_iload2 x eX4_placeBetween_11 ?_
  refine G_cV x eX4_placeBetween_12 kX4_63 im_yX4_numberWithout se_yX4_numberWithout rm hM.m (ct_X4_numberWithout hM (by omega) (by omega) h1 h2 h3) rfl ?_
  rw [eB]
  refine G_istore4 x eX4_placeBetween_15 ?_
  exact m17
/-- an operation, carried out on lines -/
def lnT (I I1 : gI) (ln a : Nat) : Prop := (∀ l, I1 (ln + 4) l = if l = I a 4 ∧ I a 0 = 1 then 1 else I (ln + 4) l) ∧ (∀ l, I1 (ln + 5) l = if l = I a 4 ∧ I a 0 = 3 then 1 else I (ln + 5) l) ∧ (∀ l, I1 (ln + 1) l = if l = I a 4 ∧ I a 0 ≠ 3 ∧ later (I a 1) (I a 2) (I (ln + 2) l) (I (ln + 3) l) then I a 5 else I (ln + 1) l) ∧ (∀ l, I1 (ln + 2) l = if l = I a 4 ∧ I a 0 ≠ 3 ∧ later (I a 1) (I a 2) (I (ln + 2) l) (I (ln + 3) l) then I a 1 else I (ln + 2) l) ∧ ∀ l, I1 (ln + 3) l = if l = I a 4 ∧ I a 0 ≠ 3 ∧ later (I a 1) (I a 2) (I (ln + 2) l) (I (ln + 3) l) then I a 2 else I (ln + 3) l
def loP (T : gT) (I : gI) (J : gJ) (O : gO) (ln a : Nat) : gP := fun v T' I' J' O' => v = none ∧ T' = T ∧ J' = J ∧ O' = O ∧ (∀ b, b < ln ∨ ln + 6 < b → ∀ j, I' b j = I b j) ∧ LnOk I' ln ∧ lnT I I' ln a
def lnB (I : gI) (ln : Nat) : Prop := ∀ l, 0 ≤ l → l < 12 → (I (ln + 4) l = 0 ∨ I (ln + 4) l = 1) ∧ (I (ln + 5) l = 0 ∨ I (ln + 5) l = 1)
set_option maxHeartbeats 4000000 in
set_option maxRecDepth 20000 in
theorem ct_X4_carryOut {T : gT} {I : gI} {J : gJ} {O : gO} {ln a : Nat} (hM : LnAt T O ln) (hA : T.2 a = some (.inl 5)) (ha : a < ln ∨ ln + 6 < a) (h0 : 0 ≤ I a 4) (h1 : I a 4 < 12) (hE : LnOk I ln) (hB : lnB I ln) : Ct yX4_carryOut cX4_carryOut 3 none [va_rf (some ln), va_rf (some a)] 2 45 0 0 T I J O (loP T I J O ln a) := by
  refine Ct.of (by decide) [some (va_rf (some ln)), some (va_rf (some a)), none] (gEn1 (List.forall_mem_cons.mpr ⟨cat_VR _, List.forall_mem_cons.mpr ⟨cat_VR _, fun _ h => nomatch h⟩⟩) rfl (Nat.le_of_ble_eq_true rfl) rfl) ?_
  intro X x en rm ini hr hz
  have hr0 := hr
  have fin : ∀ I1, (∀ b, b < ln ∨ ln + 6 < b → ∀ j, I1 b j = I b j) → I1 ln 6 = I ln 6 → (∀ j, I1 (ln + 6) j = I (ln + 6) j) → lnT I I1 ln a → G X 111 [some (va_rf (some ln)), some (va_rf (some a)), some (VI (I a 4))] [] T I1 J O 0 0 := by
    intro I1 hf e6 ea ht
    obtain ⟨t4, t5, t1, t2, t3⟩ := ht
    have b := hB (I a 4) h0 h1
    refine G_rg (fun hr => ?_)
    refine G_aload0 x eX4_carryOut_111 ?_
    refine G_iload2 x eX4_carryOut_112 ?_
    refine G_cVg x eX4_carryOut_113 kX4_38 im_yX4_arrange se_yX4_arrange rm hM.m (ct_X4_arrange (sh := lnSh I1 ln) (sh0 := lnSh I ln) (pl0 := I (ln + 1)) hM h0 h1 (by rw [show I1 (ln + 6) = I (ln + 6) from funext ea, e6]; exact hE) (fun l _ _ hne => ⟨by rw [t1, if_neg (fun z => hne z.1)], by unfold lnSh; rw [t4, t5, if_neg (fun z => hne z.1), if_neg (fun z => hne z.1)]⟩) Iff.rfl (by rw [t4]; split <;> omega) (by rw [t5]; split <;> omega)) rfl (fun v113 T113 I113 J113 O113 p113 => ?_)
    refine G_rg (fun hr => ?_)
    obtain ⟨rfl, rfl, rfl, rfl, k1, k2⟩ := p113
    refine G_return x en eX4_carryOut_116 (by omega) (by omega) ?_
    exact ⟨rfl, rfl, rfl, rfl, fun b hb j => (k1 b j (by omega) (Or.inl (by omega))).trans (hf b hb j), (by unfold LnOk; rw [show I113 (ln + 1) = I1 (ln + 1) from funext fun j => k1 _ j (by omega) (Or.inl (by omega))]; exact k2.congr (fun _ _ _ => rfl) (fun y _ _ => by unfold lnSh; rw [k1 _ _ (by omega) (Or.inl (by omega)), k1 _ _ (by omega) (Or.inl (by omega))])), fun l => (k1 _ _ (by omega) (Or.inl (by omega))).trans (t4 l), fun l => (k1 _ _ (by omega) (Or.inl (by omega))).trans (t5 l), fun l => (k1 _ _ (by omega) (Or.inl (by omega))).trans (t1 l), fun l => (k1 _ _ (by omega) (Or.inl (by omega))).trans (t2 l), fun l => (k1 _ _ (by omega) (Or.inl (by omega))).trans (t3 l)⟩
  have fin3 : I a 0 = 3 → G X 111 [some (va_rf (some ln)), some (va_rf (some a)), some (VI (I a 4))] [] T (uI I (ln + 5) (I a 4) 1) J O 0 0 := fun e => by
    refine fin _ (fun b hb j => uI_a (by omega) _) (uI_a (by omega) _) (fun j => uI_a (by omega) _) ⟨fun l => ?_, fun l => ?_, fun l => ?_, fun l => ?_, fun l => ?_⟩
    · rw [uI_a (by omega), if_neg (by omega)]
    · by_cases q : l = I a 4
      · rw [q, uI_s, if_pos ⟨rfl, e⟩]
      · rw [uI_k q, if_neg (fun z => q z.1)]
    · rw [uI_a (by omega), if_neg (fun z => z.2.1 e)]
    · rw [uI_a (by omega), if_neg (fun z => z.2.1 e)]
    · rw [uI_a (by omega), if_neg (fun z => z.2.1 e)]
  have fin4 : ∀ z, z = (if I a 0 = 1 then 1 else I (ln + 4) (I a 4)) → I a 0 ≠ 3 → (¬ later (I a 1) (I a 2) (I (ln + 2) (I a 4)) (I (ln + 3) (I a 4)) → G X 111 [some (va_rf (some ln)), some (va_rf (some a)), some (VI (I a 4))] [] T (uI I (ln + 4) (I a 4) z) J O 0 0) ∧ (later (I a 1) (I a 2) (I (ln + 2) (I a 4)) (I (ln + 3) (I a 4)) → G X 111 [some (va_rf (some ln)), some (va_rf (some a)), some (VI (I a 4))] [] T (uI (uI (uI (uI I (ln + 4) (I a 4) z) (ln + 1) (I a 4) (I a 5)) (ln + 2) (I a 4) (I a 1)) (ln + 3) (I a 4) (I a 2)) J O 0 0) := fun z hz e => by
    have h4 : ∀ l, (uI I (ln + 4) (I a 4) z) (ln + 4) l = if l = I a 4 ∧ I a 0 = 1 then 1 else I (ln + 4) l := fun l => by
      by_cases q : l = I a 4
      · rw [q, uI_s, hz]
        by_cases q2 : I a 0 = 1
        · rw [if_pos q2, if_pos ⟨rfl, q2⟩]
        · rw [if_neg q2, if_neg (fun z => q2 z.2)]
      · rw [uI_k q, if_neg (fun z => q z.1)]
    refine ⟨fun hl => ?_, fun hl => ?_⟩
    · refine fin _ (fun b hb j => uI_a (by omega) _) (uI_a (by omega) _) (fun j => uI_a (by omega) _) ⟨h4, fun l => ?_, fun l => ?_, fun l => ?_, fun l => ?_⟩
      · rw [uI_a (by omega), if_neg (fun z => e z.2)]
      · rw [uI_a (by omega), if_neg (fun z => hl (by rw [← z.1]; exact z.2.2))]
      · rw [uI_a (by omega), if_neg (fun z => hl (by rw [← z.1]; exact z.2.2))]
      · rw [uI_a (by omega), if_neg (fun z => hl (by rw [← z.1]; exact z.2.2))]
    · refine fin _ (fun b hb j => by rw [uI_a (by omega), uI_a (by omega), uI_a (by omega), uI_a (by omega)]) (by rw [uI_a (by omega), uI_a (by omega), uI_a (by omega), uI_a (by omega)]) (fun j => by rw [uI_a (by omega), uI_a (by omega), uI_a (by omega), uI_a (by omega)]) ⟨fun l => ?_, fun l => ?_, fun l => ?_, fun l => ?_, fun l => ?_⟩
      · rw [uI_a (by omega), uI_a (by omega), uI_a (by omega)]; exact h4 l
      · rw [uI_a (by omega), uI_a (by omega), uI_a (by omega), uI_a (by omega), if_neg (fun z => e z.2)]
      · rw [uI_a (by omega), uI_a (by omega)]
        by_cases q : l = I a 4
        · rw [q, uI_s, if_pos ⟨rfl, e, hl⟩]
        · rw [uI_k q, uI_a (by omega), if_neg (fun z => q z.1)]
      · rw [uI_a (by omega)]
        by_cases q : l = I a 4
        · rw [q, uI_s, if_pos ⟨rfl, e, hl⟩]
        · rw [uI_k q, uI_a (by omega), uI_a (by omega), if_neg (fun z => q z.1)]
      · by_cases q : l = I a 4
        · rw [q, uI_s, if_pos ⟨rfl, e, hl⟩]
        · rw [uI_k q, uI_a (by omega), uI_a (by omega), uI_a (by omega), if_neg (fun z => q z.1)]
  have b := hB (I a 4) h0 h1
  refine G_rg (fun hr => ?_)
  refine G_aload1 x eX4_carryOut_0 ?_
  refine G_geti x eX4_carryOut_1 fX4_42 rfl rfl hA (fun h1 => ?_)
  refine G_istore2 x eX4_carryOut_4 ?_
  refine G_iload2 x eX4_carryOut_5 ?_
  refine G_if_lt x eX4_carryOut_6 (by first | omega | exact hr _ _ | exact hr0 _ _ | exact hrS _) (fun c6 => ?_) (fun c6 => ?_)
  · refine G_return x en eX4_carryOut_15 (by omega) (by omega) ?_
    exfalso; omega
  · refine G_iload2 x eX4_carryOut_9 ?_
    refine G_push x eX4_carryOut_10 ?_
    refine G_icmp_lt x eX4_carryOut_12 (by first | omega | exact hr _ _ | exact hr0 _ _ | exact hrS _) (by first | omega | exact hr _ _ | exact hr0 _ _ | exact hrS _) (fun c12 => ?_) (fun c12 => ?_)
    · refine G_aload1 x eX4_carryOut_16 ?_
      refine G_geti x eX4_carryOut_17 fX4_47 rfl rfl hA (fun h17 => ?_)
      refine G_push x eX4_carryOut_20 ?_
      refine G_icmp_ne x eX4_carryOut_21 (by first | omega | exact hr _ _ | exact hr0 _ _ | exact hrS _) (by first | omega | exact hr _ _ | exact hr0 _ _ | exact hrS _) (fun c21 => ?_) (fun c21 => ?_)
      · refine G_aload0 x eX4_carryOut_34 ?_
        refine G_getq x eX4_carryOut_35 fX4_21 rfl rfl hM.m hM.o_made ?_
        refine G_iload2 x eX4_carryOut_38 ?_
        refine G_aload0 x eX4_carryOut_39 ?_
        refine G_getq x eX4_carryOut_40 fX4_21 rfl rfl hM.m hM.o_made ?_
        refine G_iload2 x eX4_carryOut_43 ?_
        refine G_zald x eX4_carryOut_44 rfl hM.t_made (by omega) (by omega) (by omega) (fun h44 => ?_)
        refine G_if_ne x eX4_carryOut_45 (by first | omega | exact hr _ _ | exact hr0 _ _ | exact hrS _) (fun c45 => ?_) (fun c45 => ?_)
        · refine G_push x eX4_carryOut_56 ?_
          refine G_goto x eX4_carryOut_57 ?_
          refine G_zast x eX4_carryOut_61 rfl hM.t_made (by omega) (by omega) (by omega) (by first | omega | exact hr _ _ | exact hr0 _ _ | exact hrS _) ?_
          refine G_rg (fun hr => ?_)
          refine G_aload1 x eX4_carryOut_62 ?_
          refine G_aload0 x eX4_carryOut_63 ?_
          refine G_getq x eX4_carryOut_64 fX4_15 rfl rfl hM.m hM.o_clocks ?_
          refine G_iload2 x eX4_carryOut_67 ?_
          refine G_iald x eX4_carryOut_68 rfl hM.t_clocks (by omega) (by omega) (by omega) (fun h68 => ?_)
          rw [uI_a (by omega)]
          refine G_aload0 x eX4_carryOut_69 ?_
          refine G_getq x eX4_carryOut_70 fX4_18 rfl rfl hM.m hM.o_stampers ?_
          refine G_iload2 x eX4_carryOut_73 ?_
          refine G_iald x eX4_carryOut_74 rfl hM.t_stampers (by omega) (by omega) (by omega) (fun h74 => ?_)
          rw [uI_a (by omega)]
          refine G_cV x eX4_carryOut_75 kX4_50 im_yX5_isLaterThan se_yX5_isLaterThan rm hA (ct_X5_isLaterThan hA (by first | omega | exact hr _ _ | exact hr0 _ _ | exact hrS _) (by first | omega | exact hr _ _ | exact hr0 _ _ | exact hrS _)) rfl ?_
          rw [uI_a (by omega), uI_a (by omega)]
          refine G_ifb_eq x eX4_carryOut_78 (fun c78 => ?_) (fun c78 => ?_)
          · first | exact fin3 (by omega) | exact (fin4 _ (by split <;> omega) (by omega)).1 (by assumption) | exact (fin4 _ (by split <;> omega) (by omega)).2 (by assumption)
          · refine G_aload0 x eX4_carryOut_81 ?_
            refine G_getq x eX4_carryOut_82 fX4_9 rfl rfl hM.m hM.o_places ?_
            refine G_iload2 x eX4_carryOut_85 ?_
            refine G_aload1 x eX4_carryOut_86 ?_
            refine G_geti x eX4_carryOut_87 fX4_54 rfl rfl hA (fun h87 => ?_)
            rw [uI_a (by omega)]
            refine G_iast x eX4_carryOut_90 rfl hM.t_places (by omega) (by omega) (by omega) (by first | omega | exact hr _ _ | exact hr0 _ _ | exact hrS _) ?_
            refine G_rg (fun hr => ?_)
            refine G_aload0 x eX4_carryOut_91 ?_
            refine G_getq x eX4_carryOut_92 fX4_15 rfl rfl hM.m hM.o_clocks ?_
            refine G_iload2 x eX4_carryOut_95 ?_
            refine G_aload1 x eX4_carryOut_96 ?_
            refine G_geti x eX4_carryOut_97 fX4_57 rfl rfl hA (fun h97 => ?_)
            rw [uI_a (by omega), uI_a (by omega)]
            refine G_iast x eX4_carryOut_100 rfl hM.t_clocks (by omega) (by omega) (by omega) (by first | omega | exact hr _ _ | exact hr0 _ _ | exact hrS _) ?_
            refine G_rg (fun hr => ?_)
            refine G_aload0 x eX4_carryOut_101 ?_
            refine G_getq x eX4_carryOut_102 fX4_18 rfl rfl hM.m hM.o_stampers ?_
            refine G_iload2 x eX4_carryOut_105 ?_
            refine G_aload1 x eX4_carryOut_106 ?_
            refine G_geti x eX4_carryOut_107 fX4_60 rfl rfl hA (fun h107 => ?_)
            rw [uI_a (by omega), uI_a (by omega), uI_a (by omega)]
            refine G_iast x eX4_carryOut_110 rfl hM.t_stampers (by omega) (by omega) (by omega) (by first | omega | exact hr _ _ | exact hr0 _ _ | exact hrS _) ?_
            refine G_rg (fun hr => ?_)
            first | exact fin3 (by omega) | exact (fin4 _ (by split <;> omega) (by omega)).1 (by assumption) | exact (fin4 _ (by split <;> omega) (by omega)).2 (by assumption)
        · refine G_aload1 x eX4_carryOut_48 ?_
          refine G_geti x eX4_carryOut_49 fX4_47 rfl rfl hA (fun h49 => ?_)
          refine G_push x eX4_carryOut_52 ?_
          refine G_icmp_ne x eX4_carryOut_53 (by first | omega | exact hr _ _ | exact hr0 _ _ | exact hrS _) (by first | omega | exact hr _ _ | exact hr0 _ _ | exact hrS _) (fun c53 => ?_) (fun c53 => ?_)
          · refine G_push x eX4_carryOut_60 ?_
            refine G_zast x eX4_carryOut_61 rfl hM.t_made (by omega) (by omega) (by omega) (by first | omega | exact hr _ _ | exact hr0 _ _ | exact hrS _) ?_
            refine G_rg (fun hr => ?_)
            refine G_aload1 x eX4_carryOut_62 ?_
            refine G_aload0 x eX4_carryOut_63 ?_
            refine G_getq x eX4_carryOut_64 fX4_15 rfl rfl hM.m hM.o_clocks ?_
            refine G_iload2 x eX4_carryOut_67 ?_
            refine G_iald x eX4_carryOut_68 rfl hM.t_clocks (by omega) (by omega) (by omega) (fun h68 => ?_)
            rw [uI_a (by omega)]
            refine G_aload0 x eX4_carryOut_69 ?_
            refine G_getq x eX4_carryOut_70 fX4_18 rfl rfl hM.m hM.o_stampers ?_
            refine G_iload2 x eX4_carryOut_73 ?_
            refine G_iald x eX4_carryOut_74 rfl hM.t_stampers (by omega) (by omega) (by omega) (fun h74 => ?_)
            rw [uI_a (by omega)]
            refine G_cV x eX4_carryOut_75 kX4_50 im_yX5_isLaterThan se_yX5_isLaterThan rm hA (ct_X5_isLaterThan hA (by first | omega | exact hr _ _ | exact hr0 _ _ | exact hrS _) (by first | omega | exact hr _ _ | exact hr0 _ _ | exact hrS _)) rfl ?_
            rw [uI_a (by omega), uI_a (by omega)]
            refine G_ifb_eq x eX4_carryOut_78 (fun c78 => ?_) (fun c78 => ?_)
            · first | exact fin3 (by omega) | exact (fin4 _ (by split <;> omega) (by omega)).1 (by assumption) | exact (fin4 _ (by split <;> omega) (by omega)).2 (by assumption)
            · refine G_aload0 x eX4_carryOut_81 ?_
              refine G_getq x eX4_carryOut_82 fX4_9 rfl rfl hM.m hM.o_places ?_
              refine G_iload2 x eX4_carryOut_85 ?_
              refine G_aload1 x eX4_carryOut_86 ?_
              refine G_geti x eX4_carryOut_87 fX4_54 rfl rfl hA (fun h87 => ?_)
              rw [uI_a (by omega)]
              refine G_iast x eX4_carryOut_90 rfl hM.t_places (by omega) (by omega) (by omega) (by first | omega | exact hr _ _ | exact hr0 _ _ | exact hrS _) ?_
              refine G_rg (fun hr => ?_)
              refine G_aload0 x eX4_carryOut_91 ?_
              refine G_getq x eX4_carryOut_92 fX4_15 rfl rfl hM.m hM.o_clocks ?_
              refine G_iload2 x eX4_carryOut_95 ?_
              refine G_aload1 x eX4_carryOut_96 ?_
              refine G_geti x eX4_carryOut_97 fX4_57 rfl rfl hA (fun h97 => ?_)
              rw [uI_a (by omega), uI_a (by omega)]
              refine G_iast x eX4_carryOut_100 rfl hM.t_clocks (by omega) (by omega) (by omega) (by first | omega | exact hr _ _ | exact hr0 _ _ | exact hrS _) ?_
              refine G_rg (fun hr => ?_)
              refine G_aload0 x eX4_carryOut_101 ?_
              refine G_getq x eX4_carryOut_102 fX4_18 rfl rfl hM.m hM.o_stampers ?_
              refine G_iload2 x eX4_carryOut_105 ?_
              refine G_aload1 x eX4_carryOut_106 ?_
              refine G_geti x eX4_carryOut_107 fX4_60 rfl rfl hA (fun h107 => ?_)
              rw [uI_a (by omega), uI_a (by omega), uI_a (by omega)]
              refine G_iast x eX4_carryOut_110 rfl hM.t_stampers (by omega) (by omega) (by omega) (by first | omega | exact hr _ _ | exact hr0 _ _ | exact hrS _) ?_
              refine G_rg (fun hr => ?_)
              first | exact fin3 (by omega) | exact (fin4 _ (by split <;> omega) (by omega)).1 (by assumption) | exact (fin4 _ (by split <;> omega) (by omega)).2 (by assumption)
          · refine G_push x eX4_carryOut_56 ?_
            refine G_goto x eX4_carryOut_57 ?_
            refine G_zast x eX4_carryOut_61 rfl hM.t_made (by omega) (by omega) (by omega) (by first | omega | exact hr _ _ | exact hr0 _ _ | exact hrS _) ?_
            refine G_rg (fun hr => ?_)
            refine G_aload1 x eX4_carryOut_62 ?_
            refine G_aload0 x eX4_carryOut_63 ?_
            refine G_getq x eX4_carryOut_64 fX4_15 rfl rfl hM.m hM.o_clocks ?_
            refine G_iload2 x eX4_carryOut_67 ?_
            refine G_iald x eX4_carryOut_68 rfl hM.t_clocks (by omega) (by omega) (by omega) (fun h68 => ?_)
            rw [uI_a (by omega)]
            refine G_aload0 x eX4_carryOut_69 ?_
            refine G_getq x eX4_carryOut_70 fX4_18 rfl rfl hM.m hM.o_stampers ?_
            refine G_iload2 x eX4_carryOut_73 ?_
            refine G_iald x eX4_carryOut_74 rfl hM.t_stampers (by omega) (by omega) (by omega) (fun h74 => ?_)
            rw [uI_a (by omega)]
            refine G_cV x eX4_carryOut_75 kX4_50 im_yX5_isLaterThan se_yX5_isLaterThan rm hA (ct_X5_isLaterThan hA (by first | omega | exact hr _ _ | exact hr0 _ _ | exact hrS _) (by first | omega | exact hr _ _ | exact hr0 _ _ | exact hrS _)) rfl ?_
            rw [uI_a (by omega), uI_a (by omega)]
            refine G_ifb_eq x eX4_carryOut_78 (fun c78 => ?_) (fun c78 => ?_)
            · first | exact fin3 (by omega) | exact (fin4 _ (by split <;> omega) (by omega)).1 (by assumption) | exact (fin4 _ (by split <;> omega) (by omega)).2 (by assumption)
            · refine G_aload0 x eX4_carryOut_81 ?_
              refine G_getq x eX4_carryOut_82 fX4_9 rfl rfl hM.m hM.o_places ?_
              refine G_iload2 x eX4_carryOut_85 ?_
              refine G_aload1 x eX4_carryOut_86 ?_
              refine G_geti x eX4_carryOut_87 fX4_54 rfl rfl hA (fun h87 => ?_)
              rw [uI_a (by omega)]
              refine G_iast x eX4_carryOut_90 rfl hM.t_places (by omega) (by omega) (by omega) (by first | omega | exact hr _ _ | exact hr0 _ _ | exact hrS _) ?_
              refine G_rg (fun hr => ?_)
              refine G_aload0 x eX4_carryOut_91 ?_
              refine G_getq x eX4_carryOut_92 fX4_15 rfl rfl hM.m hM.o_clocks ?_
              refine G_iload2 x eX4_carryOut_95 ?_
              refine G_aload1 x eX4_carryOut_96 ?_
              refine G_geti x eX4_carryOut_97 fX4_57 rfl rfl hA (fun h97 => ?_)
              rw [uI_a (by omega), uI_a (by omega)]
              refine G_iast x eX4_carryOut_100 rfl hM.t_clocks (by omega) (by omega) (by omega) (by first | omega | exact hr _ _ | exact hr0 _ _ | exact hrS _) ?_
              refine G_rg (fun hr => ?_)
              refine G_aload0 x eX4_carryOut_101 ?_
              refine G_getq x eX4_carryOut_102 fX4_18 rfl rfl hM.m hM.o_stampers ?_
              refine G_iload2 x eX4_carryOut_105 ?_
              refine G_aload1 x eX4_carryOut_106 ?_
              refine G_geti x eX4_carryOut_107 fX4_60 rfl rfl hA (fun h107 => ?_)
              rw [uI_a (by omega), uI_a (by omega), uI_a (by omega)]
              refine G_iast x eX4_carryOut_110 rfl hM.t_stampers (by omega) (by omega) (by omega) (by first | omega | exact hr _ _ | exact hr0 _ _ | exact hrS _) ?_
              refine G_rg (fun hr => ?_)
              first | exact fin3 (by omega) | exact (fin4 _ (by split <;> omega) (by omega)).1 (by assumption) | exact (fin4 _ (by split <;> omega) (by omega)).2 (by assumption)
      · refine G_aload0 x eX4_carryOut_24 ?_
        refine G_getq x eX4_carryOut_25 fX4_25 rfl rfl hM.m hM.o_removed ?_
        refine G_iload2 x eX4_carryOut_28 ?_
        refine G_push x eX4_carryOut_29 ?_
        refine G_zast x eX4_carryOut_30 rfl hM.t_removed (by omega) (by omega) (by omega) (by first | omega | exact hr _ _ | exact hr0 _ _ | exact hrS _) ?_
        refine G_rg (fun hr => ?_)
        refine G_goto x eX4_carryOut_31 ?_
        first | exact fin3 (by omega) | exact (fin4 _ (by split <;> omega) (by omega)).1 (by assumption) | exact (fin4 _ (by split <;> omega) (by omega)).2 (by assumption)
    · refine G_return x en eX4_carryOut_15 (by omega) (by omega) ?_
      exfalso; omega
/-- the lines of a new sheet -/
def lnZ (I : gI) (ln : Nat) (m : Int) : Prop := ∀ l, 0 ≤ l → l < m → I (ln + 1) l = (if l < 3 then 1000 * (l + 1) else -1) ∧ I (ln + 2) l = (if l < 3 then 0 else -1) ∧ I (ln + 3) l = 0 ∧ I (ln + 4) l = (if l < 3 then 1 else 0) ∧ I (ln + 5) l = 0
def reP (T : gT) (I : gI) (J : gJ) (O : gO) (ln : Nat) : gP := fun v T' I' J' O' => v = none ∧ T' = T ∧ J' = J ∧ O' = O ∧ (∀ b, b < ln ∨ ln + 6 < b → ∀ j, I' b j = I b j) ∧ LnOk I' ln ∧ lnZ I' ln 12
set_option maxHeartbeats 4000000 in
set_option maxRecDepth 20000 in
theorem ct_X4_reset {T : gT} {I : gI} {J : gJ} {O : gO} {ln : Nat} (hM : LnAt T O ln) : Ct yX4_reset cX4_reset 3 none [va_rf (some ln)] 2 45 0 0 T I J O (reP T I J O ln) := by
  refine Ct.of (by decide) [some (va_rf (some ln)), none, none] (gEn1 (List.forall_mem_cons.mpr ⟨cat_VR _, fun _ h => nomatch h⟩) rfl (Nat.le_of_ble_eq_true rfl) rfl) ?_
  intro X x en rm ini hr hz
  have hr0 := hr
  have loop : ∀ (d : Nat) (m : Int) (I1 : gI) (y : Option Value), m + d = 12 → 0 ≤ m → (∀ b, b < ln ∨ ln + 6 < b → ∀ j, I1 b j = I b j) → lnZ I1 ln m → En (I1 (ln + 1)) (fun l => lnSh I1 ln l ∧ l < m) 12 (I1 (ln + 6)) (I1 ln 6) → G X 7 [some (va_rf (some ln)), some (VI m), y] [] T I1 J O 0 0 := by
    intro d
    induction d with
    | zero =>
      intro m I1 y hd m0 hf hZ hE
      have em : m = 12 := by omega
      subst em
      refine G_rg (fun hr => ?_)
      refine G_iload1 x eX4_reset_7 ?_
      refine G_push x eX4_reset_8 ?_
      refine G_icmp_ge x eX4_reset_10 (by first | omega | exact hr _ _ | exact hr0 _ _ | exact hrS _) (by first | omega | exact hr _ _ | exact hr0 _ _ | exact hrS _) (fun c10 => ?_) (fun c10 => ?_)
      · refine G_return x en eX4_reset_92 (by omega) (by omega) ?_
        exact ⟨rfl, rfl, rfl, rfl, hf, hE.congr (fun _ _ _ => rfl) (fun y _ h => ⟨fun z => ⟨z, h⟩, fun z => z.1⟩), hZ⟩
      · omega
    | succ d ih =>
      intro m I1 y hd m0 hf hZ hE
      -- behind the tables
      have fin : ∀ (I2 : gI) (y : Option Value), (∀ b, b < ln ∨ ln + 6 < b → ∀ j, I2 b j = I1 b j) → I2 ln 6 = I1 ln 6 → (∀ j, I2 (ln + 6) j = I1 (ln + 6) j) → (∀ j, j ≠ m → I2 (ln + 1) j = I1 (ln + 1) j ∧ I2 (ln + 2) j = I1 (ln + 2) j ∧ I2 (ln + 3) j = I1 (ln + 3) j ∧ I2 (ln + 4) j = I1 (ln + 4) j ∧ I2 (ln + 5) j = I1 (ln + 5) j) → (I2 (ln + 1) m = (if m < 3 then 1000 * (m + 1) else -1) ∧ I2 (ln + 2) m = (if m < 3 then 0 else -1) ∧ I2 (ln + 3) m = 0 ∧ I2 (ln + 4) m = (if m < 3 then 1 else 0) ∧ I2 (ln + 5) m = 0) → G X 81 [some (va_rf (some ln)), some (VI m), y] [] T I2 J O 0 0 := by
        intro I2 y g1 g2 g3 g4 g5
        refine G_rg (fun hr => ?_)
        refine G_aload0 x eX4_reset_81 ?_
        refine G_iload1 x eX4_reset_82 ?_
        refine G_cVg x eX4_reset_83 kX4_38 im_yX4_arrange se_yX4_arrange rm hM.m (ct_X4_arrange (sh := fun l => lnSh I2 ln l ∧ l < m + 1) (sh0 := fun l => lnSh I1 ln l ∧ l < m) (pl0 := I1 (ln + 1)) hM (by omega) (by omega) (by rw [show I2 (ln + 6) = I1 (ln + 6) from funext g3, g2]; exact hE) (fun l _ _ hne => ⟨(g4 l hne).1.symm, by unfold lnSh; rw [(g4 l hne).2.2.2.1, (g4 l hne).2.2.2.2]; exact ⟨fun z => ⟨z.1, by omega⟩, fun z => ⟨z.1, by omega⟩⟩⟩) ⟨fun z => z.1, fun z => ⟨z, by omega⟩⟩ (by rw [g5.2.2.2.1]; split <;> omega) (by rw [g5.2.2.2.2]; omega)) rfl (fun v83 T83 I83 J83 O83 p83 => ?_)
        refine G_rg (fun hr => ?_)
        obtain ⟨rfl, rfl, rfl, rfl, k1, k2⟩ := p83
        refine G_iinc1 x eX4_reset_86 ?_
        refine G_goto x eX4_reset_89 ?_
        refine ih (m + 1) _ _ (by omega) (by omega) (fun b hb j => (k1 b j (by omega) (Or.inl (by omega))).trans ((g1 b hb j).trans (hf b hb j))) (fun l l0 l1 => ?_) ?_
        · rw [k1 _ _ (by omega) (Or.inl (by omega)), k1 _ _ (by omega) (Or.inl (by omega)), k1 _ _ (by omega) (Or.inl (by omega)), k1 _ _ (by omega) (Or.inl (by omega)), k1 _ _ (by omega) (Or.inl (by omega))]
          by_cases q : l = m
          · rw [q]; exact g5
          · have := g4 l q
            rw [this.1, this.2.1, this.2.2.1, this.2.2.2.1, this.2.2.2.2]
            exact hZ l l0 (by omega)
        · rw [show I83 (ln + 1) = I2 (ln + 1) from funext fun j => k1 _ j (by omega) (Or.inl (by omega))]
          exact k2.congr (fun _ _ _ => rfl) (fun y _ _ => by unfold lnSh; rw [k1 _ _ (by omega) (Or.inl (by omega)), k1 _ _ (by omega) (Or.inl (by omega))])
      refine G_rg (fun hr => ?_)
      refine G_iload1 x eX4_reset_7 ?_
      refine G_push x eX4_reset_8 ?_
      refine G_icmp_ge x eX4_reset_10 (by first | omega | exact hr _ _ | exact hr0 _ _ | exact hrS _) (by first | omega | exact hr _ _ | exact hr0 _ _ | exact hrS _) (fun c10 => ?_) (fun c10 => ?_)
      · omega
      · refine G_iload1 x eX4_reset_13 ?_
        refine G_push x eX4_reset_14 ?_
        refine G_icmp_ge x eX4_reset_15 (by first | omega | exact hr _ _ | exact hr0 _ _ | exact hrS _) (by first | omega | exact hr _ _ | exact hr0 _ _ | exact hrS _) (fun c15 => ?_) (fun c15 => ?_)
        · refine G_push x eX4_reset_22 ?_
          refine G_istore2 x eX4_reset_23 ?_
          refine G_aload0 x eX4_reset_24 ?_
          refine G_getq x eX4_reset_25 fX4_9 rfl rfl hM.m hM.o_places ?_
          refine G_iload1 x eX4_reset_28 ?_
          refine G_iload2 x eX4_reset_29 ?_
          refine G_if_eq x eX4_reset_30 (by first | omega | exact hr _ _ | exact hr0 _ _ | exact hrS _) (fun c30 => ?_) (fun c30 => ?_)
          · refine G_push x eX4_reset_43 ?_
            refine G_iast x eX4_reset_44 rfl hM.t_places (by omega) (by omega) (by omega) (by first | omega | exact hr _ _ | exact hr0 _ _ | exact hrS _) ?_
            refine G_rg (fun hr => ?_)
            refine G_aload0 x eX4_reset_45 ?_
            refine G_getq x eX4_reset_46 fX4_15 rfl rfl hM.m hM.o_clocks ?_
            refine G_iload1 x eX4_reset_49 ?_
            refine G_iload2 x eX4_reset_50 ?_
            refine G_if_eq x eX4_reset_51 (by first | omega | exact hr _ _ | exact hr0 _ _ | exact hrS _) (fun c51 => ?_) (fun c51 => ?_)
            · refine G_push x eX4_reset_58 ?_
              refine G_iast x eX4_reset_59 rfl hM.t_clocks (by omega) (by omega) (by omega) (by first | omega | exact hr _ _ | exact hr0 _ _ | exact hrS _) ?_
              refine G_rg (fun hr => ?_)
              refine G_aload0 x eX4_reset_60 ?_
              refine G_getq x eX4_reset_61 fX4_18 rfl rfl hM.m hM.o_stampers ?_
              refine G_iload1 x eX4_reset_64 ?_
              refine G_push x eX4_reset_65 ?_
              refine G_iast x eX4_reset_66 rfl hM.t_stampers (by omega) (by omega) (by omega) (by first | omega | exact hr _ _ | exact hr0 _ _ | exact hrS _) ?_
              refine G_rg (fun hr => ?_)
              refine G_aload0 x eX4_reset_67 ?_
              refine G_getq x eX4_reset_68 fX4_21 rfl rfl hM.m hM.o_made ?_
              refine G_iload1 x eX4_reset_71 ?_
              refine G_iload2 x eX4_reset_72 ?_
              refine G_zast x eX4_reset_73 rfl hM.t_made (by omega) (by omega) (by omega) (by first | omega | exact hr _ _ | exact hr0 _ _ | exact hrS _) ?_
              refine G_rg (fun hr => ?_)
              refine G_aload0 x eX4_reset_74 ?_
              refine G_getq x eX4_reset_75 fX4_25 rfl rfl hM.m hM.o_removed ?_
              refine G_iload1 x eX4_reset_78 ?_
              refine G_push x eX4_reset_79 ?_
              refine G_zast x eX4_reset_80 rfl hM.t_removed (by omega) (by omega) (by omega) (by first | omega | exact hr _ _ | exact hr0 _ _ | exact hrS _) ?_
              refine G_rg (fun hr => ?_)
              exact fin _ _ (fun b hb j => by (repeat (first | rw [uI_s] | rw [uI_a (by omega)] | rw [uI_k (by omega)]))) (by (repeat (first | rw [uI_s] | rw [uI_a (by omega)] | rw [uI_k (by omega)]))) (fun j => by (repeat (first | rw [uI_s] | rw [uI_a (by omega)] | rw [uI_k (by omega)]))) (fun j hj => ⟨by (repeat (first | rw [uI_s] | rw [uI_a (by omega)] | rw [uI_k (by omega)])), by (repeat (first | rw [uI_s] | rw [uI_a (by omega)] | rw [uI_k (by omega)])), by (repeat (first | rw [uI_s] | rw [uI_a (by omega)] | rw [uI_k (by omega)])), by (repeat (first | rw [uI_s] | rw [uI_a (by omega)] | rw [uI_k (by omega)])), by (repeat (first | rw [uI_s] | rw [uI_a (by omega)] | rw [uI_k (by omega)]))⟩) ⟨by (repeat (first | rw [uI_s] | rw [uI_a (by omega)] | rw [uI_k (by omega)])); split <;> omega, by (repeat (first | rw [uI_s] | rw [uI_a (by omega)] | rw [uI_k (by omega)])); split <;> omega, by (repeat (first | rw [uI_s] | rw [uI_a (by omega)] | rw [uI_k (by omega)])), by (repeat (first | rw [uI_s] | rw [uI_a (by omega)] | rw [uI_k (by omega)])); split <;> omega, by (repeat (first | rw [uI_s] | rw [uI_a (by omega)] | rw [uI_k (by omega)]))⟩
            · refine G_push x eX4_reset_54 ?_
              refine G_goto x eX4_reset_55 ?_
              refine G_iast x eX4_reset_59 rfl hM.t_clocks (by omega) (by omega) (by omega) (by first | omega | exact hr _ _ | exact hr0 _ _ | exact hrS _) ?_
              refine G_rg (fun hr => ?_)
              refine G_aload0 x eX4_reset_60 ?_
              refine G_getq x eX4_reset_61 fX4_18 rfl rfl hM.m hM.o_stampers ?_
              refine G_iload1 x eX4_reset_64 ?_
              refine G_push x eX4_reset_65 ?_
              refine G_iast x eX4_reset_66 rfl hM.t_stampers (by omega) (by omega) (by omega) (by first | omega | exact hr _ _ | exact hr0 _ _ | exact hrS _) ?_
              refine G_rg (fun hr => ?_)
              refine G_aload0 x eX4_reset_67 ?_
              refine G_getq x eX4_reset_68 fX4_21 rfl rfl hM.m hM.o_made ?_
              refine G_iload1 x eX4_reset_71 ?_
              refine G_iload2 x eX4_reset_72 ?_
              refine G_zast x eX4_reset_73 rfl hM.t_made (by omega) (by omega) (by omega) (by first | omega | exact hr _ _ | exact hr0 _ _ | exact hrS _) ?_
              refine G_rg (fun hr => ?_)
              refine G_aload0 x eX4_reset_74 ?_
              refine G_getq x eX4_reset_75 fX4_25 rfl rfl hM.m hM.o_removed ?_
              refine G_iload1 x eX4_reset_78 ?_
              refine G_push x eX4_reset_79 ?_
              refine G_zast x eX4_reset_80 rfl hM.t_removed (by omega) (by omega) (by omega) (by first | omega | exact hr _ _ | exact hr0 _ _ | exact hrS _) ?_
              refine G_rg (fun hr => ?_)
              exact fin _ _ (fun b hb j => by (repeat (first | rw [uI_s] | rw [uI_a (by omega)] | rw [uI_k (by omega)]))) (by (repeat (first | rw [uI_s] | rw [uI_a (by omega)] | rw [uI_k (by omega)]))) (fun j => by (repeat (first | rw [uI_s] | rw [uI_a (by omega)] | rw [uI_k (by omega)]))) (fun j hj => ⟨by (repeat (first | rw [uI_s] | rw [uI_a (by omega)] | rw [uI_k (by omega)])), by (repeat (first | rw [uI_s] | rw [uI_a (by omega)] | rw [uI_k (by omega)])), by (repeat (first | rw [uI_s] | rw [uI_a (by omega)] | rw [uI_k (by omega)])), by (repeat (first | rw [uI_s] | rw [uI_a (by omega)] | rw [uI_k (by omega)])), by (repeat (first | rw [uI_s] | rw [uI_a (by omega)] | rw [uI_k (by omega)]))⟩) ⟨by (repeat (first | rw [uI_s] | rw [uI_a (by omega)] | rw [uI_k (by omega)])); split <;> omega, by (repeat (first | rw [uI_s] | rw [uI_a (by omega)] | rw [uI_k (by omega)])); split <;> omega, by (repeat (first | rw [uI_s] | rw [uI_a (by omega)] | rw [uI_k (by omega)])), by (repeat (first | rw [uI_s] | rw [uI_a (by omega)] | rw [uI_k (by omega)])); split <;> omega, by (repeat (first | rw [uI_s] | rw [uI_a (by omega)] | rw [uI_k (by omega)]))⟩
          · refine G_push x eX4_reset_33 ?_
            refine G_iload1 x eX4_reset_36 ?_
            refine G_push x eX4_reset_37 ?_
            refine G_iadd x eX4_reset_38 ?_
            refine G_imul x eX4_reset_39 ?_
            refine G_goto x eX4_reset_40 ?_
            refine G_iast x eX4_reset_44 rfl hM.t_places (by omega) (by omega) (by omega) (by first | omega | exact hr _ _ | exact hr0 _ _ | exact hrS _) ?_
            refine G_rg (fun hr => ?_)
            refine G_aload0 x eX4_reset_45 ?_
            refine G_getq x eX4_reset_46 fX4_15 rfl rfl hM.m hM.o_clocks ?_
            refine G_iload1 x eX4_reset_49 ?_
            refine G_iload2 x eX4_reset_50 ?_
            refine G_if_eq x eX4_reset_51 (by first | omega | exact hr _ _ | exact hr0 _ _ | exact hrS _) (fun c51 => ?_) (fun c51 => ?_)
            · refine G_push x eX4_reset_58 ?_
              refine G_iast x eX4_reset_59 rfl hM.t_clocks (by omega) (by omega) (by omega) (by first | omega | exact hr _ _ | exact hr0 _ _ | exact hrS _) ?_
              refine G_rg (fun hr => ?_)
              refine G_aload0 x eX4_reset_60 ?_
              refine G_getq x eX4_reset_61 fX4_18 rfl rfl hM.m hM.o_stampers ?_
              refine G_iload1 x eX4_reset_64 ?_
              refine G_push x eX4_reset_65 ?_
              refine G_iast x eX4_reset_66 rfl hM.t_stampers (by omega) (by omega) (by omega) (by first | omega | exact hr _ _ | exact hr0 _ _ | exact hrS _) ?_
              refine G_rg (fun hr => ?_)
              refine G_aload0 x eX4_reset_67 ?_
              refine G_getq x eX4_reset_68 fX4_21 rfl rfl hM.m hM.o_made ?_
              refine G_iload1 x eX4_reset_71 ?_
              refine G_iload2 x eX4_reset_72 ?_
              refine G_zast x eX4_reset_73 rfl hM.t_made (by omega) (by omega) (by omega) (by first | omega | exact hr _ _ | exact hr0 _ _ | exact hrS _) ?_
              refine G_rg (fun hr => ?_)
              refine G_aload0 x eX4_reset_74 ?_
              refine G_getq x eX4_reset_75 fX4_25 rfl rfl hM.m hM.o_removed ?_
              refine G_iload1 x eX4_reset_78 ?_
              refine G_push x eX4_reset_79 ?_
              refine G_zast x eX4_reset_80 rfl hM.t_removed (by omega) (by omega) (by omega) (by first | omega | exact hr _ _ | exact hr0 _ _ | exact hrS _) ?_
              refine G_rg (fun hr => ?_)
              exact fin _ _ (fun b hb j => by (repeat (first | rw [uI_s] | rw [uI_a (by omega)] | rw [uI_k (by omega)]))) (by (repeat (first | rw [uI_s] | rw [uI_a (by omega)] | rw [uI_k (by omega)]))) (fun j => by (repeat (first | rw [uI_s] | rw [uI_a (by omega)] | rw [uI_k (by omega)]))) (fun j hj => ⟨by (repeat (first | rw [uI_s] | rw [uI_a (by omega)] | rw [uI_k (by omega)])), by (repeat (first | rw [uI_s] | rw [uI_a (by omega)] | rw [uI_k (by omega)])), by (repeat (first | rw [uI_s] | rw [uI_a (by omega)] | rw [uI_k (by omega)])), by (repeat (first | rw [uI_s] | rw [uI_a (by omega)] | rw [uI_k (by omega)])), by (repeat (first | rw [uI_s] | rw [uI_a (by omega)] | rw [uI_k (by omega)]))⟩) ⟨by (repeat (first | rw [uI_s] | rw [uI_a (by omega)] | rw [uI_k (by omega)])); split <;> omega, by (repeat (first | rw [uI_s] | rw [uI_a (by omega)] | rw [uI_k (by omega)])); split <;> omega, by (repeat (first | rw [uI_s] | rw [uI_a (by omega)] | rw [uI_k (by omega)])), by (repeat (first | rw [uI_s] | rw [uI_a (by omega)] | rw [uI_k (by omega)])); split <;> omega, by (repeat (first | rw [uI_s] | rw [uI_a (by omega)] | rw [uI_k (by omega)]))⟩
            · refine G_push x eX4_reset_54 ?_
              refine G_goto x eX4_reset_55 ?_
              refine G_iast x eX4_reset_59 rfl hM.t_clocks (by omega) (by omega) (by omega) (by first | omega | exact hr _ _ | exact hr0 _ _ | exact hrS _) ?_
              refine G_rg (fun hr => ?_)
              refine G_aload0 x eX4_reset_60 ?_
              refine G_getq x eX4_reset_61 fX4_18 rfl rfl hM.m hM.o_stampers ?_
              refine G_iload1 x eX4_reset_64 ?_
              refine G_push x eX4_reset_65 ?_
              refine G_iast x eX4_reset_66 rfl hM.t_stampers (by omega) (by omega) (by omega) (by first | omega | exact hr _ _ | exact hr0 _ _ | exact hrS _) ?_
              refine G_rg (fun hr => ?_)
              refine G_aload0 x eX4_reset_67 ?_
              refine G_getq x eX4_reset_68 fX4_21 rfl rfl hM.m hM.o_made ?_
              refine G_iload1 x eX4_reset_71 ?_
              refine G_iload2 x eX4_reset_72 ?_
              refine G_zast x eX4_reset_73 rfl hM.t_made (by omega) (by omega) (by omega) (by first | omega | exact hr _ _ | exact hr0 _ _ | exact hrS _) ?_
              refine G_rg (fun hr => ?_)
              refine G_aload0 x eX4_reset_74 ?_
              refine G_getq x eX4_reset_75 fX4_25 rfl rfl hM.m hM.o_removed ?_
              refine G_iload1 x eX4_reset_78 ?_
              refine G_push x eX4_reset_79 ?_
              refine G_zast x eX4_reset_80 rfl hM.t_removed (by omega) (by omega) (by omega) (by first | omega | exact hr _ _ | exact hr0 _ _ | exact hrS _) ?_
              refine G_rg (fun hr => ?_)
              exact fin _ _ (fun b hb j => by (repeat (first | rw [uI_s] | rw [uI_a (by omega)] | rw [uI_k (by omega)]))) (by (repeat (first | rw [uI_s] | rw [uI_a (by omega)] | rw [uI_k (by omega)]))) (fun j => by (repeat (first | rw [uI_s] | rw [uI_a (by omega)] | rw [uI_k (by omega)]))) (fun j hj => ⟨by (repeat (first | rw [uI_s] | rw [uI_a (by omega)] | rw [uI_k (by omega)])), by (repeat (first | rw [uI_s] | rw [uI_a (by omega)] | rw [uI_k (by omega)])), by (repeat (first | rw [uI_s] | rw [uI_a (by omega)] | rw [uI_k (by omega)])), by (repeat (first | rw [uI_s] | rw [uI_a (by omega)] | rw [uI_k (by omega)])), by (repeat (first | rw [uI_s] | rw [uI_a (by omega)] | rw [uI_k (by omega)]))⟩) ⟨by (repeat (first | rw [uI_s] | rw [uI_a (by omega)] | rw [uI_k (by omega)])); split <;> omega, by (repeat (first | rw [uI_s] | rw [uI_a (by omega)] | rw [uI_k (by omega)])); split <;> omega, by (repeat (first | rw [uI_s] | rw [uI_a (by omega)] | rw [uI_k (by omega)])), by (repeat (first | rw [uI_s] | rw [uI_a (by omega)] | rw [uI_k (by omega)])); split <;> omega, by (repeat (first | rw [uI_s] | rw [uI_a (by omega)] | rw [uI_k (by omega)]))⟩
        · refine G_push x eX4_reset_18 ?_
          refine G_goto x eX4_reset_19 ?_
          refine G_istore2 x eX4_reset_23 ?_
          refine G_aload0 x eX4_reset_24 ?_
          refine G_getq x eX4_reset_25 fX4_9 rfl rfl hM.m hM.o_places ?_
          refine G_iload1 x eX4_reset_28 ?_
          refine G_iload2 x eX4_reset_29 ?_
          refine G_if_eq x eX4_reset_30 (by first | omega | exact hr _ _ | exact hr0 _ _ | exact hrS _) (fun c30 => ?_) (fun c30 => ?_)
          · refine G_push x eX4_reset_43 ?_
            refine G_iast x eX4_reset_44 rfl hM.t_places (by omega) (by omega) (by omega) (by first | omega | exact hr _ _ | exact hr0 _ _ | exact hrS _) ?_
            refine G_rg (fun hr => ?_)
            refine G_aload0 x eX4_reset_45 ?_
            refine G_getq x eX4_reset_46 fX4_15 rfl rfl hM.m hM.o_clocks ?_
            refine G_iload1 x eX4_reset_49 ?_
            refine G_iload2 x eX4_reset_50 ?_
            refine G_if_eq x eX4_reset_51 (by first | omega | exact hr _ _ | exact hr0 _ _ | exact hrS _) (fun c51 => ?_) (fun c51 => ?_)
            · refine G_push x eX4_reset_58 ?_
              refine G_iast x eX4_reset_59 rfl hM.t_clocks (by omega) (by omega) (by omega) (by first | omega | exact hr _ _ | exact hr0 _ _ | exact hrS _) ?_
              refine G_rg (fun hr => ?_)
              refine G_aload0 x eX4_reset_60 ?_
              refine G_getq x eX4_reset_61 fX4_18 rfl rfl hM.m hM.o_stampers ?_
              refine G_iload1 x eX4_reset_64 ?_
              refine G_push x eX4_reset_65 ?_
              refine G_iast x eX4_reset_66 rfl hM.t_stampers (by omega) (by omega) (by omega) (by first | omega | exact hr _ _ | exact hr0 _ _ | exact hrS _) ?_
              refine G_rg (fun hr => ?_)
              refine G_aload0 x eX4_reset_67 ?_
              refine G_getq x eX4_reset_68 fX4_21 rfl rfl hM.m hM.o_made ?_
              refine G_iload1 x eX4_reset_71 ?_
              refine G_iload2 x eX4_reset_72 ?_
              refine G_zast x eX4_reset_73 rfl hM.t_made (by omega) (by omega) (by omega) (by first | omega | exact hr _ _ | exact hr0 _ _ | exact hrS _) ?_
              refine G_rg (fun hr => ?_)
              refine G_aload0 x eX4_reset_74 ?_
              refine G_getq x eX4_reset_75 fX4_25 rfl rfl hM.m hM.o_removed ?_
              refine G_iload1 x eX4_reset_78 ?_
              refine G_push x eX4_reset_79 ?_
              refine G_zast x eX4_reset_80 rfl hM.t_removed (by omega) (by omega) (by omega) (by first | omega | exact hr _ _ | exact hr0 _ _ | exact hrS _) ?_
              refine G_rg (fun hr => ?_)
              exact fin _ _ (fun b hb j => by (repeat (first | rw [uI_s] | rw [uI_a (by omega)] | rw [uI_k (by omega)]))) (by (repeat (first | rw [uI_s] | rw [uI_a (by omega)] | rw [uI_k (by omega)]))) (fun j => by (repeat (first | rw [uI_s] | rw [uI_a (by omega)] | rw [uI_k (by omega)]))) (fun j hj => ⟨by (repeat (first | rw [uI_s] | rw [uI_a (by omega)] | rw [uI_k (by omega)])), by (repeat (first | rw [uI_s] | rw [uI_a (by omega)] | rw [uI_k (by omega)])), by (repeat (first | rw [uI_s] | rw [uI_a (by omega)] | rw [uI_k (by omega)])), by (repeat (first | rw [uI_s] | rw [uI_a (by omega)] | rw [uI_k (by omega)])), by (repeat (first | rw [uI_s] | rw [uI_a (by omega)] | rw [uI_k (by omega)]))⟩) ⟨by (repeat (first | rw [uI_s] | rw [uI_a (by omega)] | rw [uI_k (by omega)])); split <;> omega, by (repeat (first | rw [uI_s] | rw [uI_a (by omega)] | rw [uI_k (by omega)])); split <;> omega, by (repeat (first | rw [uI_s] | rw [uI_a (by omega)] | rw [uI_k (by omega)])), by (repeat (first | rw [uI_s] | rw [uI_a (by omega)] | rw [uI_k (by omega)])); split <;> omega, by (repeat (first | rw [uI_s] | rw [uI_a (by omega)] | rw [uI_k (by omega)]))⟩
            · refine G_push x eX4_reset_54 ?_
              refine G_goto x eX4_reset_55 ?_
              refine G_iast x eX4_reset_59 rfl hM.t_clocks (by omega) (by omega) (by omega) (by first | omega | exact hr _ _ | exact hr0 _ _ | exact hrS _) ?_
              refine G_rg (fun hr => ?_)
              refine G_aload0 x eX4_reset_60 ?_
              refine G_getq x eX4_reset_61 fX4_18 rfl rfl hM.m hM.o_stampers ?_
              refine G_iload1 x eX4_reset_64 ?_
              refine G_push x eX4_reset_65 ?_
              refine G_iast x eX4_reset_66 rfl hM.t_stampers (by omega) (by omega) (by omega) (by first | omega | exact hr _ _ | exact hr0 _ _ | exact hrS _) ?_
              refine G_rg (fun hr => ?_)
              refine G_aload0 x eX4_reset_67 ?_
              refine G_getq x eX4_reset_68 fX4_21 rfl rfl hM.m hM.o_made ?_
              refine G_iload1 x eX4_reset_71 ?_
              refine G_iload2 x eX4_reset_72 ?_
              refine G_zast x eX4_reset_73 rfl hM.t_made (by omega) (by omega) (by omega) (by first | omega | exact hr _ _ | exact hr0 _ _ | exact hrS _) ?_
              refine G_rg (fun hr => ?_)
              refine G_aload0 x eX4_reset_74 ?_
              refine G_getq x eX4_reset_75 fX4_25 rfl rfl hM.m hM.o_removed ?_
              refine G_iload1 x eX4_reset_78 ?_
              refine G_push x eX4_reset_79 ?_
              refine G_zast x eX4_reset_80 rfl hM.t_removed (by omega) (by omega) (by omega) (by first | omega | exact hr _ _ | exact hr0 _ _ | exact hrS _) ?_
              refine G_rg (fun hr => ?_)
              exact fin _ _ (fun b hb j => by (repeat (first | rw [uI_s] | rw [uI_a (by omega)] | rw [uI_k (by omega)]))) (by (repeat (first | rw [uI_s] | rw [uI_a (by omega)] | rw [uI_k (by omega)]))) (fun j => by (repeat (first | rw [uI_s] | rw [uI_a (by omega)] | rw [uI_k (by omega)]))) (fun j hj => ⟨by (repeat (first | rw [uI_s] | rw [uI_a (by omega)] | rw [uI_k (by omega)])), by (repeat (first | rw [uI_s] | rw [uI_a (by omega)] | rw [uI_k (by omega)])), by (repeat (first | rw [uI_s] | rw [uI_a (by omega)] | rw [uI_k (by omega)])), by (repeat (first | rw [uI_s] | rw [uI_a (by omega)] | rw [uI_k (by omega)])), by (repeat (first | rw [uI_s] | rw [uI_a (by omega)] | rw [uI_k (by omega)]))⟩) ⟨by (repeat (first | rw [uI_s] | rw [uI_a (by omega)] | rw [uI_k (by omega)])); split <;> omega, by (repeat (first | rw [uI_s] | rw [uI_a (by omega)] | rw [uI_k (by omega)])); split <;> omega, by (repeat (first | rw [uI_s] | rw [uI_a (by omega)] | rw [uI_k (by omega)])), by (repeat (first | rw [uI_s] | rw [uI_a (by omega)] | rw [uI_k (by omega)])); split <;> omega, by (repeat (first | rw [uI_s] | rw [uI_a (by omega)] | rw [uI_k (by omega)]))⟩
          · refine G_push x eX4_reset_33 ?_
            refine G_iload1 x eX4_reset_36 ?_
            refine G_push x eX4_reset_37 ?_
            refine G_iadd x eX4_reset_38 ?_
            refine G_imul x eX4_reset_39 ?_
            refine G_goto x eX4_reset_40 ?_
            refine G_iast x eX4_reset_44 rfl hM.t_places (by omega) (by omega) (by omega) (by first | omega | exact hr _ _ | exact hr0 _ _ | exact hrS _) ?_
            refine G_rg (fun hr => ?_)
            refine G_aload0 x eX4_reset_45 ?_
            refine G_getq x eX4_reset_46 fX4_15 rfl rfl hM.m hM.o_clocks ?_
            refine G_iload1 x eX4_reset_49 ?_
            refine G_iload2 x eX4_reset_50 ?_
            refine G_if_eq x eX4_reset_51 (by first | omega | exact hr _ _ | exact hr0 _ _ | exact hrS _) (fun c51 => ?_) (fun c51 => ?_)
            · refine G_push x eX4_reset_58 ?_
              refine G_iast x eX4_reset_59 rfl hM.t_clocks (by omega) (by omega) (by omega) (by first | omega | exact hr _ _ | exact hr0 _ _ | exact hrS _) ?_
              refine G_rg (fun hr => ?_)
              refine G_aload0 x eX4_reset_60 ?_
              refine G_getq x eX4_reset_61 fX4_18 rfl rfl hM.m hM.o_stampers ?_
              refine G_iload1 x eX4_reset_64 ?_
              refine G_push x eX4_reset_65 ?_
              refine G_iast x eX4_reset_66 rfl hM.t_stampers (by omega) (by omega) (by omega) (by first | omega | exact hr _ _ | exact hr0 _ _ | exact hrS _) ?_
              refine G_rg (fun hr => ?_)
              refine G_aload0 x eX4_reset_67 ?_
              refine G_getq x eX4_reset_68 fX4_21 rfl rfl hM.m hM.o_made ?_
              refine G_iload1 x eX4_reset_71 ?_
              refine G_iload2 x eX4_reset_72 ?_
              refine G_zast x eX4_reset_73 rfl hM.t_made (by omega) (by omega) (by omega) (by first | omega | exact hr _ _ | exact hr0 _ _ | exact hrS _) ?_
              refine G_rg (fun hr => ?_)
              refine G_aload0 x eX4_reset_74 ?_
              refine G_getq x eX4_reset_75 fX4_25 rfl rfl hM.m hM.o_removed ?_
              refine G_iload1 x eX4_reset_78 ?_
              refine G_push x eX4_reset_79 ?_
              refine G_zast x eX4_reset_80 rfl hM.t_removed (by omega) (by omega) (by omega) (by first | omega | exact hr _ _ | exact hr0 _ _ | exact hrS _) ?_
              refine G_rg (fun hr => ?_)
              exact fin _ _ (fun b hb j => by (repeat (first | rw [uI_s] | rw [uI_a (by omega)] | rw [uI_k (by omega)]))) (by (repeat (first | rw [uI_s] | rw [uI_a (by omega)] | rw [uI_k (by omega)]))) (fun j => by (repeat (first | rw [uI_s] | rw [uI_a (by omega)] | rw [uI_k (by omega)]))) (fun j hj => ⟨by (repeat (first | rw [uI_s] | rw [uI_a (by omega)] | rw [uI_k (by omega)])), by (repeat (first | rw [uI_s] | rw [uI_a (by omega)] | rw [uI_k (by omega)])), by (repeat (first | rw [uI_s] | rw [uI_a (by omega)] | rw [uI_k (by omega)])), by (repeat (first | rw [uI_s] | rw [uI_a (by omega)] | rw [uI_k (by omega)])), by (repeat (first | rw [uI_s] | rw [uI_a (by omega)] | rw [uI_k (by omega)]))⟩) ⟨by (repeat (first | rw [uI_s] | rw [uI_a (by omega)] | rw [uI_k (by omega)])); split <;> omega, by (repeat (first | rw [uI_s] | rw [uI_a (by omega)] | rw [uI_k (by omega)])); split <;> omega, by (repeat (first | rw [uI_s] | rw [uI_a (by omega)] | rw [uI_k (by omega)])), by (repeat (first | rw [uI_s] | rw [uI_a (by omega)] | rw [uI_k (by omega)])); split <;> omega, by (repeat (first | rw [uI_s] | rw [uI_a (by omega)] | rw [uI_k (by omega)]))⟩
            · refine G_push x eX4_reset_54 ?_
              refine G_goto x eX4_reset_55 ?_
              refine G_iast x eX4_reset_59 rfl hM.t_clocks (by omega) (by omega) (by omega) (by first | omega | exact hr _ _ | exact hr0 _ _ | exact hrS _) ?_
              refine G_rg (fun hr => ?_)
              refine G_aload0 x eX4_reset_60 ?_
              refine G_getq x eX4_reset_61 fX4_18 rfl rfl hM.m hM.o_stampers ?_
              refine G_iload1 x eX4_reset_64 ?_
              refine G_push x eX4_reset_65 ?_
              refine G_iast x eX4_reset_66 rfl hM.t_stampers (by omega) (by omega) (by omega) (by first | omega | exact hr _ _ | exact hr0 _ _ | exact hrS _) ?_
              refine G_rg (fun hr => ?_)
              refine G_aload0 x eX4_reset_67 ?_
              refine G_getq x eX4_reset_68 fX4_21 rfl rfl hM.m hM.o_made ?_
              refine G_iload1 x eX4_reset_71 ?_
              refine G_iload2 x eX4_reset_72 ?_
              refine G_zast x eX4_reset_73 rfl hM.t_made (by omega) (by omega) (by omega) (by first | omega | exact hr _ _ | exact hr0 _ _ | exact hrS _) ?_
              refine G_rg (fun hr => ?_)
              refine G_aload0 x eX4_reset_74 ?_
              refine G_getq x eX4_reset_75 fX4_25 rfl rfl hM.m hM.o_removed ?_
              refine G_iload1 x eX4_reset_78 ?_
              refine G_push x eX4_reset_79 ?_
              refine G_zast x eX4_reset_80 rfl hM.t_removed (by omega) (by omega) (by omega) (by first | omega | exact hr _ _ | exact hr0 _ _ | exact hrS _) ?_
              refine G_rg (fun hr => ?_)
              exact fin _ _ (fun b hb j => by (repeat (first | rw [uI_s] | rw [uI_a (by omega)] | rw [uI_k (by omega)]))) (by (repeat (first | rw [uI_s] | rw [uI_a (by omega)] | rw [uI_k (by omega)]))) (fun j => by (repeat (first | rw [uI_s] | rw [uI_a (by omega)] | rw [uI_k (by omega)]))) (fun j hj => ⟨by (repeat (first | rw [uI_s] | rw [uI_a (by omega)] | rw [uI_k (by omega)])), by (repeat (first | rw [uI_s] | rw [uI_a (by omega)] | rw [uI_k (by omega)])), by (repeat (first | rw [uI_s] | rw [uI_a (by omega)] | rw [uI_k (by omega)])), by (repeat (first | rw [uI_s] | rw [uI_a (by omega)] | rw [uI_k (by omega)])), by (repeat (first | rw [uI_s] | rw [uI_a (by omega)] | rw [uI_k (by omega)]))⟩) ⟨by (repeat (first | rw [uI_s] | rw [uI_a (by omega)] | rw [uI_k (by omega)])); split <;> omega, by (repeat (first | rw [uI_s] | rw [uI_a (by omega)] | rw [uI_k (by omega)])); split <;> omega, by (repeat (first | rw [uI_s] | rw [uI_a (by omega)] | rw [uI_k (by omega)])), by (repeat (first | rw [uI_s] | rw [uI_a (by omega)] | rw [uI_k (by omega)])); split <;> omega, by (repeat (first | rw [uI_s] | rw [uI_a (by omega)] | rw [uI_k (by omega)]))⟩
  refine G_aload0 x eX4_reset_0 ?_
  refine G_push x eX4_reset_1 ?_
  refine G_puti x eX4_reset_2 fX4_34 rfl (Or.inl rfl) rfl hM.m (by first | omega | exact hr _ _ | exact hr0 _ _ | exact hrS _) ?_
  refine G_rg (fun hr => ?_)
  refine G_push x eX4_reset_5 ?_
  refine G_istore1 x eX4_reset_6 ?_
  refine loop 12 0 _ _ (by omega) (by omega) (fun b hb j => uI_a (by omega) _) (fun l a b => by omega) ⟨by rw [uI_s]; omega, by rw [uI_s]; omega, fun i j a b c => ?_, fun i a b => ?_, fun y a b c => by omega⟩
  · rw [uI_s] at c; omega
  · rw [uI_s] at b; omega
