/-! lines of the class -/
theorem lnLt_tr {pl : Int → Int} {x y z : Int} (h : lnLt pl x y) (h2 : lnLt pl y z) : lnLt pl x z := by unfold lnLt at *; omega
theorem ixR_idx {f : Int → Int} {l : Int} (d : Nat) : ∀ k : Int, 0 ≤ k → (∀ i, 0 ≤ i → i < k → f i ≠ l) → idxOf f (k + d) l (ixR f l d k) := by
  induction d with
  | zero => intro k k0 h; exact Or.inl ⟨rfl, fun i a b => h i a (by omega)⟩
  | succ d ih =>
    intro k k0 h
    unfold ixR
    by_cases e : f k = l
    · rw [if_pos e]; exact Or.inr ⟨k0, by omega, e, h⟩
    · rw [if_neg e]
      have := ih (k + 1) (by omega) (fun i a b => by
        by_cases e2 : i = k
        · rw [e2]; exact e
        · exact h i a (by omega))
      rw [show k + ((d + 1 : Nat) : Int) = k + 1 + d by omega]
      exact this
theorem ix_idx {f : Int → Int} {n l : Int} (h : 0 ≤ n) : idxOf f n l (ix f n l) := by
  have := ixR_idx (f := f) (l := l) n.toNat 0 (by omega) (fun i a b => by omega)
  rw [show (0 : Int) + (n.toNat : Int) = n by omega] at this
  exact this
/-- one more comes in at its place -/
theorem En.put {pl : Int → Int} {sh : Int → Prop} {n k x : Int} {f g : Int → Int} (h : En pl (fun l => sh l ∧ l ≠ x) 12 f n) (x0 : 0 ≤ x) (x1 : x < 12) (hs : sh x) (hk : 0 ≤ k) (hkn : k ≤ n) (hlo : k = 0 ∨ ¬ lnLt pl x (f (k - 1))) (hhi : ∀ j, k ≤ j → j < n → lnLt pl x (f j))
    (g1 : ∀ i, 0 ≤ i → i < k → g i = f i) (g2 : g k = x) (g3 : ∀ i, k < i → i ≤ n → g i = f (i - 1)) : En pl sh 12 g (n + 1) := by
  obtain ⟨h1, h2, h3, h4, h5⟩ := h
  have lo : ∀ i, 0 ≤ i → i < k → lnLt pl (f i) x := by
    have tot : ∀ y, y ≠ x → ¬ lnLt pl x y → lnLt pl y x := fun y hy hn => by unfold lnLt at *; omega
    intro i a b
    have hl := (h4 (k - 1) (by omega) (by omega)).2.2.2
    have hl1 := tot _ hl (by rcases hlo with q | q; omega; exact q)
    by_cases e : i = k - 1
    · rw [e]; exact hl1
    · exact lnLt_tr (h3 i (k - 1) a (by omega) (by omega)) hl1
  have bound : n + 1 ≤ 12 := by
    have := pig (g := fun i => if i = n then x else f i) (K := 12) (n.toNat + 1) (fun i a b => by
      by_cases e : i = n
      · simp only [if_pos e]; exact ⟨x0, x1⟩
      · simp only [if_neg e]; have := h4 i a (by omega); exact ⟨this.1, this.2.1⟩) (fun i j a b c => by
      have e : i ≠ n := by omega
      simp only [if_neg e]
      by_cases e2 : j = n
      · simp only [if_pos e2]; exact (h4 i a (by omega)).2.2.2
      · simp only [if_neg e2]
        intro z
        have := h3 i j a b (by omega)
        rw [z] at this
        exact lnLt_irr this)
    omega
  refine ⟨by omega, bound, fun i j a b c => ?_, fun i a b => ?_, fun y a b c => ?_⟩
  · rcases (by omega : i < k ∨ i = k ∨ k < i) with q | q | q
    · rw [g1 i a q]
      rcases (by omega : j < k ∨ j = k ∨ k < j) with p | p | p
      · rw [g1 j (by omega) p]; exact h3 i j a b (by omega)
      · rw [p, g2]; exact lo i a q
      · rw [g3 j p (by omega)]
        by_cases e : i = j - 1
        · exfalso; omega
        · exact h3 i (j - 1) a (by omega) (by omega)
    · rw [q, g2, g3 j (by omega) (by omega)]
      exact hhi (j - 1) (by omega) (by omega)
    · rw [g3 i q (by omega), g3 j (by omega) (by omega)]
      exact h3 (i - 1) (j - 1) (by omega) (by omega) (by omega)
  · rcases (by omega : i < k ∨ i = k ∨ k < i) with q | q | q
    · rw [g1 i a q]; have := h4 i a (by omega); exact ⟨this.1, this.2.1, this.2.2.1⟩
    · rw [q, g2]; exact ⟨x0, x1, hs⟩
    · rw [g3 i q (by omega)]; have := h4 (i - 1) (by omega) (by omega); exact ⟨this.1, this.2.1, this.2.2.1⟩
  · by_cases e : y = x
    · exact ⟨k, hk, by omega, by rw [g2, e]⟩
    · obtain ⟨i, i0, i1, e1⟩ := h5 y a b ⟨c, e⟩
      by_cases q : i < k
      · exact ⟨i, i0, by omega, by rw [g1 i i0 q]; exact e1⟩
      · exact ⟨i + 1, by omega, by omega, by rw [g3 (i + 1) (by omega) (by omega), show i + 1 - 1 = i by omega]; exact e1⟩
/-- the lines of an object: what is shown -/
abbrev lnSh (I : gI) (ln : Nat) : Int → Prop := fun l => I (ln + 4) l = 1 ∧ I (ln + 5) l = 0
def LnOk (I : gI) (ln : Nat) : Prop := En (I (ln + 1)) (lnSh I ln) 12 (I (ln + 6)) (I ln 6)
set_option maxRecDepth 20000 in
theorem ct_X4_count {T : gT} {I : gI} {J : gJ} {O : gO} {ln : Nat} (hM : LnAt T O ln) : Ct yX4_count cX4_count 1 (some .int) [va_rf (some ln)] 0 0 0 0 T I J O (pv (some (VI (I ln 6))) T I J O) := by
  refine Ct.of (by decide) [some (va_rf (some ln))] (gEn1 (List.forall_mem_cons.mpr ⟨cat_VR _, fun _ h => nomatch h⟩) rfl (Nat.le_of_ble_eq_true rfl) rfl) ?_
  intro X x en rm ini hr hz
  have hr0 := hr
  refine G_rg (fun hr => ?_)
  refine G_aload0 x eX4_count_0 ?_
  refine G_geti x eX4_count_1 fX4_34 rfl rfl hM.m (fun h1 => ?_)
  refine G_ireturn x en eX4_count_4 (by omega) (by omega) ?_
  first | exact pv_i | (refine ⟨?_, rfl, rfl, rfl, rfl⟩; split <;> first | rfl | omega)
def lnA (I : gI) (ln : Nat) (p : Int) : Int := if 0 ≤ p ∧ p < I ln 6 then I (ln + 6) p else -1
set_option maxRecDepth 20000 in
theorem ct_X4_numberAt {T : gT} {I : gI} {J : gJ} {O : gO} {ln : Nat} {p : Int} (hM : LnAt T O ln) (h0 : in32 p) (h1 : I ln 6 ≤ 12) : Ct yX4_numberAt cX4_numberAt 2 (some .int) [va_rf (some ln), VI p] 0 0 0 0 T I J O (pv (some (VI (lnA I ln p))) T I J O) := by
  refine Ct.of (by decide) [some (va_rf (some ln)), some (VI p)] (gEn1 (List.forall_mem_cons.mpr ⟨cat_VR _, List.forall_mem_cons.mpr ⟨cat_VI _, fun _ h => nomatch h⟩⟩) rfl (Nat.le_of_ble_eq_true rfl) rfl) ?_
  intro X x en rm ini hr hz
  have hr0 := hr
  refine G_rg (fun hr => ?_)
  refine G_iload1 x eX4_numberAt_0 ?_
  refine G_if_lt x eX4_numberAt_1 (by first | omega | exact hr _ _ | exact hr0 _ _ | exact hrS _) (fun c1 => ?_) (fun c1 => ?_)
  · refine G_push x eX4_numberAt_12 ?_
    refine G_goto x eX4_numberAt_13 ?_
    refine G_ireturn x en eX4_numberAt_22 (by omega) (by omega) ?_
    exact ⟨by unfold lnA; split <;> first | rfl | (exfalso; omega), rfl, rfl, rfl, rfl⟩
  · refine G_iload1 x eX4_numberAt_4 ?_
    refine G_aload0 x eX4_numberAt_5 ?_
    refine G_geti x eX4_numberAt_6 fX4_34 rfl rfl hM.m (fun h6 => ?_)
    refine G_icmp_lt x eX4_numberAt_9 (by first | omega | exact hr _ _ | exact hr0 _ _ | exact hrS _) (by first | omega | exact hr _ _ | exact hr0 _ _ | exact hrS _) (fun c9 => ?_) (fun c9 => ?_)
    · refine G_aload0 x eX4_numberAt_16 ?_
      refine G_getq x eX4_numberAt_17 fX4_28 rfl rfl hM.m hM.o_arranged ?_
      refine G_iload1 x eX4_numberAt_20 ?_
      refine G_iald x eX4_numberAt_21 rfl hM.t_arranged (by omega) (by omega) (by omega) (fun h21 => ?_)
      refine G_ireturn x en eX4_numberAt_22 (by omega) (by omega) ?_
      exact ⟨by unfold lnA; split <;> first | rfl | (exfalso; omega), rfl, rfl, rfl, rfl⟩
    · refine G_push x eX4_numberAt_12 ?_
      refine G_goto x eX4_numberAt_13 ?_
      refine G_ireturn x en eX4_numberAt_22 (by omega) (by omega) ?_
      exact ⟨by unfold lnA; split <;> first | rfl | (exfalso; omega), rfl, rfl, rfl, rfl⟩
set_option maxRecDepth 20000 in
theorem ct_X4_positionOf {T : gT} {I : gI} {J : gJ} {O : gO} {ln : Nat} {l : Int} (hM : LnAt T O ln) (h0 : in32 l) (h1 : 0 ≤ I ln 6) (h2 : I ln 6 ≤ 12) : Ct yX4_positionOf cX4_positionOf 3 (some .int) [va_rf (some ln), VI l] 0 0 0 0 T I J O (pv (some (VI (ix (I (ln + 6)) (I ln 6) l))) T I J O) := by
  refine Ct.of (by decide) [some (va_rf (some ln)), some (VI l), none] (gEn1 (List.forall_mem_cons.mpr ⟨cat_VR _, List.forall_mem_cons.mpr ⟨cat_VI _, fun _ h => nomatch h⟩⟩) rfl (Nat.le_of_ble_eq_true rfl) rfl) ?_
  intro X x en rm ini hr hz
  have hr0 := hr
  have loop : ∀ (d : Nat) (p : Int), p + d = I ln 6 → 0 ≤ p → ix (I (ln + 6)) (I ln 6) l = ixR (I (ln + 6)) l d p → G X 2 [some (va_rf (some ln)), some (VI l), some (VI p)] [] T I J O 0 0 := by
    intro d
    induction d with
    | zero =>
      intro p hp p0 he
      refine G_rg (fun hr => ?_)
      refine G_iload2 x eX4_positionOf_2 ?_
      refine G_aload0 x eX4_positionOf_3 ?_
      refine G_geti x eX4_positionOf_4 fX4_34 rfl rfl hM.m (fun h4 => ?_)
      refine G_icmp_ge x eX4_positionOf_7 (by first | omega | exact hr _ _ | exact hr0 _ _ | exact hrS _) (by first | omega | exact hr _ _ | exact hr0 _ _ | exact hrS _) (fun c7 => ?_) (fun c7 => ?_)
      · refine G_push x eX4_positionOf_28 ?_
        refine G_ireturn x en eX4_positionOf_29 (by omega) (by omega) ?_
        exact ⟨by rw [he]; rfl, rfl, rfl, rfl, rfl⟩
      · omega
    | succ d ih =>
      intro p hp p0 he
      unfold ixR at he
      refine G_rg (fun hr => ?_)
      refine G_iload2 x eX4_positionOf_2 ?_
      refine G_aload0 x eX4_positionOf_3 ?_
      refine G_geti x eX4_positionOf_4 fX4_34 rfl rfl hM.m (fun h4 => ?_)
      refine G_icmp_ge x eX4_positionOf_7 (by first | omega | exact hr _ _ | exact hr0 _ _ | exact hrS _) (by first | omega | exact hr _ _ | exact hr0 _ _ | exact hrS _) (fun c7 => ?_) (fun c7 => ?_)
      · refine G_push x eX4_positionOf_28 ?_
        refine G_ireturn x en eX4_positionOf_29 (by omega) (by omega) ?_
        first | (exfalso; omega) | exact ⟨by rw [he, if_pos (by omega)], rfl, rfl, rfl, rfl⟩
      · refine G_aload0 x eX4_positionOf_10 ?_
        refine G_getq x eX4_positionOf_11 fX4_28 rfl rfl hM.m hM.o_arranged ?_
        refine G_iload2 x eX4_positionOf_14 ?_
        refine G_iald x eX4_positionOf_15 rfl hM.t_arranged (by omega) (by omega) (by omega) (fun h15 => ?_)
        refine G_iload1 x eX4_positionOf_16 ?_
        refine G_icmp_ne x eX4_positionOf_17 (by first | omega | exact hr _ _ | exact hr0 _ _ | exact hrS _) (by first | omega | exact hr _ _ | exact hr0 _ _ | exact hrS _) (fun c17 => ?_) (fun c17 => ?_)
        · refine G_iinc2 x eX4_positionOf_22 ?_
          refine G_goto x eX4_positionOf_25 ?_
          exact ih (p + 1) (by omega) (by omega) (by rw [he, if_neg (by omega)])
        · refine G_iload2 x eX4_positionOf_20 ?_
          refine G_ireturn x en eX4_positionOf_21 (by omega) (by omega) ?_
          first | (exfalso; omega) | exact ⟨by rw [he, if_pos (by omega)], rfl, rfl, rfl, rfl⟩
  refine G_push x eX4_positionOf_0 ?_
  refine G_istore2 x eX4_positionOf_1 ?_
  exact loop (I ln 6).toNat 0 (by omega) (by omega) rfl
set_option maxRecDepth 20000 in
theorem ct_X4_placeOf {T : gT} {I : gI} {J : gJ} {O : gO} {ln : Nat} {l : Int} (hM : LnAt T O ln) (h0 : in32 l) : Ct yX4_placeOf cX4_placeOf 2 (some .int) [va_rf (some ln), VI l] 0 0 0 0 T I J O (pv (some (VI (if 0 ≤ l ∧ l < 12 then I (ln + 1) l else -1))) T I J O) := by
  refine Ct.of (by decide) [some (va_rf (some ln)), some (VI l)] (gEn1 (List.forall_mem_cons.mpr ⟨cat_VR _, List.forall_mem_cons.mpr ⟨cat_VI _, fun _ h => nomatch h⟩⟩) rfl (Nat.le_of_ble_eq_true rfl) rfl) ?_
  intro X x en rm ini hr hz
  have hr0 := hr
  refine G_rg (fun hr => ?_)
  refine G_iload1 x eX4_placeOf_0 ?_
  refine G_if_lt x eX4_placeOf_1 (by first | omega | exact hr _ _ | exact hr0 _ _ | exact hrS _) (fun c1 => ?_) (fun c1 => ?_)
  · refine G_push x eX4_placeOf_10 ?_
    refine G_goto x eX4_placeOf_11 ?_
    refine G_ireturn x en eX4_placeOf_20 (by omega) (by omega) ?_
    first | exact pv_i | (refine ⟨?_, rfl, rfl, rfl, rfl⟩; split <;> first | rfl | omega)
  · refine G_iload1 x eX4_placeOf_4 ?_
    refine G_push x eX4_placeOf_5 ?_
    refine G_icmp_lt x eX4_placeOf_7 (by first | omega | exact hr _ _ | exact hr0 _ _ | exact hrS _) (by first | omega | exact hr _ _ | exact hr0 _ _ | exact hrS _) (fun c7 => ?_) (fun c7 => ?_)
    · refine G_aload0 x eX4_placeOf_14 ?_
      refine G_getq x eX4_placeOf_15 fX4_9 rfl rfl hM.m hM.o_places ?_
      refine G_iload1 x eX4_placeOf_18 ?_
      refine G_iald x eX4_placeOf_19 rfl hM.t_places (by omega) (by omega) (by omega) (fun h19 => ?_)
      refine G_ireturn x en eX4_placeOf_20 (by omega) (by omega) ?_
      first | exact pv_i | (refine ⟨?_, rfl, rfl, rfl, rfl⟩; split <;> first | rfl | omega)
    · refine G_push x eX4_placeOf_10 ?_
      refine G_goto x eX4_placeOf_11 ?_
      refine G_ireturn x en eX4_placeOf_20 (by omega) (by omega) ?_
      first | exact pv_i | (refine ⟨?_, rfl, rfl, rfl, rfl⟩; split <;> first | rfl | omega)
set_option maxRecDepth 20000 in
theorem ct_X4_isMade {T : gT} {I : gI} {J : gJ} {O : gO} {ln : Nat} {l : Int} (hM : LnAt T O ln) (h0 : in32 l) : Ct yX4_isMade cX4_isMade 2 (some .boolean) [va_rf (some ln), VI l] 0 0 0 0 T I J O (pv (some (VI (if 0 ≤ l ∧ l < 12 ∧ I (ln + 4) l ≠ 0 then 1 else 0))) T I J O) := by
  refine Ct.of (by decide) [some (va_rf (some ln)), some (VI l)] (gEn1 (List.forall_mem_cons.mpr ⟨cat_VR _, List.forall_mem_cons.mpr ⟨cat_VI _, fun _ h => nomatch h⟩⟩) rfl (Nat.le_of_ble_eq_true rfl) rfl) ?_
  intro X x en rm ini hr hz
  have hr0 := hr
  refine G_rg (fun hr => ?_)
  refine G_iload1 x eX4_isMade_0 ?_
  refine G_if_lt x eX4_isMade_1 (by first | omega | exact hr _ _ | exact hr0 _ _ | exact hrS _) (fun c1 => ?_) (fun c1 => ?_)
  · refine G_push x eX4_isMade_23 ?_
    refine G_zreturn x en eX4_isMade_24 (by omega) (by omega) ?_ ?_
    · first | exact Or.inl rfl | exact Or.inr rfl | omega
    · first | exact pv_i | (refine ⟨?_, rfl, rfl, rfl, rfl⟩; split <;> first | rfl | omega)
  · refine G_iload1 x eX4_isMade_4 ?_
    refine G_push x eX4_isMade_5 ?_
    refine G_icmp_ge x eX4_isMade_7 (by first | omega | exact hr _ _ | exact hr0 _ _ | exact hrS _) (by first | omega | exact hr _ _ | exact hr0 _ _ | exact hrS _) (fun c7 => ?_) (fun c7 => ?_)
    · refine G_push x eX4_isMade_23 ?_
      refine G_zreturn x en eX4_isMade_24 (by omega) (by omega) ?_ ?_
      · first | exact Or.inl rfl | exact Or.inr rfl | omega
      · first | exact pv_i | (refine ⟨?_, rfl, rfl, rfl, rfl⟩; split <;> first | rfl | omega)
    · refine G_aload0 x eX4_isMade_10 ?_
      refine G_getq x eX4_isMade_11 fX4_21 rfl rfl hM.m hM.o_made ?_
      refine G_iload1 x eX4_isMade_14 ?_
      refine G_zald x eX4_isMade_15 rfl hM.t_made (by omega) (by omega) (by omega) (fun h15 => ?_)
      refine G_if_eq x eX4_isMade_16 (by first | omega | exact hr _ _ | exact hr0 _ _ | exact hrS _) (fun c16 => ?_) (fun c16 => ?_)
      · refine G_push x eX4_isMade_23 ?_
        refine G_zreturn x en eX4_isMade_24 (by omega) (by omega) ?_ ?_
        · first | exact Or.inl rfl | exact Or.inr rfl | omega
        · first | exact pv_i | (refine ⟨?_, rfl, rfl, rfl, rfl⟩; split <;> first | rfl | omega)
      · refine G_push x eX4_isMade_19 ?_
        refine G_goto x eX4_isMade_20 ?_
        refine G_zreturn x en eX4_isMade_24 (by omega) (by omega) ?_ ?_
        · first | exact Or.inl rfl | exact Or.inr rfl | omega
        · first | exact pv_i | (refine ⟨?_, rfl, rfl, rfl, rfl⟩; split <;> first | rfl | omega)
set_option maxRecDepth 20000 in
theorem ct_X4_isBefore {T : gT} {I : gI} {J : gJ} {O : gO} {ln : Nat} {l m : Int} (hM : LnAt T O ln) (h0 : 0 ≤ l) (h1 : l < 12) (h2 : 0 ≤ m) (h3 : m < 12) : Ct yX4_isBefore cX4_isBefore 3 (some .boolean) [va_rf (some ln), VI l, VI m] 0 0 0 0 T I J O (pv (some (VI (if I (ln + 1) l < I (ln + 1) m ∨ (I (ln + 1) l = I (ln + 1) m ∧ l < m) then 1 else 0))) T I J O) := by
  refine Ct.of (by decide) [some (va_rf (some ln)), some (VI l), some (VI m)] (gEn1 (List.forall_mem_cons.mpr ⟨cat_VR _, List.forall_mem_cons.mpr ⟨cat_VI _, List.forall_mem_cons.mpr ⟨cat_VI _, fun _ h => nomatch h⟩⟩⟩) rfl (Nat.le_of_ble_eq_true rfl) rfl) ?_
  intro X x en rm ini hr hz
  have hr0 := hr
  refine G_rg (fun hr => ?_)
  refine G_aload0 x eX4_isBefore_0 ?_
  refine G_getq x eX4_isBefore_1 fX4_9 rfl rfl hM.m hM.o_places ?_
  refine G_iload1 x eX4_isBefore_4 ?_
  refine G_iald x eX4_isBefore_5 rfl hM.t_places (by omega) (by omega) (by omega) (fun h5 => ?_)
  refine G_aload0 x eX4_isBefore_6 ?_
  refine G_getq x eX4_isBefore_7 fX4_9 rfl rfl hM.m hM.o_places ?_
  refine G_iload2 x eX4_isBefore_10 ?_
  refine G_iald x eX4_isBefore_11 rfl hM.t_places (by omega) (by omega) (by omega) (fun h11 => ?_)
  refine G_icmp_lt x eX4_isBefore_12 (by first | omega | exact hr _ _ | exact hr0 _ _ | exact hrS _) (by first | omega | exact hr _ _ | exact hr0 _ _ | exact hrS _) (fun c12 => ?_) (fun c12 => ?_)
  · refine G_push x eX4_isBefore_35 ?_
    refine G_goto x eX4_isBefore_36 ?_
    refine G_zreturn x en eX4_isBefore_40 (by omega) (by omega) ?_ ?_
    · first | exact Or.inl rfl | exact Or.inr rfl | omega
    · first | exact pv_i | (refine ⟨?_, rfl, rfl, rfl, rfl⟩; split <;> first | rfl | omega)
  · refine G_aload0 x eX4_isBefore_15 ?_
    refine G_getq x eX4_isBefore_16 fX4_9 rfl rfl hM.m hM.o_places ?_
    refine G_iload1 x eX4_isBefore_19 ?_
    refine G_iald x eX4_isBefore_20 rfl hM.t_places (by omega) (by omega) (by omega) (fun h20 => ?_)
    refine G_aload0 x eX4_isBefore_21 ?_
    refine G_getq x eX4_isBefore_22 fX4_9 rfl rfl hM.m hM.o_places ?_
    refine G_iload2 x eX4_isBefore_25 ?_
    refine G_iald x eX4_isBefore_26 rfl hM.t_places (by omega) (by omega) (by omega) (fun h26 => ?_)
    refine G_icmp_ne x eX4_isBefore_27 (by first | omega | exact hr _ _ | exact hr0 _ _ | exact hrS _) (by first | omega | exact hr _ _ | exact hr0 _ _ | exact hrS _) (fun c27 => ?_) (fun c27 => ?_)
    · refine G_push x eX4_isBefore_39 ?_
      refine G_zreturn x en eX4_isBefore_40 (by omega) (by omega) ?_ ?_
      · first | exact Or.inl rfl | exact Or.inr rfl | omega
      · first | exact pv_i | (refine ⟨?_, rfl, rfl, rfl, rfl⟩; split <;> first | rfl | omega)
    · refine G_iload1 x eX4_isBefore_30 ?_
      refine G_iload2 x eX4_isBefore_31 ?_
      refine G_icmp_ge x eX4_isBefore_32 (by first | omega | exact hr _ _ | exact hr0 _ _ | exact hrS _) (by first | omega | exact hr _ _ | exact hr0 _ _ | exact hrS _) (fun c32 => ?_) (fun c32 => ?_)
      · refine G_push x eX4_isBefore_39 ?_
        refine G_zreturn x en eX4_isBefore_40 (by omega) (by omega) ?_ ?_
        · first | exact Or.inl rfl | exact Or.inr rfl | omega
        · first | exact pv_i | (refine ⟨?_, rfl, rfl, rfl, rfl⟩; split <;> first | rfl | omega)
      · refine G_push x eX4_isBefore_35 ?_
        refine G_goto x eX4_isBefore_36 ?_
        refine G_zreturn x en eX4_isBefore_40 (by omega) (by omega) ?_ ?_
        · first | exact Or.inl rfl | exact Or.inr rfl | omega
        · first | exact pv_i | (refine ⟨?_, rfl, rfl, rfl, rfl⟩; split <;> first | rfl | omega)
set_option maxRecDepth 20000 in
theorem ct_X4_isArrangedLike {T : gT} {I : gI} {J : gJ} {O : gO} {ln lm : Nat} (hM : LnAt T O ln) (hN : LnAt T O lm) (h1 : 0 ≤ I ln 6) (h2 : I ln 6 ≤ 12) : Ct yX4_isArrangedLike cX4_isArrangedLike 3 (some .boolean) [va_rf (some ln), va_rf (some lm)] 0 0 0 0 T I J O (pv (some (VI (b01 (I ln 6 = I lm 6 ∧ ∀ i, 0 ≤ i → i < I ln 6 → I (ln + 6) i = I (lm + 6) i)))) T I J O) := by
  refine Ct.of (by decide) [some (va_rf (some ln)), some (va_rf (some lm)), none] (gEn1 (List.forall_mem_cons.mpr ⟨cat_VR _, List.forall_mem_cons.mpr ⟨cat_VR _, fun _ h => nomatch h⟩⟩) rfl (Nat.le_of_ble_eq_true rfl) rfl) ?_
  intro X x en rm ini hr hz
  have hr0 := hr
  have loop : ∀ (d : Nat) (p : Int), p + d = I ln 6 → 0 ≤ p → I ln 6 = I lm 6 → (∀ i, 0 ≤ i → i < p → I (ln + 6) i = I (lm + 6) i) → G X 15 [some (va_rf (some ln)), some (va_rf (some lm)), some (VI p)] [] T I J O 0 0 := by
    intro d
    induction d with
    | zero =>
      intro p hp p0 he hi
      refine G_rg (fun hr => ?_)
      refine G_iload2 x eX4_isArrangedLike_15 ?_
      refine G_aload0 x eX4_isArrangedLike_16 ?_
      refine G_geti x eX4_isArrangedLike_17 fX4_34 rfl rfl hM.m (fun h17 => ?_)
      refine G_icmp_ge x eX4_isArrangedLike_20 (by first | omega | exact hr _ _ | exact hr0 _ _ | exact hrS _) (by first | omega | exact hr _ _ | exact hr0 _ _ | exact hrS _) (fun c20 => ?_) (fun c20 => ?_)
      · refine G_push x eX4_isArrangedLike_46 ?_
        refine G_zreturn x en eX4_isArrangedLike_47 (by omega) (by omega) ?_ ?_
        · first | exact Or.inl rfl | exact Or.inr rfl | omega
        · exact ⟨by rw [b01_t ⟨he, fun i a b => hi i a (by omega)⟩], rfl, rfl, rfl, rfl⟩
      · omega
    | succ d ih =>
      intro p hp p0 he hi
      refine G_rg (fun hr => ?_)
      refine G_iload2 x eX4_isArrangedLike_15 ?_
      refine G_aload0 x eX4_isArrangedLike_16 ?_
      refine G_geti x eX4_isArrangedLike_17 fX4_34 rfl rfl hM.m (fun h17 => ?_)
      refine G_icmp_ge x eX4_isArrangedLike_20 (by first | omega | exact hr _ _ | exact hr0 _ _ | exact hrS _) (by first | omega | exact hr _ _ | exact hr0 _ _ | exact hrS _) (fun c20 => ?_) (fun c20 => ?_)
      · refine G_push x eX4_isArrangedLike_46 ?_
        refine G_zreturn x en eX4_isArrangedLike_47 (by omega) (by omega) ?_ ?_
        · first | exact Or.inl rfl | exact Or.inr rfl | omega
        · first | (exfalso; omega) | exact ⟨by rw [b01_f (fun z => absurd (z.2 p p0 (by omega)) (by omega))], rfl, rfl, rfl, rfl⟩
      · refine G_aload0 x eX4_isArrangedLike_23 ?_
        refine G_getq x eX4_isArrangedLike_24 fX4_28 rfl rfl hM.m hM.o_arranged ?_
        refine G_iload2 x eX4_isArrangedLike_27 ?_
        refine G_iald x eX4_isArrangedLike_28 rfl hM.t_arranged (by omega) (by omega) (by omega) (fun h28 => ?_)
        refine G_aload1 x eX4_isArrangedLike_29 ?_
        refine G_getq x eX4_isArrangedLike_30 fX4_28 rfl rfl hN.m hN.o_arranged ?_
        refine G_iload2 x eX4_isArrangedLike_33 ?_
        refine G_iald x eX4_isArrangedLike_34 rfl hN.t_arranged (by omega) (by omega) (by omega) (fun h34 => ?_)
        refine G_icmp_eq x eX4_isArrangedLike_35 (by first | omega | exact hr _ _ | exact hr0 _ _ | exact hrS _) (by first | omega | exact hr _ _ | exact hr0 _ _ | exact hrS _) (fun c35 => ?_) (fun c35 => ?_)
        · refine G_iinc2 x eX4_isArrangedLike_40 ?_
          refine G_goto x eX4_isArrangedLike_43 ?_
          exact ih (p + 1) (by omega) (by omega) he (fun i a b => by rcases (by omega : i < p ∨ i = p) with q | q; exact hi i a q; rw [q]; assumption)
        · refine G_push x eX4_isArrangedLike_38 ?_
          refine G_zreturn x en eX4_isArrangedLike_39 (by omega) (by omega) ?_ ?_
          · first | exact Or.inl rfl | exact Or.inr rfl | omega
          · first | (exfalso; omega) | exact ⟨by rw [b01_f (fun z => absurd (z.2 p p0 (by omega)) (by omega))], rfl, rfl, rfl, rfl⟩
  refine G_rg (fun hr => ?_)
  refine G_aload0 x eX4_isArrangedLike_0 ?_
  refine G_geti x eX4_isArrangedLike_1 fX4_34 rfl rfl hM.m (fun h1 => ?_)
  refine G_aload1 x eX4_isArrangedLike_4 ?_
  refine G_geti x eX4_isArrangedLike_5 fX4_34 rfl rfl hN.m (fun h5 => ?_)
  refine G_icmp_eq x eX4_isArrangedLike_8 (by first | omega | exact hr _ _ | exact hr0 _ _ | exact hrS _) (by first | omega | exact hr _ _ | exact hr0 _ _ | exact hrS _) (fun c8 => ?_) (fun c8 => ?_)
  · refine G_push x eX4_isArrangedLike_13 ?_
    refine G_istore2 x eX4_isArrangedLike_14 ?_
    exact loop (I ln 6).toNat 0 (by omega) (by omega) (by omega) (by intros; omega)
  · refine G_push x eX4_isArrangedLike_11 ?_
    refine G_zreturn x en eX4_isArrangedLike_12 (by omega) (by omega) ?_ ?_
    · first | exact Or.inl rfl | exact Or.inr rfl | omega
    · exact ⟨by rw [b01_f (fun z => absurd z.1 (by omega))], rfl, rfl, rfl, rfl⟩
def arP (T : gT) (I : gI) (J : gJ) (O : gO) (ln : Nat) (sh : Int → Prop) : gP := fun v T' I' J' O' => v = none ∧ T' = T ∧ J' = J ∧ O' = O ∧ (∀ b j, b ≠ ln + 6 → (b ≠ ln ∨ j ≠ 6) → I' b j = I b j) ∧ En (I (ln + 1)) sh 12 (I' (ln + 6)) (I' ln 6)
set_option maxHeartbeats 4000000 in
set_option maxRecDepth 20000 in
theorem ct_X4_arrange {T : gT} {I : gI} {J : gJ} {O : gO} {ln : Nat} {u : Int} {sh sh0 : Int → Prop} {pl0 : Int → Int} (hM : LnAt T O ln) (u0 : 0 ≤ u) (u1 : u < 12) (hE : En pl0 sh0 12 (I (ln + 6)) (I ln 6)) (hp : ∀ l, 0 ≤ l → l < 12 → l ≠ u → pl0 l = I (ln + 1) l ∧ (sh0 l ↔ sh l)) (hu : sh u ↔ lnSh I ln u) (b4 : I (ln + 4) u = 0 ∨ I (ln + 4) u = 1) (b5 : I (ln + 5) u = 0 ∨ I (ln + 5) u = 1) : Ct yX4_arrange cX4_arrange 4 none [va_rf (some ln), VI u] 1 22 0 0 T I J O (arP T I J O ln sh) := by
  refine Ct.of (by decide) [some (va_rf (some ln)), some (VI u), none, none] (gEn1 (List.forall_mem_cons.mpr ⟨cat_VR _, List.forall_mem_cons.mpr ⟨cat_VI _, fun _ h => nomatch h⟩⟩) rfl (Nat.le_of_ble_eq_true rfl) rfl) ?_
  intro X x en rm ini hr hz
  have hr0 := hr
  obtain ⟨e1, e2, e3, e4, e5⟩ := hE
  have lt0 : ∀ y z, 0 ≤ y → y < 12 → y ≠ u → 0 ≤ z → z < 12 → z ≠ u → lnLt pl0 y z → lnLt (I (ln + 1)) y z := fun y z a b c a' b' c' h => by
    have k1 := (hp y a b c).1
    have k2 := (hp z a' b' c').1
    unfold lnLt at *
    omega
  -- the second loop
  have loop2 : ∀ (d : Nat) (g : Int → Int) (n q : Int) (I1 : gI), q = d → q ≤ n → En (I (ln + 1)) (fun l => sh l ∧ l ≠ u) 12 g n → sh u → I1 ln 6 = n → (∀ b j, b ≠ ln + 6 → (b ≠ ln ∨ j ≠ 6) → I1 b j = I b j) → (∀ j, 0 ≤ j → j < q → I1 (ln + 6) j = g j) → (∀ j, q < j → j ≤ n → I1 (ln + 6) j = g (j - 1)) → (∀ j, q ≤ j → j < n → lnLt (I (ln + 1)) u (g j)) → n < 12 → G X 81 [some (va_rf (some ln)), some (VI u), some (VI n), some (VI q)] [] T I1 J O 0 0 := by
    intro d
    induction d with
    | zero =>
      intro g n q I1 hd hqn hg hs hn hf h1 h2 h3 hn12
      have n0 := hg.1
      refine G_rg (fun hr => ?_)
      refine G_iload3 x eX4_arrange_81 ?_
      refine G_if_le x eX4_arrange_82 (by first | omega | exact hr _ _ | exact hr0 _ _ | exact hrS _) (fun c82 => ?_) (fun c82 => ?_)
      · refine G_aload0 x eX4_arrange_121 ?_
        refine G_getq x eX4_arrange_122 fX4_28 rfl rfl hM.m hM.o_arranged ?_
        refine G_iload3 x eX4_arrange_125 ?_
        refine G_iload1 x eX4_arrange_126 ?_
        refine G_iast x eX4_arrange_127 rfl hM.t_arranged (by omega) (by omega) (by omega) (by first | omega | exact hr _ _ | exact hr0 _ _ | exact hrS _) ?_
        refine G_rg (fun hr => ?_)
        refine G_aload0 x eX4_arrange_128 ?_
        refine G_dup x eX4_arrange_129 (by first | rfl | exact cat_rf _) ?_
        refine G_geti x eX4_arrange_130 fX4_34 rfl rfl hM.m (fun h130 => ?_)
        rw [uI_a (by omega), hn]
        refine G_push x eX4_arrange_133 ?_
        refine G_iadd x eX4_arrange_134 ?_
        refine G_puti x eX4_arrange_135 fX4_34 rfl (Or.inl rfl) rfl hM.m (by first | omega | exact hr _ _ | exact hr0 _ _ | exact hrS _) ?_
        refine G_rg (fun hr => ?_)
        refine G_return x en eX4_arrange_138 (by omega) (by omega) ?_
        exact ⟨rfl, rfl, rfl, rfl, fun b j b1 b2 => (by rw [uI_o b2, uI_a b1]; exact hf b j b1 b2), (by rw [uI_s]; refine hg.put u0 u1 hs (k := q) (by omega) hqn (Or.inl (by omega)) h3 (fun i a b => by omega) (by rw [uI_a (by omega), uI_s]) (fun i a b => by rw [uI_a (by omega), uI_k (by omega)]; exact h2 i a b))⟩
      · omega
    | succ d ih =>
      intro g n q I1 hd hqn hg hs hn hf h1 h2 h3 hn12
      have n0 := hg.1
      have hq := hg.2.2.2.1 (q - 1) (by omega) (by omega)
      have eq : I1 (ln + 6) (q - 1) = g (q - 1) := h1 _ (by omega) (by omega)
      have ex : I1 (ln + 1) u = I (ln + 1) u := hf _ _ (by omega) (by omega)
      have ez : I1 (ln + 1) (g (q - 1)) = I (ln + 1) (g (q - 1)) := hf _ _ (by omega) (by omega)
      refine G_rg (fun hr => ?_)
      refine G_iload3 x eX4_arrange_81 ?_
      refine G_if_le x eX4_arrange_82 (by first | omega | exact hr _ _ | exact hr0 _ _ | exact hrS _) (fun c82 => ?_) (fun c82 => ?_)
      · refine G_aload0 x eX4_arrange_121 ?_
        refine G_getq x eX4_arrange_122 fX4_28 rfl rfl hM.m hM.o_arranged ?_
        refine G_iload3 x eX4_arrange_125 ?_
        refine G_iload1 x eX4_arrange_126 ?_
        refine G_iast x eX4_arrange_127 rfl hM.t_arranged (by omega) (by omega) (by omega) (by first | omega | exact hr _ _ | exact hr0 _ _ | exact hrS _) ?_
        refine G_rg (fun hr => ?_)
        refine G_aload0 x eX4_arrange_128 ?_
        refine G_dup x eX4_arrange_129 (by first | rfl | exact cat_rf _) ?_
        refine G_geti x eX4_arrange_130 fX4_34 rfl rfl hM.m (fun h130 => ?_)
        rw [uI_a (by omega), hn]
        refine G_push x eX4_arrange_133 ?_
        refine G_iadd x eX4_arrange_134 ?_
        refine G_puti x eX4_arrange_135 fX4_34 rfl (Or.inl rfl) rfl hM.m (by first | omega | exact hr _ _ | exact hr0 _ _ | exact hrS _) ?_
        refine G_rg (fun hr => ?_)
        refine G_return x en eX4_arrange_138 (by omega) (by omega) ?_
        first | (exfalso; omega) | exact ⟨rfl, rfl, rfl, rfl, fun b j b1 b2 => (by rw [uI_o b2, uI_a b1]; exact hf b j b1 b2), (by rw [uI_s]; refine hg.put u0 u1 hs (k := q) (by omega) hqn (Or.inr (by have c98 := c98; rw [eq, ex, ez] at c98; exact c98)) h3 (fun i a b => by rw [uI_a (by omega), uI_k (by omega)]; exact h1 i a b) (by rw [uI_a (by omega), uI_s]) (fun i a b => by rw [uI_a (by omega), uI_k (by omega)]; exact h2 i a b))⟩
      · refine G_aload0 x eX4_arrange_85 ?_
        refine G_iload1 x eX4_arrange_86 ?_
        refine G_aload0 x eX4_arrange_87 ?_
        refine G_getq x eX4_arrange_88 fX4_28 rfl rfl hM.m hM.o_arranged ?_
        refine G_iload3 x eX4_arrange_91 ?_
        refine G_push x eX4_arrange_92 ?_
        refine G_isub x eX4_arrange_93 ?_
        refine G_iald x eX4_arrange_94 rfl hM.t_arranged (by omega) (by omega) (by omega) (fun h94 => ?_)
        refine G_cV x eX4_arrange_95 kX4_82 im_yX4_isBefore se_yX4_isBefore rm hM.m (ct_X4_isBefore hM u0 u1 (by omega) (by omega)) rfl ?_
        refine G_ifb_eq x eX4_arrange_98 (fun c98 => ?_) (fun c98 => ?_)
        · refine G_aload0 x eX4_arrange_121 ?_
          refine G_getq x eX4_arrange_122 fX4_28 rfl rfl hM.m hM.o_arranged ?_
          refine G_iload3 x eX4_arrange_125 ?_
          refine G_iload1 x eX4_arrange_126 ?_
          refine G_iast x eX4_arrange_127 rfl hM.t_arranged (by omega) (by omega) (by omega) (by first | omega | exact hr _ _ | exact hr0 _ _ | exact hrS _) ?_
          refine G_rg (fun hr => ?_)
          refine G_aload0 x eX4_arrange_128 ?_
          refine G_dup x eX4_arrange_129 (by first | rfl | exact cat_rf _) ?_
          refine G_geti x eX4_arrange_130 fX4_34 rfl rfl hM.m (fun h130 => ?_)
          rw [uI_a (by omega), hn]
          refine G_push x eX4_arrange_133 ?_
          refine G_iadd x eX4_arrange_134 ?_
          refine G_puti x eX4_arrange_135 fX4_34 rfl (Or.inl rfl) rfl hM.m (by first | omega | exact hr _ _ | exact hr0 _ _ | exact hrS _) ?_
          refine G_rg (fun hr => ?_)
          refine G_return x en eX4_arrange_138 (by omega) (by omega) ?_
          first | (exfalso; omega) | exact ⟨rfl, rfl, rfl, rfl, fun b j b1 b2 => (by rw [uI_o b2, uI_a b1]; exact hf b j b1 b2), (by rw [uI_s]; refine hg.put u0 u1 hs (k := q) (by omega) hqn (Or.inr (by have c98 := c98; rw [eq, ex, ez] at c98; exact c98)) h3 (fun i a b => by rw [uI_a (by omega), uI_k (by omega)]; exact h1 i a b) (by rw [uI_a (by omega), uI_s]) (fun i a b => by rw [uI_a (by omega), uI_k (by omega)]; exact h2 i a b))⟩
        · refine G_aload0 x eX4_arrange_101 ?_
          refine G_getq x eX4_arrange_102 fX4_28 rfl rfl hM.m hM.o_arranged ?_
          refine G_iload3 x eX4_arrange_105 ?_
          refine G_aload0 x eX4_arrange_106 ?_
          refine G_getq x eX4_arrange_107 fX4_28 rfl rfl hM.m hM.o_arranged ?_
          refine G_iload3 x eX4_arrange_110 ?_
          refine G_push x eX4_arrange_111 ?_
          refine G_isub x eX4_arrange_112 ?_
          refine G_iald x eX4_arrange_113 rfl hM.t_arranged (by omega) (by omega) (by omega) (fun h113 => ?_)
          refine G_iast x eX4_arrange_114 rfl hM.t_arranged (by omega) (by omega) (by omega) (by first | omega | exact hr _ _ | exact hr0 _ _ | exact hrS _) ?_
          refine G_rg (fun hr => ?_)
          refine G_iinc3 x eX4_arrange_115 ?_
          refine G_goto x eX4_arrange_118 ?_
          exact ih g n (q + -1) _ (by omega) (by omega) hg hs (by rw [uI_a (by omega)]; exact hn) (fun b j b1 b2 => by rw [uI_a b1]; exact hf b j b1 b2) (fun j a b => by rw [uI_k (by omega)]; exact h1 j a (by omega)) (fun j a b => by rcases (by omega : j = q ∨ q < j) with z | z; (rw [z, uI_s]; exact eq); (rw [uI_k (by omega)]; exact h2 j z b)) (fun j a b => by rcases (by omega : j = q - 1 ∨ q ≤ j) with z | z; (rw [z]; have c98 := c98; rw [eq, ex, ez] at c98; exact c98); (exact h3 j z b)) hn12
  -- behind the first loop
  have mid : ∀ (n : Int) (I1 : gI) (y : Option Value), En (I (ln + 1)) (fun l => sh l ∧ l ≠ u) 12 (I1 (ln + 6)) n → (∀ b j, b ≠ ln + 6 → I1 b j = I b j) → G X 43 [some (va_rf (some ln)), some (VI u), some (VI n), y] [] T I1 J O 0 0 := by
    intro n I1 y hg hf
    have n0 := hg.1
    have n1 := hg.2.1
    have m4 : (uI I1 ln 6 n) (ln + 4) u = I (ln + 4) u := by rw [uI_a (by omega)]; exact hf _ _ (by omega)
    have m5 : (uI I1 ln 6 n) (ln + 5) u = I (ln + 5) u := by rw [uI_a (by omega)]; exact hf _ _ (by omega)
    have notin : ¬ sh u → arP T I J O ln sh none T (uI I1 ln 6 n) J O := fun hn => ⟨rfl, rfl, rfl, rfl, fun b j b1 b2 => (by rw [uI_o b2]; exact hf b j b1), (by rw [uI_s]; refine (hg.congr (fun y _ _ => rfl) (fun y a b => ⟨fun z => ⟨z, fun e => hn (e ▸ z)⟩, fun z => z.1⟩)).fc (fun i a b => ?_); rw [uI_a (by omega)])⟩
    have hu2 : lnSh I ln u → n < 12 := fun h => by
      have hb := pig (g := fun i => if i = n then u else I1 (ln + 6) i) (K := 12) (n.toNat + 1) (fun i a b => by
        by_cases e : i = n
        · simp only [if_pos e]; exact ⟨u0, u1⟩
        · simp only [if_neg e]; have := hg.2.2.2.1 i a (by omega); exact ⟨this.1, this.2.1⟩) (fun i j a b c => by
        have e : i ≠ n := by omega
        simp only [if_neg e]
        by_cases e2 : j = n
        · simp only [if_pos e2]; exact (hg.2.2.2.1 i a (by omega)).2.2.2
        · simp only [if_neg e2]
          intro z
          have := hg.2.2.1 i j a b (by omega)
          rw [z] at this
          exact lnLt_irr this)
      omega
    refine G_rg (fun hr => ?_)
    refine G_aload0 x eX4_arrange_43 ?_
    refine G_iload2 x eX4_arrange_44 ?_
    refine G_puti x eX4_arrange_45 fX4_34 rfl (Or.inl rfl) rfl hM.m (by first | omega | exact hr _ _ | exact hr0 _ _ | exact hrS _) ?_
    refine G_rg (fun hr => ?_)
    refine G_aload0 x eX4_arrange_48 ?_
    refine G_getq x eX4_arrange_49 fX4_21 rfl rfl hM.m hM.o_made ?_
    refine G_iload1 x eX4_arrange_52 ?_
    refine G_zald x eX4_arrange_53 rfl hM.t_made (by omega) (by omega) (by omega) (fun h53 => ?_)
    rw [m4]
    refine G_if_eq x eX4_arrange_54 (by first | omega | exact hr _ _ | exact hr0 _ _ | exact hrS _) (fun c54 => ?_) (fun c54 => ?_)
    · refine G_return x en eX4_arrange_75 (by omega) (by omega) ?_
      exact notin (fun z => by have z := hu.mp z; unfold lnSh at z; first | omega | (have := hu2 z; omega))
    · refine G_aload0 x eX4_arrange_57 ?_
      refine G_getq x eX4_arrange_58 fX4_25 rfl rfl hM.m hM.o_removed ?_
      refine G_iload1 x eX4_arrange_61 ?_
      refine G_zald x eX4_arrange_62 rfl hM.t_removed (by omega) (by omega) (by omega) (fun h62 => ?_)
      rw [m5]
      refine G_if_ne x eX4_arrange_63 (by first | omega | exact hr _ _ | exact hr0 _ _ | exact hrS _) (fun c63 => ?_) (fun c63 => ?_)
      · refine G_return x en eX4_arrange_75 (by omega) (by omega) ?_
        exact notin (fun z => by have z := hu.mp z; unfold lnSh at z; first | omega | (have := hu2 z; omega))
      · refine G_aload0 x eX4_arrange_66 ?_
        refine G_geti x eX4_arrange_67 fX4_34 rfl rfl hM.m (fun h67 => ?_)
        rw [uI_s]
        refine G_push x eX4_arrange_70 ?_
        refine G_icmp_lt x eX4_arrange_72 (by first | omega | exact hr _ _ | exact hr0 _ _ | exact hrS _) (by first | omega | exact hr _ _ | exact hr0 _ _ | exact hrS _) (fun c72 => ?_) (fun c72 => ?_)
        · refine G_aload0 x eX4_arrange_76 ?_
          refine G_geti x eX4_arrange_77 fX4_34 rfl rfl hM.m (fun h77 => ?_)
          rw [uI_s]
          refine G_istore3 x eX4_arrange_80 ?_
          exact loop2 n.toNat (I1 (ln + 6)) n n _ (by omega) (by omega) hg (hu.mpr ⟨by omega, by omega⟩) uI_s (fun b j b1 b2 => by rw [uI_o b2]; exact hf b j b1) (fun j _ _ => by rw [uI_a (by omega)]) (fun j a b => by omega) (fun j a b => by omega) (by omega)
        · refine G_return x en eX4_arrange_75 (by omega) (by omega) ?_
          exact notin (fun z => by have z := hu.mp z; unfold lnSh at z; first | omega | (have := hu2 z; omega))
  have loop1 : ∀ (d : Nat) (c p : Int) (I1 : gI), p + d = I ln 6 → 0 ≤ c → c ≤ p → (∀ b j, b ≠ ln + 6 → I1 b j = I b j) → (∀ j, p ≤ j → I1 (ln + 6) j = I (ln + 6) j) → (∀ i j, 0 ≤ i → i < j → j < c → lnLt pl0 (I1 (ln + 6) i) (I1 (ln + 6) j)) → (∀ k, 0 ≤ k → k < c → ∃ i, 0 ≤ i ∧ i < p ∧ I (ln + 6) i = I1 (ln + 6) k ∧ I1 (ln + 6) k ≠ u) → (∀ i, 0 ≤ i → i < p → I (ln + 6) i ≠ u → ∃ k, 0 ≤ k ∧ k < c ∧ I1 (ln + 6) k = I (ln + 6) i) → G X 4 [some (va_rf (some ln)), some (VI u), some (VI c), some (VI p)] [] T I1 J O 0 0 := by
    intro d
    induction d with
    | zero =>
      intro c p I1 hd c0 cp hf hs h1 h2 h3
      have hn : I1 ln 6 = I ln 6 := hf _ _ (by omega)
      have hE : En (I (ln + 1)) (fun l => sh l ∧ l ≠ u) 12 (I1 (ln + 6)) c := by
        have mem : ∀ k, 0 ≤ k → k < c → (0 ≤ I1 (ln + 6) k ∧ I1 (ln + 6) k < 12) ∧ (sh (I1 (ln + 6) k) ∧ I1 (ln + 6) k ≠ u) := fun k a b => by
          obtain ⟨i, i0, i1, i2, i3⟩ := h2 k a b
          have m := e4 i i0 (by omega)
          rw [i2] at m
          exact ⟨⟨m.1, m.2.1⟩, (hp _ m.1 m.2.1 i3).2.mp m.2.2, i3⟩
        refine ⟨c0, by omega, fun i j a b z => ?_, fun i a b => ?_, fun y a b z => ?_⟩
        · have m1 := mem i a (by omega)
          have m2 := mem j (by omega) z
          exact lt0 _ _ m1.1.1 m1.1.2 m1.2.2 m2.1.1 m2.1.2 m2.2.2 (h1 i j a b z)
        · have m := mem i a b
          exact ⟨m.1.1, m.1.2, m.2⟩
        · obtain ⟨i, i0, i1, i2⟩ := e5 y a b ((hp y a b z.2).2.mpr z.1)
          obtain ⟨k, k0, k1, k2⟩ := h3 i i0 (by omega) (by rw [i2]; exact z.2)
          exact ⟨k, k0, k1, by rw [k2, i2]⟩
      refine G_rg (fun hr => ?_)
      refine G_iload3 x eX4_arrange_4 ?_
      refine G_aload0 x eX4_arrange_5 ?_
      refine G_geti x eX4_arrange_6 fX4_34 rfl rfl hM.m (fun h6 => ?_)
      refine G_icmp_ge x eX4_arrange_9 (by first | omega | exact hr _ _ | exact hr0 _ _ | exact hrS _) (by first | omega | exact hr _ _ | exact hr0 _ _ | exact hrS _) (fun c9 => ?_) (fun c9 => ?_)
      · exact mid c I1 _ hE hf
      · omega
    | succ d ih =>
      intro c p I1 hd c0 cp hf hs h1 h2 h3
      have hn : I1 ln 6 = I ln 6 := hf _ _ (by omega)
      have hpe : I1 (ln + 6) p = I (ln + 6) p := hs _ (by omega)
      have keep : I1 (ln + 6) p ≠ u → ∀ I2, I2 = uI I1 (ln + 6) c (I1 (ln + 6) p) → G X 4 [some (va_rf (some ln)), some (VI u), some (VI (c + 1)), some (VI (p + 1))] [] T I2 J O 0 0 := by
        intro hne I2 h9
        have g1 : ∀ j, j ≠ c → I2 (ln + 6) j = I1 (ln + 6) j := fun j hj => by rw [h9, uI_k hj]
        have g2 : I2 (ln + 6) c = I (ln + 6) p := by rw [h9, uI_s, hpe]
        refine ih (c + 1) (p + 1) I2 (by omega) (by omega) (by omega) (fun b j hb => by rw [h9, uI_a hb]; exact hf b j hb) (fun j hj => by rw [g1 j (by omega)]; exact hs j (by omega)) (fun i j a b z => ?_) (fun k a b => ?_) (fun i a b z => ?_)
        · rw [g1 i (by omega)]
          by_cases e : j = c
          · rw [e, g2]
            obtain ⟨i', i0, i1, i2, -⟩ := h2 i a (by omega)
            rw [← i2]
            exact e3 i' p i0 i1 (by omega)
          · rw [g1 j e]; exact h1 i j a b (by omega)
        · by_cases e : k = c
          · rw [e, g2]; exact ⟨p, by omega, by omega, rfl, by rw [← hpe]; exact hne⟩
          · obtain ⟨i, i0, i1, i2, i3⟩ := h2 k a (by omega)
            rw [g1 k e]; exact ⟨i, i0, by omega, i2, i3⟩
        · by_cases e : i = p
          · rw [e]; exact ⟨c, c0, by omega, g2⟩
          · obtain ⟨k, k0, k1, k2⟩ := h3 i a (by omega) z
            exact ⟨k, k0, by omega, by rw [g1 k (by omega)]; exact k2⟩
      have drop : I1 (ln + 6) p = u → G X 4 [some (va_rf (some ln)), some (VI u), some (VI c), some (VI (p + 1))] [] T I1 J O 0 0 := by
        intro he
        refine ih c (p + 1) I1 (by omega) (by omega) (by omega) hf (fun j hj => hs j (by omega)) h1 (fun k a b => ?_) (fun i a b z => ?_)
        · obtain ⟨i, i0, i1, i2⟩ := h2 k a b
          exact ⟨i, i0, by omega, i2⟩
        · exact h3 i a (by rcases (by omega : i < p ∨ i = p) with q | q; exact q; rw [q, ← hpe] at z; exact absurd he z) z
      refine G_rg (fun hr => ?_)
      refine G_iload3 x eX4_arrange_4 ?_
      refine G_aload0 x eX4_arrange_5 ?_
      refine G_geti x eX4_arrange_6 fX4_34 rfl rfl hM.m (fun h6 => ?_)
      refine G_icmp_ge x eX4_arrange_9 (by first | omega | exact hr _ _ | exact hr0 _ _ | exact hrS _) (by first | omega | exact hr _ _ | exact hr0 _ _ | exact hrS _) (fun c9 => ?_) (fun c9 => ?_)
      · omega
      · refine G_aload0 x eX4_arrange_12 ?_
        refine G_getq x eX4_arrange_13 fX4_28 rfl rfl hM.m hM.o_arranged ?_
        refine G_iload3 x eX4_arrange_16 ?_
        refine G_iald x eX4_arrange_17 rfl hM.t_arranged (by omega) (by omega) (by omega) (fun h17 => ?_)
        refine G_iload1 x eX4_arrange_18 ?_
        refine G_icmp_eq x eX4_arrange_19 (by first | omega | exact hr _ _ | exact hr0 _ _ | exact hrS _) (by first | omega | exact hr _ _ | exact hr0 _ _ | exact hrS _) (fun c19 => ?_) (fun c19 => ?_)
        · refine G_iinc3 x eX4_arrange_37 ?_
          refine G_goto x eX4_arrange_40 ?_
          first | exact drop (by omega) | exact keep (by omega) _ rfl
        · refine G_aload0 x eX4_arrange_22 ?_
          refine G_getq x eX4_arrange_23 fX4_28 rfl rfl hM.m hM.o_arranged ?_
          refine G_iload2 x eX4_arrange_26 ?_
          refine G_aload0 x eX4_arrange_27 ?_
          refine G_getq x eX4_arrange_28 fX4_28 rfl rfl hM.m hM.o_arranged ?_
          refine G_iload3 x eX4_arrange_31 ?_
          refine G_iald x eX4_arrange_32 rfl hM.t_arranged (by omega) (by omega) (by omega) (fun h32 => ?_)
          refine G_iast x eX4_arrange_33 rfl hM.t_arranged (by omega) (by omega) (by omega) (by first | omega | exact hr _ _ | exact hr0 _ _ | exact hrS _) ?_
          refine G_rg (fun hr => ?_)
          refine G_iinc2 x eX4_arrange_34 ?_
          refine G_iinc3 x eX4_arrange_37 ?_
          refine G_goto x eX4_arrange_40 ?_
          first | exact drop (by omega) | exact keep (by omega) _ rfl
  refine G_push x eX4_arrange_0 ?_
  refine G_istore2 x eX4_arrange_1 ?_
  refine G_push x eX4_arrange_2 ?_
  refine G_istore3 x eX4_arrange_3 ?_
  exact loop1 (I ln 6).toNat 0 0 I (by omega) (by omega) (by omega) (fun _ _ _ => rfl) (fun _ _ => rfl) (by intros; omega) (by intros; omega) (by intros; omega)
