/-! formulas that wait -/
theorem clA_nf {S : Int → Int} {r : Int} {V : Int → Int64} {E : Int → Int} (l : List (Int × Int × Int × Int)) : ∀ (st : Option (Int64 × Int)) (su : Int64), ¬ far su → (clA S r V E l st su).1 = 0 → ¬ far (clA S r V E l st su).2 := by
  have nf : ∀ w : Int64, ¬ b01 (far w) = 1 → ¬ far w := fun w h z => h (b01_t z)
  induction l with
  | nil =>
    intro st su hs h
    cases st with
    | none => exact hs
    | some p =>
      obtain ⟨t, sg⟩ := p
      have e : clA S r V E [] (some (t, sg)) su = if b01 (far (suN su t sg)) = 1 then (3, 0) else (0, suN su t sg) := rfl
      rw [e] at h ⊢
      by_cases q : b01 (far (suN su t sg)) = 1
      · rw [if_pos q] at h; exact absurd (show (3 : Int) = 0 from h) (by omega)
      · rw [if_neg q]; exact nf _ q
  | cons y l ih =>
    intro st su hs h
    cases st with
    | none =>
      have e : clA S r V E (y :: l) none su = if (fkV S r V E y).1 = 0 then clA S r V E l (some ((fkV S r V E y).2, y.1)) su else ((fkV S r V E y).1, su) := rfl
      rw [e] at h ⊢
      by_cases q : (fkV S r V E y).1 = 0
      · rw [if_pos q] at h ⊢; exact ih _ _ hs h
      · rw [if_neg q]; exact hs
    | some p =>
      obtain ⟨t, sg⟩ := p
      by_cases q4 : y.1 = 42
      · have e : clA S r V E (y :: l) (some (t, sg)) su = if (fkV S r V E y).1 = 0 then (if b01 (far (t * (fkV S r V E y).2)) = 1 then (3, su) else clA S r V E l (some (t * (fkV S r V E y).2, sg)) su) else ((fkV S r V E y).1, su) := if_pos q4
        rw [e] at h ⊢
        by_cases q : (fkV S r V E y).1 = 0
        · rw [if_pos q] at h ⊢
          by_cases q2 : b01 (far (t * (fkV S r V E y).2)) = 1
          · rw [if_pos q2]; exact hs
          · rw [if_neg q2] at h ⊢; exact ih _ _ hs h
        · rw [if_neg q]; exact hs
      · rw [clA_n (fun y' l' hh => by cases hh; exact q4)] at h ⊢
        by_cases q : b01 (far (suN su t sg)) = 1
        · rw [if_pos q] at h; exact absurd (show (3 : Int) = 0 from h) (by omega)
        · rw [if_neg q] at h ⊢
          have e : clA S r V E (y :: l) none (suN su t sg) = if (fkV S r V E y).1 = 0 then clA S r V E l (some ((fkV S r V E y).2, y.1)) (suN su t sg) else ((fkV S r V E y).1, (suN su t sg)) := rfl
          rw [e] at h ⊢
          by_cases q : (fkV S r V E y).1 = 0
          · rw [if_pos q] at h ⊢; exact ih _ _ (nf _ (by assumption)) h
          · rw [if_neg q]; exact nf _ (by assumption)
def Rw (S : Int → Int) (r : Int) (W : Int → Prop) (s c : Int) : Prop := (s < 144 ∧ rf0 S r s c) ∨ (s = 144 ∧ W c)
def rdW (S : Int → Int) (r : Int) (W : Int → Prop) (c : Int) : Prop := W c ∧ ∀ d, rf0 S r c d → ¬ W d
def fyP (T : gT) (I : gI) (J : gJ) (O : gO) (ca : Nat) (S : Int → Int) (r : Int) (W : Int → Prop) : gP := fun v T' I' J' O' => T' = T ∧ I' = I ∧ J' = J ∧ O' = O ∧ ∃ f, v = some (VI f) ∧ ((f = -1 ∧ ∀ c, ¬ rdW S r W c) ∨ ((0 ≤ f ∧ f < I ca 4) ∧ rdW S r W (I (ca + 3) f) ∧ ∀ c, rdW S r W c → I (ca + 3) f ≤ c))
set_option maxRecDepth 20000 in
theorem ct_X0_firstReady {T : gT} {I : gI} {J : gJ} {O : gO} {ca : Nat} {S : Int → Int} {r : Int} {W : Int → Prop} (hM : CaAt T O ca) (hE : EnF S r 144 (I (ca + 3)) (I ca 4)) (n9 : I ca 4 ≤ 120) (hR : CsIs (J (ca + 6 + 1)) (Rw S r W)) (hW : ∀ c, W c → isFm S r c) : Ct yX0_firstReady cX0_firstReady 3 (some .int) [va_rf (some ca)] 2 43 0 0 T I J O (fyP T I J O ca S r W) := by
  refine Ct.of (by decide) [some (va_rf (some ca)), none, none] (gEn1 (List.forall_mem_cons.mpr ⟨cat_VR _, fun _ h => nomatch h⟩) rfl (Nat.le_of_ble_eq_true rfl) rfl) ?_
  intro X x en rm ini hr hz
  have hr0 := hr
  have n8 := hE.1
  have loop : ∀ (d : Nat) (f : Int) (y : Option Value), f + d = I ca 4 → 0 ≤ f → (∀ g, 0 ≤ g → g < f → ¬ rdW S r W (I (ca + 3) g)) → G X 2 [some (va_rf (some ca)), some (VI f), y] [] T I J O 0 0 := by
    intro d
    induction d with
    | zero =>
      intro f y hd f0 k1
      refine G_rg (fun hr => ?_)
      refine G_iload1 x eX0_firstReady_2 ?_
      refine G_aload0 x eX0_firstReady_3 ?_
      refine G_geti x eX0_firstReady_4 fX0_80 rfl rfl hM.m (fun h4 => ?_)
      refine G_icmp_ge x eX0_firstReady_7 (by first | omega | exact hr _ _ | exact hr0 _ _ | exact hrS _) (by first | omega | exact hr _ _ | exact hr0 _ _ | exact hrS _) (fun c7 => ?_) (fun c7 => ?_)
      · refine G_push x eX0_firstReady_53 ?_
        refine G_ireturn x en eX0_firstReady_54 (by omega) (by omega) ?_
        exact ⟨rfl, rfl, rfl, rfl, -1, rfl, Or.inl ⟨rfl, fun c hc => by obtain ⟨g, g0, g1, g2⟩ := hE.2.2.2.2 c (hW c hc.1).1.1 (hW c hc.1).1.b.2 (hW c hc.1); exact k1 g g0 (by omega) (by rw [g2]; exact hc)⟩⟩
      · omega
    | succ d ih =>
      intro f y hd f0 k1
      have cb := hE.2.2.2.1 f f0 (by omega)
      have cH := ct_X1_has (I := I) (s := 144) (c := I (ca + 3) f) hM.s_references hR (by omega) (by omega) cb.1 cb.2.1
      have e1 : ∀ _ : True, (Rw S r W 144 (I (ca + 3) f) ↔ W (I (ca + 3) f)) := fun _ => ⟨fun z => z.elim (fun z => by omega) (fun z => z.2), fun z => Or.inr ⟨rfl, z⟩⟩
      rw [b01_e (e1 trivial)] at cH
      have cC := ct_X1_haveCommon (I := I) (s := I (ca + 3) f) (o := 144) hM.s_references hR cb.1 (by omega) (by omega) (by omega)
      have e2 : ∀ _ : True, ((∃ c, 0 ≤ c ∧ c < 192 ∧ Rw S r W (I (ca + 3) f) c ∧ Rw S r W 144 c) ↔ ∃ d, rf0 S r (I (ca + 3) f) d ∧ W d) := fun _ => by
        constructor
        · rintro ⟨c, c0, c1, h1, h2⟩
          refine ⟨c, ?_, ?_⟩
          · rcases h1 with h1 | h1
            · exact h1.2
            · omega
          · rcases h2 with h2 | h2
            · omega
            · exact h2.2
        · rintro ⟨c, h1, h2⟩
          have hb := (hW c h2).1.b
          exact ⟨c, hb.1, by omega, Or.inl ⟨cb.2.1, h1⟩, Or.inr ⟨rfl, h2⟩⟩
      rw [b01_e (e2 trivial)] at cC
      have nx : ¬ rdW S r W (I (ca + 3) f) → G X 2 [some (va_rf (some ca)), some (VI (f + 1)), some (VI (I (ca + 3) f))] [] T I J O 0 0 := fun hn => ih (f + 1) _ (by omega) (by omega) (fun g g0 g1 => by
        by_cases q : g = f
        · rw [q]; exact hn
        · exact k1 g g0 (by omega))
      by_cases q1 : W (I (ca + 3) f)
      · rw [b01_t q1] at cH
        by_cases q2 : ∃ d, rf0 S r (I (ca + 3) f) d ∧ W d
        · rw [b01_t q2] at cC
          have nx := nx (fun z => by obtain ⟨d, d1, d2⟩ := q2; exact z.2 d d1 d2)
          refine G_rg (fun hr => ?_)
          refine G_iload1 x eX0_firstReady_2 ?_
          refine G_aload0 x eX0_firstReady_3 ?_
          refine G_geti x eX0_firstReady_4 fX0_80 rfl rfl hM.m (fun h4 => ?_)
          refine G_icmp_ge x eX0_firstReady_7 (by first | omega | exact hr _ _ | exact hr0 _ _ | exact hrS _) (by first | omega | exact hr _ _ | exact hr0 _ _ | exact hrS _) (fun c7 => ?_) (fun c7 => ?_)
          · omega
          · refine G_aload0 x eX0_firstReady_10 ?_
            refine G_getq x eX0_firstReady_11 fX0_18 rfl rfl hM.m hM.o_formulaCells ?_
            refine G_iload1 x eX0_firstReady_14 ?_
            refine G_iald x eX0_firstReady_15 rfl hM.t_formulaCells (by omega) (by omega) (by omega) (fun h15 => ?_)
            refine G_istore2 x eX0_firstReady_16 ?_
            refine G_aload0 x eX0_firstReady_17 ?_
            refine G_getq x eX0_firstReady_18 fX0_33 rfl rfl hM.m hM.o_references ?_
            refine G_push x eX0_firstReady_21 ?_
            refine G_iload2 x eX0_firstReady_24 ?_
            refine G_cV x eX0_firstReady_25 kX0_72 im_yX1_has se_yX1_has rm hM.s_references.m cH rfl ?_
            refine G_if_eq x eX0_firstReady_28 (by omega) (fun c28 => ?_) (fun c28 => ?_)
            · refine G_iinc1 x eX0_firstReady_47 ?_
              refine G_goto x eX0_firstReady_50 ?_
              exact nx
            · refine G_aload0 x eX0_firstReady_31 ?_
              refine G_getq x eX0_firstReady_32 fX0_33 rfl rfl hM.m hM.o_references ?_
              refine G_iload2 x eX0_firstReady_35 ?_
              refine G_push x eX0_firstReady_36 ?_
              refine G_cV x eX0_firstReady_39 kX0_173 im_yX1_haveCommon se_yX1_haveCommon rm hM.s_references.m cC rfl ?_
              refine G_if_ne x eX0_firstReady_42 (by omega) (fun c42 => ?_) (fun c42 => ?_)
              · refine G_iinc1 x eX0_firstReady_47 ?_
                refine G_goto x eX0_firstReady_50 ?_
                exact nx
              · omega
        · rw [b01_f q2] at cC
          have hrd : rdW S r W (I (ca + 3) f) := ⟨q1, fun d d1 d2 => q2 ⟨d, d1, d2⟩⟩
          have fin : fyP T I J O ca S r W (some (VI f)) T I J O := ⟨rfl, rfl, rfl, rfl, f, rfl, Or.inr ⟨⟨f0, by omega⟩, hrd, fun c hc => by
            obtain ⟨g, g0, g1, g2⟩ := hE.2.2.2.2 c (hW c hc.1).1.1 (hW c hc.1).1.b.2 (hW c hc.1)
            rcases (by omega : g < f ∨ g = f ∨ f < g) with q | q | q
            · exact absurd (by rw [g2]; exact hc) (k1 g g0 q)
            · rw [← g2, q]; exact Int.le_refl _
            · have := EnF.lt hE f0 q g1; omega⟩⟩
          clear q2 nx
          refine G_rg (fun hr => ?_)
          refine G_iload1 x eX0_firstReady_2 ?_
          refine G_aload0 x eX0_firstReady_3 ?_
          refine G_geti x eX0_firstReady_4 fX0_80 rfl rfl hM.m (fun h4 => ?_)
          refine G_icmp_ge x eX0_firstReady_7 (by first | omega | exact hr _ _ | exact hr0 _ _ | exact hrS _) (by first | omega | exact hr _ _ | exact hr0 _ _ | exact hrS _) (fun c7 => ?_) (fun c7 => ?_)
          · omega
          · refine G_aload0 x eX0_firstReady_10 ?_
            refine G_getq x eX0_firstReady_11 fX0_18 rfl rfl hM.m hM.o_formulaCells ?_
            refine G_iload1 x eX0_firstReady_14 ?_
            refine G_iald x eX0_firstReady_15 rfl hM.t_formulaCells (by omega) (by omega) (by omega) (fun h15 => ?_)
            refine G_istore2 x eX0_firstReady_16 ?_
            refine G_aload0 x eX0_firstReady_17 ?_
            refine G_getq x eX0_firstReady_18 fX0_33 rfl rfl hM.m hM.o_references ?_
            refine G_push x eX0_firstReady_21 ?_
            refine G_iload2 x eX0_firstReady_24 ?_
            refine G_cV x eX0_firstReady_25 kX0_72 im_yX1_has se_yX1_has rm hM.s_references.m cH rfl ?_
            refine G_if_eq x eX0_firstReady_28 (by omega) (fun c28 => ?_) (fun c28 => ?_)
            · omega
            · refine G_aload0 x eX0_firstReady_31 ?_
              refine G_getq x eX0_firstReady_32 fX0_33 rfl rfl hM.m hM.o_references ?_
              refine G_iload2 x eX0_firstReady_35 ?_
              refine G_push x eX0_firstReady_36 ?_
              refine G_cV x eX0_firstReady_39 kX0_173 im_yX1_haveCommon se_yX1_haveCommon rm hM.s_references.m cC rfl ?_
              refine G_if_ne x eX0_firstReady_42 (by omega) (fun c42 => ?_) (fun c42 => ?_)
              · omega
              · refine G_iload1 x eX0_firstReady_45 ?_
                refine G_ireturn x en eX0_firstReady_46 (by omega) (by omega) ?_
                exact fin
      · rw [b01_f q1] at cH
        have nx := nx (fun z => q1 z.1)
        refine G_rg (fun hr => ?_)
        refine G_iload1 x eX0_firstReady_2 ?_
        refine G_aload0 x eX0_firstReady_3 ?_
        refine G_geti x eX0_firstReady_4 fX0_80 rfl rfl hM.m (fun h4 => ?_)
        refine G_icmp_ge x eX0_firstReady_7 (by first | omega | exact hr _ _ | exact hr0 _ _ | exact hrS _) (by first | omega | exact hr _ _ | exact hr0 _ _ | exact hrS _) (fun c7 => ?_) (fun c7 => ?_)
        · omega
        · refine G_aload0 x eX0_firstReady_10 ?_
          refine G_getq x eX0_firstReady_11 fX0_18 rfl rfl hM.m hM.o_formulaCells ?_
          refine G_iload1 x eX0_firstReady_14 ?_
          refine G_iald x eX0_firstReady_15 rfl hM.t_formulaCells (by omega) (by omega) (by omega) (fun h15 => ?_)
          refine G_istore2 x eX0_firstReady_16 ?_
          refine G_aload0 x eX0_firstReady_17 ?_
          refine G_getq x eX0_firstReady_18 fX0_33 rfl rfl hM.m hM.o_references ?_
          refine G_push x eX0_firstReady_21 ?_
          refine G_iload2 x eX0_firstReady_24 ?_
          refine G_cV x eX0_firstReady_25 kX0_72 im_yX1_has se_yX1_has rm hM.s_references.m cH rfl ?_
          refine G_if_eq x eX0_firstReady_28 (by omega) (fun c28 => ?_) (fun c28 => ?_)
          · refine G_iinc1 x eX0_firstReady_47 ?_
            refine G_goto x eX0_firstReady_50 ?_
            exact nx
          · omega
  refine G_push x eX0_firstReady_0 ?_
  refine G_istore1 x eX0_firstReady_1 ?_
  exact loop (I ca 4).toNat 0 _ (by omega) (by omega) (by intros; omega)
