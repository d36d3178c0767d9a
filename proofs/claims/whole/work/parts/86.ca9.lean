/-! the calculation, up to date -/
set_option maxRecDepth 20000 in
theorem ct_X0_isOnCycle {T : gT} {I : gI} {J : gJ} {O : gO} {ca : Nat} {S : Int → Int} {r c : Int} (hM : CaAt T O ca) (hR : CsIs (J (ca + 8 + 1)) (rdR S r (isFm S r))) (c0 : 0 ≤ c) (c1 : c < 144) : Ct yX0_isOnCycle cX0_isOnCycle 2 (some .boolean) [va_rf (some ca), VI c] 2 42 0 0 T I J O (pv (some (VI (b01 (isFm S r c ∧ cyS S r c)))) T I J O) := by
  refine Ct.of (by decide) [some (va_rf (some ca)), some (VI c)] (gEn1 (List.forall_mem_cons.mpr ⟨cat_VR _, List.forall_mem_cons.mpr ⟨cat_VI _, fun _ h => nomatch h⟩⟩) rfl (Nat.le_of_ble_eq_true rfl) rfl) ?_
  intro X x en rm ini hr hz
  have hr0 := hr
  have cH := ct_X1_has (I := I) (s := c) (c := c) hM.s_reached hR c0 (by omega) c0 c1
  have e : ∀ _ : True, (rdR S r (isFm S r) c c ↔ (isFm S r c ∧ cyS S r c)) := fun _ => by
    constructor
    · rintro (⟨a1, a2⟩ | ⟨a1, a2⟩)
      · have hm := (rf0_m a2).2.1
        exact ⟨hm, (wR_cy hm).mp a2⟩
      · omega
    · rintro ⟨a1, a2⟩
      exact Or.inl ⟨c1, (wR_cy a1).mpr a2⟩
  rw [b01_e (e trivial)] at cH
  have hb := @b01_b (isFm S r c ∧ cyS S r c)
  refine G_aload0 x eX0_isOnCycle_0 ?_
  refine G_getq x eX0_isOnCycle_1 fX0_37 rfl rfl hM.m hM.o_reached ?_
  refine G_iload1 x eX0_isOnCycle_4 ?_
  refine G_iload1 x eX0_isOnCycle_5 ?_
  refine G_cV x eX0_isOnCycle_6 kX0_72 im_yX1_has se_yX1_has rm hM.s_reached.m cH rfl ?_
  refine G_zreturn x en eX0_isOnCycle_9 (by omega) (by omega) (by omega) ?_
  exact pv_i
def ewP (T : gT) (I : gI) (J : gJ) (O : gO) (ca : Nat) (S : Int → Int) (r : Int) (W : Int → Prop) : gP := fun v T' I' J' O' => v = none ∧ T' = T ∧ O' = O ∧ (∀ b j, b ≠ ca + 2 → (b ≠ ca ∨ j ≠ 7) → I' b j = I b j) ∧ (∀ b j, b ≠ ca + 6 + 1 → J' b j = J b j) ∧ I' ca 7 = sm (fun g => b01 (cyS S r (I (ca + 3) g))) (I ca 4).toNat ∧ (∀ c, isFm S r c → cyS S r c → I' (ca + 2) c = 1) ∧ (∀ c, ¬ (isFm S r c ∧ cyS S r c) → I' (ca + 2) c = I (ca + 2) c) ∧ CsIs (J' (ca + 6 + 1)) (Rw S r (fun c => W c ∧ ¬ cyS S r c))
set_option maxHeartbeats 4000000 in
set_option maxRecDepth 20000 in
theorem ct_X0_endWaitOfCycles {T : gT} {I : gI} {J : gJ} {O : gO} {ca : Nat} {S : Int → Int} {r : Int} {W : Int → Prop} (hM : CaAt T O ca) (hE : EnF S r 144 (I (ca + 3)) (I ca 4)) (n9 : I ca 4 ≤ 120) (hR : CsIs (J (ca + 6 + 1)) (Rw S r W)) (hW : ∀ c, W c → isFm S r c) (hD : CsIs (J (ca + 8 + 1)) (rdR S r (isFm S r))) : Ct yX0_endWaitOfCycles cX0_endWaitOfCycles 3 none [va_rf (some ca)] 3 63 0 0 T I J O (ewP T I J O ca S r W) := by
  refine Ct.of (by decide) [some (va_rf (some ca)), none, none] (gEn1 (List.forall_mem_cons.mpr ⟨cat_VR _, fun _ h => nomatch h⟩) rfl (Nat.le_of_ble_eq_true rfl) rfl) ?_
  intro X x en rm ini hr hz
  have hr0 := hr
  have n8 := hE.1
  have loop : ∀ (d f : Nat) (I1 : gI) (J1 : gJ) (y : Option Value), (f : Int) + d = I ca 4 → (∀ b j, b ≠ ca + 2 → (b ≠ ca ∨ j ≠ 7) → I1 b j = I b j) → (∀ b j, b ≠ ca + 6 + 1 → J1 b j = J b j) → I1 ca 7 = sm (fun g => b01 (cyS S r (I (ca + 3) g))) f → (∀ g, 0 ≤ g → g < (f : Int) → cyS S r (I (ca + 3) g) → I1 (ca + 2) (I (ca + 3) g) = 1) → (∀ c, ¬ (∃ g, 0 ≤ g ∧ g < (f : Int) ∧ I (ca + 3) g = c ∧ cyS S r c) → I1 (ca + 2) c = I (ca + 2) c) → CsIs (J1 (ca + 6 + 1)) (Rw S r (fun c => W c ∧ ¬ (∃ g, 0 ≤ g ∧ g < (f : Int) ∧ I (ca + 3) g = c ∧ cyS S r c))) → G X 7 [some (va_rf (some ca)), some (VI (f : Int)), y] [] T I1 J1 O 0 0 := by
    intro d
    induction d with
    | zero =>
      intro f I1 J1 y hd k1 k2 k3 k4 k5 k6
      have e4 : I1 ca 4 = I ca 4 := k1 _ _ (by omega) (by omega)
      have ef : (f : Int) = I ca 4 := by omega
      have ex : ∀ c, isFm S r c → ∃ g, 0 ≤ g ∧ g < (f : Int) ∧ I (ca + 3) g = c := fun c hc => by rw [ef]; exact hE.2.2.2.2 c hc.1.1 hc.1.b.2 hc
      have fin : ewP T I J O ca S r W none T I1 J1 O := ⟨rfl, rfl, rfl, k1, k2, by rw [← ef, show ((f : Int)).toNat = f by omega]; exact k3, fun c hc hy => by obtain ⟨g, g0, g1, g2⟩ := ex c hc; have h9 := k4 g g0 g1 (by rw [g2]; exact hy); rw [g2] at h9; exact h9, fun c hn => k5 c (fun ⟨g, g0, g1, g2, g3⟩ => hn ⟨by have h9 := hE.2.2.2.1 g g0 (by omega); rw [g2] at h9; exact h9.2.2, g3⟩), k6.iff (fun s c _ _ _ _ => or_congr Iff.rfl (and_congr Iff.rfl (and_congr_right (fun hw => not_congr ⟨fun ⟨g, _, _, _, z⟩ => z, fun z => by obtain ⟨g, g0, g1, g2⟩ := ex c (hW c hw); exact ⟨g, g0, g1, g2, z⟩⟩))))⟩
      refine G_rg (fun hr => ?_)
      refine G_iload1 x eX0_endWaitOfCycles_7 ?_
      refine G_aload0 x eX0_endWaitOfCycles_8 ?_
      refine G_geti x eX0_endWaitOfCycles_9 fX0_80 rfl rfl hM.m (fun h9 => ?_)
      rw [e4]
      refine G_icmp_ge x eX0_endWaitOfCycles_12 (by first | omega | exact hr _ _ | exact hr0 _ _ | exact hrS _) (by first | omega | exact hr _ _ | exact hr0 _ _ | exact hrS _) (fun c12 => ?_) (fun c12 => ?_)
      · refine G_return x en eX0_endWaitOfCycles_64 (by omega) (by omega) ?_
        exact fin
      · omega
    | succ d ih =>
      intro f I1 J1 y hd k1 k2 k3 k4 k5 k6
      have e4 : I1 ca 4 = I ca 4 := k1 _ _ (by omega) (by omega)
      have cb := hE.2.2.2.1 f (by omega) (by omega)
      obtain ⟨cc, hcc⟩ : ∃ cc, cc = I (ca + 3) f := ⟨_, rfl⟩
      rw [← hcc] at cb
      have e3f : I1 (ca + 3) f = cc := by rw [k1 _ _ (by omega) (by omega), hcc]
      have cO := ct_X0_isOnCycle (T := T) (I := I1) (J := J1) (O := O) (c := cc) hM (by rw [show J1 (ca + 8 + 1) = J (ca + 8 + 1) from funext fun j => k2 _ j (by omega)]; exact hD) cb.1 cb.2.1
      have sS : sm (fun g => b01 (cyS S r (I (ca + 3) g))) (f + 1) = sm (fun g => b01 (cyS S r (I (ca + 3) g))) f + b01 (cyS S r cc) := by rw [hcc]; rfl
      have sb := sm_b (m := fun g => b01 (cyS S r (I (ca + 3) g))) f (fun _ _ _ => b01_b)
      have inj : ∀ g, 0 ≤ g → g < (f : Int) → I (ca + 3) g ≠ cc := fun g g0 g1 e => by have h9 := EnF.lt hE g0 g1 (show (f : Int) < I ca 4 by omega); rw [hcc] at e; omega
      have stp : ∀ c, (∃ g, 0 ≤ g ∧ g < ((f + 1 : Nat) : Int) ∧ I (ca + 3) g = c ∧ cyS S r c) ↔ ((∃ g, 0 ≤ g ∧ g < (f : Int) ∧ I (ca + 3) g = c ∧ cyS S r c) ∨ (c = cc ∧ cyS S r c)) := fun c => by
        constructor
        · rintro ⟨g, g0, g1, g2, g3⟩
          by_cases q : g = f
          · exact Or.inr ⟨by rw [← g2, q, hcc], g3⟩
          · exact Or.inl ⟨g, g0, by omega, g2, g3⟩
        · rintro (⟨g, g0, g1, g2, g3⟩ | ⟨g2, g3⟩)
          · exact ⟨g, g0, by omega, g2, g3⟩
          · exact ⟨f, by omega, by omega, by rw [g2, hcc], g3⟩
      by_cases q : cyS S r cc
      · rw [b01_t ⟨cb.2.2, q⟩] at cO
        rw [b01_t q] at sS
        have cD := ct_X1_drop (I := uI (uI I1 (ca + 2) cc 1) ca 7 (I1 ca 7 + 1)) (s := 144) (c := cc) hM.s_references k6 (by omega) (by omega) cb.1 cb.2.1
        have e7 : (uI I1 (ca + 2) cc 1) ca 7 = I1 ca 7 := uI_a (by omega) _
        have nx : ∀ J2, (∀ b j, b ≠ ca + 6 + 1 → J2 b j = J1 b j) → CsIs (J2 (ca + 6 + 1)) (fun s' c' => Rw S r (fun c => W c ∧ ¬ (∃ g, 0 ≤ g ∧ g < (f : Int) ∧ I (ca + 3) g = c ∧ cyS S r c)) s' c' ∧ ¬ (s' = 144 ∧ c' = cc)) → G X 7 [some (va_rf (some ca)), some (VI ((f : Int) + 1)), some (VI cc)] [] T (uI (uI I1 (ca + 2) cc 1) ca 7 (I1 ca 7 + 1)) J2 O 0 0 := fun J2 m1 m2 => by
          have := ih (f + 1) (uI (uI I1 (ca + 2) cc 1) ca 7 (I1 ca 7 + 1)) J2 (some (VI cc)) (by omega) (fun b j b1 b2 => by rw [uI_o b2, uI_a b1]; exact k1 b j b1 b2) (fun b j hb => (m1 b j hb).trans (k2 b j hb)) (by rw [uI_s, k3, sS]) (fun g g0 g1 g2 => by
            rw [uI_a (by omega)]
            by_cases e : g = f
            · rw [e, ← hcc, uI_s]
            · rw [uI_k (inj g g0 (by omega))]; exact k4 g g0 (by omega) g2) (fun c hn => by
            rw [stp c] at hn
            rw [uI_a (by omega), uI_k (fun e => hn (Or.inr ⟨e, by rw [e]; exact q⟩))]
            exact k5 c (fun z => hn (Or.inl z))) (m2.iff (fun s c _ _ _ _ => by
            unfold Rw
            dsimp only
            rw [stp c]
            constructor
            · rintro ⟨a1 | ⟨a1, a2, a3⟩, a4⟩
              · exact Or.inl a1
              · exact Or.inr ⟨a1, a2, fun z => z.elim a3 (fun z => a4 ⟨a1, z.1⟩)⟩
            · rintro (a1 | ⟨a1, a2, a3⟩)
              · exact ⟨Or.inl a1, fun z => by have := a1.1; have := z.1; omega⟩
              · exact ⟨Or.inr ⟨a1, a2, fun z => a3 (Or.inl z)⟩, fun z => a3 (Or.inr ⟨z.2, by rw [z.2]; exact q⟩)⟩))
          rw [show ((f + 1 : Nat) : Int) = (f : Int) + 1 by omega] at this
          exact this
        clear stp k4 k5
        refine G_rg (fun hr => ?_)
        refine G_iload1 x eX0_endWaitOfCycles_7 ?_
        refine G_aload0 x eX0_endWaitOfCycles_8 ?_
        refine G_geti x eX0_endWaitOfCycles_9 fX0_80 rfl rfl hM.m (fun h9 => ?_)
        rw [e4]
        refine G_icmp_ge x eX0_endWaitOfCycles_12 (by first | omega | exact hr _ _ | exact hr0 _ _ | exact hrS _) (by first | omega | exact hr _ _ | exact hr0 _ _ | exact hrS _) (fun c12 => ?_) (fun c12 => ?_)
        · omega
        · refine G_aload0 x eX0_endWaitOfCycles_15 ?_
          refine G_getq x eX0_endWaitOfCycles_16 fX0_18 rfl rfl hM.m hM.o_formulaCells ?_
          refine G_iload1 x eX0_endWaitOfCycles_19 ?_
          refine G_iald x eX0_endWaitOfCycles_20 rfl hM.t_formulaCells (by omega) (by omega) (by omega) (fun h20 => ?_)
          rw [e3f]
          refine G_istore2 x eX0_endWaitOfCycles_21 ?_
          refine G_aload0 x eX0_endWaitOfCycles_22 ?_
          refine G_iload2 x eX0_endWaitOfCycles_23 ?_
          refine G_cV x eX0_endWaitOfCycles_24 kX0_160 im_yX0_isOnCycle se_yX0_isOnCycle rm hM.m cO rfl ?_
          refine G_if_eq x eX0_endWaitOfCycles_27 (by omega) (fun c27 => ?_) (fun c27 => ?_)
          · try obtain ⟨rfl, rfl, rfl, rfl, u1, u2⟩ := p55
            refine G_iinc1 x eX0_endWaitOfCycles_58 ?_
            refine G_goto x eX0_endWaitOfCycles_61 ?_
            first | (exfalso; omega) | exact nx _ u1 u2
          · refine G_aload0 x eX0_endWaitOfCycles_30 ?_
            refine G_getq x eX0_endWaitOfCycles_31 fX0_15 rfl rfl hM.m hM.o_errors ?_
            refine G_iload2 x eX0_endWaitOfCycles_34 ?_
            refine G_push x eX0_endWaitOfCycles_35 ?_
            refine G_iast x eX0_endWaitOfCycles_36 rfl hM.t_errors (by omega) (by omega) (by omega) (by first | omega | exact hr _ _ | exact hr0 _ _ | exact hrS _) ?_
            refine G_rg (fun hr => ?_)
            refine G_aload0 x eX0_endWaitOfCycles_37 ?_
            refine G_dup x eX0_endWaitOfCycles_38 (by first | rfl | exact cat_rf _) ?_
            refine G_geti x eX0_endWaitOfCycles_39 fX0_69 rfl rfl hM.m (fun h39 => ?_)
            rw [e7]
            refine G_push x eX0_endWaitOfCycles_42 ?_
            refine G_iadd x eX0_endWaitOfCycles_43 ?_
            refine G_puti x eX0_endWaitOfCycles_44 fX0_69 rfl (Or.inl rfl) rfl hM.m (by first | omega | exact hr _ _ | exact hr0 _ _ | exact hrS _) ?_
            refine G_rg (fun hr => ?_)
            refine G_aload0 x eX0_endWaitOfCycles_47 ?_
            refine G_getq x eX0_endWaitOfCycles_48 fX0_33 rfl rfl hM.m hM.o_references ?_
            refine G_push x eX0_endWaitOfCycles_51 ?_
            refine G_iload2 x eX0_endWaitOfCycles_54 ?_
            refine G_cVg x eX0_endWaitOfCycles_55 kX0_163 im_yX1_drop se_yX1_drop rm hM.s_references.m cD rfl (fun v55 T55 I55 J55 O55 p55 => ?_)
            refine G_rg (fun hr => ?_)
            try obtain ⟨rfl, rfl, rfl, rfl, u1, u2⟩ := p55
            refine G_iinc1 x eX0_endWaitOfCycles_58 ?_
            refine G_goto x eX0_endWaitOfCycles_61 ?_
            first | (exfalso; omega) | exact nx _ u1 u2
      · rw [b01_f (fun z => q z.2)] at cO
        rw [b01_f q] at sS
        have nx := ih (f + 1) I1 J1 (some (VI cc)) (by omega) k1 k2 (by rw [sS, k3]; omega) (fun g g0 g1 g2 => by
            by_cases e : g = f
            · rw [e, ← hcc] at g2; exact absurd g2 q
            · exact k4 g g0 (by omega) g2) (fun c hn => by rw [stp c] at hn; exact k5 c (fun z => hn (Or.inl z))) (k6.iff (fun s c _ _ _ _ => by
            unfold Rw
            dsimp only
            rw [stp c]
            exact or_congr Iff.rfl (and_congr Iff.rfl (and_congr Iff.rfl (not_congr ⟨Or.inl, fun z => z.elim (fun z => z) (fun z => absurd (by rw [← z.1]; exact z.2) q)⟩)))))
        rw [show ((f + 1 : Nat) : Int) = (f : Int) + 1 by omega] at nx
        clear stp k4 k5
        refine G_rg (fun hr => ?_)
        refine G_iload1 x eX0_endWaitOfCycles_7 ?_
        refine G_aload0 x eX0_endWaitOfCycles_8 ?_
        refine G_geti x eX0_endWaitOfCycles_9 fX0_80 rfl rfl hM.m (fun h9 => ?_)
        rw [e4]
        refine G_icmp_ge x eX0_endWaitOfCycles_12 (by first | omega | exact hr _ _ | exact hr0 _ _ | exact hrS _) (by first | omega | exact hr _ _ | exact hr0 _ _ | exact hrS _) (fun c12 => ?_) (fun c12 => ?_)
        · omega
        · refine G_aload0 x eX0_endWaitOfCycles_15 ?_
          refine G_getq x eX0_endWaitOfCycles_16 fX0_18 rfl rfl hM.m hM.o_formulaCells ?_
          refine G_iload1 x eX0_endWaitOfCycles_19 ?_
          refine G_iald x eX0_endWaitOfCycles_20 rfl hM.t_formulaCells (by omega) (by omega) (by omega) (fun h20 => ?_)
          rw [e3f]
          refine G_istore2 x eX0_endWaitOfCycles_21 ?_
          refine G_aload0 x eX0_endWaitOfCycles_22 ?_
          refine G_iload2 x eX0_endWaitOfCycles_23 ?_
          refine G_cV x eX0_endWaitOfCycles_24 kX0_160 im_yX0_isOnCycle se_yX0_isOnCycle rm hM.m cO rfl ?_
          refine G_if_eq x eX0_endWaitOfCycles_27 (by omega) (fun c27 => ?_) (fun c27 => ?_)
          · refine G_iinc1 x eX0_endWaitOfCycles_58 ?_
            refine G_goto x eX0_endWaitOfCycles_61 ?_
            exact nx
          · omega
  have s0 := loop (I ca 4).toNat 0 (uI I ca 7 0) J none (by omega) (fun b j _ h => uI_o h) (fun _ _ _ => rfl) uI_s (fun g g0 g1 => by omega) (fun c _ => uI_a (by omega) c) (hR.iff (fun s c _ _ _ _ => or_congr Iff.rfl (and_congr Iff.rfl ⟨fun z => ⟨z, fun ⟨g, g0, g1, _⟩ => by omega⟩, fun z => z.1⟩)))
  refine G_aload0 x eX0_endWaitOfCycles_0 ?_
  refine G_push x eX0_endWaitOfCycles_1 ?_
  refine G_puti x eX0_endWaitOfCycles_2 fX0_69 rfl (Or.inl rfl) rfl hM.m (by first | omega | exact hr _ _ | exact hr0 _ _ | exact hrS _) ?_
  refine G_rg (fun hr => ?_)
  refine G_push x eX0_endWaitOfCycles_5 ?_
  refine G_istore1 x eX0_endWaitOfCycles_6 ?_
  exact s0
