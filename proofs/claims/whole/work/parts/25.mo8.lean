theorem btw_r {pl f : Int → Int} {n p : Int} (h : ∀ i, 0 ≤ i → i < n → 0 ≤ pl (f i) ∧ pl (f i) ≤ 1000000) (h0 : 0 ≤ p) (h1 : p ≤ n) : -1 ≤ btw pl f n p ∧ btw pl f n p ≤ 1002000 := by
  unfold btw
  by_cases e : p = 0
  · by_cases e2 : p = n
    · simp only [if_pos e, if_pos e2]; split <;> omega
    · have := h p h0 (by omega)
      simp only [if_pos e, if_neg e2]; split <;> omega
  · have g := h (p - 1) (by omega) (by omega)
    by_cases e2 : p = n
    · simp only [if_neg e, if_pos e2]; split <;> omega
    · have := h p h0 (by omega)
      simp only [if_neg e, if_neg e2]; split <;> omega
def prOk (S : Int → Int) (r : Int) : Prop := (0 ≤ S r ∧ S r ≤ 40) ∧ (0 ≤ S (3843 + 270 * r + 0) ∧ S (3843 + 270 * r + 0) < 1000) ∧ (∀ kd, 0 ≤ kd → kd ≤ 1 → (0 ≤ S (3843 + 270 * r + (4 + kd)) ∧ S (3843 + 270 * r + (4 + kd)) ≤ 3) ∧ plOk S r kd) ∧ ∀ c, 0 ≤ c → c < 144 → -1 ≤ S (3843 + 270 * r + (126 + c)) ∧ S (3843 + 270 * r + (126 + c)) < 120
noncomputable def mkPl (S : Int → Int) (r kd w p : Int) : Int := btw (plS S r kd) (rwF S r kd w) (rwN S r kd w) p
noncomputable def mkThr (S : Int → Int) (r kd p : Int) : Int := if 0 ≤ r ∧ r ≤ 2 then (if 0 ≤ p ∧ p ≤ rwN S r kd (-1) then (if S (3843 + 270 * r + (4 + kd)) = 3 ∨ mkPl S r kd (-1) p = -1 ∨ S r = 40 then 2 else 0) else 1) else 1
noncomputable def mkS (S : Int → Int) (r kd p : Int) : Int → Int := mksS (sU S (3843 + 270 * r + (4 + kd)) (S (3843 + 270 * r + (4 + kd)) + 1)) r 1 kd (3 + 3 * r + S (3843 + 270 * r + (4 + kd))) (mkPl S r kd (-1) p)
theorem holdS {I I1 : gI} {mo : Nat} (h : ∀ j, I1 (mo + 1) j = I (mo + 1) j) : cpI I1 (mo + 3) (mo + 1) 0 0 4653 (mo + 1) = I (mo + 1) := funext fun j => by rw [cpI_b (by omega)]; exact h j
set_option maxHeartbeats 1000000 in
set_option maxRecDepth 20000 in
theorem ct_X11_make {T : gT} {I : gI} {J : gJ} {O : gO} {mo : Nat} {r b p : Int} (hM : MoAt T O mo) (h0 : in32 r) (h1 : b = 0 ∨ b = 1) (h2 : in32 p) (h3 : 0 ≤ I mo 3 ∧ I mo 3 ≤ 4) (h4 : 0 ≤ r → r ≤ 2 → prOk (I (mo + 1)) r) : Ct yX11_make cX11_make 9 (some .int) [va_rf (some mo), VI r, VI b, VI p] 3 76 0 0 T I J O (if mkThr (I (mo + 1)) r b p = 0 then mDo T I J O mo (3 + 3 * r + I (mo + 1) (3843 + 270 * r + (4 + b))) (mkS (I (mo + 1)) r b p) else mSay T I J O mo 0 (mkThr (I (mo + 1)) r b p)) := by
  refine Ct.of (by decide) [some (va_rf (some mo)), some (VI r), some (VI b), some (VI p), none, none, none, none, none] (gEn1 (List.forall_mem_cons.mpr ⟨cat_VR _, List.forall_mem_cons.mpr ⟨cat_VI _, List.forall_mem_cons.mpr ⟨cat_VI _, List.forall_mem_cons.mpr ⟨cat_VI _, fun _ h => nomatch h⟩⟩⟩⟩) rfl (Nat.le_of_ble_eq_true rfl) rfl) ?_
  intro X x en rm ini hr hz
  have hr0 := hr
  refine G_iload2 x eX11_make_0 ?_
  refine G_cS x eX11_make_1 kX11_123 sm_yX11_kindOf rm (ct_X11_kindOf (by omega)) rfl ?_
  refine G_istore4 x eX11_make_4 ?_
  refine G_iload1 x eX11_make_6 ?_
  refine G_cS x eX11_make_7 kX11_127 sm_yX11_isReplica rm (ct_X11_isReplica (by first | omega | exact hr _ _ | exact hr0 _ _)) rfl ?_
  refine G_ifb_ne x eX11_make_10 (fun c10 => ?_) (fun c10 => ?_)
  · obtain ⟨⟨s0, s1⟩, ⟨k0, k1⟩, hk, hc⟩ := h4 c10.1 c10.2
    obtain ⟨⟨d0, d1⟩, hpl⟩ := hk b (by omega) (by omega)
    refine G_aload0 x eX11_make_19 ?_
    refine G_iload1 x eX11_make_20 ?_
    refine G_iload4 x eX11_make_21 ?_
    refine G_push x eX11_make_23 ?_
    refine G_aload0 x eX11_make_24 ?_
    refine G_getq x eX11_make_25 fX11_28 rfl rfl hM.m hM.o_some ?_
    refine G_cVg x eX11_make_28 kX11_95 im_yX11_lays se_yX11_lays rm hM.m (ct_X11_lays hM hM.t_some (by omega) (by omega) (by omega) (by omega) (by omega)) rfl (fun v28 T28 I28 J28 O28 p28 => ?_)
    refine G_rg (fun hr => ?_)
    obtain ⟨rfl, rfl, rfl, hf, n, rfl, hE⟩ := p28
    have hEb := hE.2.1
    have hEa := hE.1
    have hEc := rw_eq hE
    have hs : ∀ j, I28 (mo + 1) j = I (mo + 1) j := hf _ (by omega)
    refine G_istore5 x eX11_make_31 ?_
    refine G_iload3 x eX11_make_33 ?_
    refine G_push x eX11_make_34 ?_
    refine G_iload5 x eX11_make_35 ?_
    refine G_cS x eX11_make_37 kX11_87 sm_yX11_in rm (ct_X11_in (by first | omega | exact hr _ _ | exact hr0 _ _) (by first | omega | exact hr _ _ | exact hr0 _ _) (by first | omega | exact hr _ _ | exact hr0 _ _)) rfl ?_
    refine G_ifb_ne x eX11_make_40 (fun c40 => ?_) (fun c40 => ?_)
    · have hbt : btw (mPl I28 mo r b) (I28 (mo + 7)) n p = mkPl (I (mo + 1)) r b (-1) p := by
        have e1 : mPl I28 mo r b = plS (I (mo + 1)) r b := funext fun l => hs _
        rw [e1, btw_c hEc.2 c40.1 c40.2, hEc.1]
        rfl
      have hbr : -1 ≤ mkPl (I (mo + 1)) r b (-1) p ∧ mkPl (I (mo + 1)) r b (-1) p ≤ 1002000 := btw_r (hpl.b (rwE _ _ _ _)) c40.1 (by omega)
      refine G_aload0 x eX11_make_49 ?_
      refine G_iload1 x eX11_make_50 ?_
      refine G_iload4 x eX11_make_51 ?_
      refine G_iload5 x eX11_make_53 ?_
      refine G_iload3 x eX11_make_55 ?_
      refine G_cV x eX11_make_56 kX11_134 im_yX11_between se_yX11_between rm hM.m (ct_X11_between hM (by omega) (by omega) (by omega) (by omega) (by omega) (by omega) (by omega) (fun i a1 a2 => ⟨(hE.2.2.2.1 i a1 a2).1, (hE.2.2.2.1 i a1 a2).2.1⟩) (fun i a1 a2 => by simp only [mPl, hs]; exact hpl.b hE i a1 a2)) rfl ?_
      rw [hbt]
      refine G_istore6 x eX11_make_59 ?_
      refine G_aload0 x eX11_make_61 ?_
      refine G_iload1 x eX11_make_62 ?_
      refine G_push x eX11_make_63 ?_
      refine G_iload4 x eX11_make_64 ?_
      refine G_iadd x eX11_make_66 ?_
      refine G_cV x eX11_make_67 kX11_108 im_yX11_of se_yX11_of rm hM.m (ct_X11_of hM (by omega) (by omega)) rfl ?_
      rw [hs]
      have hthr : mkThr (I (mo + 1)) r b p = if I (mo + 1) (3843 + 270 * r + (4 + b)) = 3 ∨ mkPl (I (mo + 1)) r b (-1) p = -1 ∨ I (mo + 1) r = 40 then 2 else 0 := by
        unfold mkThr
        rw [if_pos c10, if_pos (by omega)]
      have hfail : (I (mo + 1) (3843 + 270 * r + (4 + b)) = 3 ∨ mkPl (I (mo + 1)) r b (-1) p = -1 ∨ I (mo + 1) r = 40) → ∀ Ls, G X 92 (some (va_rf (some mo)) :: Ls) [] T28 I28 J28 O28 0 0 := by
        intro hc9 Ls
        refine G_aload0 x eX11_make_92 ?_
        refine G_push x eX11_make_93 ?_
        refine G_cV x eX11_make_94 kX11_131 im_yX11_fails se_yX11_fails rm hM.m (ct_X11_fails hM (by first | omega | exact hr _ _ | exact hr0 _ _)) rfl ?_
        refine G_rg (fun hr => ?_)
        refine G_ireturn x en eX11_make_97 (by omega) (by omega) ?_
        rw [hthr, if_pos hc9, if_neg (by omega)]
        exact mSay_i (fun b hb j => ⟨hf b (by omega) j, rfl⟩) hs (hf _ (by omega)) (hf _ (by omega)) (hf _ (by omega) _) (hf _ (by omega) _)
      have hgo : ¬ I (mo + 1) (3843 + 270 * r + (4 + b)) = 3 → ¬ mkPl (I (mo + 1)) r b (-1) p = -1 → ¬ I (mo + 1) r = 40 → G X 98 [some (va_rf (some mo)), some (VI r), some (VI b), some (VI p), some (VI b), some (VI n), some (VI (mkPl (I (mo + 1)) r b (-1) p)), some (VI (I (mo + 1) (3843 + 270 * r + (4 + b)))), none] [] T28 I28 J28 O28 0 0 := by
        intro g1 g2 g3
        have e0 := holdS hs
        refine G_aload0 x eX11_make_98 ?_
        refine G_cVv x eX11_make_99 kX11_141 im_yX11_hold se_yX11_hold rm hM.m (ct_X11_hold hM) rfl ?_
        refine G_rg (fun hr => ?_)
        refine G_aload0 x eX11_make_102 ?_
        refine G_iload1 x eX11_make_103 ?_
        refine G_push x eX11_make_104 ?_
        refine G_iload4 x eX11_make_105 ?_
        refine G_iadd x eX11_make_107 ?_
        refine G_iload7 x eX11_make_108 ?_
        refine G_push x eX11_make_110 ?_
        refine G_iadd x eX11_make_111 ?_
        refine G_cVv x eX11_make_112 kX11_115 im_yX11_puts se_yX11_puts rm hM.m (ct_X11_puts hM (by omega) (by omega) (by first | omega | exact hr _ _ | exact hr0 _ _)) rfl ?_
        refine G_rg (fun hr => ?_)
        generalize hH : uI (cpI I28 (mo + 3) (mo + 1) 0 0 4653) (mo + 1) (3843 + 270 * r + (4 + b)) (I (mo + 1) (3843 + 270 * r + (4 + b)) + 1) = H2
        have e1 : H2 (mo + 1) = sU (I (mo + 1)) (3843 + 270 * r + (4 + b)) (I (mo + 1) (3843 + 270 * r + (4 + b)) + 1) := by rw [← hH, uI_row, rowI_s, e0]
        have e2 : H2 (mo + 1) r = I (mo + 1) r := by rw [e1, sU_o (by omega)]
        have e3 : H2 (mo + 1) (3843 + 270 * r + 0) = I (mo + 1) (3843 + 270 * r + 0) := by rw [e1, sU_o (by omega)]
        have e4 : ∀ b9, b9 ≠ mo + 1 → ∀ j, H2 b9 j = cpI I28 (mo + 3) (mo + 1) 0 0 4653 b9 j := fun b9 hb9 j => by rw [← hH, uI_a hb9]
        refine G_push x eX11_make_115 ?_
        refine G_push x eX11_make_116 ?_
        refine G_iload1 x eX11_make_117 ?_
        refine G_imul x eX11_make_118 ?_
        refine G_iadd x eX11_make_119 ?_
        refine G_iload7 x eX11_make_120 ?_
        refine G_iadd x eX11_make_122 ?_
        refine G_istore8 x eX11_make_123 ?_
        refine G_aload0 x eX11_make_125 ?_
        refine G_iload1 x eX11_make_126 ?_
        refine G_push x eX11_make_127 ?_
        refine G_iload4 x eX11_make_128 ?_
        refine G_iload8 x eX11_make_130 ?_
        refine G_iload6 x eX11_make_132 ?_
        refine G_cVv x eX11_make_134 kX11_144 im_yX11_makes se_yX11_makes rm hM.m (ct_X11_makes hM (by omega) (by omega) (by rw [e2]; exact s0) (by rw [e2]; omega) (by omega) (by omega) (by omega) (by omega) (by omega) (by omega) (by omega) (by rw [e3]; exact k0) (by rw [e3]; exact k1) (by omega)) rfl ?_
        refine G_rg (fun hr => ?_)
        generalize hH3 : mksI H2 mo r 1 b (3 + 3 * r + I (mo + 1) (3843 + 270 * r + (4 + b))) (mkPl (I (mo + 1)) r b (-1) p) = H3
        have e6 : ∀ b9, b9 ≠ mo + 1 → ∀ j, H3 b9 j = H2 b9 j := fun b9 hb9 j => by rw [← hH3, mksI_row, rowI_o hb9]
        have e5 : H3 mo 3 = I mo 3 := by rw [e6 mo (by omega), e4 mo (by omega), cpI_b (by omega)]; exact hf _ (by omega) _
        refine G_aload0 x eX11_make_137 ?_
        refine G_iload8 x eX11_make_138 ?_
        refine G_cV x eX11_make_140 kX11_148 im_yX11_ends se_yX11_ends rm hM.m (ct_X11_ends hM (by omega) (by rw [e5]; omega) (by rw [e5]; omega)) rfl ?_
        refine G_rg (fun hr => ?_)
        refine G_ireturn x en eX11_make_143 (by omega) (by omega) ?_
        have ht0 : mkThr (I (mo + 1)) r b p = 0 := by rw [hthr, if_neg (by omega)]
        rw [if_pos ht0]
        refine mDo_i (I1 := I28) (fun b hb j => hf b (by omega) j) hs (hf _ (by omega)) (hf _ (by omega)) (hf _ (by omega) _) (hf _ (by omega) _) (fun b9 q1 q2 j q3 => by rw [e6 b9 q1, e4 b9 q1]) (fun j q1 q2 => ?_)
        rw [← hH3, mksI_row, rowI_s, e1]
        rfl
      refine G_rg (fun hr => ?_)
      refine G_istore7 x eX11_make_70 ?_
      refine G_iload7 x eX11_make_72 ?_
      refine G_push x eX11_make_74 ?_
      refine G_icmp_eq x eX11_make_75 (by first | omega | exact hr _ _ | exact hr0 _ _) (by first | omega | exact hr _ _ | exact hr0 _ _) (fun c75 => ?_) (fun c75 => ?_)
      · exact hfail (by first | exact Or.inl c75 | exact Or.inr (Or.inl c81) | (rw [hs] at c89; exact Or.inr (Or.inr c89))) _
      · refine G_iload6 x eX11_make_78 ?_
        refine G_push x eX11_make_80 ?_
        refine G_icmp_eq x eX11_make_81 (by first | omega | exact hr _ _ | exact hr0 _ _) (by first | omega | exact hr _ _ | exact hr0 _ _) (fun c81 => ?_) (fun c81 => ?_)
        · exact hfail (by first | exact Or.inl c75 | exact Or.inr (Or.inl c81) | (rw [hs] at c89; exact Or.inr (Or.inr c89))) _
        · refine G_aload0 x eX11_make_84 ?_
          refine G_iload1 x eX11_make_85 ?_
          refine G_cV x eX11_make_86 kX11_138 im_yX11_isFull se_yX11_isFull rm hM.m (ct_X11_isFull hM (by omega) (by omega)) rfl ?_
          refine G_ifb_eq x eX11_make_89 (fun c89 => ?_) (fun c89 => ?_)
          · exact hgo c75 c81 (by rw [hs] at c89; exact c89)
          · exact hfail (by first | exact Or.inl c75 | exact Or.inr (Or.inl c81) | (rw [hs] at c89; exact Or.inr (Or.inr c89))) _
    · refine G_aload0 x eX11_make_43 ?_
      refine G_push x eX11_make_44 ?_
      refine G_cV x eX11_make_45 kX11_131 im_yX11_fails se_yX11_fails rm hM.m (ct_X11_fails hM (by first | omega | exact hr _ _ | exact hr0 _ _)) rfl ?_
      refine G_rg (fun hr => ?_)
      refine G_ireturn x en eX11_make_48 (by omega) (by omega) ?_
      have ht : mkThr (I (mo + 1)) r b p = 1 := by unfold mkThr; rw [if_pos c10, if_neg (by omega)]
      rw [ht, if_neg (by omega)]
      exact mSay_i (fun b hb j => ⟨hf b (by omega) j, rfl⟩) hs (hf _ (by omega)) (hf _ (by omega)) (hf _ (by omega) _) (hf _ (by omega) _)
  · refine G_aload0 x eX11_make_13 ?_
    refine G_push x eX11_make_14 ?_
    refine G_cV x eX11_make_15 kX11_131 im_yX11_fails se_yX11_fails rm hM.m (ct_X11_fails hM (by first | omega | exact hr _ _ | exact hr0 _ _)) rfl ?_
    refine G_rg (fun hr => ?_)
    refine G_ireturn x en eX11_make_18 (by omega) (by omega) ?_
    have ht : mkThr (I (mo + 1)) r b p = 1 := by unfold mkThr; rw [if_neg c10]
    rw [ht, if_neg (by omega)]
    exact mSay_i (fun b hb j => ⟨rfl, rfl⟩) (fun j => rfl) (fun j => rfl) (fun j => rfl) rfl rfl
