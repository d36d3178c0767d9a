theorem En.drop {pl : Int → Int} {sh : Int → Prop} {m n k : Int} {f : Int → Int} (h : En pl sh m f n) (h0 : 0 ≤ k) (h1 : k < n) : En pl (fun x => sh x ∧ x ≠ f k) m (fun i => if i < k then f i else f (i + 1)) (n - 1) := by
  obtain ⟨a1, a2, a3, a4, a5⟩ := h
  have hne : ∀ i, 0 ≤ i → i < n → i ≠ k → f i ≠ f k := fun i i0 i1 e z => by
    rcases (by omega : i < k ∨ k < i) with q | q
    · exact lnLt_irr (z ▸ a3 i k i0 q h1)
    · exact lnLt_irr (z ▸ a3 k i h0 q i1)
  refine ⟨by omega, by omega, fun i j hi hij hj => ?_, fun i hi hj => ?_, fun x hx hy hz => ?_⟩
  · simp only
    by_cases e : j < k
    · rw [if_pos e, if_pos (by omega)]; exact a3 i j hi hij (by omega)
    · rw [if_neg e]
      by_cases e2 : i < k
      · rw [if_pos e2]; exact a3 i (j + 1) hi (by omega) (by omega)
      · rw [if_neg e2]; exact a3 (i + 1) (j + 1) (by omega) (by omega) (by omega)
  · simp only
    by_cases e : i < k
    · rw [if_pos e]
      have := a4 i hi (by omega)
      exact ⟨this.1, this.2.1, this.2.2, hne i hi (by omega) (by omega)⟩
    · rw [if_neg e]
      have := a4 (i + 1) (by omega) (by omega)
      exact ⟨this.1, this.2.1, this.2.2, hne (i + 1) (by omega) (by omega) (by omega)⟩
  · obtain ⟨i, i0, i1, i2⟩ := a5 x hx hy hz.1
    have hik : i ≠ k := fun e => hz.2 (by rw [← i2, e])
    rcases (by omega : i < k ∨ k < i) with q | q
    · exact ⟨i, i0, by omega, by simp only; rw [if_pos q]; exact i2⟩
    · exact ⟨i - 1, by omega, by omega, by simp only; rw [if_neg (by omega), show i - 1 + 1 = i by omega]; exact i2⟩
theorem rw_drop {S : Int → Int} {r kd p : Int} (h0 : 0 ≤ p) (h1 : p < rwN S r kd (-1)) : rwN S r kd (rwF S r kd (-1) p) = rwN S r kd (-1) - 1 ∧ ∀ i, 0 ≤ i → i < rwN S r kd (-1) - 1 → rwF S r kd (rwF S r kd (-1) p) i = if i < p then rwF S r kd (-1) i else rwF S r kd (-1) (i + 1) := by
  have hE : En (plS S r kd) (shS S r kd (rwF S r kd (-1) p)) 12 _ _ := En.congr (En.drop (rwE S r kd (-1)) h0 h1) (fun _ _ _ => rfl) (fun x hx hy => by
    simp only [shS]
    constructor
    · intro h; exact ⟨⟨h.1, by omega⟩, h.2⟩
    · intro h; exact ⟨h.1.1, h.2⟩)
  have := rw_eq hE
  exact ⟨this.1.symm, fun i a b => (this.2 i a b).symm⟩
set_option maxHeartbeats 2000000 in
set_option maxRecDepth 20000 in
theorem ct_X11_move {T : gT} {I : gI} {J : gJ} {O : gO} {mo : Nat} {r b p t : Int} (hM : MoAt T O mo) (h0 : in32 r) (h1 : b = 0 ∨ b = 1) (h2 : in32 p) (h2t : in32 t) (h3 : 0 ≤ I mo 3 ∧ I mo 3 ≤ 4) (h4 : 0 ≤ r → r ≤ 2 → prOk (I (mo + 1)) r) : Ct yX11_move cX11_move 10 (some .int) [va_rf (some mo), VI r, VI b, VI p, VI t] 4 96 0 0 T I J O (if mvThr (I (mo + 1)) r b p t = 0 then mDo T I J O mo (rwP (mvS (I (mo + 1)) r b p t) r b (rwF (I (mo + 1)) r b (-1) p)) (mvS (I (mo + 1)) r b p t) else mSay T I J O mo 0 (mvThr (I (mo + 1)) r b p t)) := by
  refine Ct.of (by decide) [some (va_rf (some mo)), some (VI r), some (VI b), some (VI p), some (VI t), none, none, none, none, none] (gEn1 (List.forall_mem_cons.mpr ⟨cat_VR _, List.forall_mem_cons.mpr ⟨cat_VI _, List.forall_mem_cons.mpr ⟨cat_VI _, List.forall_mem_cons.mpr ⟨cat_VI _, List.forall_mem_cons.mpr ⟨cat_VI _, fun _ h => nomatch h⟩⟩⟩⟩⟩) rfl (Nat.le_of_ble_eq_true rfl) rfl) ?_
  intro X x en rm ini hr hz
  have hr0 := hr
  refine G_iload2 x eX11_move_0 ?_
  refine G_cS x eX11_move_1 kX11_123 sm_yX11_kindOf rm (ct_X11_kindOf (by omega)) rfl ?_
  refine G_istore5 x eX11_move_4 ?_
  refine G_iload1 x eX11_move_6 ?_
  refine G_cS x eX11_move_7 kX11_127 sm_yX11_isReplica rm (ct_X11_isReplica (by first | omega | exact hr _ _ | exact hr0 _ _)) rfl ?_
  refine G_ifb_ne x eX11_move_10 (fun c10 => ?_) (fun c10 => ?_)
  · obtain ⟨⟨s0, s1⟩, ⟨k0, k1⟩, hk, hc⟩ := h4 c10.1 c10.2
    obtain ⟨-, hpl⟩ := hk b (by omega) (by omega)
    refine G_aload0 x eX11_move_19 ?_
    refine G_iload1 x eX11_move_20 ?_
    refine G_iload5 x eX11_move_21 ?_
    refine G_push x eX11_move_23 ?_
    refine G_aload0 x eX11_move_24 ?_
    refine G_getq x eX11_move_25 fX11_28 rfl rfl hM.m hM.o_some ?_
    refine G_cVg x eX11_move_28 kX11_95 im_yX11_lays se_yX11_lays rm hM.m (ct_X11_lays hM hM.t_some (by omega) (by omega) (by omega) (by omega) (by omega)) rfl (fun v28 T28 I28 J28 O28 p28 => ?_)
    refine G_rg (fun hr => ?_)
    obtain ⟨rfl, rfl, rfl, hf, n, rfl, hE⟩ := p28
    have hEb := hE.2.1
    have hEa := hE.1
    have hEc := rw_eq hE
    have hs : ∀ j, I28 (mo + 1) j = I (mo + 1) j := hf _ (by omega)
    have hbad : ¬ ((0 ≤ p ∧ p < n) ∧ 0 ≤ t ∧ t < n) → ∀ Ls, G X 58 (some (va_rf (some mo)) :: Ls) [] T28 I28 J28 O28 0 0 := by
      intro hb9 Ls
      refine G_aload0 x eX11_move_58 ?_
      refine G_push x eX11_move_59 ?_
      refine G_cV x eX11_move_60 kX11_131 im_yX11_fails se_yX11_fails rm hM.m (ct_X11_fails hM (by first | omega | exact hr _ _ | exact hr0 _ _)) rfl ?_
      refine G_rg (fun hr => ?_)
      refine G_ireturn x en eX11_move_63 (by omega) (by omega) ?_
      have ht : mvThr (I (mo + 1)) r b p t = 1 := by unfold mvThr; rw [if_pos c10, if_neg (by omega)]
      rw [ht, if_neg (by omega)]
      exact mSay_i (fun b hb j => ⟨hf b (by omega) j, rfl⟩) hs (hf _ (by omega)) (hf _ (by omega)) (hf _ (by omega) _) (hf _ (by omega) _)
    refine G_istore6 x eX11_move_31 ?_
    refine G_iload3 x eX11_move_33 ?_
    refine G_push x eX11_move_34 ?_
    refine G_iload6 x eX11_move_35 ?_
    refine G_push x eX11_move_37 ?_
    refine G_isub x eX11_move_38 ?_
    refine G_cS x eX11_move_39 kX11_87 sm_yX11_in rm (ct_X11_in (by first | omega | exact hr _ _ | exact hr0 _ _) (by first | omega | exact hr _ _ | exact hr0 _ _) (by first | omega | exact hr _ _ | exact hr0 _ _)) rfl ?_
    refine G_ifb_eq x eX11_move_42 (fun c42 => ?_) (fun c42 => ?_)
    · exact hbad (by omega) _
    · refine G_iload4 x eX11_move_45 ?_
      refine G_push x eX11_move_47 ?_
      refine G_iload6 x eX11_move_48 ?_
      refine G_push x eX11_move_50 ?_
      refine G_isub x eX11_move_51 ?_
      refine G_cS x eX11_move_52 kX11_87 sm_yX11_in rm (ct_X11_in (by first | omega | exact hr _ _ | exact hr0 _ _) (by first | omega | exact hr _ _ | exact hr0 _ _) (by first | omega | exact hr _ _ | exact hr0 _ _)) rfl ?_
      refine G_ifb_ne x eX11_move_55 (fun c55 => ?_) (fun c55 => ?_)
      · have hl := hE.2.2.2.1 p (by omega) (by omega)
        have hls : I28 (mo + 7) p = rwF (I (mo + 1)) r b (-1) p := hEc.2 p (by omega) (by omega)
        rw [hls] at hl
        refine G_aload0 x eX11_move_64 ?_
        refine G_getq x eX11_move_65 fX11_28 rfl rfl hM.m hM.o_some ?_
        refine G_iload3 x eX11_move_68 ?_
        refine G_iald x eX11_move_69 rfl hM.t_some (by omega) (by omega) (by omega) (fun h69 => ?_)
        rw [hls]
        generalize hlg : rwF (I (mo + 1)) r b (-1) p = l at *
        refine G_istore7 x eX11_move_70 ?_
        refine G_aload0 x eX11_move_72 ?_
        refine G_iload1 x eX11_move_73 ?_
        refine G_iload5 x eX11_move_74 ?_
        refine G_iload7 x eX11_move_76 ?_
        refine G_aload0 x eX11_move_78 ?_
        refine G_getq x eX11_move_79 fX11_28 rfl rfl hM.m hM.o_some ?_
        refine G_cVg x eX11_move_82 kX11_95 im_yX11_lays se_yX11_lays rm hM.m (ct_X11_lays hM hM.t_some (by omega) (by omega) (by omega) (by omega) (by omega)) rfl (fun v82 T82 I82 J82 O82 p82 => ?_)
        refine G_rg (fun hr => ?_)
        obtain ⟨rfl, rfl, rfl, hf2, n2, rfl, hE2⟩ := p82
        have hs2 : ∀ j, I82 (mo + 1) j = I (mo + 1) j := fun j => by rw [hf2 _ (by omega)]; exact hs j
        have hf3 : ∀ b, b ≠ mo + 7 → ∀ j, I82 b j = I b j := fun b hb j => by rw [hf2 b hb]; exact hf b hb j
        have hE3 : En (plS (I (mo + 1)) r b) (shS (I (mo + 1)) r b l) 12 (I82 (mo + 7)) n2 := En.congr hE2 (fun z _ _ => (hs _).symm) (fun z _ _ => by show (_ ∧ _) ∧ _ ↔ (_ ∧ _) ∧ _; rw [hs, hs])
        have hEc2 := rw_eq hE3
        have hdr := (rw_drop (S := I (mo + 1)) (r := r) (kd := b) (p := p) (by omega) (by omega)).1
        rw [hlg] at hdr
        have hEb2 := hE3.2.1
        have hEa2 := hE3.1
        have hbt : btw (mPl I82 mo r b) (I82 (mo + 7)) n2 t = mkPl (I (mo + 1)) r b l t := by
          have e1 : mPl I82 mo r b = plS (I (mo + 1)) r b := funext fun l => hs2 _
          rw [e1, btw_c hEc2.2 (by omega) (by omega), hEc2.1]
          rfl
        have hbr : -1 ≤ mkPl (I (mo + 1)) r b l t ∧ mkPl (I (mo + 1)) r b l t ≤ 1002000 := btw_r (hpl.b (rwE _ _ _ _)) (by omega) (by omega)
        refine G_istore8 x eX11_move_85 ?_
        refine G_aload0 x eX11_move_87 ?_
        refine G_iload1 x eX11_move_88 ?_
        refine G_iload5 x eX11_move_89 ?_
        refine G_iload8 x eX11_move_91 ?_
        refine G_iload4 x eX11_move_93 ?_
        refine G_cV x eX11_move_95 kX11_134 im_yX11_between se_yX11_between rm hM.m (ct_X11_between hM (by omega) (by omega) (by omega) (by omega) (by omega) (by omega) (by omega) (fun i a1 a2 => ⟨(hE3.2.2.2.1 i a1 a2).1, (hE3.2.2.2.1 i a1 a2).2.1⟩) (fun i a1 a2 => by simp only [mPl, hs2]; exact hpl.b hE3 i a1 a2)) rfl ?_
        rw [hbt]
        have hthr : mvThr (I (mo + 1)) r b p t = if mkPl (I (mo + 1)) r b l t = -1 ∨ I (mo + 1) r = 40 then 2 else 0 := by
          unfold mvThr
          rw [if_pos c10, if_pos (by omega), hlg]
        have hfail : (mkPl (I (mo + 1)) r b l t = -1 ∨ I (mo + 1) r = 40) → ∀ Ls, G X 114 (some (va_rf (some mo)) :: Ls) [] T82 I82 J82 O82 0 0 := by
          intro hc9 Ls
          refine G_aload0 x eX11_move_114 ?_
          refine G_push x eX11_move_115 ?_
          refine G_cV x eX11_move_116 kX11_131 im_yX11_fails se_yX11_fails rm hM.m (ct_X11_fails hM (by first | omega | exact hr _ _ | exact hr0 _ _)) rfl ?_
          refine G_rg (fun hr => ?_)
          refine G_ireturn x en eX11_move_119 (by omega) (by omega) ?_
          rw [hthr, if_pos hc9, if_neg (by omega)]
          exact mSay_i (fun b hb j => ⟨hf3 b (by omega) j, rfl⟩) hs2 (hf3 _ (by omega)) (hf3 _ (by omega)) (hf3 _ (by omega) _) (hf3 _ (by omega) _)
        have hgo : ¬ mkPl (I (mo + 1)) r b l t = -1 → ¬ I (mo + 1) r = 40 → G X 120 [some (va_rf (some mo)), some (VI r), some (VI b), some (VI p), some (VI t), some (VI b), some (VI n), some (VI l), some (VI n2), some (VI (mkPl (I (mo + 1)) r b l t))] [] T82 I82 J82 O82 0 0 := by
          intro g2 g3
          have e0 := holdS hs2
          refine G_aload0 x eX11_move_120 ?_
          refine G_cVv x eX11_move_121 kX11_141 im_yX11_hold se_yX11_hold rm hM.m (ct_X11_hold hM) rfl ?_
          refine G_rg (fun hr => ?_)
          generalize hH : cpI I82 (mo + 3) (mo + 1) 0 0 4653 = H2
          have e1 : H2 (mo + 1) = I (mo + 1) := by rw [← hH, e0]
          have e2 : H2 (mo + 1) r = I (mo + 1) r := by rw [e1]
          have e3 : H2 (mo + 1) (3843 + 270 * r + 0) = I (mo + 1) (3843 + 270 * r + 0) := by rw [e1]
          refine G_aload0 x eX11_move_124 ?_
          refine G_iload1 x eX11_move_125 ?_
          refine G_push x eX11_move_126 ?_
          refine G_iload5 x eX11_move_127 ?_
          refine G_iload7 x eX11_move_129 ?_
          refine G_iload9 x eX11_move_131 ?_
          refine G_cVv x eX11_move_133 kX11_144 im_yX11_makes se_yX11_makes rm hM.m (ct_X11_makes hM (by omega) (by omega) (by rw [e2]; exact s0) (by rw [e2]; omega) (by omega) (by omega) (by omega) (by omega) (by omega) (by omega) (by omega) (by rw [e3]; exact k0) (by rw [e3]; exact k1) (by omega)) rfl ?_
          refine G_rg (fun hr => ?_)
          generalize hH3 : mksI H2 mo r 2 b l (mkPl (I (mo + 1)) r b l t) = H3
          have e6 : ∀ b9, b9 ≠ mo + 1 → ∀ j, H3 b9 j = H2 b9 j := fun b9 hb9 j => by rw [← hH3, mksI_row, rowI_o hb9]
          have e7 : H3 (mo + 1) = mvS (I (mo + 1)) r b p t := by rw [← hH3, mksI_row, rowI_s, e1]; unfold mvS; rw [hlg]
          refine G_aload0 x eX11_move_136 ?_
          refine G_aload0 x eX11_move_137 ?_
          refine G_iload1 x eX11_move_138 ?_
          refine G_iload5 x eX11_move_139 ?_
          refine G_iload7 x eX11_move_141 ?_
          refine G_cVg x eX11_move_143 kX11_151 im_yX11_positionOf se_yX11_positionOf rm hM.m (ct_X11_positionOf hM (by omega) (by omega) (by omega) (by omega) (by omega)) rfl (fun v143 T143 I143 J143 O143 p143 => ?_)
          refine G_rg (fun hr => ?_)
          obtain ⟨rfl, rfl, rfl, hf5, n5, k5, rfl, hE5, hk5⟩ := p143
          have hE6 : En (plS (mvS (I (mo + 1)) r b p t) r b) (shS (mvS (I (mo + 1)) r b p t) r b (-1)) 12 (I143 (mo + 7)) n5 := by rw [← e7]; exact hE5
          have hEc6 := rw_eq hE6
          have hkk := rwP_eq (idxOf_c (hEc6.1 ▸ hk5) (fun i a b => hEc6.2 i a (by omega)))
          have hEb6 := hE6.2.1
          have hkr : -1 ≤ k5 ∧ k5 < 12 := by rcases hk5 with ⟨e, _⟩ | ⟨e, e2, _⟩ <;> omega
          have e5 : I143 mo 3 = I mo 3 := by rw [hf5 _ (by omega), e6 mo (by omega), ← hH, cpI_b (by omega)]; exact hf3 _ (by omega) _
          refine G_cV x eX11_move_146 kX11_148 im_yX11_ends se_yX11_ends rm hM.m (ct_X11_ends hM (by omega) (by rw [e5]; omega) (by rw [e5]; omega)) rfl ?_
          refine G_rg (fun hr => ?_)
          refine G_ireturn x en eX11_move_149 (by omega) (by omega) ?_
          have ht0 : mvThr (I (mo + 1)) r b p t = 0 := by rw [hthr, if_neg (by omega)]
          rw [if_pos ht0, ← hkk]
          exact mDo_i (I1 := I82) (fun b hb j => hf3 b (by omega) j) hs2 (hf3 _ (by omega)) (hf3 _ (by omega)) (hf3 _ (by omega) _) (hf3 _ (by omega) _) (fun b9 q1 q2 j q3 => by rw [hf5 b9 (by omega), e6 b9 q1, hH]) (fun j q1 q2 => by rw [hf5 _ (by omega), e7])
        refine G_rg (fun hr => ?_)
        refine G_istore9 x eX11_move_98 ?_
        refine G_iload9 x eX11_move_100 ?_
        refine G_push x eX11_move_102 ?_
        refine G_icmp_eq x eX11_move_103 (by first | omega | exact hr _ _ | exact hr0 _ _) (by first | omega | exact hr _ _ | exact hr0 _ _) (fun c103 => ?_) (fun c103 => ?_)
        · exact hfail (by first | exact Or.inl c103 | (rw [hs2] at c111; exact Or.inr c111)) _
        · refine G_aload0 x eX11_move_106 ?_
          refine G_iload1 x eX11_move_107 ?_
          refine G_cV x eX11_move_108 kX11_138 im_yX11_isFull se_yX11_isFull rm hM.m (ct_X11_isFull hM (by omega) (by omega)) rfl ?_
          refine G_ifb_eq x eX11_move_111 (fun c111 => ?_) (fun c111 => ?_)
          · exact hgo c103 (by rw [hs2] at c111; exact c111)
          · exact hfail (by first | exact Or.inl c103 | (rw [hs2] at c111; exact Or.inr c111)) _
      · exact hbad (by omega) _
  · refine G_aload0 x eX11_move_13 ?_
    refine G_push x eX11_move_14 ?_
    refine G_cV x eX11_move_15 kX11_131 im_yX11_fails se_yX11_fails rm hM.m (ct_X11_fails hM (by first | omega | exact hr _ _ | exact hr0 _ _)) rfl ?_
    refine G_rg (fun hr => ?_)
    refine G_ireturn x en eX11_move_18 (by omega) (by omega) ?_
    have ht : mvThr (I (mo + 1)) r b p t = 1 := by unfold mvThr; rw [if_neg c10]
    rw [ht, if_neg (by omega)]
    exact mSay_i (fun b hb j => ⟨rfl, rfl⟩) (fun j => rfl) (fun j => rfl) (fun j => rfl) rfl rfl
