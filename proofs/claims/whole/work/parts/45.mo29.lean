theorem valS_f {S : Int → Int} {r c : Int} (h : isFm S r c) : valS S r c = 0 := if_neg (fun z => by have := h.2.2; omega)
set_option maxHeartbeats 8000000 in
set_option maxRecDepth 20000 in
theorem ct_X11_works {T : gT} {I : gI} {J : gJ} {O : gO} {mo : Nat} {r : Int} (hM : MoAt T O mo) (h0 : 0 ≤ r) (h1 : r ≤ 2) (hf : fmOk (I (mo + 1)) r) : Ct yX11_works cX11_works 4 none [va_rf (some mo), VI r] 5 117 0 0 T I J O (woP T I J O mo r) := by
  refine Ct.of (by decide) [some (va_rf (some mo)), some (VI r), none, none] (gEn1 (List.forall_mem_cons.mpr ⟨cat_VR _, List.forall_mem_cons.mpr ⟨cat_VI _, fun _ h => nomatch h⟩⟩) rfl (Nat.le_of_ble_eq_true rfl) rfl) ?_
  intro X x en rm ini hr hz
  have hr0 := hr
  have hga := ct_X11_gathers (J := J) hM h0 h1 hf
  generalize hS : I (mo + 1) = S at *
  have hfin : ∀ (I1 : gI) (J1 : gJ), gFr I I1 mo → gFj J J1 mo → wIv I1 J1 mo S r → (∀ g, 0 ≤ g → g < I1 mo 16 → ¬ cyS S r (I1 (mo + 9) g) → I1 (mo + 15) g = 0 → ¬ ∀ d, rfC S r (I1 (mo + 9) g) d → cyS S r d ∨ Kn I1 mo d) → woP T I J O mo r none T I1 J1 O := fun I1 J1 a b c d => ⟨rfl, rfl, rfl, a, b, by rw [hS]; exact c.1, by rw [hS]; exact c.fin d⟩
  have hstop : ∀ (I1 : gI) (J1 : gJ) (o3 : Option Value), gFr I I1 mo → gFj J J1 mo → wIv I1 J1 mo S r → (∀ g, 0 ≤ g → g < I1 mo 16 → ¬ cyS S r (I1 (mo + 9) g) → I1 (mo + 15) g = 0 → ¬ ∀ d, rfC S r (I1 (mo + 9) g) d → cyS S r d ∨ Kn I1 mo d) → G X 48 [some (va_rf (some mo)), some (VI r), some (VI 0), o3] [] T I1 J1 O 0 0 := by
    intro I1 J1 o3 a b c d
    refine G_rg (fun hr => ?_)
    refine G_iload2 x eX11_works_48 ?_
    refine G_if_eq x eX11_works_49 (by first | omega | exact hr _ _ | exact hr0 _ _ | exact hrS _) (fun c49 => ?_) (fun c49 => ?_)
    · refine G_return x en eX11_works_130 (by omega) (by omega) ?_
      exact hfin _ _ a b c d
    · omega
  -- a pass
  have pass : ∀ (d : Nat) (f more s0 : Int) (I1 : gI) (J1 : gJ), d = (I1 mo 16 - f).toNat → 0 ≤ f → f ≤ I1 mo 16 → (more = 0 ∨ more = 1) → gFr I I1 mo → gFj J J1 mo → wIv I1 J1 mo S r → s0 ≤ sm (I1 (mo + 15)) (I1 mo 16).toNat → (more = 1 → s0 < sm (I1 (mo + 15)) (I1 mo 16).toNat) → (more = 0 → ∀ g, 0 ≤ g → g < f → ¬ cyS S r (I1 (mo + 9) g) → I1 (mo + 15) g = 0 → ¬ ∀ d, rfC S r (I1 (mo + 9) g) d → cyS S r d ∨ Kn I1 mo d) →
      (∀ (more : Int) (I1 : gI) (J1 : gJ) (o3 : Option Value), (more = 0 ∨ more = 1) → gFr I I1 mo → gFj J J1 mo → wIv I1 J1 mo S r → (more = 1 → s0 < sm (I1 (mo + 15)) (I1 mo 16).toNat) → (more = 0 → ∀ g, 0 ≤ g → g < I1 mo 16 → ¬ cyS S r (I1 (mo + 9) g) → I1 (mo + 15) g = 0 → ¬ ∀ d, rfC S r (I1 (mo + 9) g) d → cyS S r d ∨ Kn I1 mo d) → G X 48 [some (va_rf (some mo)), some (VI r), some (VI more), o3] [] T I1 J1 O 0 0) →
      G X 56 [some (va_rf (some mo)), some (VI r), some (VI more), some (VI f)] [] T I1 J1 O 0 0 := by
    intro d
    induction d using Nat.strongRecOn with
    | ind d ih =>
    intro f more s0 I1 J1 hd f0 f1 hm hF hJ hW hs0 hs1 hs2 kk
    have hA := hW.1
    have hn := hA.2.1.n hf
    have hn0 := hA.2.1.1
    have skip : f < I1 mo 16 → (more = 0 → ¬ cyS S r (I1 (mo + 9) f) → I1 (mo + 15) f = 0 → ¬ ∀ d, rfC S r (I1 (mo + 9) f) d → cyS S r d ∨ Kn I1 mo d) → G X 56 [some (va_rf (some mo)), some (VI r), some (VI more), some (VI (f + 1))] [] T I1 J1 O 0 0 := fun hlt z => ih _ (by omega) _ _ _ _ _ rfl (by omega) (by omega) hm hF hJ hW hs0 hs1 (fun z0 g g0 g1 => by
      by_cases e : g = f
      · subst e; exact z z0
      · exact hs2 z0 g g0 (by omega)) kk
    refine G_iload3 x eX11_works_56 ?_
    refine G_aload0 x eX11_works_57 ?_
    refine G_geti x eX11_works_58 fX11_211 rfl rfl hM.m (fun h58 => ?_)
    refine G_icmp_ge x eX11_works_61 (by first | omega | exact hr _ _ | exact hr0 _ _ | exact hrS _) (by first | omega | exact hr _ _ | exact hr0 _ _ | exact hrS _) (fun c61 => ?_) (fun c61 => ?_)
    · refine G_rg (fun hr => ?_)
      refine G_goto x eX11_works_127 ?_
      exact kk _ _ _ _ hm hF hJ hW hs1 (fun z g g0 g1 => hs2 z g g0 (by omega))
    · have hcy := hA.2.2.2.2 f f0 (by omega)
      have hkb := hW.2.1 f f0 (by omega)
      have q := hA.2.1.2.2.2.1 f f0 (by omega)
      have hid := hf.2.2 _ q.2.2.1
      have hid2 := q.2.2.2.1
      have skip := skip (by omega)
      refine G_aload0 x eX11_works_64 ?_
      refine G_getq x eX11_works_65 fX11_51 rfl rfl hM.m hM.o_cyclic ?_
      refine G_iload3 x eX11_works_68 ?_
      refine G_zald x eX11_works_69 rfl hM.t_cyclic (by omega) (by omega) (by omega) (fun h69 => ?_)
      rw [hcy]
      refine G_if_ne x eX11_works_70 (by have := b01_b (p := cyS S r (I1 (mo + 9) f)); omega) (fun c70 => ?_) (fun c70 => ?_)
      · have hc : cyS S r (I1 (mo + 9) f) := Classical.byContradiction fun z => c70 (b01_f z)
        refine G_rg (fun hr => ?_)
        refine G_iinc3 x eX11_works_121 ?_
        refine G_goto x eX11_works_124 ?_
        exact skip (fun _ z => absurd hc z)
      · have hc : ¬ cyS S r (I1 (mo + 9) f) := fun z => by rw [b01_t z] at c70; omega
        refine G_aload0 x eX11_works_73 ?_
        refine G_getq x eX11_works_74 fX11_54 rfl rfl hM.m hM.o_known ?_
        refine G_iload3 x eX11_works_77 ?_
        refine G_zald x eX11_works_78 rfl hM.t_known (by omega) (by omega) (by omega) (fun h78 => ?_)
        refine G_if_ne x eX11_works_79 (by first | omega | exact hr _ _ | exact hr0 _ _ | exact hrS _) (fun c79 => ?_) (fun c79 => ?_)
        · refine G_rg (fun hr => ?_)
          refine G_iinc3 x eX11_works_121 ?_
          refine G_goto x eX11_works_124 ?_
          exact skip (fun _ _ z => by omega)
        · have hrd := hA.rdy (w := 1) hW.2.1 f0 (by omega)
          refine G_aload0 x eX11_works_82 ?_
          refine G_iload3 x eX11_works_83 ?_
          refine G_push x eX11_works_84 ?_
          refine G_cV x eX11_works_85 kX11_226 im_yX11_isReady se_yX11_isReady rm hM.m (ct_X11_isReady hM (by omega) (by omega) (by omega) (by omega) (fun g g0 g1 => ⟨(hA.2.1.2.2.2.1 g g0 g1).1, (hA.2.1.2.2.2.1 g g0 g1).2.1⟩) (Or.inr rfl)) rfl ?_
          rw [b01_e hrd]
          refine G_if_eq x eX11_works_88 (by have := b01_b (p := ∀ d, rfC S r (I1 (mo + 9) f) d → ((1 : Int) = 1 ∧ cyS S r d) ∨ Kn I1 mo d); omega) (fun c88 => ?_) (fun c88 => ?_)
          · refine G_rg (fun hr => ?_)
            refine G_iinc3 x eX11_works_121 ?_
            refine G_goto x eX11_works_124 ?_
            exact skip (fun _ _ _ z => by rw [b01_t (fun d hd => (z d hd).imp (fun y => ⟨rfl, y⟩) (fun y => y))] at c88; omega)
          · have hry : ∀ d, rfC S r (I1 (mo + 9) f) d → cyS S r d ∨ Kn I1 mo d := fun d hd => ((Classical.byContradiction fun z => c88 (b01_f z) : ∀ d, rfC S r (I1 (mo + 9) f) d → ((1 : Int) = 1 ∧ cyS S r d) ∨ Kn I1 mo d) d hd).imp And.right (fun z => z)
            refine G_aload0 x eX11_works_91 ?_
            refine G_aload0 x eX11_works_92 ?_
            refine G_getq x eX11_works_93 fX11_34 rfl rfl hM.m hM.o_formulas ?_
            refine G_iload3 x eX11_works_96 ?_
            refine G_iald x eX11_works_97 rfl hM.t_formulas (by omega) (by omega) (by omega) (fun h97 => ?_)
            refine G_aload0 x eX11_works_98 ?_
            refine G_iload1 x eX11_works_99 ?_
            refine G_aload0 x eX11_works_100 ?_
            refine G_getq x eX11_works_101 fX11_34 rfl rfl hM.m hM.o_formulas ?_
            refine G_iload3 x eX11_works_104 ?_
            refine G_iald x eX11_works_105 rfl hM.t_formulas (by omega) (by omega) (by omega) (fun h105 => ?_)
            refine G_cV x eX11_works_106 kX11_214 im_yX11_opAt se_yX11_opAt rm hM.m (ct_X11_opAt hM hA.1 h0 h1 q.2.2.1) rfl ?_
            refine G_cVg x eX11_works_109 kX11_230 im_yX11_calculates se_yX11_calculates rm hM.m (ct_X11_calculates (r := r) hM hA.1 q.1 q.2.1 (by omega) (by omega) (hf.1 _ q.2.2)) rfl (fun v109 T109 I109 J109 O109 p109 => ?_)
            refine G_rg (fun hr => ?_)
            have hst := wIv.step hf hW f0 (by omega) hc (by omega) hry p109
            obtain ⟨q1, q2, q3, q4, q5, q6, q7⟩ := p109
            subst q1
            subst q2
            subst q3
            have e16 := hst.2.2
            have nx : G X 56 [some (va_rf (some mo)), some (VI r), some (VI 1), some (VI (f + 1))] [] T109 (uI I109 (mo + 15) f 1) J109 O109 0 0 := ih _ (by omega) _ _ s0 _ _ rfl (by omega) (by omega) (Or.inr rfl) (fun b j z => by rw [uI_a (by omega), q4 b j (by omega) (by omega)]; exact hF b j z) (fun b j z1 z2 => by rw [q5 b j (by omega) (by omega)]; exact hJ b j z1 z2) hst.1 (by rw [e16, hst.2.1]; omega) (by rw [e16, hst.2.1]; omega) (fun z => by omega) kk
            refine G_rg (fun hr => ?_)
            refine G_aload0 x eX11_works_112 ?_
            refine G_getq x eX11_works_113 fX11_54 rfl rfl hM.m hM.o_known ?_
            refine G_iload3 x eX11_works_116 ?_
            refine G_push x eX11_works_117 ?_
            refine G_zast x eX11_works_118 rfl hM.t_known (by omega) (by omega) (by omega) (by first | omega | exact hr _ _ | exact hr0 _ _ | exact hrS _) ?_
            refine G_rg (fun hr => ?_)
            refine G_push x eX11_works_119 ?_
            refine G_istore2 x eX11_works_120 ?_
            refine G_iinc3 x eX11_works_121 ?_
            refine G_goto x eX11_works_124 ?_
            exact nx
  have loop : ∀ (d : Nat) (more : Int) (I1 : gI) (J1 : gJ) (o3 : Option Value), d = (I1 mo 16 - sm (I1 (mo + 15)) (I1 mo 16).toNat).toNat → (more = 0 ∨ more = 1) → gFr I I1 mo → gFj J J1 mo → wIv I1 J1 mo S r → (more = 0 → ∀ g, 0 ≤ g → g < I1 mo 16 → ¬ cyS S r (I1 (mo + 9) g) → I1 (mo + 15) g = 0 → ¬ ∀ d, rfC S r (I1 (mo + 9) g) d → cyS S r d ∨ Kn I1 mo d) → G X 48 [some (va_rf (some mo)), some (VI r), some (VI more), o3] [] T I1 J1 O 0 0 := by
    intro d
    induction d using Nat.strongRecOn with
    | ind d ih =>
    intro more I1 J1 o3 hd hm hF hJ hW hs2
    have hn0 := hW.1.2.1.1
    refine G_rg (fun hr => ?_)
    refine G_iload2 x eX11_works_48 ?_
    refine G_if_eq x eX11_works_49 (by first | omega | exact hr _ _ | exact hr0 _ _ | exact hrS _) (fun c49 => ?_) (fun c49 => ?_)
    · refine G_return x en eX11_works_130 (by omega) (by omega) ?_
      exact hfin _ _ hF hJ hW (hs2 (by omega))
    · refine G_push x eX11_works_52 ?_
      refine G_istore2 x eX11_works_53 ?_
      refine G_push x eX11_works_54 ?_
      refine G_istore3 x eX11_works_55 ?_
      exact pass _ _ _ (sm (I1 (mo + 15)) (I1 mo 16).toNat) _ _ rfl (by omega) (by omega) (Or.inl rfl) hF hJ hW (by omega) (fun z => by omega) (fun _ g g0 g1 => by omega) (fun m2 I2 J2 o3 y1 y2 y3 y4 y5 y6 => by { have hN := (En.uniq2 hW.1.2.1 y4.1.2.1).1; have hb2 := (sm_b (m := I2 (mo + 15)) (I2 mo 16).toNat (fun i a b => y4.2.1 i a (by omega))).2; rcases y1 with y1 | y1; { subst y1; exact hstop I2 J2 o3 y2 y3 y4 (y6 rfl) }; { have y5 := y5 y1; exact ih _ (by omega) _ _ _ _ rfl (Or.inr y1) y2 y3 y4 y6 } })
  refine G_aload0 x eX11_works_0 ?_
  refine G_iload1 x eX11_works_1 ?_
  refine G_cVg x eX11_works_2 kX11_223 im_yX11_gathers se_yX11_gathers rm hM.m hga rfl (fun v2 T2 I2 J2 O2 p2 => ?_)
  refine G_rg (fun hr => ?_)
  have hA := gaP.A p2
  obtain ⟨q1, q2, q3, q4, q5, q6, q7, q8⟩ := p2
  subst q1
  subst q2
  subst q3
  rw [hS] at *
  have hn := hA.2.1.n hf
  have hn0 := hA.2.1.1
  have e1 : ∀ (d : Nat) (k : Int) (I1 : gI) (o3 : Option Value), d = (I2 mo 16 - k).toNat → 0 ≤ k → k ≤ I2 mo 16 → (∀ b j, b ≠ mo + 12 → I1 b j = I2 b j) → (∀ c, inC S r c → ((∃ f, 0 ≤ f ∧ f < k ∧ I2 (mo + 9) f = c) → I1 (mo + 12) c = b01 (cyS S r c)) ∧ ((¬ ∃ f, 0 ≤ f ∧ f < k ∧ I2 (mo + 9) f = c) → I1 (mo + 12) c = 0)) → G X 7 [some (va_rf (some mo)), some (VI r), some (VI k), o3] [] T2 I1 J2 O2 0 0 := by
    intro d
    induction d using Nat.strongRecOn with
    | ind d ih =>
    intro k I1 o3 hd k0 k1 hI hE
    have e16 : I1 mo 16 = I2 mo 16 := hI _ _ (by omega)
    have hA1 : gvA I1 mo S r := hA.c (fun b j z => hI b j (by omega))
    refine G_iload2 x eX11_works_7 ?_
    refine G_aload0 x eX11_works_8 ?_
    refine G_geti x eX11_works_9 fX11_211 rfl rfl hM.m (fun h9 => ?_)
    rw [e16]
    refine G_icmp_ge x eX11_works_12 (by first | omega | exact hr _ _ | exact hr0 _ _ | exact hrS _) (by first | omega | exact hr _ _ | exact hr0 _ _ | exact hrS _) (fun c12 => ?_) (fun c12 => ?_)
    · have hW : wIv I1 J2 mo S r := by
        have hk0 : ∀ c, ¬ Kn I1 mo c := fun c ⟨g, g0, g1, g2, g3⟩ => by
          rw [hI _ _ (by omega), (q8 g g0 (by omega)).2] at g3
          omega
        refine ⟨hA1, fun f f0 f1 => Or.inl (by rw [hI _ _ (by omega)]; exact (q8 f f0 (by omega)).2), fun c hc => ⟨fun hnf => ?_, fun hy => ?_⟩, fun c hc => absurd hc (hk0 c)⟩
        · refine ⟨(q6.2.2 c hc hc.b.2).2.2, (hE c hc).2 (fun ⟨f, f0, f1, f2⟩ => hnf ?_)⟩
          rw [← f2]
          exact (hA.2.1.2.2.2.1 f f0 (by omega)).2.2
        · obtain ⟨i, i0, i1, i2⟩ := hA.2.1.2.2.2.2 c hc.1 hc.b.2 hy
          have a := (hE c hc).1 ⟨i, i0, by omega, i2⟩
          have b := (q6.2.2 c hc hc.b.2).2.2
          rw [valS_f hy] at b
          exact ⟨fun z => ⟨b, by rw [a, b01_t z]⟩, fun z => ⟨fun y => absurd y (hk0 c), fun _ => ⟨b, by rw [a, b01_f z]⟩⟩⟩
      refine G_rg (fun hr => ?_)
      refine G_push x eX11_works_46 ?_
      refine G_istore2 x eX11_works_47 ?_
      exact loop _ _ _ _ _ rfl (Or.inr rfl) (fun b j z => by rw [hI b j (by omega)]; exact q4 b j z) q5 hW (fun z => by omega)
    · have q := hA.2.1.2.2.2.1 k k0 (by omega)
      have hc14 : I1 (mo + 14) k = b01 (cyS S r (I2 (mo + 9) k)) := by rw [hI _ _ (by omega)]; exact hA.2.2.2.2 k k0 (by omega)
      have e9 : I1 (mo + 9) k = I2 (mo + 9) k := hI _ _ (by omega)
      have nx : ∀ z, z = b01 (cyS S r (I2 (mo + 9) k)) → G X 7 [some (va_rf (some mo)), some (VI r), some (VI (k + 1)), o3] [] T2 (uI I1 (mo + 12) (I2 (mo + 9) k) z) J2 O2 0 0 := fun z hz => by
        refine ih _ (by omega) _ _ _ rfl (by omega) (by omega) (fun b j hb => by rw [uI_a hb]; exact hI b j hb) (fun c hc => ?_)
        by_cases e : c = I2 (mo + 9) k
        · subst e
          rw [uI_s]
          exact ⟨fun _ => hz, fun y => absurd ⟨k, k0, by omega, rfl⟩ y⟩
        · rw [uI_k e]
          refine ⟨fun ⟨f, f0, f1, f2⟩ => (hE c hc).1 ⟨f, f0, ?_, f2⟩, fun y => (hE c hc).2 (fun ⟨f, f0, f1, f2⟩ => y ⟨f, f0, by omega, f2⟩)⟩
          by_cases ef : f = k
          · subst ef; exact absurd f2.symm e
          · omega
      refine G_aload0 x eX11_works_15 ?_
      refine G_getq x eX11_works_16 fX11_44 rfl rfl hM.m hM.o_errors ?_
      refine G_aload0 x eX11_works_19 ?_
      refine G_getq x eX11_works_20 fX11_34 rfl rfl hM.m hM.o_formulas ?_
      refine G_iload2 x eX11_works_23 ?_
      refine G_iald x eX11_works_24 rfl hM.t_formulas (by omega) (by omega) (by omega) (fun h24 => ?_)
      rw [e9]
      refine G_aload0 x eX11_works_25 ?_
      refine G_getq x eX11_works_26 fX11_51 rfl rfl hM.m hM.o_cyclic ?_
      refine G_iload2 x eX11_works_29 ?_
      refine G_zald x eX11_works_30 rfl hM.t_cyclic (by omega) (by omega) (by omega) (fun h30 => ?_)
      rw [hc14]
      refine G_if_eq x eX11_works_31 (by have := b01_b (p := cyS S r (I2 (mo + 9) k)); omega) (fun c31 => ?_) (fun c31 => ?_)
      · refine G_rg (fun hr => ?_)
        refine G_push x eX11_works_38 ?_
        refine G_iast x eX11_works_39 rfl hM.t_errors (by omega) (by omega) (by omega) (by first | omega | exact hr _ _ | exact hr0 _ _ | exact hrS _) ?_
        refine G_rg (fun hr => ?_)
        refine G_iinc2 x eX11_works_40 ?_
        refine G_goto x eX11_works_43 ?_
        exact nx _ c31.symm
      · refine G_rg (fun hr => ?_)
        refine G_push x eX11_works_34 ?_
        refine G_goto x eX11_works_35 ?_
        refine G_iast x eX11_works_39 rfl hM.t_errors (by omega) (by omega) (by omega) (by first | omega | exact hr _ _ | exact hr0 _ _ | exact hrS _) ?_
        refine G_rg (fun hr => ?_)
        refine G_iinc2 x eX11_works_40 ?_
        refine G_goto x eX11_works_43 ?_
        exact nx _ (by have := b01_b (p := cyS S r (I2 (mo + 9) k)); omega)
  refine G_rg (fun hr => ?_)
  refine G_push x eX11_works_5 ?_
  refine G_istore2 x eX11_works_6 ?_
  exact e1 _ _ _ _ rfl (by omega) (by omega) (fun _ _ _ => rfl) (fun c hc => ⟨fun ⟨f, f0, f1, f2⟩ => by omega, fun _ => (q6.2.2 c hc hc.b.2).2.1⟩)
