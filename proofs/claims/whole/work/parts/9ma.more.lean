/-! more of the model -/
theorem dgT_c9 {v c : Int} (h : c ∈ dgT v) : 0 ≤ c ∧ c < 128 := by
  unfold dgT at h
  simp only [List.mem_append] at h
  rcases h with h | h | h | h
  · split at h
    · have := List.mem_singleton.mp h; omega
    · cases h
  · split at h
    · have := List.mem_singleton.mp h; omega
    · cases h
  · split at h
    · have := List.mem_singleton.mp h; omega
    · cases h
  · have := List.mem_singleton.mp h; omega
theorem cnT_c9 {S : Int → Int} {r f c : Int} (h : c ∈ cnT S r f) : 0 ≤ c ∧ c < 128 := by
  unfold cnT at h
  by_cases e : snS S r (10000 + f) = -1 ∨ 8 < snS S r (10000 + f) / 12
  · rw [if_pos e] at h
    have := List.mem_singleton.mp h; omega
  · rw [if_neg e] at h
    have hb := (snS_in (fun z => e (Or.inl z))).b
    generalize snS S r (10000 + f) = z at *
    rcases List.mem_cons.mp h with h | h
    · omega
    · have := List.mem_singleton.mp h; omega
theorem faT_c9 {S : Int → Int} {r k f s c : Int} (h : c ∈ faT S r k f s) : 0 ≤ c ∧ c < 128 := by
  unfold faT at h
  by_cases e : k = 0
  · rw [if_pos e] at h; exact dgT_c9 h
  · rw [if_neg e] at h
    by_cases e2 : k = 1
    · rw [if_pos e2] at h; exact cnT_c9 h
    · rw [if_neg e2] at h
      rcases List.mem_cons.mp h with h | h
      · omega
      · rcases List.mem_cons.mp h with h | h
        · omega
        · rcases List.mem_append.mp h with h | h
          · exact cnT_c9 h
          · rcases List.mem_cons.mp h with h | h
            · omega
            · rcases List.mem_append.mp h with h | h
              · exact cnT_c9 h
              · have := List.mem_singleton.mp h; omega
theorem wtT_c9 {S : Int → Int} {r c : Int} : ∀ l : List (Int × Int × Int × Int), (∀ y ∈ l, faOk y) → c ∈ wtT S r l → 0 ≤ c ∧ c < 128
  | [], _, h => by cases h
  | [y], _, h => faT_c9 h
  | y :: z :: l, hk, h => by
    have h : c ∈ faT S r y.2.1 y.2.2.1 y.2.2.2 ++ z.1 :: wtT S r (z :: l) := h
    rcases List.mem_append.mp h with h | h
    · exact faT_c9 h
    · rcases List.mem_cons.mp h with h | h
      · have := (hk z (List.mem_cons_of_mem _ List.mem_cons_self)).1
        unfold isOp at this
        omega
      · exact wtT_c9 (z :: l) (fun q hq => hk q (List.mem_cons_of_mem _ hq)) h
theorem txA_c9 {X : Int → Int} {m i : Int} {l : List Int} (h : ∀ c ∈ l, 0 ≤ c ∧ c < 128) (h0 : m ≤ i) (h1 : i < m + l.length) : 0 ≤ txA X m l i ∧ txA X m l i < 128 := by
  induction l generalizing X m with
  | nil =>
    have : (([] : List Int).length : Int) = 0 := rfl
    omega
  | cons v l ih =>
    show 0 ≤ txA (sU X m v) (m + 1) l i ∧ txA (sU X m v) (m + 1) l i < 128
    rw [List.length_cons] at h1
    by_cases e : i = m
    · rw [txA_hi (by omega), e, sU_s]
      exact h v List.mem_cons_self
    · exact ih (fun c hc => h c (List.mem_cons_of_mem _ hc)) (by omega) (by omega)
theorem txW_w9 {S X : Int → Int} {r id : Int} {fl : List (Int × Int × Int × Int)} (h : fmlAt S id fl) : txW (txA X 0 (wtT S r fl)) ((wtT S r fl).length : Nat) := by
  obtain ⟨-, -, -, h2, h3⟩ := h
  have := wt_l9 (S := S) (r := r) fl
  exact ⟨⟨by omega, by omega⟩, fun i i0 i1 => txA_c9 (fun c hc => wtT_c9 fl h2 hc) i0 (by omega)⟩
theorem b01_b9 {p : Prop} : in32 (b01 p) := by
  rcases b01_b (p := p) with e | e <;> rw [e] <;> exact ⟨by decide, by decide⟩
theorem Inv.ms9 {S : Int → Int} {r f : Int} (h : Inv S) (r0 : 0 ≤ r) (r1 : r ≤ 2) (f0 : 0 ≤ f) (f1 : f ≤ 2) (hn : f ≠ r) : in32 (S f - S (3843 + 270 * r + (1 + f))) := by
  have := h.1 r f r0 r1 f0 f1
  rw [cIx_n hn] at this
  exact ⟨by omega, by omega⟩
set_option maxHeartbeats 8000000 in
set_option maxRecDepth 20000 in
theorem ct_X11_mixReplicaM {T : gT} {I : gI} {J : gJ} {O : gO} {mo : Nat} {r : Int} (hM : MoAt T O mo) (h0 : 0 ≤ r) (h1 : r ≤ 2) (hf : fmOk (I (mo + 1)) r) (hms : ∀ f, 0 ≤ f → f ≤ 2 → f ≠ r → in32 (I (mo + 1) f - I (mo + 1) (3843 + 270 * r + (1 + f)))) : Ct yX11_mixReplica cX11_mixReplica 6 none [va_rf (some mo), VI r] 6 140 0 0 T I J O (mrP T I J O mo r) := by
  refine Ct.of (by decide) [some (va_rf (some mo)), some (VI r), none, none, none, none] (gEn1 (List.forall_mem_cons.mpr ⟨cat_VR _, List.forall_mem_cons.mpr ⟨cat_VI _, fun _ h => nomatch h⟩⟩) rfl (Nat.le_of_ble_eq_true rfl) rfl) ?_
  intro X x en rm ini hr hz
  have hr0 := hr
  have hms0 := hms
  generalize hS : I (mo + 1) = S at *
  have hrS : ∀ (j : Int), in32 (S j) := fun j => by rw [← hS]; exact hr _ _
  have b1 := rwB S r 0 (-1)
  have b2 := rwB S r 1 (-1)
  -- the order
  have g176 : ∀ (d : Nat) (k : Nat) (I1 : gI) (J1 : gJ) (h : Int64) (o4 o5 : Option Value), d = ((orS S r).2 - k).toNat → (k : Int) ≤ (orS S r).2 → (0 ≤ (orS S r).2 ∧ (orS S r).2 ≤ 120) → (∀ k, 0 ≤ k → k < (orS S r).2 → I1 (mo + 18) k = told9 ((orS S r).1 k)) → gFq I I1 mo → gJq J J1 mo → rpM S r (J mo 30) = orM S r h (orS S r).2.toNat → J1 mo 30 = orM S r h k → G X 176 [some (va_rf (some mo)), some (VI r), some (VI (orS S r).2), some (VI (k : Int)), o4, o5] [] T I1 J1 O 0 0 := by
    intro d
    induction d using Nat.strongRecOn with
    | ind d ih =>
    intro k I1 J1 h o4 o5 hd k1 hnb ho hF hJ hR hh
    generalize hgn : (orS S r).2 = n at *
    refine G_iload3 x eX11_mixReplica_176 ?_
    refine G_iload2 x eX11_mixReplica_177 ?_
    refine G_icmp_ge x eX11_mixReplica_178 (by first | omega | exact hr _ _ | exact hr0 _ _ | exact hrS _) (by first | omega | exact hr _ _ | exact hr0 _ _ | exact hrS _) (fun c178 => ?_) (fun c178 => ?_)
    · refine G_rg (fun hr => ?_)
      refine G_return x en eX11_mixReplica_198 (by omega) (by omega) ?_
      refine ⟨rfl, rfl, rfl, hF, hJ, ?_⟩; rw [hS, hR, hh, show n.toNat = k by omega]
    · have ho1 := ho k (by omega) (by omega)
      refine G_aload0 x eX11_mixReplica_181 ?_
      refine G_aload0 x eX11_mixReplica_182 ?_
      refine G_getq x eX11_mixReplica_183 fX11_63 rfl rfl hM.m hM.o_ordered ?_
      refine G_iload3 x eX11_mixReplica_186 ?_
      refine G_iald x eX11_mixReplica_187 rfl hM.t_ordered (by omega) (by omega) (by omega) (fun h187 => ?_)
      rw [ho1] at h187 ⊢
      refine G_i2l x eX11_mixReplica_188 h187 ?_
      refine G_cVv x eX11_mixReplica_189 kX11_298 im_yX11_mix se_yX11_mix rm hM.m (ct_X11_mix hM) rfl ?_
      refine G_rg (fun hr => ?_)
      refine G_rg (fun hr => ?_)
      refine G_iinc3 x eX11_mixReplica_192 ?_
      refine G_goto x eX11_mixReplica_195 ?_
      exact ih _ (by omega) (k + 1) _ _ h _ _ rfl (by omega) hnb ho hF (fun b j q => by rw [uJ_a (by omega)]; exact hJ b j q) hR (by rw [uJ_s, hh]; rfl)
  -- the end behind the cells
  have g160 : ∀ (I1 : gI) (J1 : gJ) (o2 o3 o4 o5 : Option Value), gvA I1 mo S r → gFq I I1 mo → gJq J J1 mo → rpM S r (J mo 30) = orM S r (mxI (J1 mo 30) (ncS S r)) (orS S r).2.toNat → G X 160 [some (va_rf (some mo)), some (VI r), o2, o3, o4, o5] [] T I1 J1 O 0 0 := by
    intro I1 J1 o2 o3 o4 o5 hA hF hJ hR
    have hn := hA.2.1.n hf
    have e2 := sm_b (m := fun f => b01 (cyS S r (fmF S r f))) (fmN S r).toNat (fun _ _ _ => b01_b)
    have e4 := (fmE S r).n hf
    have e5 := (fmE S r).1
    have e6 : in32 (ncS S r) := by unfold ncS; omega
    refine G_aload0 x eX11_mixReplica_160 ?_
    refine G_aload0 x eX11_mixReplica_161 ?_
    refine G_cV x eX11_mixReplica_162 kX11_278 im_yX11_cycleMany se_yX11_cycleMany rm hM.m (ct_X11_cycleMany hM hA hn) rfl ?_
    refine G_i2l x eX11_mixReplica_165 (by first | omega | exact hr _ _ | exact hr0 _ _ | exact hrS _) ?_
    refine G_cVv x eX11_mixReplica_166 kX11_298 im_yX11_mix se_yX11_mix rm hM.m (ct_X11_mix hM) rfl ?_
    refine G_rg (fun hr => ?_)
    refine G_aload0 x eX11_mixReplica_169 ?_
    refine G_cVg x eX11_mixReplica_170 kX11_281 im_yX11_orders se_yX11_orders rm hM.m (ct_X11_orders hM hA hn) rfl (fun v170 T170 I170 J170 O170 p170 => ?_)
    refine G_rg (fun hr => ?_)
    obtain ⟨rfl, rfl, rfl, o1, rfl, o2, o3⟩ := p170
    refine G_rg (fun hr => ?_)
    refine G_istore2 x eX11_mixReplica_173 ?_
    refine G_push x eX11_mixReplica_174 ?_
    refine G_istore3 x eX11_mixReplica_175 ?_
    exact g176 _ 0 _ _ _ _ _ rfl (by omega) o2 o3 (fun b j q => by rw [o1 b j (by omega) (by omega)]; exact hF b j q) (fun b j q => by rw [uJ_a (by omega)]; exact hJ b j q) hR (by rw [uJ_s]; rfl)
  -- the cells
  have g70 : ∀ (I1 : gI) (Jw : gJ) (o2 o3 o4 o5 : Option Value), gvA I1 mo S r → (∀ c, inC S r c → Jw (mo + 11) c = (vlP S r).1 c ∧ I1 (mo + 12) c = (vlP S r).2 c) → gFq I I1 mo → gJq J Jw mo → rpM S r (J mo 30) = orM S r (mxI (gdM S r (Jw mo 30) (rwN S r 0 (-1)).toNat) (ncS S r)) (orS S r).2.toNat → G X 68 [some (va_rf (some mo)), some (VI r), o2, o3, o4, o5] [] T I1 Jw O 0 0 := by
    intro I1 Jw o2 o3 o4 o5 hA hv hF hJ hR
    have e9 := hA.1.2.1
    have e10 := hA.1.2.2.1
    have hJu : ∀ w, gJq J (uJ Jw mo 30 w) mo := fun w b j q => by rw [uJ_a (by omega)]; exact hJ b j q
    have what : ∀ (d : Nat) (k : Nat) (row col : Int) (h w : Int64), d = 4 - k → k ≤ 4 → (inC S r (12 * row + col) ∧ 0 ≤ row ∧ row < 12 ∧ 0 ≤ col ∧ col < 12) → w = tlM S r (12 * row + col) h k → (∀ w o5, w = ceM S r (12 * row + col) h → G X 80 [some (va_rf (some mo)), some (VI r), some (VI row), some (VI (col + 1)), some (VI (12 * row + col)), o5] [] T I1 (uJ Jw mo 30 w) O 0 0) → G X 99 [some (va_rf (some mo)), some (VI r), some (VI row), some (VI col), some (VI (12 * row + col)), some (VI (k : Int))] [] T I1 (uJ Jw mo 30 w) O 0 0 := by
      intro d
      induction d using Nat.strongRecOn with
      | ind d ih =>
      intro k row col h w hd k1 hc hw kk
      have hcb := hc.1.b
      refine G_iload5 x eX11_mixReplica_99 ?_
      refine G_push x eX11_mixReplica_101 ?_
      refine G_icmp_ge x eX11_mixReplica_102 (by first | omega | exact hr _ _ | exact hr0 _ _ | exact hrS _) (by first | omega | exact hr _ _ | exact hr0 _ _ | exact hrS _) (fun c102 => ?_) (fun c102 => ?_)
      · have hk4 : k = 4 := by omega
        subst hk4
        refine G_aload0 x eX11_mixReplica_125 ?_
        refine G_aload0 x eX11_mixReplica_126 ?_
        refine G_getq x eX11_mixReplica_127 fX11_40 rfl rfl hM.m hM.o_values ?_
        refine G_iload4 x eX11_mixReplica_130 ?_
        refine G_lald x eX11_mixReplica_132 rfl hM.t_values (by omega) (by omega) (by omega) ?_
        rw [uJ_a (by omega), (hv _ hc.1).1]
        refine G_cVv x eX11_mixReplica_133 kX11_298 im_yX11_mix se_yX11_mix rm hM.m (ct_X11_mix hM) rfl ?_
        refine G_rg (fun hr => ?_)
        refine G_aload0 x eX11_mixReplica_136 ?_
        refine G_aload0 x eX11_mixReplica_137 ?_
        refine G_getq x eX11_mixReplica_138 fX11_44 rfl rfl hM.m hM.o_errors ?_
        refine G_iload4 x eX11_mixReplica_141 ?_
        refine G_iald x eX11_mixReplica_143 rfl hM.t_errors (by omega) (by omega) (by omega) (fun h143 => ?_)
        rw [(hv _ hc.1).2] at h143 ⊢
        refine G_i2l x eX11_mixReplica_144 h143 ?_
        refine G_cVv x eX11_mixReplica_145 kX11_298 im_yX11_mix se_yX11_mix rm hM.m (ct_X11_mix hM) rfl ?_
        refine G_rg (fun hr => ?_)
        rw [uJ_uJ, uJ_uJ, uJ_s, uJ_s]
        refine G_rg (fun hr => ?_)
        refine G_iinc3 x eX11_mixReplica_148 ?_
        refine G_goto x eX11_mixReplica_151 ?_
        exact kk _ _ (by rw [hw]; rfl)
      · refine G_aload0 x eX11_mixReplica_105 ?_
        refine G_aload0 x eX11_mixReplica_106 ?_
        refine G_iload1 x eX11_mixReplica_107 ?_
        refine G_iload4 x eX11_mixReplica_108 ?_
        refine G_iload5 x eX11_mixReplica_110 ?_
        refine G_cV x eX11_mixReplica_112 kX11_263 im_yX11_told se_yX11_told rm hM.m (ct_X11_told hM hA hf h0 h1 hc.1 (by omega) (by omega)) rfl ?_
        refine G_i2l x eX11_mixReplica_115 (tlS_32 hrS hf hc.1) ?_
        refine G_cVv x eX11_mixReplica_116 kX11_298 im_yX11_mix se_yX11_mix rm hM.m (ct_X11_mix hM) rfl ?_
        refine G_rg (fun hr => ?_)
        rw [uJ_uJ, uJ_s]
        refine G_rg (fun hr => ?_)
        refine G_iinc5 x eX11_mixReplica_119 ?_
        refine G_goto x eX11_mixReplica_122 ?_
        exact ih _ (by omega) (k + 1) _ _ h _ rfl (by omega) hc (by rw [hw]; rfl) kk
    have inner : ∀ (d : Nat) (col : Nat) (row : Nat) (h w : Int64) (o4 o5 : Option Value), d = (rwN S r 1 (-1) - col).toNat → (row : Int) < rwN S r 0 (-1) → (col : Int) ≤ rwN S r 1 (-1) → w = rwM S r row h col → (∀ w o3 o4 o5, w = rwM S r row h (rwN S r 1 (-1)).toNat → G X 70 [some (va_rf (some mo)), some (VI r), some (VI ((row : Int) + 1)), o3, o4, o5] [] T I1 (uJ Jw mo 30 w) O 0 0) → G X 80 [some (va_rf (some mo)), some (VI r), some (VI (row : Int)), some (VI (col : Int)), o4, o5] [] T I1 (uJ Jw mo 30 w) O 0 0 := by
      intro d
      induction d using Nat.strongRecOn with
      | ind d ih =>
      intro col row h w o4 o5 hd r1 c1 hw kk
      refine G_iload3 x eX11_mixReplica_80 ?_
      refine G_aload0 x eX11_mixReplica_81 ?_
      refine G_geti x eX11_mixReplica_82 fX11_102 rfl rfl hM.m (fun h82 => ?_)
      rw [e10]
      refine G_icmp_ge x eX11_mixReplica_85 (by first | omega | exact hr _ _ | exact hr0 _ _ | exact hrS _) (by first | omega | exact hr _ _ | exact hr0 _ _ | exact hrS _) (fun c85 => ?_) (fun c85 => ?_)
      · refine G_rg (fun hr => ?_)
        refine G_iinc2 x eX11_mixReplica_154 ?_
        refine G_goto x eX11_mixReplica_157 ?_
        exact kk _ _ _ _ (by rw [hw, show (rwN S r 1 (-1)).toNat = col by omega])
      · refine G_rg (fun hr => ?_)
        refine G_push x eX11_mixReplica_88 ?_
        refine G_iload2 x eX11_mixReplica_90 ?_
        refine G_imul x eX11_mixReplica_91 ?_
        refine G_iload3 x eX11_mixReplica_92 ?_
        refine G_iadd x eX11_mixReplica_93 ?_
        refine G_istore4 x eX11_mixReplica_94 ?_
        refine G_push x eX11_mixReplica_96 ?_
        refine G_istore5 x eX11_mixReplica_97 ?_
        exact what _ 0 _ _ w _ rfl (by omega) ⟨⟨by omega, by omega, by omega⟩, by omega, by omega, by omega, by omega⟩ rfl (fun w2 o5 hw2 => ih _ (by omega) (col + 1) _ h _ _ _ rfl r1 (by omega) (by rw [hw2, hw]; rfl) kk)
    have outer : ∀ (d : Nat) (row : Nat) (w : Int64) (o3 o4 o5 : Option Value), d = (rwN S r 0 (-1) - row).toNat → (row : Int) ≤ rwN S r 0 (-1) → w = gdM S r (Jw mo 30) row → G X 70 [some (va_rf (some mo)), some (VI r), some (VI (row : Int)), o3, o4, o5] [] T I1 (uJ Jw mo 30 w) O 0 0 := by
      intro d
      induction d using Nat.strongRecOn with
      | ind d ih =>
      intro row w o3 o4 o5 hd r1 hw
      refine G_iload2 x eX11_mixReplica_70 ?_
      refine G_aload0 x eX11_mixReplica_71 ?_
      refine G_geti x eX11_mixReplica_72 fX11_99 rfl rfl hM.m (fun h72 => ?_)
      rw [e9]
      refine G_icmp_ge x eX11_mixReplica_75 (by first | omega | exact hr _ _ | exact hr0 _ _ | exact hrS _) (by first | omega | exact hr _ _ | exact hr0 _ _ | exact hrS _) (fun c75 => ?_) (fun c75 => ?_)
      · exact g160 _ _ _ _ _ _ hA hF (hJu _) (by rw [uJ_s, hw, hR, show (rwN S r 0 (-1)).toNat = row by omega])
      · refine G_rg (fun hr => ?_)
        refine G_push x eX11_mixReplica_78 ?_
        refine G_istore3 x eX11_mixReplica_79 ?_
        exact inner _ 0 _ w _ _ _ rfl (by omega) (by omega) rfl (fun w2 o3 o4 o5 hw2 => ih _ (by omega) (row + 1) _ _ _ _ rfl (by omega) (by rw [hw2, hw]; rfl))
    have eJ : uJ Jw mo 30 (Jw mo 30) = Jw := by
      funext b j
      unfold uJ
      split
      · next e => rw [e.1, e.2]
      · rfl
    have h9 := outer _ 0 _ o3 o4 o5 rfl (by omega) rfl
    rw [show gdM S r (Jw mo 30) 0 = Jw mo 30 from rfl, eJ] at h9
    refine G_rg (fun hr => ?_)
    refine G_push x eX11_mixReplica_68 ?_
    refine G_istore2 x eX11_mixReplica_69 ?_
    exact h9
  have g51 : ∀ (J1 : gJ) (o2 : Option Value), gJq J J1 mo → rpM S r (J mo 30) = orM S r (mxI (gdM S r (mlM S r 1 (mlM S r 0 (J1 mo 30))) (rwN S r 0 (-1)).toNat) (ncS S r)) (orS S r).2.toNat → G X 51 [some (va_rf (some mo)), some (VI r), o2, none, none, none] [] T I J1 O 0 0 := by
    intro J1 o2 hJ hR
    refine G_aload0 x eX11_mixReplica_51 ?_
    refine G_iload1 x eX11_mixReplica_52 ?_
    refine G_push x eX11_mixReplica_53 ?_
    refine G_cVg x eX11_mixReplica_54 kX11_302 im_yX11_mixLines se_yX11_mixLines rm hM.m (ct_X11_mixLines hM h0 h1 (by omega) (by omega)) rfl (fun v54 T54 I54 J54 O54 p54 => ?_)
    refine G_rg (fun hr => ?_)
    obtain ⟨rfl, rfl, rfl, m1, rfl⟩ := p54
    refine G_aload0 x eX11_mixReplica_57 ?_
    refine G_iload1 x eX11_mixReplica_58 ?_
    refine G_push x eX11_mixReplica_59 ?_
    refine G_cVg x eX11_mixReplica_60 kX11_302 im_yX11_mixLines se_yX11_mixLines rm hM.m (ct_X11_mixLines hM h0 h1 (by omega) (by omega)) rfl (fun v60 T60 I60 J60 O60 p60 => ?_)
    refine G_rg (fun hr => ?_)
    obtain ⟨rfl, rfl, rfl, m2, rfl⟩ := p60
    have e1 : I60 (mo + 1) = S := funext fun j => by rw [m2 _ _ (by omega), m1 _ _ (by omega), hS]
    have e1b : I54 (mo + 1) = S := funext fun j => by rw [m1 _ _ (by omega), hS]
    refine G_aload0 x eX11_mixReplica_63 ?_
    refine G_iload1 x eX11_mixReplica_64 ?_
    refine G_cVg x eX11_mixReplica_65 kX11_266 im_yX11_works se_yX11_works rm hM.m (ct_X11_works hM h0 h1 (by rw [e1]; exact hf)) rfl (fun v65 T65 I65 J65 O65 p65 => ?_)
    refine G_rg (fun hr => ?_)
    obtain ⟨q1, q2, q3, q4, q5, q6, q7⟩ := p65
    subst q1
    subst q2
    subst q3
    rw [e1] at q6 q7
    exact g70 _ _ _ _ _ _ q6 (vl_eq hf q7) (fun b j z => by rw [q4 b j (by omega), m2 b j (by omega), m1 b j (by omega)]) (fun b j z => by rw [q5 b j (by omega) (by omega), uJ_a (by omega), uJ_a (by omega)]; exact hJ b j z) (by rw [q5 _ _ (by omega) (by omega), uJ_s, uJ_s, e1b, hS]; exact hR)
  have loop : ∀ (d : Nat) (k : Nat) (J1 : gJ) (h : Int64), d = 3 - k → k ≤ 3 → gJq J J1 mo → J1 mo 30 = msM S r h k → rpM S r (J mo 30) = orM S r (mxI (gdM S r (mlM S r 1 (mlM S r 0 (msM S r h 3))) (rwN S r 0 (-1)).toNat) (ncS S r)) (orS S r).2.toNat → G X 24 [some (va_rf (some mo)), some (VI r), some (VI (k : Int)), none, none, none] [] T I J1 O 0 0 := by
    intro d
    induction d using Nat.strongRecOn with
    | ind d ih =>
    intro k J1 h hd k1 hJ hh hR
    have hm := fun z => hms k (by omega) z
    refine G_rg (fun hr => ?_)
    refine G_iload2 x eX11_mixReplica_24 ?_
    refine G_push x eX11_mixReplica_25 ?_
    refine G_icmp_ge x eX11_mixReplica_26 (by first | omega | exact hr _ _ | exact hr0 _ _ | exact hrS _) (by first | omega | exact hr _ _ | exact hr0 _ _ | exact hrS _) (fun c26 => ?_) (fun c26 => ?_)
    · exact g51 _ _ hJ (by rw [hh, show k = 3 by omega]; exact hR)
    · refine G_iload2 x eX11_mixReplica_29 ?_
      refine G_iload1 x eX11_mixReplica_30 ?_
      refine G_icmp_eq x eX11_mixReplica_31 (by first | omega | exact hr _ _ | exact hr0 _ _ | exact hrS _) (by first | omega | exact hr _ _ | exact hr0 _ _ | exact hrS _) (fun c31 => ?_) (fun c31 => ?_)
      · refine G_iinc2 x eX11_mixReplica_45 ?_
        refine G_goto x eX11_mixReplica_48 ?_
        first | exact ih _ (by omega) (k + 1) _ h rfl (by omega) hJ (by rw [hh, msM, if_pos c31]) hR | exact ih _ (by omega) (k + 1) _ h rfl (by omega) (fun b j q => by rw [uJ_a (by omega)]; exact hJ b j q) (by rw [uJ_s, hh, msM, if_neg c31]; rfl) hR
      · refine G_aload0 x eX11_mixReplica_34 ?_
        refine G_aload0 x eX11_mixReplica_35 ?_
        refine G_iload1 x eX11_mixReplica_36 ?_
        refine G_iload2 x eX11_mixReplica_37 ?_
        refine G_cV x eX11_mixReplica_38 kX11_284 im_yX11_missed se_yX11_missed rm hM.m (ct_X11_missed hM (by omega) (by omega) (by omega) (by omega)) rfl ?_
        rw [hS]
        refine G_i2l x eX11_mixReplica_41 (hm (by omega) c31) ?_
        refine G_cVv x eX11_mixReplica_42 kX11_298 im_yX11_mix se_yX11_mix rm hM.m (ct_X11_mix hM) rfl ?_
        refine G_rg (fun hr => ?_)
        refine G_iinc2 x eX11_mixReplica_45 ?_
        refine G_goto x eX11_mixReplica_48 ?_
        first | exact ih _ (by omega) (k + 1) _ h rfl (by omega) hJ (by rw [hh, msM, if_pos c31]) hR | exact ih _ (by omega) (k + 1) _ h rfl (by omega) (fun b j q => by rw [uJ_a (by omega)]; exact hJ b j q) (by rw [uJ_s, hh, msM, if_neg c31]; rfl) hR
  refine G_rg (fun hr => ?_)
  refine G_aload0 x eX11_mixReplica_0 ?_
  refine G_aload0 x eX11_mixReplica_1 ?_
  refine G_iload1 x eX11_mixReplica_2 ?_
  refine G_push x eX11_mixReplica_3 ?_
  refine G_cV x eX11_mixReplica_4 kX11_108 im_yX11_of se_yX11_of rm hM.m (ct_X11_of hM (by omega) (by omega)) rfl ?_
  rw [hS]
  refine G_i2l x eX11_mixReplica_7 (by first | omega | exact hr _ _ | exact hr0 _ _ | exact hrS _) ?_
  refine G_cVv x eX11_mixReplica_8 kX11_298 im_yX11_mix se_yX11_mix rm hM.m (ct_X11_mix hM) rfl ?_
  refine G_rg (fun hr => ?_)
  refine G_aload0 x eX11_mixReplica_11 ?_
  refine G_aload0 x eX11_mixReplica_12 ?_
  refine G_getq x eX11_mixReplica_13 fX11_7 rfl rfl hM.m hM.o_s ?_
  refine G_iload1 x eX11_mixReplica_16 ?_
  refine G_iald x eX11_mixReplica_17 rfl hM.t_s (by omega) (by omega) (by omega) (fun h17 => ?_)
  rw [hS]
  refine G_i2l x eX11_mixReplica_18 (by first | omega | exact hr _ _ | exact hr0 _ _ | exact hrS _) ?_
  refine G_cVv x eX11_mixReplica_19 kX11_298 im_yX11_mix se_yX11_mix rm hM.m (ct_X11_mix hM) rfl ?_
  refine G_rg (fun hr => ?_)
  refine G_push x eX11_mixReplica_22 ?_
  refine G_istore2 x eX11_mixReplica_23 ?_
  exact loop _ 0 _ (mxI (mxI (J mo 30) (S (3843 + 270 * r + 0))) (S r)) rfl (by omega) (fun b j q => by rw [uJ_a (by omega), uJ_a (by omega)]) (by rw [uJ_s, uJ_s]; rfl) rfl
set_option maxHeartbeats 8000000 in
set_option maxRecDepth 20000 in
theorem ct_X11_checksumM {T : gT} {I : gI} {J : gJ} {O : gO} {mo : Nat} (hM : MoAt T O mo) (hf : ∀ r, 0 ≤ r → r ≤ 2 → fmOk (I (mo + 1)) r) (hms : ∀ r f, 0 ≤ r → r ≤ 2 → 0 ≤ f → f ≤ 2 → f ≠ r → in32 (I (mo + 1) f - I (mo + 1) (3843 + 270 * r + (1 + f)))) : Ct yX11_checksum cX11_checksum 2 (some .long) [va_rf (some mo)] 7 165 0 0 T I J O (mSum T I J O mo (Value.long (csS (I (mo + 1)) (I mo 5) (I mo 3)))) := by
  refine Ct.of (by decide) [some (va_rf (some mo)), none] (gEn1 (List.forall_mem_cons.mpr ⟨cat_VR _, fun _ h => nomatch h⟩) rfl (Nat.le_of_ble_eq_true rfl) rfl) ?_
  intro X x en rm ini hr hz
  have hr0 := hr
  have loop : ∀ (d : Nat) (k : Nat) (I1 : gI) (J1 : gJ), d = 3 - k → k ≤ 3 → gFq (uI I mo 6 0) I1 mo → gJq J J1 mo → J1 mo 30 = csM (I (mo + 1)) k → G X 14 [some (va_rf (some mo)), some (VI (k : Int))] [] T I1 J1 O 0 0 := by
    intro d
    induction d using Nat.strongRecOn with
    | ind d ih =>
    intro k I1 J1 hd k1 hF hJ hh
    have e1 : I1 (mo + 1) = I (mo + 1) := funext fun j => by rw [hF _ _ (by omega), uI_a (by omega)]
    refine G_iload1 x eX11_checksum_14 ?_
    refine G_push x eX11_checksum_15 ?_
    refine G_icmp_ge x eX11_checksum_16 (by first | omega | exact hr _ _ | exact hr0 _ _ | exact hrS _) (by first | omega | exact hr _ _ | exact hr0 _ _ | exact hrS _) (fun c16 => ?_) (fun c16 => ?_)
    · refine G_aload0 x eX11_checksum_30 ?_
      refine G_aload0 x eX11_checksum_31 ?_
      refine G_geti x eX11_checksum_32 fX11_176 rfl rfl hM.m (fun h32 => ?_)
      rw [hF mo 5 (by omega), uI_k (by omega)] at h32 ⊢
      refine G_i2l x eX11_checksum_35 h32 ?_
      refine G_cVv x eX11_checksum_36 kX11_298 im_yX11_mix se_yX11_mix rm hM.m (ct_X11_mix hM) rfl ?_
      refine G_rg (fun hr => ?_)
      refine G_aload0 x eX11_checksum_39 ?_
      refine G_aload0 x eX11_checksum_40 ?_
      refine G_geti x eX11_checksum_41 fX11_80 rfl rfl hM.m (fun h41 => ?_)
      rw [hF mo 3 (by omega), uI_k (by omega)] at h41 ⊢
      refine G_i2l x eX11_checksum_44 h41 ?_
      refine G_cVv x eX11_checksum_45 kX11_298 im_yX11_mix se_yX11_mix rm hM.m (ct_X11_mix hM) rfl ?_
      refine G_rg (fun hr => ?_)
      rw [uJ_uJ, uJ_s, hh, show k = 3 by omega]
      refine G_aload0 x eX11_checksum_48 ?_
      refine G_getl x eX11_checksum_49 fX11_295 rfl rfl hM.m ?_
      rw [uJ_s]
      refine G_lreturn x en eX11_checksum_52 (by omega) (by omega) ?_
      exact ⟨rfl, rfl, rfl, fun b hb j => ⟨by rw [hF _ _ (by omega), uI_a (by omega)], by rw [uJ_a (by omega)]; exact hJ b j hb⟩, by rw [hF _ _ (by omega), uI_s], fun j _ _ => by rw [e1], fun j _ _ => by rw [hF _ _ (by omega), uI_a (by omega)], by rw [hF _ _ (by omega), uI_k (by omega)], fun j => by rw [hF _ _ (by omega), uI_a (by omega)], by rw [hF _ _ (by omega), uI_k (by omega)]⟩
    · refine G_aload0 x eX11_checksum_19 ?_
      refine G_iload1 x eX11_checksum_20 ?_
      refine G_cVg x eX11_checksum_21 kX11_307 im_yX11_mixReplica se_yX11_mixReplica rm hM.m (ct_X11_mixReplicaM hM (by omega) (by omega) (by rw [e1]; exact hf k (by omega) (by omega)) (fun f f0 f1 fn => by rw [e1]; exact hms k f (by omega) (by omega) f0 f1 fn)) rfl (fun v21 T21 I21 J21 O21 p21 => ?_)
      refine G_rg (fun hr => ?_)
      obtain ⟨rfl, rfl, rfl, m1, m2, m3⟩ := p21
      rw [e1, hh] at m3
      refine G_rg (fun hr => ?_)
      refine G_iinc1 x eX11_checksum_24 ?_
      refine G_goto x eX11_checksum_27 ?_
      exact ih _ (by omega) (k + 1) _ _ rfl (by omega) (fun b j q => by rw [m1 b j q]; exact hF b j q) (fun b j q => by rw [m2 b j q]; exact hJ b j q) m3
  refine G_rg (fun hr => ?_)
  refine G_aload0 x eX11_checksum_0 ?_
  refine G_push x eX11_checksum_1 ?_
  refine G_puti x eX11_checksum_2 fX11_76 rfl (Or.inl rfl) rfl hM.m (by first | omega | exact hr _ _ | exact hr0 _ _ | exact hrS _) ?_
  refine G_rg (fun hr => ?_)
  refine G_aload0 x eX11_checksum_5 ?_
  refine G_ldc2 x klX11_305 eX11_checksum_6 ?_
  refine G_putl x eX11_checksum_9 fX11_295 rfl (Or.inl rfl) rfl hM.m ?_
  refine G_push x eX11_checksum_12 ?_
  refine G_istore1 x eX11_checksum_13 ?_
  exact loop _ 0 _ _ rfl (by omega) (fun _ _ _ => rfl) (fun b j q => by rw [uJ_a (by omega)]) (by rw [uJ_s]; rfl)
theorem ct_X11_writeN {T : gT} {I : gI} {J : gJ} {O : gO} {mo : Nat} {r row col : Int} (hM : MoAt T O mo) (h0 : in32 r) (h1 : in32 row) (h2 : in32 col) (hn : ¬ cellIn (I (mo + 1)) r row col) : Ct yX11_write cX11_write 8 (some .int) [va_rf (some mo), VI r, VI row, VI col] 5 115 0 0 T I J O (mSay T I J O mo 0 1) := by
  refine Ct.of (by decide) [some (va_rf (some mo)), some (VI r), some (VI row), some (VI col), none, none, none, none] (gEn1 (List.forall_mem_cons.mpr ⟨cat_VR _, List.forall_mem_cons.mpr ⟨cat_VI _, List.forall_mem_cons.mpr ⟨cat_VI _, List.forall_mem_cons.mpr ⟨cat_VI _, fun _ h => nomatch h⟩⟩⟩⟩) rfl (Nat.le_of_ble_eq_true rfl) rfl) ?_
  intro X x en rm ini hr hz
  have hr0 := hr
  refine G_aload0 x eX11_write_0 ?_
  refine G_iload1 x eX11_write_1 ?_
  refine G_iload2 x eX11_write_2 ?_
  refine G_iload3 x eX11_write_3 ?_
  refine G_cVg x eX11_write_4 kX11_159 im_yX11_isCell se_yX11_isCell rm hM.m (ct_X11_isCell hM (by first | omega | exact hr _ _ | exact hr0 _ _) (by first | omega | exact hr _ _ | exact hr0 _ _) (by first | omega | exact hr _ _ | exact hr0 _ _)) rfl (fun v4 T4 I4 J4 O4 p4 => ?_)
  refine G_rg (fun hr => ?_)
  obtain ⟨rfl, rfl, rfl, rfl, hic⟩ := p4
  refine G_ifb_ne x eX11_write_7 (fun c7 => ?_) (fun c7 => ?_)
  · exact absurd c7 hn
  · skip
    refine G_aload0 x eX11_write_10 ?_
    refine G_push x eX11_write_11 ?_
    refine G_cV x eX11_write_12 kX11_131 im_yX11_fails se_yX11_fails rm hM.m (ct_X11_fails hM (by first | omega | exact hr _ _ | exact hr0 _ _)) rfl ?_
    refine G_rg (fun hr => ?_)
    refine G_ireturn x en eX11_write_15 (by omega) (by omega) ?_
    exact icP.say hic
