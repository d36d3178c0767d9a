/-- a row copied to another, from its first place to n -/
def cpI (I : gI) (d s : Nat) (od os n : Int) : gI := fun b j => if b = d ∧ od ≤ j ∧ j < od + n then I s (j - od + os) else I b j
theorem cpI_0 {I : gI} {d s : Nat} {od os : Int} : cpI I d s od os 0 = I := by
  funext b j
  unfold cpI
  rw [if_neg (by omega)]
theorem cpI_s {I : gI} {d s : Nat} {od os n x : Int} (h0 : 0 ≤ n) (hx : x = I s (n + os)) : uI (cpI I d s od os n) d (od + n) x = cpI I d s od os (n + 1) := by
  funext b j
  unfold uI cpI
  by_cases e : b = d
  · by_cases e2 : j = od + n
    · rw [if_pos ⟨e, e2⟩, if_pos ⟨e, by omega, by omega⟩, hx, e2]
      congr 1
      omega
    · rw [if_neg (fun h => e2 h.2)]
      by_cases e3 : od ≤ j ∧ j < od + n
      · rw [if_pos ⟨e, e3.1, e3.2⟩, if_pos ⟨e, by omega, by omega⟩]
      · rw [if_neg (fun h => e3 h.2), if_neg (fun h => e3 ⟨h.2.1, by omega⟩)]
  · rw [if_neg (fun h => e h.1), if_neg (fun h => e h.1), if_neg (fun h => e h.1)]
theorem cpI_b {I : gI} {d s b : Nat} {od os n j : Int} (h : b ≠ d) : cpI I d s od os n b j = I b j := by unfold cpI; rw [if_neg (fun q => h q.1)]
theorem cpI_o {I : gI} {d s b : Nat} {od os n j : Int} (h : ¬ (od ≤ j ∧ j < od + n)) : cpI I d s od os n b j = I b j := by unfold cpI; rw [if_neg (fun q => h q.2)]
theorem cpI_i {I : gI} {d s : Nat} {od os n j : Int} (h : od ≤ j) (h2 : j < od + n) : cpI I d s od os n d j = I s (j - od + os) := by unfold cpI; rw [if_pos ⟨rfl, h, h2⟩]
theorem cpI_u {A : gI} {d s a : Nat} {od os n k x y : Int} (h : s ≠ a) : uI (cpI (uI A a k x) d s od os n) a k y = uI (cpI A d s od os n) a k y := by
  funext b j
  unfold uI cpI
  by_cases e : b = a ∧ j = k
  · rw [if_pos e, if_pos e]
  · rw [if_neg e, if_neg e]
    by_cases e2 : b = d ∧ od ≤ j ∧ j < od + n
    · rw [if_pos e2, if_pos e2]
      exact if_neg (fun q => h q.1)
    · rw [if_neg e2, if_neg e2]
      exact if_neg e
set_option maxRecDepth 20000 in
theorem ct_X11_hold {T : gT} {I : gI} {J : gJ} {O : gO} {mo : Nat} (hM : MoAt T O mo) : Ct yX11_hold cX11_hold 2 none [va_rf (some mo)] 0 0 0 0 T I J O (pv none T (cpI I (mo + 3) (mo + 1) 0 0 4653) J O) := by
  refine Ct.of (by decide) [some (va_rf (some mo)), none] (gEn1 (List.forall_mem_cons.mpr ⟨cat_VR _, fun _ h => nomatch h⟩) rfl (Nat.le_of_ble_eq_true rfl) rfl) ?_
  intro X x en rm ini hr hz
  have hr0 := hr
  have loop : ∀ (n : Nat) (k : Int) (I1 : gI), n = (4653 - k).toNat → 0 ≤ k → k ≤ 4653 → I1 = cpI I (mo + 3) (mo + 1) 0 0 k → G X 2 [some (va_rf (some mo)), some (VI k)] [] T I1 J O 0 0 := by
    intro n
    induction n using Nat.strongRecOn with
    | ind n ih =>
    intro k I1 hn h0 h1 hI
    refine G_rg (fun hr => ?_)
    refine G_iload1 x eX11_hold_2 ?_
    refine G_push x eX11_hold_3 ?_
    refine G_icmp_ge x eX11_hold_6 (by first | omega | exact hr _ _ | exact hr0 _ _) (by first | omega | exact hr _ _ | exact hr0 _ _) (fun c6 => ?_) (fun c6 => ?_)
    · refine G_return x en eX11_hold_27 (by omega) (by omega) ?_
      rw [hI, show k = 4653 by omega]; exact pv_i
    · refine G_aload0 x eX11_hold_9 ?_
      refine G_getq x eX11_hold_10 fX11_16 rfl rfl hM.m hM.o_aside ?_
      refine G_iload1 x eX11_hold_13 ?_
      refine G_aload0 x eX11_hold_14 ?_
      refine G_getq x eX11_hold_15 fX11_7 rfl rfl hM.m hM.o_s ?_
      refine G_iload1 x eX11_hold_18 ?_
      refine G_iald x eX11_hold_19 rfl hM.t_s (by omega) (by omega) (by omega) (fun h19 => ?_)
      refine G_iast x eX11_hold_20 rfl hM.t_aside (by omega) (by omega) (by omega) (by first | omega | exact hr _ _ | exact hr0 _ _) ?_
      refine G_rg (fun hr => ?_)
      refine G_iinc1 x eX11_hold_21 ?_
      refine G_goto x eX11_hold_24 ?_
      exact ih _ (by omega) _ _ rfl (by omega) (by omega) (by rw [hI, ← cpI_s h0 rfl, cpI_b (by omega)]; simp)
  refine G_rg (fun hr => ?_)
  refine G_push x eX11_hold_0 ?_
  refine G_istore1 x eX11_hold_1 ?_
  exact loop _ _ _ rfl (by omega) (by omega) cpI_0.symm
/-- the records behind one more -/
def endI (I : gI) (mo : Nat) : gI :=
  if I mo 3 = 4 then uI (cpI (cpI I (mo + 2) (mo + 2) 0 4653 13959) (mo + 2) (mo + 3) 13959 0 4653) mo 3 4
  else uI (cpI I (mo + 2) (mo + 3) (4653 * I mo 3) 0 4653) mo 3 (I mo 3 + 1)
set_option maxRecDepth 20000 in
theorem ct_X11_ends {T : gT} {I : gI} {J : gJ} {O : gO} {mo : Nat} {v : Int} (hM : MoAt T O mo) (h1 : in32 v) (h2 : 0 ≤ I mo 3) (h3 : I mo 3 ≤ 4) : Ct yX11_ends cX11_ends 3 (some .int) [va_rf (some mo), VI v] 1 21 0 0 T I J O (pv (some (VI v)) T (uI (endI I mo) mo 6 0) J O) := by
  refine Ct.of (by decide) [some (va_rf (some mo)), some (VI v), none] (gEn1 (List.forall_mem_cons.mpr ⟨cat_VR _, List.forall_mem_cons.mpr ⟨cat_VI _, fun _ h => nomatch h⟩⟩) rfl (Nat.le_of_ble_eq_true rfl) rfl) ?_
  intro X x en rm ini hr hz
  have hr0 := hr
  have loop2 : ∀ (n : Nat) (k p : Int) (I0 I1 : gI), n = (4653 - k).toNat → 0 ≤ k → k ≤ 4653 → I1 = cpI I0 (mo + 2) (mo + 3) (4653 * p) 0 k → I0 mo 3 = p → 0 ≤ p → p ≤ 3 → uI (cpI I0 (mo + 2) (mo + 3) (4653 * p) 0 4653) mo 3 (p + 1) = endI I mo → G X 51 [some (va_rf (some mo)), some (VI v), some (VI k)] [] T I1 J O 0 0 := by
    intro n
    induction n using Nat.strongRecOn with
    | ind n ih =>
    intro k p I0 I1 hn h0 h1 hI hp hp0 hp3 hE
    have hp1 : I1 mo 3 = p := by rw [hI, cpI_b (by omega)]; exact hp
    refine G_rg (fun hr => ?_)
    refine G_iload2 x eX11_ends_51 ?_
    refine G_push x eX11_ends_52 ?_
    refine G_icmp_ge x eX11_ends_55 (by first | omega | exact hr _ _ | exact hr0 _ _) (by first | omega | exact hr _ _ | exact hr0 _ _) (fun c55 => ?_) (fun c55 => ?_)
    · refine G_aload0 x eX11_ends_85 ?_
      refine G_dup x eX11_ends_86 (by first | rfl | exact cat_rf _) ?_
      refine G_geti x eX11_ends_87 fX11_80 rfl rfl hM.m (fun h87 => ?_)
      refine G_push x eX11_ends_90 ?_
      refine G_iadd x eX11_ends_91 ?_
      refine G_puti x eX11_ends_92 fX11_80 rfl (Or.inl rfl) rfl hM.m (by first | omega | exact hr _ _ | exact hr0 _ _) ?_
      refine G_rg (fun hr => ?_)
      refine G_aload0 x eX11_ends_95 ?_
      refine G_iload1 x eX11_ends_96 ?_
      refine G_cV x eX11_ends_97 kX11_83 im_yX11_tells se_yX11_tells rm hM.m (ct_X11_tells hM (by first | omega | exact hr _ _ | exact hr0 _ _)) rfl ?_
      refine G_rg (fun hr => ?_)
      refine G_ireturn x en eX11_ends_100 (by omega) (by omega) ?_
      rw [hp1, hI, show k = 4653 by omega, hE]; exact pv_i
    · refine G_aload0 x eX11_ends_58 ?_
      refine G_getq x eX11_ends_59 fX11_13 rfl rfl hM.m hM.o_past ?_
      refine G_push x eX11_ends_62 ?_
      refine G_aload0 x eX11_ends_65 ?_
      refine G_geti x eX11_ends_66 fX11_80 rfl rfl hM.m (fun h66 => ?_)
      refine G_imul x eX11_ends_69 ?_
      refine G_iload2 x eX11_ends_70 ?_
      refine G_iadd x eX11_ends_71 ?_
      refine G_aload0 x eX11_ends_72 ?_
      refine G_getq x eX11_ends_73 fX11_16 rfl rfl hM.m hM.o_aside ?_
      refine G_iload2 x eX11_ends_76 ?_
      refine G_iald x eX11_ends_77 rfl hM.t_aside (by omega) (by omega) (by omega) (fun h77 => ?_)
      refine G_iast x eX11_ends_78 rfl hM.t_past (by omega) (by omega) (by omega) (by first | omega | exact hr _ _ | exact hr0 _ _) ?_
      refine G_rg (fun hr => ?_)
      refine G_iinc2 x eX11_ends_79 ?_
      refine G_goto x eX11_ends_82 ?_
      exact ih _ (by omega) _ p I0 _ rfl (by omega) (by omega) (by rw [hp1, hI, ← cpI_s h0 rfl, cpI_b (by omega)]; simp) hp hp0 hp3 hE
  have loop1 : ∀ (n : Nat) (k : Int) (I1 : gI), n = (13959 - k).toNat → 0 ≤ k → k ≤ 13959 → I1 = cpI I (mo + 2) (mo + 2) 0 4653 k → I mo 3 = 4 → G X 10 [some (va_rf (some mo)), some (VI v), some (VI k)] [] T I1 J O 0 0 := by
    intro n
    induction n using Nat.strongRecOn with
    | ind n ih =>
    intro k I1 hn h0 h1 hI hp
    have hp1 : I1 mo 3 = 4 := by rw [hI, cpI_b (by omega)]; exact hp
    refine G_rg (fun hr => ?_)
    refine G_iload2 x eX11_ends_10 ?_
    refine G_push x eX11_ends_11 ?_
    refine G_icmp_ge x eX11_ends_14 (by first | omega | exact hr _ _ | exact hr0 _ _) (by first | omega | exact hr _ _ | exact hr0 _ _) (fun c14 => ?_) (fun c14 => ?_)
    · refine G_aload0 x eX11_ends_39 ?_
      refine G_dup x eX11_ends_40 (by first | rfl | exact cat_rf _) ?_
      refine G_geti x eX11_ends_41 fX11_80 rfl rfl hM.m (fun h41 => ?_)
      refine G_push x eX11_ends_44 ?_
      refine G_isub x eX11_ends_45 ?_
      refine G_puti x eX11_ends_46 fX11_80 rfl (Or.inl rfl) rfl hM.m (by first | omega | exact hr _ _ | exact hr0 _ _) ?_
      refine G_rg (fun hr => ?_)
      refine G_push x eX11_ends_49 ?_
      refine G_istore2 x eX11_ends_50 ?_
      refine loop2 _ _ 3 (uI I1 mo 3 (I1 mo 3 - 1)) _ rfl (by omega) (by omega) cpI_0.symm (by rw [uI_s, hp1]; rfl) (by omega) (by omega) ?_; unfold endI; rw [if_pos hp, hI, show k = 13959 by omega]; exact cpI_u (by omega)
    · refine G_aload0 x eX11_ends_17 ?_
      refine G_getq x eX11_ends_18 fX11_13 rfl rfl hM.m hM.o_past ?_
      refine G_iload2 x eX11_ends_21 ?_
      refine G_aload0 x eX11_ends_22 ?_
      refine G_getq x eX11_ends_23 fX11_13 rfl rfl hM.m hM.o_past ?_
      refine G_iload2 x eX11_ends_26 ?_
      refine G_push x eX11_ends_27 ?_
      refine G_iadd x eX11_ends_30 ?_
      refine G_iald x eX11_ends_31 rfl hM.t_past (by omega) (by omega) (by omega) (fun h31 => ?_)
      refine G_iast x eX11_ends_32 rfl hM.t_past (by omega) (by omega) (by omega) (by first | omega | exact hr _ _ | exact hr0 _ _) ?_
      refine G_rg (fun hr => ?_)
      refine G_iinc2 x eX11_ends_33 ?_
      refine G_goto x eX11_ends_36 ?_
      exact ih _ (by omega) _ _ rfl (by omega) (by omega) (by rw [hI, ← cpI_s h0 rfl, cpI_o (by omega)]; simp) hp
  refine G_rg (fun hr => ?_)
  refine G_aload0 x eX11_ends_0 ?_
  refine G_geti x eX11_ends_1 fX11_80 rfl rfl hM.m (fun h1 => ?_)
  refine G_push x eX11_ends_4 ?_
  refine G_icmp_ne x eX11_ends_5 (by first | omega | exact hr _ _ | exact hr0 _ _) (by first | omega | exact hr _ _ | exact hr0 _ _) (fun c5 => ?_) (fun c5 => ?_)
  · refine G_push x eX11_ends_49 ?_
    refine G_istore2 x eX11_ends_50 ?_
    exact loop2 _ _ (I mo 3) I _ rfl (by omega) (by omega) cpI_0.symm rfl h2 (by omega) (by unfold endI; rw [if_neg (by omega)])
  · refine G_push x eX11_ends_8 ?_
    refine G_istore2 x eX11_ends_9 ?_
    exact loop1 _ _ _ rfl (by omega) (by omega) cpI_0.symm (by omega)
