/-- an operation made at a replica: its numbers written .. -/
def mk0I (I : gI) (mo : Nat) (r num col l pl : Int) : gI :=
  uI (uI (uI (uI (uI (uI (uI I (mo + 1) (3843 + 270 * r + 0) (I (mo + 1) (3843 + 270 * r + 0) + 1)) (mo + 1) (3 + 32 * (40 * r + I (mo + 1) r)) num) (mo + 1) (3 + 32 * (40 * r + I (mo + 1) r) + 1) (I (mo + 1) (3843 + 270 * r + 0) + 1)) (mo + 1) (3 + 32 * (40 * r + I (mo + 1) r) + 2) col) (mo + 1) (3 + 32 * (40 * r + I (mo + 1) r) + 3) l) (mo + 1) (3 + 32 * (40 * r + I (mo + 1) r) + 4) pl) (mo + 1) r (I (mo + 1) r + 1)
/-- .. then carried out -/
def mksI (I : gI) (mo : Nat) (r num col l pl : Int) : gI := carI (mk0I I mo r num col l pl) mo r (40 * r + I (mo + 1) r)
section MK
variable {I : gI} {mo : Nat} {r num col l pl : Int}
theorem mk0_0 (h0 : 0 ≤ r) (h1 : r < 3) (h2 : 0 ≤ I (mo + 1) r) (h3 : I (mo + 1) r < 40) : mk0I I mo r num col l pl (mo + 1) (3 + 32 * (40 * r + I (mo + 1) r) + 0) = num := by
  simp only [mk0I, uI, true_and, ↓reduceIte]; (repeat' split) <;> first | rfl | omega
theorem mk0_1 (h0 : 0 ≤ r) (h1 : r < 3) (h2 : 0 ≤ I (mo + 1) r) (h3 : I (mo + 1) r < 40) : mk0I I mo r num col l pl (mo + 1) (3 + 32 * (40 * r + I (mo + 1) r) + 1) = I (mo + 1) (3843 + 270 * r + 0) + 1 := by
  simp only [mk0I, uI, true_and, ↓reduceIte]; (repeat' split) <;> first | rfl | omega
theorem mk0_2 (h0 : 0 ≤ r) (h1 : r < 3) (h2 : 0 ≤ I (mo + 1) r) (h3 : I (mo + 1) r < 40) : mk0I I mo r num col l pl (mo + 1) (3 + 32 * (40 * r + I (mo + 1) r) + 2) = col := by
  simp only [mk0I, uI, true_and, ↓reduceIte]; (repeat' split) <;> first | rfl | omega
theorem mk0_3 (h0 : 0 ≤ r) (h1 : r < 3) (h2 : 0 ≤ I (mo + 1) r) (h3 : I (mo + 1) r < 40) : mk0I I mo r num col l pl (mo + 1) (3 + 32 * (40 * r + I (mo + 1) r) + 3) = l := by
  simp only [mk0I, uI, true_and, ↓reduceIte]; (repeat' split) <;> first | rfl | omega
theorem mk0_4 (h0 : 0 ≤ r) (h1 : r < 3) (h2 : 0 ≤ I (mo + 1) r) (h3 : I (mo + 1) r < 40) : mk0I I mo r num col l pl (mo + 1) (3 + 32 * (40 * r + I (mo + 1) r) + 4) = pl := by
  simp only [mk0I, uI, true_and, ↓reduceIte]; (repeat' split) <;> first | rfl | omega
theorem mk0_hi (h0 : 0 ≤ r) (h1 : r < 3) (h2 : 0 ≤ I (mo + 1) r) (h3 : I (mo + 1) r < 40) {j : Int} (hj : 3843 ≤ j) (hj2 : j ≠ 3843 + 270 * r + 0) : mk0I I mo r num col l pl (mo + 1) j = I (mo + 1) j := by
  simp only [mk0I, uI, true_and, ↓reduceIte]; (repeat' split) <;> first | rfl | omega
end MK
set_option maxHeartbeats 1000000 in
set_option maxRecDepth 20000 in
theorem ct_X11_makes {T : gT} {I : gI} {J : gJ} {O : gO} {mo : Nat} {r num col l pl : Int} (hM : MoAt T O mo) (h0 : 0 ≤ r) (h1 : r < 3) (h2 : 0 ≤ I (mo + 1) r) (h3 : I (mo + 1) r < 40) (h4 : 1 ≤ num ∧ num ≤ 4) (h5 : -1 ≤ col ∧ col ≤ 1) (h6 : num ≠ 4 → 0 ≤ col) (h7 : 0 ≤ l) (h8 : l < 12) (h9 : num = 4 → 0 ≤ pl ∧ pl < 12) (h10 : in32 pl) (h11 : 0 ≤ I (mo + 1) (3843 + 270 * r + 0)) (h12 : I (mo + 1) (3843 + 270 * r + 0) < 1000) (h13 : num = 4 → -1 ≤ I (mo + 1) (3843 + 270 * r + (126 + 12 * l + pl)) ∧ I (mo + 1) (3843 + 270 * r + (126 + 12 * l + pl)) < 120) : Ct yX11_makes cX11_makes 8 none [va_rf (some mo), VI r, VI num, VI col, VI l, VI pl] 2 49 0 0 T I J O (pv none T (mksI I mo r num col l pl) J O) := by
  refine Ct.of (by decide) [some (va_rf (some mo)), some (VI r), some (VI num), some (VI col), some (VI l), some (VI pl), none, none] (gEn1 (List.forall_mem_cons.mpr ⟨cat_VR _, List.forall_mem_cons.mpr ⟨cat_VI _, List.forall_mem_cons.mpr ⟨cat_VI _, List.forall_mem_cons.mpr ⟨cat_VI _, List.forall_mem_cons.mpr ⟨cat_VI _, List.forall_mem_cons.mpr ⟨cat_VI _, fun _ h => nomatch h⟩⟩⟩⟩⟩⟩) rfl (Nat.le_of_ble_eq_true rfl) rfl) ?_
  intro X x en rm ini hr hz
  have hr0 := hr
  have u0 : ∀ (A : gI) (x : Int), uI A (mo + 1) (3843 + 270 * r + 0) x (mo + 1) (3843 + 270 * r + 0) = x := fun A x => uI_s
  have u1 : ∀ (A : gI) (k x : Int), k < 3843 → uI A (mo + 1) k x (mo + 1) (3843 + 270 * r + 0) = A (mo + 1) (3843 + 270 * r + 0) := fun A k x hk => uI_k (by omega)
  have u2 : ∀ (A : gI) (k x : Int), 3 ≤ k → uI A (mo + 1) k x (mo + 1) r = A (mo + 1) r := fun A k x hk => uI_k (by omega)
  have opk : opOk (mk0I I mo r num col l pl) mo r (40 * r + I (mo + 1) r) := by
    unfold opOk
    rw [mk0_0 h0 h1 h2 h3, mk0_2 h0 h1 h2 h3, mk0_3 h0 h1 h2 h3, mk0_4 h0 h1 h2 h3]
    refine ⟨h7, h8, fun e => ⟨(h9 e).1, (h9 e).2, ?_⟩, fun e => ⟨h6 e, h5.2⟩⟩
    have := h9 e
    rw [mk0_hi h0 h1 h2 h3 (by omega) (by omega)]
    exact h13 e
  refine G_push x eX11_makes_0 ?_
  refine G_iload1 x eX11_makes_2 ?_
  refine G_imul x eX11_makes_3 ?_
  refine G_aload0 x eX11_makes_4 ?_
  refine G_getq x eX11_makes_5 fX11_7 rfl rfl hM.m hM.o_s ?_
  refine G_iload1 x eX11_makes_8 ?_
  refine G_iald x eX11_makes_9 rfl hM.t_s (by omega) (by omega) (by omega) (fun h9 => ?_)
  refine G_iadd x eX11_makes_10 ?_
  refine G_istore6 x eX11_makes_11 ?_
  refine G_push x eX11_makes_13 ?_
  refine G_push x eX11_makes_14 ?_
  refine G_iload6 x eX11_makes_16 ?_
  refine G_imul x eX11_makes_18 ?_
  refine G_iadd x eX11_makes_19 ?_
  refine G_istore7 x eX11_makes_20 ?_
  refine G_aload0 x eX11_makes_22 ?_
  refine G_iload1 x eX11_makes_23 ?_
  refine G_push x eX11_makes_24 ?_
  refine G_aload0 x eX11_makes_25 ?_
  refine G_iload1 x eX11_makes_26 ?_
  refine G_push x eX11_makes_27 ?_
  refine G_cV x eX11_makes_28 kX11_108 im_yX11_of se_yX11_of rm hM.m (ct_X11_of hM (by omega) (by omega)) rfl ?_
  refine G_push x eX11_makes_31 ?_
  refine G_iadd x eX11_makes_32 ?_
  refine G_cVv x eX11_makes_33 kX11_115 im_yX11_puts se_yX11_puts rm hM.m (ct_X11_puts hM (by omega) (by omega) (by omega)) rfl ?_
  refine G_rg (fun hr => ?_)
  refine G_aload0 x eX11_makes_36 ?_
  refine G_getq x eX11_makes_37 fX11_7 rfl rfl hM.m hM.o_s ?_
  refine G_iload7 x eX11_makes_40 ?_
  refine G_push x eX11_makes_42 ?_
  refine G_iadd0 x eX11_makes_43 ?_
  refine G_iload2 x eX11_makes_44 ?_
  refine G_iast x eX11_makes_45 rfl hM.t_s (by omega) (by omega) (by omega) (by first | omega | exact hr _ _ | exact hr0 _ _) ?_
  refine G_rg (fun hr => ?_)
  refine G_aload0 x eX11_makes_46 ?_
  refine G_getq x eX11_makes_47 fX11_7 rfl rfl hM.m hM.o_s ?_
  refine G_iload7 x eX11_makes_50 ?_
  refine G_push x eX11_makes_52 ?_
  refine G_iadd x eX11_makes_53 ?_
  refine G_aload0 x eX11_makes_54 ?_
  refine G_iload1 x eX11_makes_55 ?_
  refine G_push x eX11_makes_56 ?_
  refine G_cV x eX11_makes_57 kX11_108 im_yX11_of se_yX11_of rm hM.m (ct_X11_of hM (by omega) (by omega)) rfl ?_
  rw [u1 _ _ _ (by omega), u0]
  refine G_iast x eX11_makes_60 rfl hM.t_s (by omega) (by omega) (by omega) (by first | omega | exact hr _ _ | exact hr0 _ _) ?_
  refine G_rg (fun hr => ?_)
  refine G_aload0 x eX11_makes_61 ?_
  refine G_getq x eX11_makes_62 fX11_7 rfl rfl hM.m hM.o_s ?_
  refine G_iload7 x eX11_makes_65 ?_
  refine G_push x eX11_makes_67 ?_
  refine G_iadd x eX11_makes_68 ?_
  refine G_iload3 x eX11_makes_69 ?_
  refine G_iast x eX11_makes_70 rfl hM.t_s (by omega) (by omega) (by omega) (by first | omega | exact hr _ _ | exact hr0 _ _) ?_
  refine G_rg (fun hr => ?_)
  refine G_aload0 x eX11_makes_71 ?_
  refine G_getq x eX11_makes_72 fX11_7 rfl rfl hM.m hM.o_s ?_
  refine G_iload7 x eX11_makes_75 ?_
  refine G_push x eX11_makes_77 ?_
  refine G_iadd x eX11_makes_78 ?_
  refine G_iload4 x eX11_makes_79 ?_
  refine G_iast x eX11_makes_81 rfl hM.t_s (by omega) (by omega) (by omega) (by first | omega | exact hr _ _ | exact hr0 _ _) ?_
  refine G_rg (fun hr => ?_)
  refine G_aload0 x eX11_makes_82 ?_
  refine G_getq x eX11_makes_83 fX11_7 rfl rfl hM.m hM.o_s ?_
  refine G_iload7 x eX11_makes_86 ?_
  refine G_push x eX11_makes_88 ?_
  refine G_iadd x eX11_makes_89 ?_
  refine G_iload5 x eX11_makes_90 ?_
  refine G_iast x eX11_makes_92 rfl hM.t_s (by omega) (by omega) (by omega) (by first | omega | exact hr _ _ | exact hr0 _ _) ?_
  refine G_rg (fun hr => ?_)
  refine G_aload0 x eX11_makes_93 ?_
  refine G_getq x eX11_makes_94 fX11_7 rfl rfl hM.m hM.o_s ?_
  refine G_iload1 x eX11_makes_97 ?_
  refine G_dup2 x eX11_makes_98 (by first | rfl | exact cat_rf _) (by first | rfl | exact cat_rf _) ?_
  refine G_iald x eX11_makes_99 rfl hM.t_s (by omega) (by omega) (by omega) (fun h99 => ?_)
  rw [u2 _ _ _ (by omega), u2 _ _ _ (by omega), u2 _ _ _ (by omega), u2 _ _ _ (by omega), u2 _ _ _ (by omega), u2 _ _ _ (by omega)]
  refine G_push x eX11_makes_100 ?_
  refine G_iadd x eX11_makes_101 ?_
  refine G_iast x eX11_makes_102 rfl hM.t_s (by omega) (by omega) (by omega) (by first | omega | exact hr _ _ | exact hr0 _ _) ?_
  refine G_rg (fun hr => ?_)
  refine G_aload0 x eX11_makes_103 ?_
  refine G_iload1 x eX11_makes_104 ?_
  refine G_iload6 x eX11_makes_105 ?_
  refine G_cVv x eX11_makes_107 kX11_119 im_yX11_carries se_yX11_carries rm hM.m (ct_X11_carries (I := mk0I I mo r num col l pl) hM (by omega) (by omega) (by omega) (by omega) opk) rfl ?_
  refine G_rg (fun hr => ?_)
  refine G_return x en eX11_makes_110 (by omega) (by omega) ?_
  exact pv_i
