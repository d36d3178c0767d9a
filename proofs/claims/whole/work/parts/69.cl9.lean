/-! new objects -/
theorem hdf_X0 : ∀ j, j < gN 0 → defaultValue (gty 0 j) = gVk (gK (gty 0 j)) 0 0 none := by decide
theorem hdf_X1 : ∀ j, j < gN 1 → defaultValue (gty 1 j) = gVk (gK (gty 1 j)) 0 0 none := by decide
theorem hdf_X2 : ∀ j, j < gN 2 → defaultValue (gty 2 j) = gVk (gK (gty 2 j)) 0 0 none := by decide
theorem hdf_X3 : ∀ j, j < gN 3 → defaultValue (gty 3 j) = gVk (gK (gty 3 j)) 0 0 none := by decide
theorem hdf_X4 : ∀ j, j < gN 4 → defaultValue (gty 4 j) = gVk (gK (gty 4 j)) 0 0 none := by decide
theorem hdf_X5 : ∀ j, j < gN 5 → defaultValue (gty 5 j) = gVk (gK (gty 5 j)) 0 0 none := by decide
theorem hdf_X6 : ∀ j, j < gN 6 → defaultValue (gty 6 j) = gVk (gK (gty 6 j)) 0 0 none := by decide
theorem hdf_X7 : ∀ j, j < gN 7 → defaultValue (gty 7 j) = gVk (gK (gty 7 j)) 0 0 none := by decide
theorem hdf_X8 : ∀ j, j < gN 8 → defaultValue (gty 8 j) = gVk (gK (gty 8 j)) 0 0 none := by decide
theorem hdf_X9 : ∀ j, j < gN 9 → defaultValue (gty 9 j) = gVk (gK (gty 9 j)) 0 0 none := by decide
def foP (T : gT) (I : gI) (J : gJ) (O : gO) (rd n : Nat) : gP := fun v T' I' J' O' => v = some (va_rf (some T.1)) ∧ T' = gpush (gpush T (.inl 3)) (.inr (0, 4 * n)) ∧ J' = J ∧ I' = cpZ I (rd + 1) (T.1 + 1) (4 * n) ∧ O' = uO O T.1 0 (some (T.1 + 1))
set_option maxRecDepth 20000 in
theorem ct_X6_formula {T : gT} {I : gI} {J : gJ} {O : gO} {rd n : Nat} (hM : RdAt T O rd) (hn : I rd 1 = (n : Int)) (hn2 : n ≤ 12) (hT : rd + 1 < T.1) : Ct yX6_formula cX6_formula 1 (some (.object "SharedSheet$Formula")) [va_rf (some rd)] 2 48 2 (1 + 4 * n) T I J O (foP T I J O rd n) := by
  refine Ct.of (by decide) [some (va_rf (some rd))] (gEn1 (List.forall_mem_cons.mpr ⟨cat_VR _, fun _ h => nomatch h⟩) rfl (Nat.le_of_ble_eq_true rfl) rfl) ?_
  intro X x en rm ini hr hz
  have hr0 := hr
  have gn3 : gN 3 = 1 := rfl
  have g1 : (gpush T (.inl 3)).2 rd = some (.inl 6) := by rw [gpush_k (by omega)]; exact hM.m
  have g2 : (gpush T (.inl 3)).2 (rd + 1) = some (.inr (0, 52)) := by rw [gpush_k (by omega)]; exact hM.t_parts
  have g3 : (gpush (gpush T (.inl 3)) (.inr (0, 4 * n))).2 T.1 = some (.inl 3) := by rw [gpush_k (by rw [gpush_1]; omega)]; exact gpush_s
  have g4 : (gpush T (.inl 3)).1 = T.1 + 1 := gpush_1
  refine G_rg (fun hr => ?_)
  refine G_nw x eX6_formula_0 clX6_11 itX3 ini_X3 rfl rm (by omega) (by show _ + gN 3 ≤ _; simp only [gN]; omega) (fun i0 j0 o0 => ?_) (hdf_X3)
  refine G_dup x eX6_formula_3 (by first | rfl | exact cat_rf _) ?_
  refine G_aload0 x eX6_formula_4 ?_
  refine G_getq x eX6_formula_5 fX6_13 rfl rfl g1 hM.o_parts ?_
  refine G_aload0 x eX6_formula_8 ?_
  refine G_geti x eX6_formula_9 fX6_17 rfl rfl g1 (fun h9 => ?_)
  rw [hn]
  refine G_push x eX6_formula_12 ?_
  refine G_imul x eX6_formula_13 ?_
  rw [show (n : Int) * 4 = ((4 * n : Nat) : Int) by omega]
  refine G_cSg x eX6_formula_14 kX6_38 sm_yJ7_copyOf_59c91 rm (ct_J7_copyOf_59c91 (N := 52) g2 (by omega) (by omega) (by omega)) rfl (fun v14 T14 I14 J14 O14 p14 => ?_)
  refine G_rg (fun hr => ?_)
  obtain ⟨rfl, rfl, rfl, rfl, rfl⟩ := p14
  refine G_cI x eX6_formula_17 kX6_44 im_yX3_init rm (ct_X3_init g3) rfl (fun v17 T17 I17 J17 O17 p17 => ?_)
  refine G_rg (fun hr => ?_)
  obtain ⟨rfl, rfl, rfl, rfl, rfl⟩ := p17
  refine G_areturn x en (by first | exact Or.inl ⟨_, rfl⟩ | exact Or.inr ⟨_, rfl⟩) eX6_formula_20 (by omega) (by omega) ?_
  exact ⟨rfl, rfl, rfl, by rw [g4], by rw [g4]⟩
