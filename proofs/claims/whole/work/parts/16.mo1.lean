set_option maxRecDepth 20000 in
theorem ct_X11_thrown {T : gT} {I : gI} {J : gJ} {O : gO} {mo : Nat} (hM : MoAt T O mo) : Ct yX11_thrown cX11_thrown 1 (some .int) [va_rf (some mo)] 0 0 0 0 T I J O (pv (some (VI (I mo 6))) T I J O) := by
  refine Ct.of (by decide) [some (va_rf (some mo))] (gEn1 (List.forall_mem_cons.mpr ⟨cat_VR _, fun _ h => nomatch h⟩) rfl (Nat.le_of_ble_eq_true rfl) rfl) ?_
  intro X x en rm ini hr hz
  have hr0 := hr
  refine G_rg (fun hr => ?_)
  refine G_aload0 x eX11_thrown_0 ?_
  refine G_geti x eX11_thrown_1 fX11_76 rfl rfl hM.m (fun h1 => ?_)
  refine G_ireturn x en eX11_thrown_4 (by omega) (by omega) ?_
  first | exact pv_i | (refine ⟨?_, rfl, rfl, rfl, rfl⟩; split <;> first | rfl | omega)
set_option maxRecDepth 20000 in
theorem ct_X11_in {T : gT} {I : gI} {J : gJ} {O : gO} {v a b : Int} (h1 : in32 v) (h2 : in32 a) (h3 : in32 b) : Ct yX11_in cX11_in 3 (some .boolean) [VI v, VI a, VI b] 0 0 0 0 T I J O (pv (some (VI (if a ≤ v ∧ v ≤ b then 1 else 0))) T I J O) := by
  refine Ct.of (by decide) [some (VI v), some (VI a), some (VI b)] (gEn1 (List.forall_mem_cons.mpr ⟨cat_VI _, List.forall_mem_cons.mpr ⟨cat_VI _, List.forall_mem_cons.mpr ⟨cat_VI _, fun _ h => nomatch h⟩⟩⟩) rfl (Nat.le_of_ble_eq_true rfl) rfl) ?_
  intro X x en rm ini hr hz
  have hr0 := hr
  refine G_rg (fun hr => ?_)
  refine G_iload0 x eX11_in_0 ?_
  refine G_iload1 x eX11_in_1 ?_
  refine G_icmp_lt x eX11_in_2 (by first | omega | exact hr _ _ | exact hr0 _ _) (by first | omega | exact hr _ _ | exact hr0 _ _) (fun c2 => ?_) (fun c2 => ?_)
  · refine G_push x eX11_in_14 ?_
    refine G_zreturn x en eX11_in_15 (by omega) (by omega) ?_ ?_
    · first | exact Or.inl rfl | exact Or.inr rfl | omega
    · first | exact pv_i | (refine ⟨?_, rfl, rfl, rfl, rfl⟩; split <;> first | rfl | omega)
  · refine G_iload0 x eX11_in_5 ?_
    refine G_iload2 x eX11_in_6 ?_
    refine G_icmp_gt x eX11_in_7 (by first | omega | exact hr _ _ | exact hr0 _ _) (by first | omega | exact hr _ _ | exact hr0 _ _) (fun c7 => ?_) (fun c7 => ?_)
    · refine G_push x eX11_in_14 ?_
      refine G_zreturn x en eX11_in_15 (by omega) (by omega) ?_ ?_
      · first | exact Or.inl rfl | exact Or.inr rfl | omega
      · first | exact pv_i | (refine ⟨?_, rfl, rfl, rfl, rfl⟩; split <;> first | rfl | omega)
    · refine G_push x eX11_in_10 ?_
      refine G_goto x eX11_in_11 ?_
      refine G_zreturn x en eX11_in_15 (by omega) (by omega) ?_ ?_
      · first | exact Or.inl rfl | exact Or.inr rfl | omega
      · first | exact pv_i | (refine ⟨?_, rfl, rfl, rfl, rfl⟩; split <;> first | rfl | omega)
set_option maxRecDepth 20000 in
theorem ct_X11_fails {T : gT} {I : gI} {J : gJ} {O : gO} {mo : Nat} {p : Int} (hM : MoAt T O mo) (h1 : in32 p) : Ct yX11_fails cX11_fails 2 (some .int) [va_rf (some mo), VI p] 0 0 0 0 T I J O (pv (some (VI 0)) T (uI I mo 6 p) J O) := by
  refine Ct.of (by decide) [some (va_rf (some mo)), some (VI p)] (gEn1 (List.forall_mem_cons.mpr ⟨cat_VR _, List.forall_mem_cons.mpr ⟨cat_VI _, fun _ h => nomatch h⟩⟩) rfl (Nat.le_of_ble_eq_true rfl) rfl) ?_
  intro X x en rm ini hr hz
  have hr0 := hr
  refine G_rg (fun hr => ?_)
  refine G_aload0 x eX11_fails_0 ?_
  refine G_iload1 x eX11_fails_1 ?_
  refine G_puti x eX11_fails_2 fX11_76 rfl (Or.inl rfl) rfl hM.m (by first | omega | exact hr _ _ | exact hr0 _ _) ?_
  refine G_rg (fun hr => ?_)
  refine G_push x eX11_fails_5 ?_
  refine G_ireturn x en eX11_fails_6 (by omega) (by omega) ?_
  first | exact pv_i | (refine ⟨?_, rfl, rfl, rfl, rfl⟩; split <;> first | rfl | omega)
set_option maxRecDepth 20000 in
theorem ct_X11_tells {T : gT} {I : gI} {J : gJ} {O : gO} {mo : Nat} {p : Int} (hM : MoAt T O mo) (h1 : in32 p) : Ct yX11_tells cX11_tells 2 (some .int) [va_rf (some mo), VI p] 0 0 0 0 T I J O (pv (some (VI p)) T (uI I mo 6 0) J O) := by
  refine Ct.of (by decide) [some (va_rf (some mo)), some (VI p)] (gEn1 (List.forall_mem_cons.mpr ⟨cat_VR _, List.forall_mem_cons.mpr ⟨cat_VI _, fun _ h => nomatch h⟩⟩) rfl (Nat.le_of_ble_eq_true rfl) rfl) ?_
  intro X x en rm ini hr hz
  have hr0 := hr
  refine G_rg (fun hr => ?_)
  refine G_aload0 x eX11_tells_0 ?_
  refine G_push x eX11_tells_1 ?_
  refine G_puti x eX11_tells_2 fX11_76 rfl (Or.inl rfl) rfl hM.m (by first | omega | exact hr _ _ | exact hr0 _ _) ?_
  refine G_rg (fun hr => ?_)
  refine G_iload1 x eX11_tells_5 ?_
  refine G_ireturn x en eX11_tells_6 (by omega) (by omega) ?_
  first | exact pv_i | (refine ⟨?_, rfl, rfl, rfl, rfl⟩; split <;> first | rfl | omega)
set_option maxRecDepth 20000 in
theorem ct_X11_isReplica {T : gT} {I : gI} {J : gJ} {O : gO} {r : Int} (h1 : in32 r) : Ct yX11_isReplica cX11_isReplica 1 (some .boolean) [VI r] 1 22 0 0 T I J O (pv (some (VI (if 0 ≤ r ∧ r ≤ 2 then 1 else 0))) T I J O) := by
  refine Ct.of (by decide) [some (VI r)] (gEn1 (List.forall_mem_cons.mpr ⟨cat_VI _, fun _ h => nomatch h⟩) rfl (Nat.le_of_ble_eq_true rfl) rfl) ?_
  intro X x en rm ini hr hz
  have hr0 := hr
  refine G_rg (fun hr => ?_)
  refine G_iload0 x eX11_isReplica_0 ?_
  refine G_push x eX11_isReplica_1 ?_
  refine G_push x eX11_isReplica_2 ?_
  refine G_cS x eX11_isReplica_3 kX11_87 sm_yX11_in rm (ct_X11_in (by first | omega | exact hr _ _ | exact hr0 _ _) (by first | omega | exact hr _ _ | exact hr0 _ _) (by first | omega | exact hr _ _ | exact hr0 _ _)) rfl ?_
  refine G_zreturn x en eX11_isReplica_6 (by omega) (by omega) ?_ ?_
  · first | exact Or.inl rfl | exact Or.inr rfl | omega
  · exact pv_i
set_option maxRecDepth 20000 in
theorem ct_X11_lineAt {T : gT} {I : gI} {J : gJ} {O : gO} {r l : Int} : Ct yX11_lineAt cX11_lineAt 2 (some .int) [VI r, VI l] 0 0 0 0 T I J O (pv (some (VI (3843 + 270 * r + 6 + 5 * l))) T I J O) := by
  refine Ct.of (by decide) [some (VI r), some (VI l)] (gEn1 (List.forall_mem_cons.mpr ⟨cat_VI _, List.forall_mem_cons.mpr ⟨cat_VI _, fun _ h => nomatch h⟩⟩) rfl (Nat.le_of_ble_eq_true rfl) rfl) ?_
  intro X x en rm ini hr hz
  have hr0 := hr
  refine G_rg (fun hr => ?_)
  refine G_push x eX11_lineAt_0 ?_
  refine G_push x eX11_lineAt_3 ?_
  refine G_iload0 x eX11_lineAt_6 ?_
  refine G_imul x eX11_lineAt_7 ?_
  refine G_iadd x eX11_lineAt_8 ?_
  refine G_push x eX11_lineAt_9 ?_
  refine G_iadd x eX11_lineAt_11 ?_
  refine G_push x eX11_lineAt_12 ?_
  refine G_iload1 x eX11_lineAt_13 ?_
  refine G_imul x eX11_lineAt_14 ?_
  refine G_iadd x eX11_lineAt_15 ?_
  refine G_ireturn x en eX11_lineAt_16 (by omega) (by omega) ?_
  first | exact pv_i | (refine ⟨?_, rfl, rfl, rfl, rfl⟩; split <;> first | rfl | omega)
set_option maxRecDepth 20000 in
theorem ct_X11_of {T : gT} {I : gI} {J : gJ} {O : gO} {mo : Nat} {r w : Int} (hM : MoAt T O mo) (h0 : 0 ≤ 3843 + 270 * r + w) (h1 : 3843 + 270 * r + w < 4653) : Ct yX11_of cX11_of 3 (some .int) [va_rf (some mo), VI r, VI w] 0 0 0 0 T I J O (pv (some (VI (I (mo + 1) (3843 + 270 * r + w)))) T I J O) := by
  refine Ct.of (by decide) [some (va_rf (some mo)), some (VI r), some (VI w)] (gEn1 (List.forall_mem_cons.mpr ⟨cat_VR _, List.forall_mem_cons.mpr ⟨cat_VI _, List.forall_mem_cons.mpr ⟨cat_VI _, fun _ h => nomatch h⟩⟩⟩) rfl (Nat.le_of_ble_eq_true rfl) rfl) ?_
  intro X x en rm ini hr hz
  have hr0 := hr
  refine G_rg (fun hr => ?_)
  refine G_aload0 x eX11_of_0 ?_
  refine G_getq x eX11_of_1 fX11_7 rfl rfl hM.m hM.o_s ?_
  refine G_push x eX11_of_4 ?_
  refine G_push x eX11_of_7 ?_
  refine G_iload1 x eX11_of_10 ?_
  refine G_imul x eX11_of_11 ?_
  refine G_iadd x eX11_of_12 ?_
  refine G_iload2 x eX11_of_13 ?_
  refine G_iadd x eX11_of_14 ?_
  refine G_iald x eX11_of_15 rfl hM.t_s (by omega) (by omega) (by omega) (fun h15 => ?_)
  refine G_ireturn x en eX11_of_16 (by omega) (by omega) ?_
  first | exact pv_i | (refine ⟨?_, rfl, rfl, rfl, rfl⟩; split <;> first | rfl | omega)
set_option maxRecDepth 20000 in
theorem ct_X11_puts {T : gT} {I : gI} {J : gJ} {O : gO} {mo : Nat} {r w v : Int} (hM : MoAt T O mo) (h0 : 0 ≤ 3843 + 270 * r + w) (h1 : 3843 + 270 * r + w < 4653) (h2 : in32 v) : Ct yX11_puts cX11_puts 4 none [va_rf (some mo), VI r, VI w, VI v] 0 0 0 0 T I J O (pv none T (uI I (mo + 1) (3843 + 270 * r + w) v) J O) := by
  refine Ct.of (by decide) [some (va_rf (some mo)), some (VI r), some (VI w), some (VI v)] (gEn1 (List.forall_mem_cons.mpr ⟨cat_VR _, List.forall_mem_cons.mpr ⟨cat_VI _, List.forall_mem_cons.mpr ⟨cat_VI _, List.forall_mem_cons.mpr ⟨cat_VI _, fun _ h => nomatch h⟩⟩⟩⟩) rfl (Nat.le_of_ble_eq_true rfl) rfl) ?_
  intro X x en rm ini hr hz
  have hr0 := hr
  refine G_rg (fun hr => ?_)
  refine G_aload0 x eX11_puts_0 ?_
  refine G_getq x eX11_puts_1 fX11_7 rfl rfl hM.m hM.o_s ?_
  refine G_push x eX11_puts_4 ?_
  refine G_push x eX11_puts_7 ?_
  refine G_iload1 x eX11_puts_10 ?_
  refine G_imul x eX11_puts_11 ?_
  refine G_iadd x eX11_puts_12 ?_
  refine G_iload2 x eX11_puts_13 ?_
  refine G_iadd x eX11_puts_14 ?_
  refine G_iload3 x eX11_puts_15 ?_
  refine G_iast x eX11_puts_16 rfl hM.t_s (by omega) (by omega) (by omega) (by first | omega | exact hr _ _ | exact hr0 _ _) ?_
  refine G_rg (fun hr => ?_)
  refine G_return x en eX11_puts_17 (by omega) (by omega) ?_
  first | exact pv_i | (refine ⟨?_, rfl, rfl, rfl, rfl⟩; split <;> first | rfl | omega)
set_option maxRecDepth 20000 in
theorem ct_X11_op {T : gT} {I : gI} {J : gJ} {O : gO} {mo : Nat} {id w : Int} (hM : MoAt T O mo) (h0 : 0 ≤ 3 + 32 * id + w) (h1 : 3 + 32 * id + w < 4653) : Ct yX11_op cX11_op 3 (some .int) [va_rf (some mo), VI id, VI w] 0 0 0 0 T I J O (pv (some (VI (I (mo + 1) (3 + 32 * id + w)))) T I J O) := by
  refine Ct.of (by decide) [some (va_rf (some mo)), some (VI id), some (VI w)] (gEn1 (List.forall_mem_cons.mpr ⟨cat_VR _, List.forall_mem_cons.mpr ⟨cat_VI _, List.forall_mem_cons.mpr ⟨cat_VI _, fun _ h => nomatch h⟩⟩⟩) rfl (Nat.le_of_ble_eq_true rfl) rfl) ?_
  intro X x en rm ini hr hz
  have hr0 := hr
  refine G_rg (fun hr => ?_)
  refine G_aload0 x eX11_op_0 ?_
  refine G_getq x eX11_op_1 fX11_7 rfl rfl hM.m hM.o_s ?_
  refine G_push x eX11_op_4 ?_
  refine G_push x eX11_op_5 ?_
  refine G_iload1 x eX11_op_7 ?_
  refine G_imul x eX11_op_8 ?_
  refine G_iadd x eX11_op_9 ?_
  refine G_iload2 x eX11_op_10 ?_
  refine G_iadd x eX11_op_11 ?_
  refine G_iald x eX11_op_12 rfl hM.t_s (by omega) (by omega) (by omega) (fun h12 => ?_)
  refine G_ireturn x en eX11_op_13 (by omega) (by omega) ?_
  first | exact pv_i | (refine ⟨?_, rfl, rfl, rfl, rfl⟩; split <;> first | rfl | omega)
set_option maxRecDepth 20000 in
theorem ct_X11_isShown {T : gT} {I : gI} {J : gJ} {O : gO} {mo : Nat} {r l : Int} (hM : MoAt T O mo) (h0 : 0 ≤ r) (h1 : r < 3) (h2 : 0 ≤ l) (h3 : l < 24) : Ct yX11_isShown cX11_isShown 3 (some .boolean) [va_rf (some mo), VI r, VI l] 1 21 0 0 T I J O (pv (some (VI (if I (mo + 1) (3843 + 270 * r + 6 + 5 * l + 3) = 1 ∧ I (mo + 1) (3843 + 270 * r + 6 + 5 * l + 4) = 0 then 1 else 0))) T I J O) := by
  refine Ct.of (by decide) [some (va_rf (some mo)), some (VI r), some (VI l)] (gEn1 (List.forall_mem_cons.mpr ⟨cat_VR _, List.forall_mem_cons.mpr ⟨cat_VI _, List.forall_mem_cons.mpr ⟨cat_VI _, fun _ h => nomatch h⟩⟩⟩) rfl (Nat.le_of_ble_eq_true rfl) rfl) ?_
  intro X x en rm ini hr hz
  have hr0 := hr
  refine G_rg (fun hr => ?_)
  refine G_aload0 x eX11_isShown_0 ?_
  refine G_getq x eX11_isShown_1 fX11_7 rfl rfl hM.m hM.o_s ?_
  refine G_iload1 x eX11_isShown_4 ?_
  refine G_iload2 x eX11_isShown_5 ?_
  refine G_cS x eX11_isShown_6 kX11_72 sm_yX11_lineAt rm ct_X11_lineAt rfl ?_
  refine G_push x eX11_isShown_9 ?_
  refine G_iadd x eX11_isShown_10 ?_
  refine G_iald x eX11_isShown_11 rfl hM.t_s (by omega) (by omega) (by omega) (fun h11 => ?_)
  refine G_push x eX11_isShown_12 ?_
  refine G_icmp_ne x eX11_isShown_13 (by first | omega | exact hr _ _ | exact hr0 _ _) (by first | omega | exact hr _ _ | exact hr0 _ _) (fun c13 => ?_) (fun c13 => ?_)
  · refine G_push x eX11_isShown_35 ?_
    refine G_zreturn x en eX11_isShown_36 (by omega) (by omega) ?_ ?_
    · first | exact Or.inl rfl | exact Or.inr rfl | omega
    · first | exact pv_i | (refine ⟨?_, rfl, rfl, rfl, rfl⟩; split <;> first | rfl | omega)
  · refine G_aload0 x eX11_isShown_16 ?_
    refine G_getq x eX11_isShown_17 fX11_7 rfl rfl hM.m hM.o_s ?_
    refine G_iload1 x eX11_isShown_20 ?_
    refine G_iload2 x eX11_isShown_21 ?_
    refine G_cS x eX11_isShown_22 kX11_72 sm_yX11_lineAt rm ct_X11_lineAt rfl ?_
    refine G_push x eX11_isShown_25 ?_
    refine G_iadd x eX11_isShown_26 ?_
    refine G_iald x eX11_isShown_27 rfl hM.t_s (by omega) (by omega) (by omega) (fun h27 => ?_)
    refine G_if_ne x eX11_isShown_28 (by first | omega | exact hr _ _ | exact hr0 _ _) (fun c28 => ?_) (fun c28 => ?_)
    · refine G_push x eX11_isShown_35 ?_
      refine G_zreturn x en eX11_isShown_36 (by omega) (by omega) ?_ ?_
      · first | exact Or.inl rfl | exact Or.inr rfl | omega
      · first | exact pv_i | (refine ⟨?_, rfl, rfl, rfl, rfl⟩; split <;> first | rfl | omega)
    · refine G_push x eX11_isShown_31 ?_
      refine G_goto x eX11_isShown_32 ?_
      refine G_zreturn x en eX11_isShown_36 (by omega) (by omega) ?_ ?_
      · first | exact Or.inl rfl | exact Or.inr rfl | omega
      · first | exact pv_i | (refine ⟨?_, rfl, rfl, rfl, rfl⟩; split <;> first | rfl | omega)
set_option maxRecDepth 20000 in
theorem ct_X11_isLater {T : gT} {I : gI} {J : gJ} {O : gO} {a b c d : Int} (h0 : in32 a) (h1 : in32 b) (h2 : in32 c) (h3 : in32 d) : Ct yX11_isLater cX11_isLater 4 (some .boolean) [VI a, VI b, VI c, VI d] 0 0 0 0 T I J O (pv (some (VI (if c < a ∨ (a = c ∧ d < b) then 1 else 0))) T I J O) := by
  refine Ct.of (by decide) [some (VI a), some (VI b), some (VI c), some (VI d)] (gEn1 (List.forall_mem_cons.mpr ⟨cat_VI _, List.forall_mem_cons.mpr ⟨cat_VI _, List.forall_mem_cons.mpr ⟨cat_VI _, List.forall_mem_cons.mpr ⟨cat_VI _, fun _ h => nomatch h⟩⟩⟩⟩) rfl (Nat.le_of_ble_eq_true rfl) rfl) ?_
  intro X x en rm ini hr hz
  have hr0 := hr
  refine G_rg (fun hr => ?_)
  refine G_iload0 x eX11_isLater_0 ?_
  refine G_iload2 x eX11_isLater_1 ?_
  refine G_icmp_gt x eX11_isLater_2 (by first | omega | exact hr _ _ | exact hr0 _ _) (by first | omega | exact hr _ _ | exact hr0 _ _) (fun c2 => ?_) (fun c2 => ?_)
  · refine G_push x eX11_isLater_15 ?_
    refine G_goto x eX11_isLater_16 ?_
    refine G_zreturn x en eX11_isLater_20 (by omega) (by omega) ?_ ?_
    · first | exact Or.inl rfl | exact Or.inr rfl | omega
    · first | exact pv_i | (refine ⟨?_, rfl, rfl, rfl, rfl⟩; split <;> first | rfl | omega)
  · refine G_iload0 x eX11_isLater_5 ?_
    refine G_iload2 x eX11_isLater_6 ?_
    refine G_icmp_ne x eX11_isLater_7 (by first | omega | exact hr _ _ | exact hr0 _ _) (by first | omega | exact hr _ _ | exact hr0 _ _) (fun c7 => ?_) (fun c7 => ?_)
    · refine G_push x eX11_isLater_19 ?_
      refine G_zreturn x en eX11_isLater_20 (by omega) (by omega) ?_ ?_
      · first | exact Or.inl rfl | exact Or.inr rfl | omega
      · first | exact pv_i | (refine ⟨?_, rfl, rfl, rfl, rfl⟩; split <;> first | rfl | omega)
    · refine G_iload1 x eX11_isLater_10 ?_
      refine G_iload3 x eX11_isLater_11 ?_
      refine G_icmp_le x eX11_isLater_12 (by first | omega | exact hr _ _ | exact hr0 _ _) (by first | omega | exact hr _ _ | exact hr0 _ _) (fun c12 => ?_) (fun c12 => ?_)
      · refine G_push x eX11_isLater_19 ?_
        refine G_zreturn x en eX11_isLater_20 (by omega) (by omega) ?_ ?_
        · first | exact Or.inl rfl | exact Or.inr rfl | omega
        · first | exact pv_i | (refine ⟨?_, rfl, rfl, rfl, rfl⟩; split <;> first | rfl | omega)
      · refine G_push x eX11_isLater_15 ?_
        refine G_goto x eX11_isLater_16 ?_
        refine G_zreturn x en eX11_isLater_20 (by omega) (by omega) ?_ ?_
        · first | exact Or.inl rfl | exact Or.inr rfl | omega
        · first | exact pv_i | (refine ⟨?_, rfl, rfl, rfl, rfl⟩; split <;> first | rfl | omega)
set_option maxRecDepth 20000 in
theorem ct_X11_isFull {T : gT} {I : gI} {J : gJ} {O : gO} {mo : Nat} {r : Int} (hM : MoAt T O mo) (h0 : 0 ≤ r) (h1 : r < 3) : Ct yX11_isFull cX11_isFull 2 (some .boolean) [va_rf (some mo), VI r] 0 0 0 0 T I J O (pv (some (VI (if I (mo + 1) r = 40 then 1 else 0))) T I J O) := by
  refine Ct.of (by decide) [some (va_rf (some mo)), some (VI r)] (gEn1 (List.forall_mem_cons.mpr ⟨cat_VR _, List.forall_mem_cons.mpr ⟨cat_VI _, fun _ h => nomatch h⟩⟩) rfl (Nat.le_of_ble_eq_true rfl) rfl) ?_
  intro X x en rm ini hr hz
  have hr0 := hr
  refine G_rg (fun hr => ?_)
  refine G_aload0 x eX11_isFull_0 ?_
  refine G_getq x eX11_isFull_1 fX11_7 rfl rfl hM.m hM.o_s ?_
  refine G_iload1 x eX11_isFull_4 ?_
  refine G_iald x eX11_isFull_5 rfl hM.t_s (by omega) (by omega) (by omega) (fun h5 => ?_)
  refine G_push x eX11_isFull_6 ?_
  refine G_icmp_ne x eX11_isFull_8 (by first | omega | exact hr _ _ | exact hr0 _ _) (by first | omega | exact hr _ _ | exact hr0 _ _) (fun c8 => ?_) (fun c8 => ?_)
  · refine G_push x eX11_isFull_15 ?_
    refine G_zreturn x en eX11_isFull_16 (by omega) (by omega) ?_ ?_
    · first | exact Or.inl rfl | exact Or.inr rfl | omega
    · first | exact pv_i | (refine ⟨?_, rfl, rfl, rfl, rfl⟩; split <;> first | rfl | omega)
  · refine G_push x eX11_isFull_11 ?_
    refine G_goto x eX11_isFull_12 ?_
    refine G_zreturn x en eX11_isFull_16 (by omega) (by omega) ?_ ?_
    · first | exact Or.inl rfl | exact Or.inr rfl | omega
    · first | exact pv_i | (refine ⟨?_, rfl, rfl, rfl, rfl⟩; split <;> first | rfl | omega)
set_option maxRecDepth 20000 in
theorem ct_X11_kindOf {T : gT} {I : gI} {J : gJ} {O : gO} {b : Int} (h0 : b = 0 ∨ b = 1) : Ct yX11_kindOf cX11_kindOf 1 (some .int) [VI b] 0 0 0 0 T I J O (pv (some (VI b)) T I J O) := by
  refine Ct.of (by decide) [some (VI b)] (gEn1 (List.forall_mem_cons.mpr ⟨cat_VI _, fun _ h => nomatch h⟩) rfl (Nat.le_of_ble_eq_true rfl) rfl) ?_
  intro X x en rm ini hr hz
  have hr0 := hr
  refine G_rg (fun hr => ?_)
  refine G_iload0 x eX11_kindOf_0 ?_
  refine G_if_eq x eX11_kindOf_1 (by first | omega | exact hr _ _ | exact hr0 _ _) (fun c1 => ?_) (fun c1 => ?_)
  · refine G_push x eX11_kindOf_8 ?_
    refine G_ireturn x en eX11_kindOf_9 (by omega) (by omega) ?_
    refine ⟨?_, rfl, rfl, rfl, rfl⟩; rcases h0 with rfl | rfl <;> first | rfl | omega
  · refine G_push x eX11_kindOf_4 ?_
    refine G_goto x eX11_kindOf_5 ?_
    refine G_ireturn x en eX11_kindOf_9 (by omega) (by omega) ?_
    refine ⟨?_, rfl, rfl, rfl, rfl⟩; rcases h0 with rfl | rfl <;> first | rfl | omega
set_option maxRecDepth 20000 in
theorem ct_X11_least {T : gT} {I : gI} {J : gJ} {O : gO} {a b : Int} (h0 : in32 a) (h1 : in32 b) : Ct yX11_least cX11_least 2 (some .int) [VI a, VI b] 0 0 0 0 T I J O (pv (some (VI (min a b))) T I J O) := by
  refine Ct.of (by decide) [some (VI a), some (VI b)] (gEn1 (List.forall_mem_cons.mpr ⟨cat_VI _, List.forall_mem_cons.mpr ⟨cat_VI _, fun _ h => nomatch h⟩⟩) rfl (Nat.le_of_ble_eq_true rfl) rfl) ?_
  intro X x en rm ini hr hz
  have hr0 := hr
  refine G_rg (fun hr => ?_)
  refine G_iload0 x eX11_least_0 ?_
  refine G_iload1 x eX11_least_1 ?_
  refine G_icmp_ge x eX11_least_2 (by first | omega | exact hr _ _ | exact hr0 _ _) (by first | omega | exact hr _ _ | exact hr0 _ _) (fun c2 => ?_) (fun c2 => ?_)
  · refine G_iload1 x eX11_least_9 ?_
    refine G_ireturn x en eX11_least_10 (by omega) (by omega) ?_
    refine ⟨?_, rfl, rfl, rfl, rfl⟩; congr 2; omega
  · refine G_iload0 x eX11_least_5 ?_
    refine G_goto x eX11_least_6 ?_
    refine G_ireturn x en eX11_least_10 (by omega) (by omega) ?_
    refine ⟨?_, rfl, rfl, rfl, rfl⟩; congr 2; omega
set_option maxRecDepth 20000 in
theorem ct_X11_greatest {T : gT} {I : gI} {J : gJ} {O : gO} {a b : Int} (h0 : in32 a) (h1 : in32 b) : Ct yX11_greatest cX11_greatest 2 (some .int) [VI a, VI b] 0 0 0 0 T I J O (pv (some (VI (max a b))) T I J O) := by
  refine Ct.of (by decide) [some (VI a), some (VI b)] (gEn1 (List.forall_mem_cons.mpr ⟨cat_VI _, List.forall_mem_cons.mpr ⟨cat_VI _, fun _ h => nomatch h⟩⟩) rfl (Nat.le_of_ble_eq_true rfl) rfl) ?_
  intro X x en rm ini hr hz
  have hr0 := hr
  refine G_rg (fun hr => ?_)
  refine G_iload0 x eX11_greatest_0 ?_
  refine G_iload1 x eX11_greatest_1 ?_
  refine G_icmp_le x eX11_greatest_2 (by first | omega | exact hr _ _ | exact hr0 _ _) (by first | omega | exact hr _ _ | exact hr0 _ _) (fun c2 => ?_) (fun c2 => ?_)
  · refine G_iload1 x eX11_greatest_9 ?_
    refine G_ireturn x en eX11_greatest_10 (by omega) (by omega) ?_
    refine ⟨?_, rfl, rfl, rfl, rfl⟩; congr 2; omega
  · refine G_iload0 x eX11_greatest_5 ?_
    refine G_goto x eX11_greatest_6 ?_
    refine G_ireturn x en eX11_greatest_10 (by omega) (by omega) ?_
    refine ⟨?_, rfl, rfl, rfl, rfl⟩; congr 2; omega
