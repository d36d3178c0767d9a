abbrev later (a b c d : Int) : Prop := c < a ∨ (a = c ∧ d < b)
/-- an operation carried out at a replica -/
def carI (I : gI) (mo : Nat) (r id : Int) : gI :=
  if I (mo + 1) (3 + 32 * id + 0) = 4 then
    if I (mo + 1) (3843 + 270 * r + (126 + 12 * I (mo + 1) (3 + 32 * id + 3) + I (mo + 1) (3 + 32 * id + 4))) = -1 ∨ later (I (mo + 1) (3 + 32 * id + 1)) (id / 40) (I (mo + 1) (3 + 32 * I (mo + 1) (3843 + 270 * r + (126 + 12 * I (mo + 1) (3 + 32 * id + 3) + I (mo + 1) (3 + 32 * id + 4))) + 1)) (I (mo + 1) (3843 + 270 * r + (126 + 12 * I (mo + 1) (3 + 32 * id + 3) + I (mo + 1) (3 + 32 * id + 4))) / 40)
    then uI I (mo + 1) (3843 + 270 * r + (126 + 12 * I (mo + 1) (3 + 32 * id + 3) + I (mo + 1) (3 + 32 * id + 4))) id else I
  else
    if I (mo + 1) (3 + 32 * id + 0) = 3 then uI I (mo + 1) (3843 + 270 * r + 6 + 5 * (12 * I (mo + 1) (3 + 32 * id + 2) + I (mo + 1) (3 + 32 * id + 3)) + 4) 1
    else
      let a := 3843 + 270 * r + 6 + 5 * (12 * I (mo + 1) (3 + 32 * id + 2) + I (mo + 1) (3 + 32 * id + 3))
      let I1 := if I (mo + 1) (3 + 32 * id + 0) = 1 then uI I (mo + 1) (a + 3) 1 else I
      if later (I (mo + 1) (3 + 32 * id + 1)) (id / 40) (I (mo + 1) (a + 1)) (I (mo + 1) (a + 2)) then uI (uI (uI I1 (mo + 1) a (I (mo + 1) (3 + 32 * id + 4))) (mo + 1) (a + 1) (I (mo + 1) (3 + 32 * id + 1))) (mo + 1) (a + 2) (id / 40) else I1
/-- an operation whose numbers are in their bounds -/
def opOk (I : gI) (mo : Nat) (r id : Int) : Prop :=
  0 ≤ I (mo + 1) (3 + 32 * id + 3) ∧ I (mo + 1) (3 + 32 * id + 3) < 12 ∧ (I (mo + 1) (3 + 32 * id + 0) = 4 → 0 ≤ I (mo + 1) (3 + 32 * id + 4) ∧ I (mo + 1) (3 + 32 * id + 4) < 12 ∧ (-1 ≤ I (mo + 1) (3843 + 270 * r + (126 + 12 * I (mo + 1) (3 + 32 * id + 3) + I (mo + 1) (3 + 32 * id + 4))) ∧ I (mo + 1) (3843 + 270 * r + (126 + 12 * I (mo + 1) (3 + 32 * id + 3) + I (mo + 1) (3 + 32 * id + 4))) < 120)) ∧
  (I (mo + 1) (3 + 32 * id + 0) ≠ 4 → 0 ≤ I (mo + 1) (3 + 32 * id + 2) ∧ I (mo + 1) (3 + 32 * id + 2) ≤ 1)
set_option maxHeartbeats 1000000 in
set_option maxRecDepth 20000 in
theorem ct_X11_carries {T : gT} {I : gI} {J : gJ} {O : gO} {mo : Nat} {r id : Int} (hM : MoAt T O mo) (h0 : 0 ≤ r) (h1 : r < 3) (h2 : 0 ≤ id) (h3 : id < 120) (h4 : opOk I mo r id) : Ct yX11_carries cX11_carries 7 none [va_rf (some mo), VI r, VI id] 1 23 0 0 T I J O (pv none T (carI I mo r id) J O) := by
  refine Ct.of (by decide) [some (va_rf (some mo)), some (VI r), some (VI id), none, none, none, none] (gEn1 (List.forall_mem_cons.mpr ⟨cat_VR _, List.forall_mem_cons.mpr ⟨cat_VI _, List.forall_mem_cons.mpr ⟨cat_VI _, fun _ h => nomatch h⟩⟩⟩) rfl (Nat.le_of_ble_eq_true rfl) rfl) ?_
  intro X x en rm ini hr hz
  have hr0 := hr
  obtain ⟨q1, q2, q3, q4⟩ := h4
  refine G_rg (fun hr => ?_)
  refine G_aload0 x eX11_carries_0 ?_
  refine G_iload2 x eX11_carries_1 ?_
  refine G_push x eX11_carries_2 ?_
  refine G_cV x eX11_carries_3 kX11_105 im_yX11_op se_yX11_op rm hM.m (ct_X11_op hM (by omega) (by omega)) rfl ?_
  refine G_istore3 x eX11_carries_6 ?_
  refine G_iload2 x eX11_carries_7 ?_
  refine G_push x eX11_carries_8 ?_
  refine G_idivn x eX11_carries_10 (by omega) (by omega) (by omega) (by omega) ?_
  refine G_istore4 x eX11_carries_11 ?_
  refine G_aload0 x eX11_carries_13 ?_
  refine G_iload2 x eX11_carries_14 ?_
  refine G_push x eX11_carries_15 ?_
  refine G_cV x eX11_carries_16 kX11_105 im_yX11_op se_yX11_op rm hM.m (ct_X11_op hM (by omega) (by omega)) rfl ?_
  refine G_push x eX11_carries_19 ?_
  refine G_icmp_ne x eX11_carries_20 (by first | omega | exact hr _ _ | exact hr0 _ _) (by first | omega | exact hr _ _ | exact hr0 _ _) (fun c20 => ?_) (fun c20 => ?_)
  · obtain ⟨q5, q6⟩ := q4 (by omega)
    refine G_iload1 x eX11_carries_89 ?_
    refine G_push x eX11_carries_90 ?_
    refine G_aload0 x eX11_carries_92 ?_
    refine G_iload2 x eX11_carries_93 ?_
    refine G_push x eX11_carries_94 ?_
    refine G_cV x eX11_carries_95 kX11_105 im_yX11_op se_yX11_op rm hM.m (ct_X11_op hM (by omega) (by omega)) rfl ?_
    refine G_imul x eX11_carries_98 ?_
    refine G_aload0 x eX11_carries_99 ?_
    refine G_iload2 x eX11_carries_100 ?_
    refine G_push x eX11_carries_101 ?_
    refine G_cV x eX11_carries_102 kX11_105 im_yX11_op se_yX11_op rm hM.m (ct_X11_op hM (by omega) (by omega)) rfl ?_
    refine G_iadd x eX11_carries_105 ?_
    refine G_cS x eX11_carries_106 kX11_72 sm_yX11_lineAt rm ct_X11_lineAt rfl ?_
    refine G_istore5 x eX11_carries_109 ?_
    refine G_aload0 x eX11_carries_111 ?_
    refine G_iload2 x eX11_carries_112 ?_
    refine G_push x eX11_carries_113 ?_
    refine G_cV x eX11_carries_114 kX11_105 im_yX11_op se_yX11_op rm hM.m (ct_X11_op hM (by omega) (by omega)) rfl ?_
    refine G_push x eX11_carries_117 ?_
    refine G_icmp_ne x eX11_carries_118 (by first | omega | exact hr _ _ | exact hr0 _ _) (by first | omega | exact hr _ _ | exact hr0 _ _) (fun c118 => ?_) (fun c118 => ?_)
    · refine G_aload0 x eX11_carries_132 ?_
      refine G_iload2 x eX11_carries_133 ?_
      refine G_push x eX11_carries_134 ?_
      refine G_cV x eX11_carries_135 kX11_105 im_yX11_op se_yX11_op rm hM.m (ct_X11_op hM (by omega) (by omega)) rfl ?_
      refine G_push x eX11_carries_138 ?_
      refine G_icmp_ne x eX11_carries_139 (by first | omega | exact hr _ _ | exact hr0 _ _) (by first | omega | exact hr _ _ | exact hr0 _ _) (fun c139 => ?_) (fun c139 => ?_)
      · refine G_iload3 x eX11_carries_152 ?_
        refine G_iload4 x eX11_carries_153 ?_
        refine G_aload0 x eX11_carries_155 ?_
        refine G_getq x eX11_carries_156 fX11_7 rfl rfl hM.m hM.o_s ?_
        refine G_iload5 x eX11_carries_159 ?_
        refine G_push x eX11_carries_161 ?_
        refine G_iadd x eX11_carries_162 ?_
        refine G_iald x eX11_carries_163 rfl hM.t_s (by omega) (by omega) (by omega) (fun h163 => ?_)
        refine G_aload0 x eX11_carries_164 ?_
        refine G_getq x eX11_carries_165 fX11_7 rfl rfl hM.m hM.o_s ?_
        refine G_iload5 x eX11_carries_168 ?_
        refine G_push x eX11_carries_170 ?_
        refine G_iadd x eX11_carries_171 ?_
        refine G_iald x eX11_carries_172 rfl hM.t_s (by omega) (by omega) (by omega) (fun h172 => ?_)
        refine G_cS x eX11_carries_173 kX11_111 sm_yX11_isLater rm (ct_X11_isLater (by first | omega | exact hr _ _ | exact hr0 _ _) (by first | omega | exact hr _ _ | exact hr0 _ _) (by first | omega | exact hr _ _ | exact hr0 _ _) (by first | omega | exact hr _ _ | exact hr0 _ _)) rfl ?_
        refine G_ifb_eq x eX11_carries_176 (fun c176 => ?_) (fun c176 => ?_)
        · refine G_return x en eX11_carries_215 (by omega) (by omega) ?_
          refine ⟨rfl, rfl, ?_, rfl, rfl⟩; simp only [carI]; (repeat' split) <;> first | rfl | (exfalso; omega) | rw [v4]
        · refine G_aload0 x eX11_carries_179 ?_
          refine G_getq x eX11_carries_180 fX11_7 rfl rfl hM.m hM.o_s ?_
          refine G_iload5 x eX11_carries_183 ?_
          refine G_push x eX11_carries_185 ?_
          refine G_iadd0 x eX11_carries_186 ?_
          refine G_aload0 x eX11_carries_187 ?_
          refine G_iload2 x eX11_carries_188 ?_
          refine G_push x eX11_carries_189 ?_
          refine G_cV x eX11_carries_190 kX11_105 im_yX11_op se_yX11_op rm hM.m (ct_X11_op hM (by omega) (by omega)) rfl ?_
          refine G_iast x eX11_carries_193 rfl hM.t_s (by omega) (by omega) (by omega) (by first | omega | exact hr _ _ | exact hr0 _ _) ?_
          refine G_rg (fun hr => ?_)
          refine G_aload0 x eX11_carries_194 ?_
          refine G_getq x eX11_carries_195 fX11_7 rfl rfl hM.m hM.o_s ?_
          refine G_iload5 x eX11_carries_198 ?_
          refine G_push x eX11_carries_200 ?_
          refine G_iadd x eX11_carries_201 ?_
          refine G_iload3 x eX11_carries_202 ?_
          refine G_iast x eX11_carries_203 rfl hM.t_s (by omega) (by omega) (by omega) (by first | omega | exact hr _ _ | exact hr0 _ _) ?_
          refine G_rg (fun hr => ?_)
          refine G_aload0 x eX11_carries_204 ?_
          refine G_getq x eX11_carries_205 fX11_7 rfl rfl hM.m hM.o_s ?_
          refine G_iload5 x eX11_carries_208 ?_
          refine G_push x eX11_carries_210 ?_
          refine G_iadd x eX11_carries_211 ?_
          refine G_iload4 x eX11_carries_212 ?_
          refine G_iast x eX11_carries_214 rfl hM.t_s (by omega) (by omega) (by omega) (by first | omega | exact hr _ _ | exact hr0 _ _) ?_
          refine G_rg (fun hr => ?_)
          refine G_return x en eX11_carries_215 (by omega) (by omega) ?_
          refine ⟨rfl, rfl, ?_, rfl, rfl⟩; simp only [carI]; (repeat' split) <;> first | rfl | (exfalso; omega) | rw [v4]
      · have v1 : uI I (mo + 1) (3843 + 270 * r + 6 + 5 * (12 * I (mo + 1) (3 + 32 * id + 2) + I (mo + 1) (3 + 32 * id + 3)) + 3) 1 (mo + 1) (3843 + 270 * r + 6 + 5 * (12 * I (mo + 1) (3 + 32 * id + 2) + I (mo + 1) (3 + 32 * id + 3)) + 1) = I (mo + 1) (3843 + 270 * r + 6 + 5 * (12 * I (mo + 1) (3 + 32 * id + 2) + I (mo + 1) (3 + 32 * id + 3)) + 1) := uI_k (by omega)
        have v2 : uI I (mo + 1) (3843 + 270 * r + 6 + 5 * (12 * I (mo + 1) (3 + 32 * id + 2) + I (mo + 1) (3 + 32 * id + 3)) + 3) 1 (mo + 1) (3843 + 270 * r + 6 + 5 * (12 * I (mo + 1) (3 + 32 * id + 2) + I (mo + 1) (3 + 32 * id + 3)) + 2) = I (mo + 1) (3843 + 270 * r + 6 + 5 * (12 * I (mo + 1) (3 + 32 * id + 2) + I (mo + 1) (3 + 32 * id + 3)) + 2) := uI_k (by omega)
        have v4 : uI I (mo + 1) (3843 + 270 * r + 6 + 5 * (12 * I (mo + 1) (3 + 32 * id + 2) + I (mo + 1) (3 + 32 * id + 3)) + 3) 1 (mo + 1) (3 + 32 * id + 4) = I (mo + 1) (3 + 32 * id + 4) := uI_k (by omega)
        refine G_aload0 x eX11_carries_142 ?_
        refine G_getq x eX11_carries_143 fX11_7 rfl rfl hM.m hM.o_s ?_
        refine G_iload5 x eX11_carries_146 ?_
        refine G_push x eX11_carries_148 ?_
        refine G_iadd x eX11_carries_149 ?_
        refine G_push x eX11_carries_150 ?_
        refine G_iast x eX11_carries_151 rfl hM.t_s (by omega) (by omega) (by omega) (by first | omega | exact hr _ _ | exact hr0 _ _) ?_
        refine G_rg (fun hr => ?_)
        refine G_iload3 x eX11_carries_152 ?_
        refine G_iload4 x eX11_carries_153 ?_
        refine G_aload0 x eX11_carries_155 ?_
        refine G_getq x eX11_carries_156 fX11_7 rfl rfl hM.m hM.o_s ?_
        refine G_iload5 x eX11_carries_159 ?_
        refine G_push x eX11_carries_161 ?_
        refine G_iadd x eX11_carries_162 ?_
        refine G_iald x eX11_carries_163 rfl hM.t_s (by omega) (by omega) (by omega) (fun h163 => ?_)
        refine G_aload0 x eX11_carries_164 ?_
        refine G_getq x eX11_carries_165 fX11_7 rfl rfl hM.m hM.o_s ?_
        refine G_iload5 x eX11_carries_168 ?_
        refine G_push x eX11_carries_170 ?_
        refine G_iadd x eX11_carries_171 ?_
        refine G_iald x eX11_carries_172 rfl hM.t_s (by omega) (by omega) (by omega) (fun h172 => ?_)
        refine G_cS x eX11_carries_173 kX11_111 sm_yX11_isLater rm (ct_X11_isLater (by first | omega | exact hr _ _ | exact hr0 _ _) (by first | omega | exact hr _ _ | exact hr0 _ _) (by first | omega | exact hr _ _ | exact hr0 _ _) (by first | omega | exact hr _ _ | exact hr0 _ _)) rfl ?_
        refine G_ifb_eq x eX11_carries_176 (fun c176 => ?_) (fun c176 => ?_)
        · refine G_return x en eX11_carries_215 (by omega) (by omega) ?_
          refine ⟨rfl, rfl, ?_, rfl, rfl⟩; simp only [carI]; (repeat' split) <;> first | rfl | (exfalso; omega) | rw [v4]
        · refine G_aload0 x eX11_carries_179 ?_
          refine G_getq x eX11_carries_180 fX11_7 rfl rfl hM.m hM.o_s ?_
          refine G_iload5 x eX11_carries_183 ?_
          refine G_push x eX11_carries_185 ?_
          refine G_iadd0 x eX11_carries_186 ?_
          refine G_aload0 x eX11_carries_187 ?_
          refine G_iload2 x eX11_carries_188 ?_
          refine G_push x eX11_carries_189 ?_
          refine G_cV x eX11_carries_190 kX11_105 im_yX11_op se_yX11_op rm hM.m (ct_X11_op hM (by omega) (by omega)) rfl ?_
          refine G_iast x eX11_carries_193 rfl hM.t_s (by omega) (by omega) (by omega) (by first | omega | exact hr _ _ | exact hr0 _ _) ?_
          refine G_rg (fun hr => ?_)
          refine G_aload0 x eX11_carries_194 ?_
          refine G_getq x eX11_carries_195 fX11_7 rfl rfl hM.m hM.o_s ?_
          refine G_iload5 x eX11_carries_198 ?_
          refine G_push x eX11_carries_200 ?_
          refine G_iadd x eX11_carries_201 ?_
          refine G_iload3 x eX11_carries_202 ?_
          refine G_iast x eX11_carries_203 rfl hM.t_s (by omega) (by omega) (by omega) (by first | omega | exact hr _ _ | exact hr0 _ _) ?_
          refine G_rg (fun hr => ?_)
          refine G_aload0 x eX11_carries_204 ?_
          refine G_getq x eX11_carries_205 fX11_7 rfl rfl hM.m hM.o_s ?_
          refine G_iload5 x eX11_carries_208 ?_
          refine G_push x eX11_carries_210 ?_
          refine G_iadd x eX11_carries_211 ?_
          refine G_iload4 x eX11_carries_212 ?_
          refine G_iast x eX11_carries_214 rfl hM.t_s (by omega) (by omega) (by omega) (by first | omega | exact hr _ _ | exact hr0 _ _) ?_
          refine G_rg (fun hr => ?_)
          refine G_return x en eX11_carries_215 (by omega) (by omega) ?_
          refine ⟨rfl, rfl, ?_, rfl, rfl⟩; simp only [carI]; (repeat' split) <;> first | rfl | (exfalso; omega) | rw [v4]
    · refine G_aload0 x eX11_carries_121 ?_
      refine G_getq x eX11_carries_122 fX11_7 rfl rfl hM.m hM.o_s ?_
      refine G_iload5 x eX11_carries_125 ?_
      refine G_push x eX11_carries_127 ?_
      refine G_iadd x eX11_carries_128 ?_
      refine G_push x eX11_carries_129 ?_
      refine G_iast x eX11_carries_130 rfl hM.t_s (by omega) (by omega) (by omega) (by first | omega | exact hr _ _ | exact hr0 _ _) ?_
      refine G_rg (fun hr => ?_)
      refine G_return x en eX11_carries_131 (by omega) (by omega) ?_
      refine ⟨rfl, rfl, ?_, rfl, rfl⟩; simp only [carI]; (repeat' split) <;> first | rfl | (exfalso; omega) | rw [v4]
  · obtain ⟨q5, q6, q7, q8⟩ := q3 (by omega)
    refine G_push x eX11_carries_23 ?_
    refine G_push x eX11_carries_25 ?_
    refine G_aload0 x eX11_carries_27 ?_
    refine G_iload2 x eX11_carries_28 ?_
    refine G_push x eX11_carries_29 ?_
    refine G_cV x eX11_carries_30 kX11_105 im_yX11_op se_yX11_op rm hM.m (ct_X11_op hM (by omega) (by omega)) rfl ?_
    refine G_imul x eX11_carries_33 ?_
    refine G_iadd x eX11_carries_34 ?_
    refine G_aload0 x eX11_carries_35 ?_
    refine G_iload2 x eX11_carries_36 ?_
    refine G_push x eX11_carries_37 ?_
    refine G_cV x eX11_carries_38 kX11_105 im_yX11_op se_yX11_op rm hM.m (ct_X11_op hM (by omega) (by omega)) rfl ?_
    refine G_iadd x eX11_carries_41 ?_
    refine G_istore5 x eX11_carries_42 ?_
    refine G_aload0 x eX11_carries_44 ?_
    refine G_iload1 x eX11_carries_45 ?_
    refine G_iload5 x eX11_carries_46 ?_
    refine G_cV x eX11_carries_48 kX11_108 im_yX11_of se_yX11_of rm hM.m (ct_X11_of hM (by omega) (by omega)) rfl ?_
    refine G_istore6 x eX11_carries_51 ?_
    refine G_iload6 x eX11_carries_53 ?_
    refine G_push x eX11_carries_55 ?_
    refine G_icmp_eq x eX11_carries_56 (by first | omega | exact hr _ _ | exact hr0 _ _) (by first | omega | exact hr _ _ | exact hr0 _ _) (fun c56 => ?_) (fun c56 => ?_)
    · refine G_aload0 x eX11_carries_80 ?_
      refine G_iload1 x eX11_carries_81 ?_
      refine G_iload5 x eX11_carries_82 ?_
      refine G_iload2 x eX11_carries_84 ?_
      refine G_cVv x eX11_carries_85 kX11_115 im_yX11_puts se_yX11_puts rm hM.m (ct_X11_puts hM (by omega) (by omega) (by first | omega | exact hr _ _ | exact hr0 _ _)) rfl ?_
      refine G_rg (fun hr => ?_)
      refine G_return x en eX11_carries_88 (by omega) (by omega) ?_
      refine ⟨rfl, rfl, ?_, rfl, rfl⟩; simp only [carI]; (repeat' split) <;> first | rfl | (exfalso; omega) | rw [v4]
    · refine G_iload3 x eX11_carries_59 ?_
      refine G_iload4 x eX11_carries_60 ?_
      refine G_aload0 x eX11_carries_62 ?_
      refine G_iload6 x eX11_carries_63 ?_
      refine G_push x eX11_carries_65 ?_
      refine G_cV x eX11_carries_66 kX11_105 im_yX11_op se_yX11_op rm hM.m (ct_X11_op hM (by omega) (by omega)) rfl ?_
      refine G_iload6 x eX11_carries_69 ?_
      refine G_push x eX11_carries_71 ?_
      refine G_idivn x eX11_carries_73 (by omega) (by omega) (by omega) (by omega) ?_
      refine G_cS x eX11_carries_74 kX11_111 sm_yX11_isLater rm (ct_X11_isLater (by first | omega | exact hr _ _ | exact hr0 _ _) (by first | omega | exact hr _ _ | exact hr0 _ _) (by first | omega | exact hr _ _ | exact hr0 _ _) (by first | omega | exact hr _ _ | exact hr0 _ _)) rfl ?_
      refine G_ifb_eq x eX11_carries_77 (fun c77 => ?_) (fun c77 => ?_)
      · refine G_return x en eX11_carries_88 (by omega) (by omega) ?_
        refine ⟨rfl, rfl, ?_, rfl, rfl⟩; simp only [carI]; (repeat' split) <;> first | rfl | (exfalso; omega) | rw [v4]
      · refine G_aload0 x eX11_carries_80 ?_
        refine G_iload1 x eX11_carries_81 ?_
        refine G_iload5 x eX11_carries_82 ?_
        refine G_iload2 x eX11_carries_84 ?_
        refine G_cVv x eX11_carries_85 kX11_115 im_yX11_puts se_yX11_puts rm hM.m (ct_X11_puts hM (by omega) (by omega) (by first | omega | exact hr _ _ | exact hr0 _ _)) rfl ?_
        refine G_rg (fun hr => ?_)
        refine G_return x en eX11_carries_88 (by omega) (by omega) ?_
        refine ⟨rfl, rfl, ?_, rfl, rfl⟩; simp only [carI]; (repeat' split) <;> first | rfl | (exfalso; omega) | rw [v4]
