/-! two replicas held against each other -/
noncomputable def pcS (S : Int → Int) (r k : Int) : Int64 :=
  if k = 0 then Int64.ofInt (rwN S r 0 (-1)) else if k = 1 then Int64.ofInt (rwN S r 1 (-1))
  else if k < 14 then (if k - 2 < rwN S r 0 (-1) then Int64.ofInt (rwF S r 0 (-1) (k - 2)) else 0)
  else if k < 26 then (if k - 14 < rwN S r 1 (-1) then Int64.ofInt (rwF S r 1 (-1) (k - 14)) else 0)
  else if (k - 26) / 4 / 12 < rwN S r 0 (-1) ∧ (k - 26) / 4 % 12 < rwN S r 1 (-1) then
    (if (k - 26) % 4 = 0 then Int64.ofInt (tlS S r ((k - 26) / 4) 0) else if (k - 26) % 4 = 1 then Int64.ofInt (tlS S r ((k - 26) / 4) 3) else if (k - 26) % 4 = 2 then (vlP S r).1 ((k - 26) / 4) else Int64.ofInt ((vlP S r).2 ((k - 26) / 4)))
  else 0
theorem pc_0 {S : Int → Int} {r : Int} : pcS S r 0 = Int64.ofInt (rwN S r 0 (-1)) := if_pos rfl
theorem pc_1 {S : Int → Int} {r : Int} : pcS S r 1 = Int64.ofInt (rwN S r 1 (-1)) := by unfold pcS; rw [if_neg (by decide), if_pos rfl]
theorem pc_r {S : Int → Int} {r k : Int} (h0 : 0 ≤ k) (h1 : k < 12) : pcS S r (2 + k) = if k < rwN S r 0 (-1) then Int64.ofInt (rwF S r 0 (-1) k) else 0 := by
  unfold pcS
  rw [if_neg (by omega), if_neg (by omega), if_pos (by omega), show 2 + k - 2 = k by omega]
theorem pc_c {S : Int → Int} {r k : Int} (h0 : 0 ≤ k) (h1 : k < 12) : pcS S r (14 + k) = if k < rwN S r 1 (-1) then Int64.ofInt (rwF S r 1 (-1) k) else 0 := by
  unfold pcS
  rw [if_neg (by omega), if_neg (by omega), if_neg (by omega), if_pos (by omega), show 14 + k - 14 = k by omega]
theorem pc_n {S : Int → Int} {r c k : Int} (h0 : 0 ≤ c) (h : ¬ inC S r c) (h1 : 26 + 4 * c ≤ k) (h2 : k < 30 + 4 * c) : pcS S r k = 0 := by
  unfold pcS
  rw [if_neg (by omega), if_neg (by omega), if_neg (by omega), if_neg (by omega), show (k - 26) / 4 = c by omega, if_neg (fun z => h ⟨h0, z.1, z.2⟩)]
theorem pc_y {S : Int → Int} {r c : Int} (h : inC S r c) : pcS S r (26 + 4 * c) = Int64.ofInt (tlS S r c 0) ∧ pcS S r (27 + 4 * c) = Int64.ofInt (tlS S r c 3) ∧ pcS S r (28 + 4 * c) = (vlP S r).1 c ∧ pcS S r (29 + 4 * c) = Int64.ofInt ((vlP S r).2 c) := by
  have := h.1
  unfold pcS
  refine ⟨?_, ?_, ?_, ?_⟩
  · rw [if_neg (by omega), if_neg (by omega), if_neg (by omega), if_neg (by omega), show (26 + 4 * c - 26) / 4 = c by omega, if_pos h.2, if_pos (by omega)]
  · rw [if_neg (by omega), if_neg (by omega), if_neg (by omega), if_neg (by omega), show (27 + 4 * c - 26) / 4 = c by omega, if_pos h.2, if_neg (by omega), if_pos (by omega)]
  · rw [if_neg (by omega), if_neg (by omega), if_neg (by omega), if_neg (by omega), show (28 + 4 * c - 26) / 4 = c by omega, if_pos h.2, if_neg (by omega), if_neg (by omega), if_pos (by omega)]
  · rw [if_neg (by omega), if_neg (by omega), if_neg (by omega), if_neg (by omega), show (29 + 4 * c - 26) / 4 = c by omega, if_pos h.2, if_neg (by omega), if_neg (by omega), if_neg (by omega)]
/-- the picture, under way -/
def pcI (J1 : gJ) (mo : Nat) (S : Int → Int) (r x y z : Int) : Prop := ∀ k, 0 ≤ k → k < 604 → J1 (mo + 19) k = if k < 2 ∨ (2 ≤ k ∧ k < 2 + x) ∨ (14 ≤ k ∧ k < 14 + y) ∨ (26 ≤ k ∧ k < 26 + 4 * z) then pcS S r k else 0
def pcP (T : gT) (I : gI) (J : gJ) (O : gO) (mo : Nat) (r : Int) : gP := fun v T' I' J' O' => v = none ∧ T' = T ∧ O' = O ∧ gFr I I' mo ∧ (∀ b j, b ≠ mo + 11 → b ≠ mo + 19 → (b ≠ mo ∨ j ≠ 26) → J' b j = J b j) ∧ (∀ k, 0 ≤ k → k < 604 → J' (mo + 19) k = pcS (I (mo + 1)) r k) ∧ ∀ c, inC (I (mo + 1)) r c → in32 ((vlP (I (mo + 1)) r).2 c)
set_option maxHeartbeats 8000000 in
set_option maxRecDepth 20000 in
theorem ct_X11_pictures {T : gT} {I : gI} {J : gJ} {O : gO} {mo : Nat} {r : Int} (hM : MoAt T O mo) (h0 : 0 ≤ r) (h1 : r ≤ 2) (hf : fmOk (I (mo + 1)) r) : Ct yX11_pictures cX11_pictures 3 none [va_rf (some mo), VI r] 6 140 0 0 T I J O (pcP T I J O mo r) := by
  refine Ct.of (by decide) [some (va_rf (some mo)), some (VI r), none] (gEn1 (List.forall_mem_cons.mpr ⟨cat_VR _, List.forall_mem_cons.mpr ⟨cat_VI _, fun _ h => nomatch h⟩⟩) rfl (Nat.le_of_ble_eq_true rfl) rfl) ?_
  intro X x en rm ini hr hz
  have hr0 := hr
  generalize hS : I (mo + 1) = S at *
  have hrS : ∀ (j : Int), in32 (S j) := fun j => by rw [← hS]; exact hr _ _
  have b1 := rwB S r 0 (-1)
  have b2 := rwB S r 1 (-1)
  refine G_aload0 x eX11_pictures_0 ?_
  refine G_iload1 x eX11_pictures_1 ?_
  refine G_cVg x eX11_pictures_2 kX11_266 im_yX11_works se_yX11_works rm hM.m (ct_X11_works hM h0 h1 (by rw [hS]; exact hf)) rfl (fun v2 T2 I2 J2 O2 p2 => ?_)
  refine G_rg (fun hr => ?_)
  obtain ⟨q1, q2, q3, q4, q5, q6, q7⟩ := p2
  subst q1
  subst q2
  subst q3
  rw [hS] at q6 q7
  have hv := vl_eq hf q7
  have he32 : ∀ c, inC S r c → in32 ((vlP S r).2 c) := fun c hc => by rw [← (hv c hc).2]; exact hr _ _
  have e9 := q6.1.2.1
  have e10 := q6.1.2.2.1
  have cells : ∀ (d : Nat) (c : Int) (J1 : gJ), d = (144 - c).toNat → 0 ≤ c → c ≤ 144 → (∀ b j, b ≠ mo + 19 → J1 b j = J2 b j) → pcI J1 mo S r 12 12 c → G X 114 [some (va_rf (some mo)), some (VI r), some (VI c)] [] T2 I2 J1 O2 0 0 := by
    intro d
    induction d using Nat.strongRecOn with
    | ind d ih =>
    intro c J1 hd c0 c1 hJ hP
    have skip : c < 144 → ¬ inC S r c → G X 114 [some (va_rf (some mo)), some (VI r), some (VI (c + 1))] [] T2 I2 J1 O2 0 0 := fun hc z => ih _ (by omega) _ _ rfl (by omega) (by omega) hJ (fun k k0 k1 => by
      rw [hP k k0 k1]
      by_cases e : 26 + 4 * c ≤ k ∧ k < 30 + 4 * c
      · rw [if_neg (by omega), if_pos (by omega), pc_n c0 z e.1 e.2]
      · by_cases e2 : k < 2 ∨ (2 ≤ k ∧ k < 2 + 12) ∨ (14 ≤ k ∧ k < 14 + 12) ∨ (26 ≤ k ∧ k < 26 + 4 * c)
        · rw [if_pos e2, if_pos (by omega)]
        · rw [if_neg e2, if_neg (by omega)])
    refine G_iload2 x eX11_pictures_114 ?_
    refine G_push x eX11_pictures_115 ?_
    refine G_icmp_ge x eX11_pictures_118 (by first | omega | exact hr _ _ | exact hr0 _ _ | exact hrS _) (by first | omega | exact hr _ _ | exact hr0 _ _ | exact hrS _) (fun c118 => ?_) (fun c118 => ?_)
    · refine G_rg (fun hr => ?_)
      refine G_return x en eX11_pictures_222 (by omega) (by omega) ?_
      refine ⟨rfl, rfl, rfl, q4, fun b j z1 z2 z3 => (by rw [hJ b j z2]; exact q5 b j z1 z3), fun k k0 k1 => ?_, by rw [hS]; exact he32⟩; rw [hP k k0 k1, hS]; by_cases e : k < 602; { rw [if_pos (by omega)] }; { rw [if_neg (by omega), pc_n (c := 144) (by omega) (fun z => by have := z.2.1; omega) (by omega) (by omega)] }
    · refine G_iload2 x eX11_pictures_121 ?_
      refine G_push x eX11_pictures_122 ?_
      refine G_idivn x eX11_pictures_124 (by omega) (by omega) (by omega) (by omega) ?_
      refine G_aload0 x eX11_pictures_125 ?_
      refine G_geti x eX11_pictures_126 fX11_99 rfl rfl hM.m (fun h126 => ?_)
      rw [e9]
      refine G_icmp_ge x eX11_pictures_129 (by first | omega | exact hr _ _ | exact hr0 _ _ | exact hrS _) (by first | omega | exact hr _ _ | exact hr0 _ _ | exact hrS _) (fun c129 => ?_) (fun c129 => ?_)
      · refine G_rg (fun hr => ?_)
        refine G_iinc2 x eX11_pictures_216 ?_
        refine G_goto x eX11_pictures_219 ?_
        exact skip (by omega) (fun z => by have := z.2.1; omega)
      · refine G_iload2 x eX11_pictures_132 ?_
        refine G_push x eX11_pictures_133 ?_
        refine G_iremn x eX11_pictures_135 (by omega) (by omega) (by omega) (by omega) ?_
        refine G_aload0 x eX11_pictures_136 ?_
        refine G_geti x eX11_pictures_137 fX11_102 rfl rfl hM.m (fun h137 => ?_)
        rw [e10]
        refine G_icmp_ge x eX11_pictures_140 (by first | omega | exact hr _ _ | exact hr0 _ _ | exact hrS _) (by first | omega | exact hr _ _ | exact hr0 _ _ | exact hrS _) (fun c140 => ?_) (fun c140 => ?_)
        · refine G_rg (fun hr => ?_)
          refine G_iinc2 x eX11_pictures_216 ?_
          refine G_goto x eX11_pictures_219 ?_
          exact skip (by omega) (fun z => by have := z.2.2; omega)
        · have hc : inC S r c := ⟨c0, by omega, by omega⟩
          have hp4 := pc_y hc
          have ht := fun w => tlS_32 (w := w) hrS hf hc
          refine G_aload0 x eX11_pictures_143 ?_
          refine G_getq x eX11_pictures_144 fX11_66 rfl rfl hM.m hM.o_picture ?_
          refine G_push x eX11_pictures_147 ?_
          refine G_push x eX11_pictures_149 ?_
          refine G_iload2 x eX11_pictures_150 ?_
          refine G_imul x eX11_pictures_151 ?_
          refine G_iadd x eX11_pictures_152 ?_
          refine G_aload0 x eX11_pictures_153 ?_
          refine G_iload1 x eX11_pictures_154 ?_
          refine G_iload2 x eX11_pictures_155 ?_
          refine G_push x eX11_pictures_156 ?_
          refine G_cV x eX11_pictures_157 kX11_263 im_yX11_told se_yX11_told rm hM.m (ct_X11_told hM q6 hf h0 h1 hc (by omega) (by omega)) rfl ?_
          refine G_i2l x eX11_pictures_160 (ht _) ?_
          refine G_last x eX11_pictures_161 rfl hM.t_picture (by omega) (by omega) (by omega) ?_
          refine G_aload0 x eX11_pictures_162 ?_
          refine G_getq x eX11_pictures_163 fX11_66 rfl rfl hM.m hM.o_picture ?_
          refine G_push x eX11_pictures_166 ?_
          refine G_push x eX11_pictures_168 ?_
          refine G_iload2 x eX11_pictures_169 ?_
          refine G_imul x eX11_pictures_170 ?_
          refine G_iadd x eX11_pictures_171 ?_
          refine G_aload0 x eX11_pictures_172 ?_
          refine G_iload1 x eX11_pictures_173 ?_
          refine G_iload2 x eX11_pictures_174 ?_
          refine G_push x eX11_pictures_175 ?_
          refine G_cV x eX11_pictures_176 kX11_263 im_yX11_told se_yX11_told rm hM.m (ct_X11_told hM q6 hf h0 h1 hc (by omega) (by omega)) rfl ?_
          refine G_i2l x eX11_pictures_179 (ht _) ?_
          refine G_last x eX11_pictures_180 rfl hM.t_picture (by omega) (by omega) (by omega) ?_
          refine G_aload0 x eX11_pictures_181 ?_
          refine G_getq x eX11_pictures_182 fX11_66 rfl rfl hM.m hM.o_picture ?_
          refine G_push x eX11_pictures_185 ?_
          refine G_push x eX11_pictures_187 ?_
          refine G_iload2 x eX11_pictures_188 ?_
          refine G_imul x eX11_pictures_189 ?_
          refine G_iadd x eX11_pictures_190 ?_
          refine G_aload0 x eX11_pictures_191 ?_
          refine G_getq x eX11_pictures_192 fX11_40 rfl rfl hM.m hM.o_values ?_
          refine G_iload2 x eX11_pictures_195 ?_
          refine G_lald x eX11_pictures_196 rfl hM.t_values (by omega) (by omega) (by omega) ?_
          rw [uJ_a (by omega), uJ_a (by omega), hJ _ _ (by omega), (hv c hc).1]
          refine G_last x eX11_pictures_197 rfl hM.t_picture (by omega) (by omega) (by omega) ?_
          refine G_aload0 x eX11_pictures_198 ?_
          refine G_getq x eX11_pictures_199 fX11_66 rfl rfl hM.m hM.o_picture ?_
          refine G_push x eX11_pictures_202 ?_
          refine G_push x eX11_pictures_204 ?_
          refine G_iload2 x eX11_pictures_205 ?_
          refine G_imul x eX11_pictures_206 ?_
          refine G_iadd x eX11_pictures_207 ?_
          refine G_aload0 x eX11_pictures_208 ?_
          refine G_getq x eX11_pictures_209 fX11_44 rfl rfl hM.m hM.o_errors ?_
          refine G_iload2 x eX11_pictures_212 ?_
          refine G_iald x eX11_pictures_213 rfl hM.t_errors (by omega) (by omega) (by omega) (fun h213 => ?_)
          rw [(hv c hc).2] at h213 ⊢
          refine G_i2l x eX11_pictures_214 h213 ?_
          refine G_last x eX11_pictures_215 rfl hM.t_picture (by omega) (by omega) (by omega) ?_
          rw [← hp4.1, ← hp4.2.1, ← hp4.2.2.1, ← hp4.2.2.2]
          have nx : G X 114 [some (va_rf (some mo)), some (VI r), some (VI (c + 1))] [] T2 I2 (uJ (uJ (uJ (uJ J1 (mo + 19) (26 + 4 * c) (pcS S r (26 + 4 * c))) (mo + 19) (27 + 4 * c) (pcS S r (27 + 4 * c))) (mo + 19) (28 + 4 * c) (pcS S r (28 + 4 * c))) (mo + 19) (29 + 4 * c) (pcS S r (29 + 4 * c))) O2 0 0 := by
            refine ih _ (by omega) _ _ rfl (by omega) (by omega) (fun b j hb => by rw [uJ_a hb, uJ_a hb, uJ_a hb, uJ_a hb]; exact hJ b j hb) (fun k k0 k1 => ?_)
            by_cases e3 : k = 29 + 4 * c
            · rw [e3, uJ_s, if_pos (by omega)]
            · rw [uJ_k e3]
              by_cases e2 : k = 28 + 4 * c
              · rw [e2, uJ_s, if_pos (by omega)]
              · rw [uJ_k e2]
                by_cases e1 : k = 27 + 4 * c
                · rw [e1, uJ_s, if_pos (by omega)]
                · rw [uJ_k e1]
                  by_cases e0 : k = 26 + 4 * c
                  · rw [e0, uJ_s, if_pos (by omega)]
                  · rw [uJ_k e0, hP k k0 k1]
                    by_cases e9 : k < 2 ∨ (2 ≤ k ∧ k < 2 + 12) ∨ (14 ≤ k ∧ k < 14 + 12) ∨ (26 ≤ k ∧ k < 26 + 4 * c)
                    · rw [if_pos e9, if_pos (by omega)]
                    · rw [if_neg e9, if_neg (by omega)]
          refine G_rg (fun hr => ?_)
          refine G_iinc2 x eX11_pictures_216 ?_
          refine G_goto x eX11_pictures_219 ?_
          exact nx
  have cols : ∀ (d : Nat) (y : Int) (J1 : gJ), d = (12 - y).toNat → 0 ≤ y → y ≤ rwN S r 1 (-1) → (∀ b j, b ≠ mo + 19 → J1 b j = J2 b j) → pcI J1 mo S r 12 y 0 → G X 82 [some (va_rf (some mo)), some (VI r), some (VI y)] [] T2 I2 J1 O2 0 0 := by
    intro d
    induction d using Nat.strongRecOn with
    | ind d ih =>
    intro y J1 hd y0 y1 hJ hP
    refine G_iload2 x eX11_pictures_82 ?_
    refine G_aload0 x eX11_pictures_83 ?_
    refine G_geti x eX11_pictures_84 fX11_102 rfl rfl hM.m (fun h84 => ?_)
    rw [e10]
    refine G_icmp_ge x eX11_pictures_87 (by first | omega | exact hr _ _ | exact hr0 _ _ | exact hrS _) (by first | omega | exact hr _ _ | exact hr0 _ _ | exact hrS _) (fun c87 => ?_) (fun c87 => ?_)
    · refine G_rg (fun hr => ?_)
      refine G_push x eX11_pictures_112 ?_
      refine G_istore2 x eX11_pictures_113 ?_
      exact cells _ _ _ rfl (by omega) (by omega) hJ (fun k k0 k1 => by rw [hP k k0 k1]; by_cases e : k < 2 ∨ (2 ≤ k ∧ k < 2 + 12) ∨ (14 ≤ k ∧ k < 14 + y) ∨ (26 ≤ k ∧ k < 26 + 4 * 0); { rw [if_pos e, if_pos (by omega)] }; { rw [if_neg e]; by_cases e2 : k < 26; { obtain ⟨w, hw⟩ : ∃ w, k = 14 + w := ⟨k - 14, by omega⟩; subst hw; rw [if_pos (by omega), pc_c (by omega) (by omega), if_neg (by omega)] }; { rw [if_neg (by omega)] } })
    · have e6 := q6.1.2.2.2.2 y y0 (by omega)
      have ew : pcS S r (14 + y) = Int64.ofInt (rwF S r 1 (-1) y) := by rw [pc_c (by omega) (by omega), if_pos (by omega)]
      refine G_aload0 x eX11_pictures_90 ?_
      refine G_getq x eX11_pictures_91 fX11_66 rfl rfl hM.m hM.o_picture ?_
      refine G_push x eX11_pictures_94 ?_
      refine G_iload2 x eX11_pictures_96 ?_
      refine G_iadd x eX11_pictures_97 ?_
      refine G_aload0 x eX11_pictures_98 ?_
      refine G_getq x eX11_pictures_99 fX11_25 rfl rfl hM.m hM.o_columns ?_
      refine G_iload2 x eX11_pictures_102 ?_
      refine G_iald x eX11_pictures_103 rfl hM.t_columns (by omega) (by omega) (by omega) (fun h103 => ?_)
      rw [e6] at h103 ⊢
      refine G_i2l x eX11_pictures_104 h103 ?_
      rw [← ew]
      refine G_last x eX11_pictures_105 rfl hM.t_picture (by omega) (by omega) (by omega) ?_
      refine G_rg (fun hr => ?_)
      refine G_iinc2 x eX11_pictures_106 ?_
      refine G_goto x eX11_pictures_109 ?_
      exact ih _ (by omega) _ _ rfl (by omega) (by omega) (fun b j hb => by rw [uJ_a hb]; exact hJ b j hb) (fun k k0 k1 => by by_cases e : k = 14 + y; { rw [e, uJ_s, if_pos (by omega)] }; { rw [uJ_k e, hP k k0 k1]; by_cases e2 : k < 2 ∨ (2 ≤ k ∧ k < 2 + 12) ∨ (14 ≤ k ∧ k < 14 + y) ∨ (26 ≤ k ∧ k < 26 + 4 * 0); { rw [if_pos e2, if_pos (by omega)] }; { rw [if_neg e2, if_neg (by omega)] } })
  have rows : ∀ (d : Nat) (y : Int) (J1 : gJ), d = (12 - y).toNat → 0 ≤ y → y ≤ rwN S r 0 (-1) → (∀ b j, b ≠ mo + 19 → J1 b j = J2 b j) → pcI J1 mo S r y 0 0 → G X 51 [some (va_rf (some mo)), some (VI r), some (VI y)] [] T2 I2 J1 O2 0 0 := by
    intro d
    induction d using Nat.strongRecOn with
    | ind d ih =>
    intro y J1 hd y0 y1 hJ hP
    refine G_iload2 x eX11_pictures_51 ?_
    refine G_aload0 x eX11_pictures_52 ?_
    refine G_geti x eX11_pictures_53 fX11_99 rfl rfl hM.m (fun h53 => ?_)
    rw [e9]
    refine G_icmp_ge x eX11_pictures_56 (by first | omega | exact hr _ _ | exact hr0 _ _ | exact hrS _) (by first | omega | exact hr _ _ | exact hr0 _ _ | exact hrS _) (fun c56 => ?_) (fun c56 => ?_)
    · refine G_rg (fun hr => ?_)
      refine G_push x eX11_pictures_80 ?_
      refine G_istore2 x eX11_pictures_81 ?_
      exact cols _ _ _ rfl (by omega) (by omega) hJ (fun k k0 k1 => by rw [hP k k0 k1]; by_cases e : k < 2 ∨ (2 ≤ k ∧ k < 2 + y) ∨ (14 ≤ k ∧ k < 14 + 0) ∨ (26 ≤ k ∧ k < 26 + 4 * 0); { rw [if_pos e, if_pos (by omega)] }; { rw [if_neg e]; by_cases e2 : k < 14; { obtain ⟨w, hw⟩ : ∃ w, k = 2 + w := ⟨k - 2, by omega⟩; subst hw; rw [if_pos (by omega), pc_r (by omega) (by omega), if_neg (by omega)] }; { rw [if_neg (by omega)] } })
    · have e6 := q6.1.2.2.2.1 y y0 (by omega)
      have ew : pcS S r (2 + y) = Int64.ofInt (rwF S r 0 (-1) y) := by rw [pc_r (by omega) (by omega), if_pos (by omega)]
      refine G_aload0 x eX11_pictures_59 ?_
      refine G_getq x eX11_pictures_60 fX11_66 rfl rfl hM.m hM.o_picture ?_
      refine G_push x eX11_pictures_63 ?_
      refine G_iload2 x eX11_pictures_64 ?_
      refine G_iadd x eX11_pictures_65 ?_
      refine G_aload0 x eX11_pictures_66 ?_
      refine G_getq x eX11_pictures_67 fX11_22 rfl rfl hM.m hM.o_rows ?_
      refine G_iload2 x eX11_pictures_70 ?_
      refine G_iald x eX11_pictures_71 rfl hM.t_rows (by omega) (by omega) (by omega) (fun h71 => ?_)
      rw [e6] at h71 ⊢
      refine G_i2l x eX11_pictures_72 h71 ?_
      rw [← ew]
      refine G_last x eX11_pictures_73 rfl hM.t_picture (by omega) (by omega) (by omega) ?_
      refine G_rg (fun hr => ?_)
      refine G_iinc2 x eX11_pictures_74 ?_
      refine G_goto x eX11_pictures_77 ?_
      exact ih _ (by omega) _ _ rfl (by omega) (by omega) (fun b j hb => by rw [uJ_a hb]; exact hJ b j hb) (fun k k0 k1 => by by_cases e : k = 2 + y; { rw [e, uJ_s, if_pos (by omega)] }; { rw [uJ_k e, hP k k0 k1]; by_cases e2 : k < 2 ∨ (2 ≤ k ∧ k < 2 + y) ∨ (14 ≤ k ∧ k < 14 + 0) ∨ (26 ≤ k ∧ k < 26 + 4 * 0); { rw [if_pos e2, if_pos (by omega)] }; { rw [if_neg e2, if_neg (by omega)] } })
  have clear : ∀ (d : Nat) (y : Int) (J1 : gJ), d = (604 - y).toNat → 0 ≤ y → y ≤ 604 → (∀ b j, b ≠ mo + 19 → J1 b j = J2 b j) → (∀ k, 0 ≤ k → k < y → J1 (mo + 19) k = 0) → G X 7 [some (va_rf (some mo)), some (VI r), some (VI y)] [] T2 I2 J1 O2 0 0 := by
    intro d
    induction d using Nat.strongRecOn with
    | ind d ih =>
    intro y J1 hd y0 y1 hJ hP
    refine G_rg (fun hr => ?_)
    refine G_iload2 x eX11_pictures_7 ?_
    refine G_push x eX11_pictures_8 ?_
    refine G_icmp_ge x eX11_pictures_11 (by first | omega | exact hr _ _ | exact hr0 _ _ | exact hrS _) (by first | omega | exact hr _ _ | exact hr0 _ _ | exact hrS _) (fun c11 => ?_) (fun c11 => ?_)
    · refine G_aload0 x eX11_pictures_27 ?_
      refine G_getq x eX11_pictures_28 fX11_66 rfl rfl hM.m hM.o_picture ?_
      refine G_push x eX11_pictures_31 ?_
      refine G_aload0 x eX11_pictures_32 ?_
      refine G_geti x eX11_pictures_33 fX11_99 rfl rfl hM.m (fun h33 => ?_)
      rw [e9]
      refine G_i2l x eX11_pictures_36 (by first | omega | exact hr _ _ | exact hr0 _ _ | exact hrS _) ?_
      refine G_last x eX11_pictures_37 rfl hM.t_picture (by omega) (by omega) (by omega) ?_
      refine G_aload0 x eX11_pictures_38 ?_
      refine G_getq x eX11_pictures_39 fX11_66 rfl rfl hM.m hM.o_picture ?_
      refine G_push x eX11_pictures_42 ?_
      refine G_aload0 x eX11_pictures_43 ?_
      refine G_geti x eX11_pictures_44 fX11_102 rfl rfl hM.m (fun h44 => ?_)
      rw [e10]
      refine G_i2l x eX11_pictures_47 (by first | omega | exact hr _ _ | exact hr0 _ _ | exact hrS _) ?_
      refine G_last x eX11_pictures_48 rfl hM.t_picture (by omega) (by omega) (by omega) ?_
      refine G_push x eX11_pictures_49 ?_
      refine G_istore2 x eX11_pictures_50 ?_
      exact rows _ _ _ rfl (by omega) (by omega) (fun b j hb => by rw [uJ_a hb, uJ_a hb]; exact hJ b j hb) (fun k k0 k1 => by by_cases e : k = 1; { rw [e, uJ_s, if_pos (by omega), pc_1] }; { rw [uJ_k e]; by_cases e2 : k = 0; { rw [e2, uJ_s, if_pos (by omega), pc_0] }; { rw [uJ_k e2, if_neg (by omega)]; exact hP k k0 (by omega) } })
    · refine G_aload0 x eX11_pictures_14 ?_
      refine G_getq x eX11_pictures_15 fX11_66 rfl rfl hM.m hM.o_picture ?_
      refine G_iload2 x eX11_pictures_18 ?_
      refine G_lconst x eX11_pictures_19 ?_
      refine G_last x eX11_pictures_20 rfl hM.t_picture (by omega) (by omega) (by omega) ?_
      refine G_iinc2 x eX11_pictures_21 ?_
      refine G_goto x eX11_pictures_24 ?_
      exact ih _ (by omega) _ _ rfl (by omega) (by omega) (fun b j hb => by rw [uJ_a hb]; exact hJ b j hb) (fun k k0 k1 => by by_cases e : k = y; { rw [e, uJ_s]; rfl }; { rw [uJ_k e]; exact hP k k0 (by omega) })
  refine G_rg (fun hr => ?_)
  refine G_push x eX11_pictures_5 ?_
  refine G_istore2 x eX11_pictures_6 ?_
  exact clear _ _ _ rfl (by omega) (by omega) (fun _ _ _ => rfl) (fun k k0 k1 => by omega)
/-- two replicas show the same -/
def alK (S : Int → Int) (a b : Int) : Prop := rwN S a 0 (-1) = rwN S b 0 (-1) ∧ rwN S a 1 (-1) = rwN S b 1 (-1) ∧ (∀ i, 0 ≤ i → i < rwN S a 0 (-1) → rwF S a 0 (-1) i = rwF S b 0 (-1) i) ∧ (∀ i, 0 ≤ i → i < rwN S a 1 (-1) → rwF S a 1 (-1) i = rwF S b 1 (-1) i) ∧ ∀ c, inC S a c → (tlS S a c 0 = tlS S b c 0 ∧ tlS S a c 3 = tlS S b c 3) ∧ (vlP S a).1 c = (vlP S b).1 c ∧ (vlP S a).2 c = (vlP S b).2 c
theorem ofI_inj {a b : Int} (ha : in32 a) (hb : in32 b) (h : Int64.ofInt a = Int64.ofInt b) : a = b := by
  have := congrArg Int64.toInt h
  rw [Int64.toInt_ofInt_of_le (by have := ha.1; omega) (by have := ha.2; omega), Int64.toInt_ofInt_of_le (by have := hb.1; omega) (by have := hb.2; omega)] at this
  exact this
theorem alK_iff {S : Int → Int} {a b : Int} (hS : ∀ j, in32 (S j)) (ha : fmOk S a) (hb : fmOk S b) (hea : ∀ c, inC S a c → in32 ((vlP S a).2 c)) (heb : ∀ c, inC S b c → in32 ((vlP S b).2 c)) : (∀ k, 0 ≤ k → k < 604 → pcS S a k = pcS S b k) ↔ alK S a b := by
  have a0 := rwB S a 0 (-1)
  have a1 := rwB S a 1 (-1)
  have b0 := rwB S b 0 (-1)
  have b1 := rwB S b 1 (-1)
  constructor
  · intro h
    have n0 : rwN S a 0 (-1) = rwN S b 0 (-1) := by
      have := h 0 (by omega) (by omega)
      rw [pc_0, pc_0] at this
      exact ofI_inj (by omega) (by omega) this
    have n1 : rwN S a 1 (-1) = rwN S b 1 (-1) := by
      have := h 1 (by omega) (by omega)
      rw [pc_1, pc_1] at this
      exact ofI_inj (by omega) (by omega) this
    refine ⟨n0, n1, fun i i0 i1 => ?_, fun i i0 i1 => ?_, fun c hc => ?_⟩
    · have := h (2 + i) (by omega) (by omega)
      rw [pc_r i0 (by omega), pc_r i0 (by omega), if_pos i1, if_pos (by omega)] at this
      have q1 := rwI S (r := a) (kd := 0) (w := -1) i0 i1
      have q2 := rwI S (r := b) (kd := 0) (w := -1) (i := i) i0 (by omega)
      exact ofI_inj (by omega) (by omega) this
    · have := h (14 + i) (by omega) (by omega)
      rw [pc_c i0 (by omega), pc_c i0 (by omega), if_pos i1, if_pos (by omega)] at this
      have q1 := rwI S (r := a) (kd := 1) (w := -1) i0 i1
      have q2 := rwI S (r := b) (kd := 1) (w := -1) (i := i) i0 (by omega)
      exact ofI_inj (by omega) (by omega) this
    · have hc2 : inC S b c := ⟨hc.1, by rw [← n0]; exact hc.2.1, by rw [← n1]; exact hc.2.2⟩
      have hcb := hc.b
      have p := pc_y hc
      have q := pc_y hc2
      refine ⟨⟨ofI_inj (tlS_32 hS ha hc) (tlS_32 hS hb hc2) ?_, ofI_inj (tlS_32 hS ha hc) (tlS_32 hS hb hc2) ?_⟩, ?_, ofI_inj (hea c hc) (heb c hc2) ?_⟩
      · rw [← p.1, ← q.1]; exact h _ (by omega) (by omega)
      · rw [← p.2.1, ← q.2.1]; exact h _ (by omega) (by omega)
      · rw [← p.2.2.1, ← q.2.2.1]; exact h _ (by omega) (by omega)
      · rw [← p.2.2.2, ← q.2.2.2]; exact h _ (by omega) (by omega)
  · rintro ⟨n0, n1, h2, h3, h4⟩ k k0 k1
    unfold pcS
    rw [← n0, ← n1]
    split
    · rfl
    · split
      · rfl
      · split
        · split
          · rw [h2 _ (by omega) (by omega)]
          · rfl
        · split
          · split
            · rw [h3 _ (by omega) (by omega)]
            · rfl
          · split
            · next e =>
              have q := h4 ((k - 26) / 4) ⟨by omega, e.1, e.2⟩
              rw [q.1.1, q.1.2, q.2.1, q.2.2]
            · rfl
set_option maxRecDepth 20000 in
theorem ct_X11_areAlike {T : gT} {I : gI} {J : gJ} {O : gO} {mo : Nat} {a b : Int} (hM : MoAt T O mo) (h0 : in32 a) (h1 : in32 b) (hf : ∀ r, 0 ≤ r → r ≤ 2 → fmOk (I (mo + 1)) r) : Ct yX11_areAlike cX11_areAlike 5 (some .boolean) [va_rf (some mo), VI a, VI b] 7 162 0 0 T I J O (if (0 ≤ a ∧ a ≤ 2) ∧ 0 ≤ b ∧ b ≤ 2 then mSum T I J O mo (VI (b01 (alK (I (mo + 1)) a b))) else mSay T I J O mo 0 1) := by
  refine Ct.of (by decide) [some (va_rf (some mo)), some (VI a), some (VI b), none, none] (gEn1 (List.forall_mem_cons.mpr ⟨cat_VR _, List.forall_mem_cons.mpr ⟨cat_VI _, List.forall_mem_cons.mpr ⟨cat_VI _, fun _ h => nomatch h⟩⟩⟩) rfl (Nat.le_of_ble_eq_true rfl) rfl) ?_
  intro X x en rm ini hr hz
  have hr0 := hr
  have hrS : ∀ (j : Int), in32 (I (mo + 1) j) := fun j => hr _ _
  by_cases hab : (0 ≤ a ∧ a ≤ 2) ∧ 0 ≤ b ∧ b ≤ 2
  · rw [if_pos hab] at en
    refine G_iload1 x eX11_areAlike_0 ?_
    refine G_cS x eX11_areAlike_1 kX11_127 sm_yX11_isReplica rm (ct_X11_isReplica (by first | omega | exact hr _ _ | exact hr0 _ _)) rfl ?_
    refine G_ifb_eq x eX11_areAlike_4 (fun c4 => ?_) (fun c4 => ?_)
    · exact absurd hab.1 c4
    refine G_iload2 x eX11_areAlike_7 ?_
    refine G_cS x eX11_areAlike_8 kX11_127 sm_yX11_isReplica rm (ct_X11_isReplica (by first | omega | exact hr _ _ | exact hr0 _ _)) rfl ?_
    refine G_ifb_ne x eX11_areAlike_11 (fun c11 => ?_) (fun c11 => ?_)
    rotate_left
    · exact absurd hab.2 c11
    refine G_aload0 x eX11_areAlike_28 ?_
    refine G_push x eX11_areAlike_29 ?_
    refine G_puti x eX11_areAlike_30 fX11_76 rfl (Or.inl rfl) rfl hM.m (by first | omega | exact hr _ _ | exact hr0 _ _ | exact hrS _) ?_
    refine G_rg (fun hr => ?_)
    have e1 : (uI I mo 6 0) (mo + 1) = I (mo + 1) := funext fun j => uI_a (by omega) j
    refine G_aload0 x eX11_areAlike_33 ?_
    refine G_iload1 x eX11_areAlike_34 ?_
    refine G_cVg x eX11_areAlike_35 kX11_290 im_yX11_pictures se_yX11_pictures rm hM.m (ct_X11_pictures hM hab.1.1 hab.1.2 (by rw [e1]; exact hf a hab.1.1 hab.1.2)) rfl (fun v35 T35 I35 J35 O35 p35 => ?_)
    refine G_rg (fun hr => ?_)
    obtain ⟨q1, q2, q3, q4, q5, q6, q7⟩ := p35
    subst q1
    subst q2
    subst q3
    rw [e1] at q6 q7
    have e2 : I35 (mo + 1) = I (mo + 1) := funext fun j => by rw [q4 _ _ (by omega), e1]
    have copy : ∀ (d : Nat) (k : Int) (J1 : gJ) (o4 : Option Value), d = (604 - k).toNat → 0 ≤ k → k ≤ 604 → (∀ b j, b ≠ mo + 20 → J1 b j = J35 b j) → (∀ i, 0 ≤ i → i < k → J1 (mo + 20) i = pcS (I (mo + 1)) a i) → G X 40 [some (va_rf (some mo)), some (VI a), some (VI b), some (VI k), o4] [] T35 I35 J1 O35 0 0 := by
      intro d
      induction d using Nat.strongRecOn with
      | ind d ih =>
      intro k J1 o4 hd k0 k1 hJ hP
      refine G_iload3 x eX11_areAlike_40 ?_
      refine G_push x eX11_areAlike_41 ?_
      refine G_icmp_ge x eX11_areAlike_44 (by first | omega | exact hr _ _ | exact hr0 _ _ | exact hrS _) (by first | omega | exact hr _ _ | exact hr0 _ _ | exact hrS _) (fun c44 => ?_) (fun c44 => ?_)
      · have hkk : k = 604 := by omega
        subst hkk
        refine G_aload0 x eX11_areAlike_65 ?_
        refine G_iload2 x eX11_areAlike_66 ?_
        refine G_cVg x eX11_areAlike_67 kX11_290 im_yX11_pictures se_yX11_pictures rm hM.m (ct_X11_pictures hM hab.2.1 hab.2.2 (by rw [e2]; exact hf b hab.2.1 hab.2.2)) rfl (fun v67 T67 I67 J67 O67 p67 => ?_)
        refine G_rg (fun hr => ?_)
        obtain ⟨w1, w2, w3, w4, w5, w6, w7⟩ := p67
        subst w1
        subst w2
        subst w3
        rw [e2] at w6 w7
        have hP2 : ∀ i, 0 ≤ i → i < 604 → J67 (mo + 20) i = pcS (I (mo + 1)) a i := fun i i0 i1 => by rw [w5 _ _ (by omega) (by omega) (by omega)]; exact hP i i0 i1
        have hIff := alK_iff hrS (hf a hab.1.1 hab.1.2) (hf b hab.2.1 hab.2.2) q7 w7
        have cmp : ∀ (d : Nat) (k z : Int), d = (604 - k).toNat → 0 ≤ k → k ≤ 604 → z = b01 (∀ i, 0 ≤ i → i < k → pcS (I (mo + 1)) a i = pcS (I (mo + 1)) b i) → G X 75 [some (va_rf (some mo)), some (VI a), some (VI b), some (VI z), some (VI k)] [] T67 I67 J67 O67 0 0 := by
          intro d
          induction d using Nat.strongRecOn with
          | ind d ih2 =>
          intro k z hd k0 k1 hz
          have hzb : z = 0 ∨ z = 1 := hz ▸ b01_b
          refine G_iload4 x eX11_areAlike_75 ?_
          refine G_push x eX11_areAlike_77 ?_
          refine G_icmp_ge x eX11_areAlike_80 (by first | omega | exact hr _ _ | exact hr0 _ _ | exact hrS _) (by first | omega | exact hr _ _ | exact hr0 _ _ | exact hrS _) (fun c80 => ?_) (fun c80 => ?_)
          · have hkk : k = 604 := by omega
            subst hkk
            rw [b01_e hIff] at hz
            refine G_iload3 x eX11_areAlike_117 ?_
            rw [hz]
            refine G_zreturn x en eX11_areAlike_118 (by omega) (by omega) b01_b ?_
            refine ⟨rfl, rfl, rfl, fun c hc j => ⟨?_, ?_⟩, ?_, fun j _ _ => ?_, fun j _ _ => ?_, ?_, fun j => ?_, ?_⟩
            · rw [w4 _ _ (by omega), q4 _ _ (by omega), uI_a (by omega)]
            · rw [w5 _ _ (by omega) (by omega) (by omega), hJ _ _ (by omega), q5 _ _ (by omega) (by omega) (by omega)]
            · rw [w4 _ _ (by omega), q4 _ _ (by omega), uI_s]
            · rw [w4 _ _ (by omega), e2]
            · rw [w4 _ _ (by omega), q4 _ _ (by omega), uI_a (by omega)]
            · rw [w4 _ _ (by omega), q4 _ _ (by omega), uI_k (by omega)]
            · rw [w4 _ _ (by omega), q4 _ _ (by omega), uI_a (by omega)]
            · rw [w4 _ _ (by omega), q4 _ _ (by omega), uI_k (by omega)]
          · have ht : z = 1 → pcS (I (mo + 1)) a k = pcS (I (mo + 1)) b k → G X 75 [some (va_rf (some mo)), some (VI a), some (VI b), some (VI 1), some (VI (k + 1))] [] T67 I67 J67 O67 0 0 := fun z1 e => by
              refine ih2 _ (by omega) _ _ rfl (by omega) (by omega) (b01_t (fun i i0 i1 => ?_)).symm
              by_cases ei : i = k
              · rw [ei]; exact e
              · exact b01_1.mp (hz.symm.trans z1) i i0 (by omega)
            have hfl : (z = 0 ∨ pcS (I (mo + 1)) a k ≠ pcS (I (mo + 1)) b k) → G X 75 [some (va_rf (some mo)), some (VI a), some (VI b), some (VI 0), some (VI (k + 1))] [] T67 I67 J67 O67 0 0 := fun z1 => by
              refine ih2 _ (by omega) _ _ rfl (by omega) (by omega) (b01_f (fun w => ?_)).symm
              rcases z1 with z1 | z1
              · rw [z1, b01_t (fun i i0 i1 => w i i0 (by omega))] at hz
                omega
              · exact z1 (w k k0 (by omega))
            refine G_iload3 x eX11_areAlike_83 ?_
            refine G_if_eq x eX11_areAlike_84 (by first | omega | exact hr _ _ | exact hr0 _ _ | exact hrS _) (fun c84 => ?_) (fun c84 => ?_)
            · refine G_rg (fun hr => ?_)
              refine G_push x eX11_areAlike_109 ?_
              refine G_istore3 x eX11_areAlike_110 ?_
              refine G_iinc4 x eX11_areAlike_111 ?_
              refine G_goto x eX11_areAlike_114 ?_
              exact hfl (Or.inl (by omega))
            · refine G_aload0 x eX11_areAlike_87 ?_
              refine G_getq x eX11_areAlike_88 fX11_69 rfl rfl hM.m hM.o_first ?_
              refine G_iload4 x eX11_areAlike_91 ?_
              refine G_lald x eX11_areAlike_93 rfl hM.t_first (by omega) (by omega) (by omega) ?_
              rw [hP2 k k0 (by omega)]
              refine G_aload0 x eX11_areAlike_94 ?_
              refine G_getq x eX11_areAlike_95 fX11_66 rfl rfl hM.m hM.o_picture ?_
              refine G_iload4 x eX11_areAlike_98 ?_
              refine G_lald x eX11_areAlike_100 rfl hM.t_picture (by omega) (by omega) (by omega) ?_
              rw [w6 k k0 (by omega)]
              refine G_lcmp x eX11_areAlike_101 ?_
              refine G_if_ne x eX11_areAlike_102 lcm_b (fun c102 => ?_) (fun c102 => ?_)
              · refine G_rg (fun hr => ?_)
                refine G_push x eX11_areAlike_109 ?_
                refine G_istore3 x eX11_areAlike_110 ?_
                refine G_iinc4 x eX11_areAlike_111 ?_
                refine G_goto x eX11_areAlike_114 ?_
                exact hfl (Or.inr (fun e => c102 (lcm_0.mpr e)))
              · refine G_rg (fun hr => ?_)
                refine G_push x eX11_areAlike_105 ?_
                refine G_goto x eX11_areAlike_106 ?_
                refine G_istore3 x eX11_areAlike_110 ?_
                refine G_iinc4 x eX11_areAlike_111 ?_
                refine G_goto x eX11_areAlike_114 ?_
                exact ht (by omega) (lcm_0.mp c102)
        refine G_rg (fun hr => ?_)
        refine G_push x eX11_areAlike_70 ?_
        refine G_istore3 x eX11_areAlike_71 ?_
        refine G_push x eX11_areAlike_72 ?_
        refine G_istore4 x eX11_areAlike_73 ?_
        exact cmp _ _ _ rfl (by omega) (by omega) (b01_t (fun i i0 i1 => by omega)).symm
      · refine G_aload0 x eX11_areAlike_47 ?_
        refine G_getq x eX11_areAlike_48 fX11_69 rfl rfl hM.m hM.o_first ?_
        refine G_iload3 x eX11_areAlike_51 ?_
        refine G_aload0 x eX11_areAlike_52 ?_
        refine G_getq x eX11_areAlike_53 fX11_66 rfl rfl hM.m hM.o_picture ?_
        refine G_iload3 x eX11_areAlike_56 ?_
        refine G_lald x eX11_areAlike_57 rfl hM.t_picture (by omega) (by omega) (by omega) ?_
        rw [hJ _ _ (by omega), q6 k k0 (by omega)]
        refine G_rg (fun hr => ?_)
        refine G_last x eX11_areAlike_58 rfl hM.t_first (by omega) (by omega) (by omega) ?_
        refine G_iinc3 x eX11_areAlike_59 ?_
        refine G_goto x eX11_areAlike_62 ?_
        exact ih _ (by omega) _ _ _ rfl (by omega) (by omega) (fun b j hb => by rw [uJ_a hb]; exact hJ b j hb) (fun i i0 i1 => by by_cases e : i = k; { rw [e, uJ_s] }; { rw [uJ_k e]; exact hP i i0 (by omega) })
    refine G_rg (fun hr => ?_)
    refine G_push x eX11_areAlike_38 ?_
    refine G_istore3 x eX11_areAlike_39 ?_
    exact copy _ _ _ _ rfl (by omega) (by omega) (fun _ _ _ => rfl) (fun i i0 i1 => by omega)
  · rw [if_neg hab] at en
    refine G_rg (fun hr => ?_)
    refine G_iload1 x eX11_areAlike_0 ?_
    refine G_cS x eX11_areAlike_1 kX11_127 sm_yX11_isReplica rm (ct_X11_isReplica (by first | omega | exact hr _ _ | exact hr0 _ _)) rfl ?_
    refine G_ifb_eq x eX11_areAlike_4 (fun c4 => ?_) (fun c4 => ?_)
    · refine G_aload0 x eX11_areAlike_14 ?_
      refine G_push x eX11_areAlike_15 ?_
      refine G_cV x eX11_areAlike_16 kX11_131 im_yX11_fails se_yX11_fails rm hM.m (ct_X11_fails hM (by first | omega | exact hr _ _ | exact hr0 _ _)) rfl ?_
      refine G_rg (fun hr => ?_)
      refine G_if_eq x eX11_areAlike_19 (by first | omega | exact hr _ _ | exact hr0 _ _ | exact hrS _) (fun c19 => ?_) (fun c19 => ?_)
      · refine G_push x eX11_areAlike_26 ?_
        refine G_zreturn x en eX11_areAlike_27 (by omega) (by omega) ?_ ?_
        · first | exact Or.inl rfl | exact Or.inr rfl | omega
        · exact gSay (fun _ _ _ => rfl) (fun _ _ _ _ => rfl)
      · omega
    · refine G_iload2 x eX11_areAlike_7 ?_
      refine G_cS x eX11_areAlike_8 kX11_127 sm_yX11_isReplica rm (ct_X11_isReplica (by first | omega | exact hr _ _ | exact hr0 _ _)) rfl ?_
      refine G_ifb_ne x eX11_areAlike_11 (fun c11 => ?_) (fun c11 => ?_)
      · exact absurd ⟨c4, c11⟩ hab
      · refine G_aload0 x eX11_areAlike_14 ?_
        refine G_push x eX11_areAlike_15 ?_
        refine G_cV x eX11_areAlike_16 kX11_131 im_yX11_fails se_yX11_fails rm hM.m (ct_X11_fails hM (by first | omega | exact hr _ _ | exact hr0 _ _)) rfl ?_
        refine G_rg (fun hr => ?_)
        refine G_if_eq x eX11_areAlike_19 (by first | omega | exact hr _ _ | exact hr0 _ _ | exact hrS _) (fun c19 => ?_) (fun c19 => ?_)
        · refine G_push x eX11_areAlike_26 ?_
          refine G_zreturn x en eX11_areAlike_27 (by omega) (by omega) ?_ ?_
          · first | exact Or.inl rfl | exact Or.inr rfl | omega
          · exact gSay (fun _ _ _ => rfl) (fun _ _ _ _ => rfl)
        · omega
