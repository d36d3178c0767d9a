/-- the row s of a new model -/
def S0 (j : Int) : Int := if 3843 ≤ j ∧ j < 4653 then
    (if (j - 3843) % 270 < 6 then 0 else if (j - 3843) % 270 < 126 then
      (if ((j - 3843) % 270 - 6) % 5 = 0 then (if ((j - 3843) % 270 - 6) / 5 % 12 < 3 then 1000 * (((j - 3843) % 270 - 6) / 5 % 12 + 1) else -1)
       else if ((j - 3843) % 270 - 6) % 5 = 1 then (if ((j - 3843) % 270 - 6) / 5 % 12 < 3 then 0 else -1)
       else if ((j - 3843) % 270 - 6) % 5 = 3 then (if ((j - 3843) % 270 - 6) / 5 % 12 < 3 then 1 else 0) else 0)
    else -1) else 0
theorem S0_o {j : Int} (h : ¬ (3843 ≤ j ∧ j < 4653)) : S0 j = 0 := if_neg h
theorem S0_h {r w : Int} (r0 : 0 ≤ r) (r1 : r ≤ 2) (w0 : 0 ≤ w) (w1 : w < 6) : S0 (3843 + 270 * r + w) = 0 := by
  unfold S0
  rw [if_pos (by omega), if_pos (by omega)]
theorem S0_l {r l w : Int} (r0 : 0 ≤ r) (r1 : r ≤ 2) (l0 : 0 ≤ l) (l1 : l < 24) (w0 : 0 ≤ w) (w1 : w < 5) : S0 (3843 + 270 * r + 6 + 5 * l + w) = if w = 0 then (if l % 12 < 3 then 1000 * (l % 12 + 1) else -1) else if w = 1 then (if l % 12 < 3 then 0 else -1) else if w = 3 then (if l % 12 < 3 then 1 else 0) else 0 := by
  unfold S0
  rw [if_pos (by omega), show (3843 + 270 * r + 6 + 5 * l + w - 3843) % 270 = 6 + 5 * l + w by omega, if_neg (by omega), if_pos (by omega), show (6 + 5 * l + w - 6) % 5 = w by omega, show (6 + 5 * l + w - 6) / 5 = l by omega]
theorem S0_c {r c : Int} (r0 : 0 ≤ r) (r1 : r ≤ 2) (c0 : 0 ≤ c) (c1 : c < 144) : S0 (3843 + 270 * r + 126 + c) = -1 := by
  unfold S0
  rw [if_pos (by omega), if_neg (by omega), if_neg (by omega)]
def inP (T : gT) (I : gI) (J : gJ) (O : gO) (mo : Nat) : gP := fun v T' I' J' O' => v = none ∧ T'.1 = mo + 21 ∧ (∀ a, a ≤ mo → T'.2 a = T.2 a) ∧ MoAt T' O' mo ∧ (∀ b j, b ≠ mo + 1 → I' b j = I b j) ∧ (∀ j, I' (mo + 1) j = S0 j) ∧ J' = J ∧ ∀ b j, b ≠ mo → O' b j = O b j
set_option maxHeartbeats 8000000 in
set_option maxRecDepth 20000 in
theorem ct_X11_init {T : gT} {I : gI} {J : gJ} {O : gO} {mo : Nat} (hm : T.2 mo = some (.inl 11)) (hT1 : T.1 = mo + 1) : Ct yX11_init cX11_init 5 none [va_rf (some mo)] 1 21 20 47683 T I J O (inP T I J O mo) := by
  refine Ct.of (by decide) [some (va_rf (some mo)), none, none, none, none] (gEn1 (List.forall_mem_cons.mpr ⟨cat_VR _, fun _ h => nomatch h⟩) rfl (Nat.le_of_ble_eq_true rfl) rfl) ?_
  intro X x en rm ini hr hz
  have hr0 := hr
  have key : ∀ (T9 : gT) (O9 : gO), T9.1 = mo + 21 → (∀ a, a ≤ mo → T9.2 a = T.2 a) → MoAt T9 O9 mo → (∀ b j, b ≠ mo → O9 b j = O b j) → G X 173 [some (va_rf (some mo)), none, none, none, none] [] T9 I J O9 20 47683 := by
    intro T9 O9 hq1 hq2 hM hq3
    have cells : ∀ (d : Nat) (r c : Int) (I1 : gI) (o3 o4 : Option Value), d = (144 - c).toNat → 0 ≤ r → r ≤ 2 → 0 ≤ c → c ≤ 144 → (∀ b j, b ≠ mo + 1 → I1 b j = I b j) → (∀ j, I1 (mo + 1) j = if j < 3843 + 270 * r + 126 + c then S0 j else 0) →
        (∀ (I1 : gI) (o2 o3 o4 : Option Value), (∀ b j, b ≠ mo + 1 → I1 b j = I b j) → (∀ j, I1 (mo + 1) j = if j < 3843 + 270 * (r + 1) then S0 j else 0) → G X 175 [some (va_rf (some mo)), some (VI (r + 1)), o2, o3, o4] [] T9 I1 J O9 20 47683) →
        G X 280 [some (va_rf (some mo)), some (VI r), some (VI c), o3, o4] [] T9 I1 J O9 20 47683 := by
      intro d
      induction d using Nat.strongRecOn with
      | ind d ih =>
      intro r c I1 o3 o4 hd r0 r1 c0 c1 hF hP kk
      refine G_rg (fun hr => ?_)
      refine G_iload2 x eX11_init_280 ?_
      refine G_push x eX11_init_281 ?_
      refine G_icmp_ge x eX11_init_284 (by first | omega | exact hr _ _ | exact hr0 _ _ | exact hrS _) (by first | omega | exact hr _ _ | exact hr0 _ _ | exact hrS _) (fun c284 => ?_) (fun c284 => ?_)
      · refine G_iinc1 x eX11_init_313 ?_
        refine G_goto x eX11_init_316 ?_
        exact kk _ _ _ _ hF (fun j => by rw [hP j]; by_cases e : j < 3843 + 270 * r + 126 + c; { rw [if_pos e, if_pos (by omega)] }; { rw [if_neg e, if_neg (by omega)] })
      · refine G_aload0 x eX11_init_287 ?_
        refine G_getq x eX11_init_288 fX11_7 rfl rfl hM.m hM.o_s ?_
        refine G_push x eX11_init_291 ?_
        refine G_push x eX11_init_294 ?_
        refine G_iload1 x eX11_init_297 ?_
        refine G_imul x eX11_init_298 ?_
        refine G_iadd x eX11_init_299 ?_
        refine G_push x eX11_init_300 ?_
        refine G_iadd x eX11_init_302 ?_
        refine G_iload2 x eX11_init_303 ?_
        refine G_iadd x eX11_init_304 ?_
        refine G_push x eX11_init_305 ?_
        refine G_iast x eX11_init_306 rfl hM.t_s (by omega) (by omega) (by omega) (by first | omega | exact hr _ _ | exact hr0 _ _ | exact hrS _) ?_
        refine G_rg (fun hr => ?_)
        refine G_iinc2 x eX11_init_307 ?_
        refine G_goto x eX11_init_310 ?_
        exact ih _ (by omega) _ _ _ _ _ rfl r0 r1 (by omega) (by omega) (fun b j hb => by rw [uI_a hb]; exact hF b j hb) (fun j => by by_cases e : j = 3843 + 270 * r + 126 + c; { rw [e, uI_s, if_pos (by omega), S0_c r0 r1 c0 (by omega)] }; { rw [uI_k e, hP j]; by_cases e2 : j < 3843 + 270 * r + 126 + c; { rw [if_pos e2, if_pos (by omega)] }; { rw [if_neg e2, if_neg (by omega)] } }) kk
    have lines : ∀ (d : Nat) (r l : Int) (I1 : gI) (o3 o4 : Option Value), d = (24 - l).toNat → 0 ≤ r → r ≤ 2 → 0 ≤ l → l ≤ 24 → (∀ b j, b ≠ mo + 1 → I1 b j = I b j) → (∀ j, I1 (mo + 1) j = if j < 3843 + 270 * r + 6 + 5 * l then S0 j else 0) →
        (∀ (I1 : gI) (o2 o3 o4 : Option Value), (∀ b j, b ≠ mo + 1 → I1 b j = I b j) → (∀ j, I1 (mo + 1) j = if j < 3843 + 270 * (r + 1) then S0 j else 0) → G X 175 [some (va_rf (some mo)), some (VI (r + 1)), o2, o3, o4] [] T9 I1 J O9 20 47683) →
        G X 182 [some (va_rf (some mo)), some (VI r), some (VI l), o3, o4] [] T9 I1 J O9 20 47683 := by
      intro d
      induction d using Nat.strongRecOn with
      | ind d ih =>
      intro r l I1 o3 o4 hd r0 r1 l0 l1 hF hP kk
      have upd : l < 24 → ∀ (a b e : Int), a = (if l % 12 < 3 then 1000 * (l % 12 + 1) else -1) → b = (if l % 12 < 3 then 0 else -1) → e = (if l % 12 < 3 then 1 else 0) → ∀ j, (uI (uI (uI I1 (mo + 1) (3843 + 270 * r + 6 + 5 * l) a) (mo + 1) (3843 + 270 * r + 6 + 5 * l + 1) b) (mo + 1) (3843 + 270 * r + 6 + 5 * l + 3) e) (mo + 1) j = if j < 3843 + 270 * r + 6 + 5 * (l + 1) then S0 j else 0 := fun hl a b e ha hb he j => by
        by_cases e3 : j = 3843 + 270 * r + 6 + 5 * l + 3
        · rw [e3, uI_s, if_pos (by omega), S0_l r0 r1 l0 hl (by omega) (by omega), he]
          rfl
        · rw [uI_k e3]
          by_cases e1 : j = 3843 + 270 * r + 6 + 5 * l + 1
          · rw [e1, uI_s, if_pos (by omega), S0_l r0 r1 l0 hl (by omega) (by omega), hb]
            rfl
          · rw [uI_k e1]
            by_cases e0 : j = 3843 + 270 * r + 6 + 5 * l
            · have := S0_l (w := 0) r0 r1 l0 hl (by omega) (by omega)
              rw [Int.add_zero, if_pos rfl] at this
              rw [e0, uI_s, if_pos (by omega), this, ha]
            · rw [uI_k e0, hP j]
              by_cases e5 : j < 3843 + 270 * r + 6 + 5 * l
              · rw [if_pos e5, if_pos (by omega)]
              · rw [if_neg e5]
                by_cases e6 : j < 3843 + 270 * r + 6 + 5 * (l + 1)
                · rw [if_pos e6]
                  obtain ⟨w, hw⟩ : ∃ w, j = 3843 + 270 * r + 6 + 5 * l + w := ⟨j - (3843 + 270 * r + 6 + 5 * l), by omega⟩
                  subst hw
                  rw [S0_l r0 r1 l0 hl (by omega) (by omega), if_neg (by omega), if_neg (by omega), if_neg (by omega)]
                · rw [if_neg e6]
      refine G_rg (fun hr => ?_)
      refine G_iload2 x eX11_init_182 ?_
      refine G_push x eX11_init_183 ?_
      refine G_icmp_ge x eX11_init_185 (by first | omega | exact hr _ _ | exact hr0 _ _ | exact hrS _) (by first | omega | exact hr _ _ | exact hr0 _ _ | exact hrS _) (fun c185 => ?_) (fun c185 => ?_)
      · refine G_push x eX11_init_278 ?_
        refine G_istore2 x eX11_init_279 ?_
        exact cells _ _ _ _ _ _ rfl r0 r1 (by omega) (by omega) hF (fun j => by rw [hP j]; by_cases e : j < 3843 + 270 * r + 6 + 5 * l; { rw [if_pos e, if_pos (by omega)] }; { rw [if_neg e, if_neg (by omega)] }) kk
      · refine G_iload1 x eX11_init_188 ?_
        refine G_iload2 x eX11_init_189 ?_
        refine G_cS x eX11_init_190 kX11_72 sm_yX11_lineAt rm ct_X11_lineAt rfl ?_
        refine G_istore3 x eX11_init_193 ?_
        refine G_iload2 x eX11_init_194 ?_
        refine G_push x eX11_init_195 ?_
        refine G_iremn x eX11_init_197 (by omega) (by omega) (by omega) (by omega) ?_
        refine G_push x eX11_init_198 ?_
        refine G_icmp_ge x eX11_init_199 (by first | omega | exact hr _ _ | exact hr0 _ _ | exact hrS _) (by first | omega | exact hr _ _ | exact hr0 _ _ | exact hrS _) (fun c199 => ?_) (fun c199 => ?_)
        · refine G_push x eX11_init_206 ?_
          refine G_istore4 x eX11_init_207 ?_
          refine G_aload0 x eX11_init_209 ?_
          refine G_getq x eX11_init_210 fX11_7 rfl rfl hM.m hM.o_s ?_
          refine G_iload3 x eX11_init_213 ?_
          refine G_push x eX11_init_214 ?_
          refine G_iadd0 x eX11_init_215 ?_
          refine G_iload4 x eX11_init_216 ?_
          refine G_if_eq x eX11_init_218 (by first | omega | exact hr _ _ | exact hr0 _ _ | exact hrS _) (fun c218 => ?_) (fun c218 => ?_)
          · refine G_push x eX11_init_234 ?_
            refine G_iast x eX11_init_235 rfl hM.t_s (by omega) (by omega) (by omega) (by first | omega | exact hr _ _ | exact hr0 _ _ | exact hrS _) ?_
            refine G_rg (fun hr => ?_)
            refine G_aload0 x eX11_init_236 ?_
            refine G_getq x eX11_init_237 fX11_7 rfl rfl hM.m hM.o_s ?_
            refine G_iload3 x eX11_init_240 ?_
            refine G_push x eX11_init_241 ?_
            refine G_iadd x eX11_init_242 ?_
            refine G_iload4 x eX11_init_243 ?_
            refine G_if_eq x eX11_init_245 (by first | omega | exact hr _ _ | exact hr0 _ _ | exact hrS _) (fun c245 => ?_) (fun c245 => ?_)
            · refine G_push x eX11_init_252 ?_
              refine G_iast x eX11_init_253 rfl hM.t_s (by omega) (by omega) (by omega) (by first | omega | exact hr _ _ | exact hr0 _ _ | exact hrS _) ?_
              refine G_rg (fun hr => ?_)
              refine G_aload0 x eX11_init_254 ?_
              refine G_getq x eX11_init_255 fX11_7 rfl rfl hM.m hM.o_s ?_
              refine G_iload3 x eX11_init_258 ?_
              refine G_push x eX11_init_259 ?_
              refine G_iadd x eX11_init_260 ?_
              refine G_iload4 x eX11_init_261 ?_
              refine G_if_eq x eX11_init_263 (by first | omega | exact hr _ _ | exact hr0 _ _ | exact hrS _) (fun c263 => ?_) (fun c263 => ?_)
              · refine G_push x eX11_init_270 ?_
                refine G_iast x eX11_init_271 rfl hM.t_s (by omega) (by omega) (by omega) (by first | omega | exact hr _ _ | exact hr0 _ _ | exact hrS _) ?_
                refine G_rg (fun hr => ?_)
                refine G_iinc2 x eX11_init_272 ?_
                refine G_goto x eX11_init_275 ?_
                first | (exfalso; omega) | exact ih _ (by omega) _ _ _ _ _ rfl r0 r1 (by omega) (by omega) (fun b j hb => by rw [uI_a hb, uI_a hb, uI_a hb]; exact hF b j hb) (upd (by omega) _ _ _ (by rw [if_pos (by omega)]) (by rw [if_pos (by omega)]) (by rw [if_pos (by omega)])) kk | exact ih _ (by omega) _ _ _ _ _ rfl r0 r1 (by omega) (by omega) (fun b j hb => by rw [uI_a hb, uI_a hb, uI_a hb]; exact hF b j hb) (upd (by omega) _ _ _ (by rw [if_neg (by omega)]) (by rw [if_neg (by omega)]) (by rw [if_neg (by omega)])) kk
              · refine G_push x eX11_init_266 ?_
                refine G_goto x eX11_init_267 ?_
                refine G_iast x eX11_init_271 rfl hM.t_s (by omega) (by omega) (by omega) (by first | omega | exact hr _ _ | exact hr0 _ _ | exact hrS _) ?_
                refine G_rg (fun hr => ?_)
                refine G_iinc2 x eX11_init_272 ?_
                refine G_goto x eX11_init_275 ?_
                first | (exfalso; omega) | exact ih _ (by omega) _ _ _ _ _ rfl r0 r1 (by omega) (by omega) (fun b j hb => by rw [uI_a hb, uI_a hb, uI_a hb]; exact hF b j hb) (upd (by omega) _ _ _ (by rw [if_pos (by omega)]) (by rw [if_pos (by omega)]) (by rw [if_pos (by omega)])) kk | exact ih _ (by omega) _ _ _ _ _ rfl r0 r1 (by omega) (by omega) (fun b j hb => by rw [uI_a hb, uI_a hb, uI_a hb]; exact hF b j hb) (upd (by omega) _ _ _ (by rw [if_neg (by omega)]) (by rw [if_neg (by omega)]) (by rw [if_neg (by omega)])) kk
            · refine G_push x eX11_init_248 ?_
              refine G_goto x eX11_init_249 ?_
              refine G_iast x eX11_init_253 rfl hM.t_s (by omega) (by omega) (by omega) (by first | omega | exact hr _ _ | exact hr0 _ _ | exact hrS _) ?_
              refine G_rg (fun hr => ?_)
              refine G_aload0 x eX11_init_254 ?_
              refine G_getq x eX11_init_255 fX11_7 rfl rfl hM.m hM.o_s ?_
              refine G_iload3 x eX11_init_258 ?_
              refine G_push x eX11_init_259 ?_
              refine G_iadd x eX11_init_260 ?_
              refine G_iload4 x eX11_init_261 ?_
              refine G_if_eq x eX11_init_263 (by first | omega | exact hr _ _ | exact hr0 _ _ | exact hrS _) (fun c263 => ?_) (fun c263 => ?_)
              · refine G_push x eX11_init_270 ?_
                refine G_iast x eX11_init_271 rfl hM.t_s (by omega) (by omega) (by omega) (by first | omega | exact hr _ _ | exact hr0 _ _ | exact hrS _) ?_
                refine G_rg (fun hr => ?_)
                refine G_iinc2 x eX11_init_272 ?_
                refine G_goto x eX11_init_275 ?_
                first | (exfalso; omega) | exact ih _ (by omega) _ _ _ _ _ rfl r0 r1 (by omega) (by omega) (fun b j hb => by rw [uI_a hb, uI_a hb, uI_a hb]; exact hF b j hb) (upd (by omega) _ _ _ (by rw [if_pos (by omega)]) (by rw [if_pos (by omega)]) (by rw [if_pos (by omega)])) kk | exact ih _ (by omega) _ _ _ _ _ rfl r0 r1 (by omega) (by omega) (fun b j hb => by rw [uI_a hb, uI_a hb, uI_a hb]; exact hF b j hb) (upd (by omega) _ _ _ (by rw [if_neg (by omega)]) (by rw [if_neg (by omega)]) (by rw [if_neg (by omega)])) kk
              · refine G_push x eX11_init_266 ?_
                refine G_goto x eX11_init_267 ?_
                refine G_iast x eX11_init_271 rfl hM.t_s (by omega) (by omega) (by omega) (by first | omega | exact hr _ _ | exact hr0 _ _ | exact hrS _) ?_
                refine G_rg (fun hr => ?_)
                refine G_iinc2 x eX11_init_272 ?_
                refine G_goto x eX11_init_275 ?_
                first | (exfalso; omega) | exact ih _ (by omega) _ _ _ _ _ rfl r0 r1 (by omega) (by omega) (fun b j hb => by rw [uI_a hb, uI_a hb, uI_a hb]; exact hF b j hb) (upd (by omega) _ _ _ (by rw [if_pos (by omega)]) (by rw [if_pos (by omega)]) (by rw [if_pos (by omega)])) kk | exact ih _ (by omega) _ _ _ _ _ rfl r0 r1 (by omega) (by omega) (fun b j hb => by rw [uI_a hb, uI_a hb, uI_a hb]; exact hF b j hb) (upd (by omega) _ _ _ (by rw [if_neg (by omega)]) (by rw [if_neg (by omega)]) (by rw [if_neg (by omega)])) kk
          · refine G_push x eX11_init_221 ?_
            refine G_iload2 x eX11_init_224 ?_
            refine G_push x eX11_init_225 ?_
            refine G_iremn x eX11_init_227 (by omega) (by omega) (by omega) (by omega) ?_
            refine G_push x eX11_init_228 ?_
            refine G_iadd x eX11_init_229 ?_
            refine G_imul x eX11_init_230 ?_
            refine G_goto x eX11_init_231 ?_
            refine G_iast x eX11_init_235 rfl hM.t_s (by omega) (by omega) (by omega) (by first | omega | exact hr _ _ | exact hr0 _ _ | exact hrS _) ?_
            refine G_rg (fun hr => ?_)
            refine G_aload0 x eX11_init_236 ?_
            refine G_getq x eX11_init_237 fX11_7 rfl rfl hM.m hM.o_s ?_
            refine G_iload3 x eX11_init_240 ?_
            refine G_push x eX11_init_241 ?_
            refine G_iadd x eX11_init_242 ?_
            refine G_iload4 x eX11_init_243 ?_
            refine G_if_eq x eX11_init_245 (by first | omega | exact hr _ _ | exact hr0 _ _ | exact hrS _) (fun c245 => ?_) (fun c245 => ?_)
            · refine G_push x eX11_init_252 ?_
              refine G_iast x eX11_init_253 rfl hM.t_s (by omega) (by omega) (by omega) (by first | omega | exact hr _ _ | exact hr0 _ _ | exact hrS _) ?_
              refine G_rg (fun hr => ?_)
              refine G_aload0 x eX11_init_254 ?_
              refine G_getq x eX11_init_255 fX11_7 rfl rfl hM.m hM.o_s ?_
              refine G_iload3 x eX11_init_258 ?_
              refine G_push x eX11_init_259 ?_
              refine G_iadd x eX11_init_260 ?_
              refine G_iload4 x eX11_init_261 ?_
              refine G_if_eq x eX11_init_263 (by first | omega | exact hr _ _ | exact hr0 _ _ | exact hrS _) (fun c263 => ?_) (fun c263 => ?_)
              · refine G_push x eX11_init_270 ?_
                refine G_iast x eX11_init_271 rfl hM.t_s (by omega) (by omega) (by omega) (by first | omega | exact hr _ _ | exact hr0 _ _ | exact hrS _) ?_
                refine G_rg (fun hr => ?_)
                refine G_iinc2 x eX11_init_272 ?_
                refine G_goto x eX11_init_275 ?_
                first | (exfalso; omega) | exact ih _ (by omega) _ _ _ _ _ rfl r0 r1 (by omega) (by omega) (fun b j hb => by rw [uI_a hb, uI_a hb, uI_a hb]; exact hF b j hb) (upd (by omega) _ _ _ (by rw [if_pos (by omega)]) (by rw [if_pos (by omega)]) (by rw [if_pos (by omega)])) kk | exact ih _ (by omega) _ _ _ _ _ rfl r0 r1 (by omega) (by omega) (fun b j hb => by rw [uI_a hb, uI_a hb, uI_a hb]; exact hF b j hb) (upd (by omega) _ _ _ (by rw [if_neg (by omega)]) (by rw [if_neg (by omega)]) (by rw [if_neg (by omega)])) kk
              · refine G_push x eX11_init_266 ?_
                refine G_goto x eX11_init_267 ?_
                refine G_iast x eX11_init_271 rfl hM.t_s (by omega) (by omega) (by omega) (by first | omega | exact hr _ _ | exact hr0 _ _ | exact hrS _) ?_
                refine G_rg (fun hr => ?_)
                refine G_iinc2 x eX11_init_272 ?_
                refine G_goto x eX11_init_275 ?_
                first | (exfalso; omega) | exact ih _ (by omega) _ _ _ _ _ rfl r0 r1 (by omega) (by omega) (fun b j hb => by rw [uI_a hb, uI_a hb, uI_a hb]; exact hF b j hb) (upd (by omega) _ _ _ (by rw [if_pos (by omega)]) (by rw [if_pos (by omega)]) (by rw [if_pos (by omega)])) kk | exact ih _ (by omega) _ _ _ _ _ rfl r0 r1 (by omega) (by omega) (fun b j hb => by rw [uI_a hb, uI_a hb, uI_a hb]; exact hF b j hb) (upd (by omega) _ _ _ (by rw [if_neg (by omega)]) (by rw [if_neg (by omega)]) (by rw [if_neg (by omega)])) kk
            · refine G_push x eX11_init_248 ?_
              refine G_goto x eX11_init_249 ?_
              refine G_iast x eX11_init_253 rfl hM.t_s (by omega) (by omega) (by omega) (by first | omega | exact hr _ _ | exact hr0 _ _ | exact hrS _) ?_
              refine G_rg (fun hr => ?_)
              refine G_aload0 x eX11_init_254 ?_
              refine G_getq x eX11_init_255 fX11_7 rfl rfl hM.m hM.o_s ?_
              refine G_iload3 x eX11_init_258 ?_
              refine G_push x eX11_init_259 ?_
              refine G_iadd x eX11_init_260 ?_
              refine G_iload4 x eX11_init_261 ?_
              refine G_if_eq x eX11_init_263 (by first | omega | exact hr _ _ | exact hr0 _ _ | exact hrS _) (fun c263 => ?_) (fun c263 => ?_)
              · refine G_push x eX11_init_270 ?_
                refine G_iast x eX11_init_271 rfl hM.t_s (by omega) (by omega) (by omega) (by first | omega | exact hr _ _ | exact hr0 _ _ | exact hrS _) ?_
                refine G_rg (fun hr => ?_)
                refine G_iinc2 x eX11_init_272 ?_
                refine G_goto x eX11_init_275 ?_
                first | (exfalso; omega) | exact ih _ (by omega) _ _ _ _ _ rfl r0 r1 (by omega) (by omega) (fun b j hb => by rw [uI_a hb, uI_a hb, uI_a hb]; exact hF b j hb) (upd (by omega) _ _ _ (by rw [if_pos (by omega)]) (by rw [if_pos (by omega)]) (by rw [if_pos (by omega)])) kk | exact ih _ (by omega) _ _ _ _ _ rfl r0 r1 (by omega) (by omega) (fun b j hb => by rw [uI_a hb, uI_a hb, uI_a hb]; exact hF b j hb) (upd (by omega) _ _ _ (by rw [if_neg (by omega)]) (by rw [if_neg (by omega)]) (by rw [if_neg (by omega)])) kk
              · refine G_push x eX11_init_266 ?_
                refine G_goto x eX11_init_267 ?_
                refine G_iast x eX11_init_271 rfl hM.t_s (by omega) (by omega) (by omega) (by first | omega | exact hr _ _ | exact hr0 _ _ | exact hrS _) ?_
                refine G_rg (fun hr => ?_)
                refine G_iinc2 x eX11_init_272 ?_
                refine G_goto x eX11_init_275 ?_
                first | (exfalso; omega) | exact ih _ (by omega) _ _ _ _ _ rfl r0 r1 (by omega) (by omega) (fun b j hb => by rw [uI_a hb, uI_a hb, uI_a hb]; exact hF b j hb) (upd (by omega) _ _ _ (by rw [if_pos (by omega)]) (by rw [if_pos (by omega)]) (by rw [if_pos (by omega)])) kk | exact ih _ (by omega) _ _ _ _ _ rfl r0 r1 (by omega) (by omega) (fun b j hb => by rw [uI_a hb, uI_a hb, uI_a hb]; exact hF b j hb) (upd (by omega) _ _ _ (by rw [if_neg (by omega)]) (by rw [if_neg (by omega)]) (by rw [if_neg (by omega)])) kk
        · refine G_push x eX11_init_202 ?_
          refine G_goto x eX11_init_203 ?_
          refine G_istore4 x eX11_init_207 ?_
          refine G_aload0 x eX11_init_209 ?_
          refine G_getq x eX11_init_210 fX11_7 rfl rfl hM.m hM.o_s ?_
          refine G_iload3 x eX11_init_213 ?_
          refine G_push x eX11_init_214 ?_
          refine G_iadd0 x eX11_init_215 ?_
          refine G_iload4 x eX11_init_216 ?_
          refine G_if_eq x eX11_init_218 (by first | omega | exact hr _ _ | exact hr0 _ _ | exact hrS _) (fun c218 => ?_) (fun c218 => ?_)
          · refine G_push x eX11_init_234 ?_
            refine G_iast x eX11_init_235 rfl hM.t_s (by omega) (by omega) (by omega) (by first | omega | exact hr _ _ | exact hr0 _ _ | exact hrS _) ?_
            refine G_rg (fun hr => ?_)
            refine G_aload0 x eX11_init_236 ?_
            refine G_getq x eX11_init_237 fX11_7 rfl rfl hM.m hM.o_s ?_
            refine G_iload3 x eX11_init_240 ?_
            refine G_push x eX11_init_241 ?_
            refine G_iadd x eX11_init_242 ?_
            refine G_iload4 x eX11_init_243 ?_
            refine G_if_eq x eX11_init_245 (by first | omega | exact hr _ _ | exact hr0 _ _ | exact hrS _) (fun c245 => ?_) (fun c245 => ?_)
            · refine G_push x eX11_init_252 ?_
              refine G_iast x eX11_init_253 rfl hM.t_s (by omega) (by omega) (by omega) (by first | omega | exact hr _ _ | exact hr0 _ _ | exact hrS _) ?_
              refine G_rg (fun hr => ?_)
              refine G_aload0 x eX11_init_254 ?_
              refine G_getq x eX11_init_255 fX11_7 rfl rfl hM.m hM.o_s ?_
              refine G_iload3 x eX11_init_258 ?_
              refine G_push x eX11_init_259 ?_
              refine G_iadd x eX11_init_260 ?_
              refine G_iload4 x eX11_init_261 ?_
              refine G_if_eq x eX11_init_263 (by first | omega | exact hr _ _ | exact hr0 _ _ | exact hrS _) (fun c263 => ?_) (fun c263 => ?_)
              · refine G_push x eX11_init_270 ?_
                refine G_iast x eX11_init_271 rfl hM.t_s (by omega) (by omega) (by omega) (by first | omega | exact hr _ _ | exact hr0 _ _ | exact hrS _) ?_
                refine G_rg (fun hr => ?_)
                refine G_iinc2 x eX11_init_272 ?_
                refine G_goto x eX11_init_275 ?_
                first | (exfalso; omega) | exact ih _ (by omega) _ _ _ _ _ rfl r0 r1 (by omega) (by omega) (fun b j hb => by rw [uI_a hb, uI_a hb, uI_a hb]; exact hF b j hb) (upd (by omega) _ _ _ (by rw [if_pos (by omega)]) (by rw [if_pos (by omega)]) (by rw [if_pos (by omega)])) kk | exact ih _ (by omega) _ _ _ _ _ rfl r0 r1 (by omega) (by omega) (fun b j hb => by rw [uI_a hb, uI_a hb, uI_a hb]; exact hF b j hb) (upd (by omega) _ _ _ (by rw [if_neg (by omega)]) (by rw [if_neg (by omega)]) (by rw [if_neg (by omega)])) kk
              · refine G_push x eX11_init_266 ?_
                refine G_goto x eX11_init_267 ?_
                refine G_iast x eX11_init_271 rfl hM.t_s (by omega) (by omega) (by omega) (by first | omega | exact hr _ _ | exact hr0 _ _ | exact hrS _) ?_
                refine G_rg (fun hr => ?_)
                refine G_iinc2 x eX11_init_272 ?_
                refine G_goto x eX11_init_275 ?_
                first | (exfalso; omega) | exact ih _ (by omega) _ _ _ _ _ rfl r0 r1 (by omega) (by omega) (fun b j hb => by rw [uI_a hb, uI_a hb, uI_a hb]; exact hF b j hb) (upd (by omega) _ _ _ (by rw [if_pos (by omega)]) (by rw [if_pos (by omega)]) (by rw [if_pos (by omega)])) kk | exact ih _ (by omega) _ _ _ _ _ rfl r0 r1 (by omega) (by omega) (fun b j hb => by rw [uI_a hb, uI_a hb, uI_a hb]; exact hF b j hb) (upd (by omega) _ _ _ (by rw [if_neg (by omega)]) (by rw [if_neg (by omega)]) (by rw [if_neg (by omega)])) kk
            · refine G_push x eX11_init_248 ?_
              refine G_goto x eX11_init_249 ?_
              refine G_iast x eX11_init_253 rfl hM.t_s (by omega) (by omega) (by omega) (by first | omega | exact hr _ _ | exact hr0 _ _ | exact hrS _) ?_
              refine G_rg (fun hr => ?_)
              refine G_aload0 x eX11_init_254 ?_
              refine G_getq x eX11_init_255 fX11_7 rfl rfl hM.m hM.o_s ?_
              refine G_iload3 x eX11_init_258 ?_
              refine G_push x eX11_init_259 ?_
              refine G_iadd x eX11_init_260 ?_
              refine G_iload4 x eX11_init_261 ?_
              refine G_if_eq x eX11_init_263 (by first | omega | exact hr _ _ | exact hr0 _ _ | exact hrS _) (fun c263 => ?_) (fun c263 => ?_)
              · refine G_push x eX11_init_270 ?_
                refine G_iast x eX11_init_271 rfl hM.t_s (by omega) (by omega) (by omega) (by first | omega | exact hr _ _ | exact hr0 _ _ | exact hrS _) ?_
                refine G_rg (fun hr => ?_)
                refine G_iinc2 x eX11_init_272 ?_
                refine G_goto x eX11_init_275 ?_
                first | (exfalso; omega) | exact ih _ (by omega) _ _ _ _ _ rfl r0 r1 (by omega) (by omega) (fun b j hb => by rw [uI_a hb, uI_a hb, uI_a hb]; exact hF b j hb) (upd (by omega) _ _ _ (by rw [if_pos (by omega)]) (by rw [if_pos (by omega)]) (by rw [if_pos (by omega)])) kk | exact ih _ (by omega) _ _ _ _ _ rfl r0 r1 (by omega) (by omega) (fun b j hb => by rw [uI_a hb, uI_a hb, uI_a hb]; exact hF b j hb) (upd (by omega) _ _ _ (by rw [if_neg (by omega)]) (by rw [if_neg (by omega)]) (by rw [if_neg (by omega)])) kk
              · refine G_push x eX11_init_266 ?_
                refine G_goto x eX11_init_267 ?_
                refine G_iast x eX11_init_271 rfl hM.t_s (by omega) (by omega) (by omega) (by first | omega | exact hr _ _ | exact hr0 _ _ | exact hrS _) ?_
                refine G_rg (fun hr => ?_)
                refine G_iinc2 x eX11_init_272 ?_
                refine G_goto x eX11_init_275 ?_
                first | (exfalso; omega) | exact ih _ (by omega) _ _ _ _ _ rfl r0 r1 (by omega) (by omega) (fun b j hb => by rw [uI_a hb, uI_a hb, uI_a hb]; exact hF b j hb) (upd (by omega) _ _ _ (by rw [if_pos (by omega)]) (by rw [if_pos (by omega)]) (by rw [if_pos (by omega)])) kk | exact ih _ (by omega) _ _ _ _ _ rfl r0 r1 (by omega) (by omega) (fun b j hb => by rw [uI_a hb, uI_a hb, uI_a hb]; exact hF b j hb) (upd (by omega) _ _ _ (by rw [if_neg (by omega)]) (by rw [if_neg (by omega)]) (by rw [if_neg (by omega)])) kk
          · refine G_push x eX11_init_221 ?_
            refine G_iload2 x eX11_init_224 ?_
            refine G_push x eX11_init_225 ?_
            refine G_iremn x eX11_init_227 (by omega) (by omega) (by omega) (by omega) ?_
            refine G_push x eX11_init_228 ?_
            refine G_iadd x eX11_init_229 ?_
            refine G_imul x eX11_init_230 ?_
            refine G_goto x eX11_init_231 ?_
            refine G_iast x eX11_init_235 rfl hM.t_s (by omega) (by omega) (by omega) (by first | omega | exact hr _ _ | exact hr0 _ _ | exact hrS _) ?_
            refine G_rg (fun hr => ?_)
            refine G_aload0 x eX11_init_236 ?_
            refine G_getq x eX11_init_237 fX11_7 rfl rfl hM.m hM.o_s ?_
            refine G_iload3 x eX11_init_240 ?_
            refine G_push x eX11_init_241 ?_
            refine G_iadd x eX11_init_242 ?_
            refine G_iload4 x eX11_init_243 ?_
            refine G_if_eq x eX11_init_245 (by first | omega | exact hr _ _ | exact hr0 _ _ | exact hrS _) (fun c245 => ?_) (fun c245 => ?_)
            · refine G_push x eX11_init_252 ?_
              refine G_iast x eX11_init_253 rfl hM.t_s (by omega) (by omega) (by omega) (by first | omega | exact hr _ _ | exact hr0 _ _ | exact hrS _) ?_
              refine G_rg (fun hr => ?_)
              refine G_aload0 x eX11_init_254 ?_
              refine G_getq x eX11_init_255 fX11_7 rfl rfl hM.m hM.o_s ?_
              refine G_iload3 x eX11_init_258 ?_
              refine G_push x eX11_init_259 ?_
              refine G_iadd x eX11_init_260 ?_
              refine G_iload4 x eX11_init_261 ?_
              refine G_if_eq x eX11_init_263 (by first | omega | exact hr _ _ | exact hr0 _ _ | exact hrS _) (fun c263 => ?_) (fun c263 => ?_)
              · refine G_push x eX11_init_270 ?_
                refine G_iast x eX11_init_271 rfl hM.t_s (by omega) (by omega) (by omega) (by first | omega | exact hr _ _ | exact hr0 _ _ | exact hrS _) ?_
                refine G_rg (fun hr => ?_)
                refine G_iinc2 x eX11_init_272 ?_
                refine G_goto x eX11_init_275 ?_
                first | (exfalso; omega) | exact ih _ (by omega) _ _ _ _ _ rfl r0 r1 (by omega) (by omega) (fun b j hb => by rw [uI_a hb, uI_a hb, uI_a hb]; exact hF b j hb) (upd (by omega) _ _ _ (by rw [if_pos (by omega)]) (by rw [if_pos (by omega)]) (by rw [if_pos (by omega)])) kk | exact ih _ (by omega) _ _ _ _ _ rfl r0 r1 (by omega) (by omega) (fun b j hb => by rw [uI_a hb, uI_a hb, uI_a hb]; exact hF b j hb) (upd (by omega) _ _ _ (by rw [if_neg (by omega)]) (by rw [if_neg (by omega)]) (by rw [if_neg (by omega)])) kk
              · refine G_push x eX11_init_266 ?_
                refine G_goto x eX11_init_267 ?_
                refine G_iast x eX11_init_271 rfl hM.t_s (by omega) (by omega) (by omega) (by first | omega | exact hr _ _ | exact hr0 _ _ | exact hrS _) ?_
                refine G_rg (fun hr => ?_)
                refine G_iinc2 x eX11_init_272 ?_
                refine G_goto x eX11_init_275 ?_
                first | (exfalso; omega) | exact ih _ (by omega) _ _ _ _ _ rfl r0 r1 (by omega) (by omega) (fun b j hb => by rw [uI_a hb, uI_a hb, uI_a hb]; exact hF b j hb) (upd (by omega) _ _ _ (by rw [if_pos (by omega)]) (by rw [if_pos (by omega)]) (by rw [if_pos (by omega)])) kk | exact ih _ (by omega) _ _ _ _ _ rfl r0 r1 (by omega) (by omega) (fun b j hb => by rw [uI_a hb, uI_a hb, uI_a hb]; exact hF b j hb) (upd (by omega) _ _ _ (by rw [if_neg (by omega)]) (by rw [if_neg (by omega)]) (by rw [if_neg (by omega)])) kk
            · refine G_push x eX11_init_248 ?_
              refine G_goto x eX11_init_249 ?_
              refine G_iast x eX11_init_253 rfl hM.t_s (by omega) (by omega) (by omega) (by first | omega | exact hr _ _ | exact hr0 _ _ | exact hrS _) ?_
              refine G_rg (fun hr => ?_)
              refine G_aload0 x eX11_init_254 ?_
              refine G_getq x eX11_init_255 fX11_7 rfl rfl hM.m hM.o_s ?_
              refine G_iload3 x eX11_init_258 ?_
              refine G_push x eX11_init_259 ?_
              refine G_iadd x eX11_init_260 ?_
              refine G_iload4 x eX11_init_261 ?_
              refine G_if_eq x eX11_init_263 (by first | omega | exact hr _ _ | exact hr0 _ _ | exact hrS _) (fun c263 => ?_) (fun c263 => ?_)
              · refine G_push x eX11_init_270 ?_
                refine G_iast x eX11_init_271 rfl hM.t_s (by omega) (by omega) (by omega) (by first | omega | exact hr _ _ | exact hr0 _ _ | exact hrS _) ?_
                refine G_rg (fun hr => ?_)
                refine G_iinc2 x eX11_init_272 ?_
                refine G_goto x eX11_init_275 ?_
                first | (exfalso; omega) | exact ih _ (by omega) _ _ _ _ _ rfl r0 r1 (by omega) (by omega) (fun b j hb => by rw [uI_a hb, uI_a hb, uI_a hb]; exact hF b j hb) (upd (by omega) _ _ _ (by rw [if_pos (by omega)]) (by rw [if_pos (by omega)]) (by rw [if_pos (by omega)])) kk | exact ih _ (by omega) _ _ _ _ _ rfl r0 r1 (by omega) (by omega) (fun b j hb => by rw [uI_a hb, uI_a hb, uI_a hb]; exact hF b j hb) (upd (by omega) _ _ _ (by rw [if_neg (by omega)]) (by rw [if_neg (by omega)]) (by rw [if_neg (by omega)])) kk
              · refine G_push x eX11_init_266 ?_
                refine G_goto x eX11_init_267 ?_
                refine G_iast x eX11_init_271 rfl hM.t_s (by omega) (by omega) (by omega) (by first | omega | exact hr _ _ | exact hr0 _ _ | exact hrS _) ?_
                refine G_rg (fun hr => ?_)
                refine G_iinc2 x eX11_init_272 ?_
                refine G_goto x eX11_init_275 ?_
                first | (exfalso; omega) | exact ih _ (by omega) _ _ _ _ _ rfl r0 r1 (by omega) (by omega) (fun b j hb => by rw [uI_a hb, uI_a hb, uI_a hb]; exact hF b j hb) (upd (by omega) _ _ _ (by rw [if_pos (by omega)]) (by rw [if_pos (by omega)]) (by rw [if_pos (by omega)])) kk | exact ih _ (by omega) _ _ _ _ _ rfl r0 r1 (by omega) (by omega) (fun b j hb => by rw [uI_a hb, uI_a hb, uI_a hb]; exact hF b j hb) (upd (by omega) _ _ _ (by rw [if_neg (by omega)]) (by rw [if_neg (by omega)]) (by rw [if_neg (by omega)])) kk
    have outer : ∀ (d : Nat) (r : Int) (I1 : gI) (o2 o3 o4 : Option Value), d = (3 - r).toNat → 0 ≤ r → r ≤ 3 → (∀ b j, b ≠ mo + 1 → I1 b j = I b j) → (∀ j, I1 (mo + 1) j = if j < 3843 + 270 * r then S0 j else 0) → G X 175 [some (va_rf (some mo)), some (VI r), o2, o3, o4] [] T9 I1 J O9 20 47683 := by
      intro d
      induction d using Nat.strongRecOn with
      | ind d ih =>
      intro r I1 o2 o3 o4 hd r0 r1 hF hP
      refine G_rg (fun hr => ?_)
      refine G_iload1 x eX11_init_175 ?_
      refine G_push x eX11_init_176 ?_
      refine G_icmp_ge x eX11_init_177 (by first | omega | exact hr _ _ | exact hr0 _ _ | exact hrS _) (by first | omega | exact hr _ _ | exact hr0 _ _ | exact hrS _) (fun c177 => ?_) (fun c177 => ?_)
      · refine G_return x en eX11_init_319 (by omega) (by omega) ?_
        refine ⟨rfl, hq1, hq2, hM, hF, fun j => ?_, rfl, hq3⟩; rw [hP j]; by_cases e : j < 3843 + 270 * r; { rw [if_pos e] }; { rw [if_neg e, S0_o (by omega)] }
      · refine G_push x eX11_init_180 ?_
        refine G_istore2 x eX11_init_181 ?_
        exact lines _ _ _ _ _ _ rfl r0 (by omega) (by omega) (by omega) hF (fun j => by rw [hP j]; by_cases e : j < 3843 + 270 * r; { rw [if_pos e, if_pos (by omega)] }; { rw [if_neg e]; by_cases e2 : j < 3843 + 270 * r + 6 + 5 * 0; { obtain ⟨w, hw⟩ : ∃ w, j = 3843 + 270 * r + w := ⟨j - (3843 + 270 * r), by omega⟩; subst hw; rw [if_pos e2, S0_h r0 (by omega) (by omega) (by omega)] }; { rw [if_neg e2] } }) (fun I1 o2 o3 o4 a b => ih _ (by omega) _ _ _ _ _ rfl (by omega) (by omega) a b)
    refine G_rg (fun hr => ?_)
    refine G_push x eX11_init_173 ?_
    refine G_istore1 x eX11_init_174 ?_
    exact outer _ _ _ _ _ _ rfl (by omega) (by omega) (fun _ _ _ => rfl) (fun j => by rw [(hz (mo + 1) j (by omega)).1]; by_cases e : j < 3843 + 270 * 0; { rw [if_pos e, S0_o (by omega)] }; { rw [if_neg e] })
  refine G_aload0 x eX11_init_0 ?_
  refine G_oi x eX11_init_1 olX11 rm ?_
  refine G_aload0 x eX11_init_4 ?_
  refine G_push x eX11_init_5 ?_
  refine G_na_int (N := 4653) x eX11_init_8 rfl (by omega) rm (by omega) (by omega) (fun i8 j8 o8 => ?_)
  refine G_putr x eX11_init_10 fX11_7 rfl (fun v => by cases v <;> exact ⟨rfl, rfl⟩) (Or.inr ⟨rfl, ini rfl, rfl⟩) rfl (by repeat' (first | exact hm | refine gpush_o ?_ (by first | (simp only [gpush]; omega) | omega))) ?_
  refine G_aload0 x eX11_init_13 ?_
  refine G_push x eX11_init_14 ?_
  refine G_na_int (N := 18612) x eX11_init_17 rfl (by omega) rm (by omega) (by omega) (fun i17 j17 o17 => ?_)
  refine G_putr x eX11_init_19 fX11_13 rfl (fun v => by cases v <;> exact ⟨rfl, rfl⟩) (Or.inr ⟨rfl, ini rfl, rfl⟩) rfl (by repeat' (first | exact hm | refine gpush_o ?_ (by first | (simp only [gpush]; omega) | omega))) ?_
  refine G_aload0 x eX11_init_22 ?_
  refine G_push x eX11_init_23 ?_
  refine G_na_int (N := 4653) x eX11_init_26 rfl (by omega) rm (by omega) (by omega) (fun i26 j26 o26 => ?_)
  refine G_putr x eX11_init_28 fX11_16 rfl (fun v => by cases v <;> exact ⟨rfl, rfl⟩) (Or.inr ⟨rfl, ini rfl, rfl⟩) rfl (by repeat' (first | exact hm | refine gpush_o ?_ (by first | (simp only [gpush]; omega) | omega))) ?_
  refine G_aload0 x eX11_init_31 ?_
  refine G_push x eX11_init_32 ?_
  refine G_na_int (N := 64) x eX11_init_34 rfl (by omega) rm (by omega) (by omega) (fun i34 j34 o34 => ?_)
  refine G_putr x eX11_init_36 fX11_19 rfl (fun v => by cases v <;> exact ⟨rfl, rfl⟩) (Or.inr ⟨rfl, ini rfl, rfl⟩) rfl (by repeat' (first | exact hm | refine gpush_o ?_ (by first | (simp only [gpush]; omega) | omega))) ?_
  refine G_aload0 x eX11_init_39 ?_
  refine G_push x eX11_init_40 ?_
  refine G_na_int (N := 12) x eX11_init_42 rfl (by omega) rm (by omega) (by omega) (fun i42 j42 o42 => ?_)
  refine G_putr x eX11_init_44 fX11_22 rfl (fun v => by cases v <;> exact ⟨rfl, rfl⟩) (Or.inr ⟨rfl, ini rfl, rfl⟩) rfl (by repeat' (first | exact hm | refine gpush_o ?_ (by first | (simp only [gpush]; omega) | omega))) ?_
  refine G_aload0 x eX11_init_47 ?_
  refine G_push x eX11_init_48 ?_
  refine G_na_int (N := 12) x eX11_init_50 rfl (by omega) rm (by omega) (by omega) (fun i50 j50 o50 => ?_)
  refine G_putr x eX11_init_52 fX11_25 rfl (fun v => by cases v <;> exact ⟨rfl, rfl⟩) (Or.inr ⟨rfl, ini rfl, rfl⟩) rfl (by repeat' (first | exact hm | refine gpush_o ?_ (by first | (simp only [gpush]; omega) | omega))) ?_
  refine G_aload0 x eX11_init_55 ?_
  refine G_push x eX11_init_56 ?_
  refine G_na_int (N := 12) x eX11_init_58 rfl (by omega) rm (by omega) (by omega) (fun i58 j58 o58 => ?_)
  refine G_putr x eX11_init_60 fX11_28 rfl (fun v => by cases v <;> exact ⟨rfl, rfl⟩) (Or.inr ⟨rfl, ini rfl, rfl⟩) rfl (by repeat' (first | exact hm | refine gpush_o ?_ (by first | (simp only [gpush]; omega) | omega))) ?_
  refine G_aload0 x eX11_init_63 ?_
  refine G_push x eX11_init_64 ?_
  refine G_na_int (N := 24) x eX11_init_66 rfl (by omega) rm (by omega) (by omega) (fun i66 j66 o66 => ?_)
  refine G_putr x eX11_init_68 fX11_31 rfl (fun v => by cases v <;> exact ⟨rfl, rfl⟩) (Or.inr ⟨rfl, ini rfl, rfl⟩) rfl (by repeat' (first | exact hm | refine gpush_o ?_ (by first | (simp only [gpush]; omega) | omega))) ?_
  refine G_aload0 x eX11_init_71 ?_
  refine G_push x eX11_init_72 ?_
  refine G_na_int (N := 120) x eX11_init_74 rfl (by omega) rm (by omega) (by omega) (fun i74 j74 o74 => ?_)
  refine G_putr x eX11_init_76 fX11_34 rfl (fun v => by cases v <;> exact ⟨rfl, rfl⟩) (Or.inr ⟨rfl, ini rfl, rfl⟩) rfl (by repeat' (first | exact hm | refine gpush_o ?_ (by first | (simp only [gpush]; omega) | omega))) ?_
  refine G_aload0 x eX11_init_79 ?_
  refine G_push x eX11_init_80 ?_
  refine G_na_int (N := 144) x eX11_init_83 rfl (by omega) rm (by omega) (by omega) (fun i83 j83 o83 => ?_)
  refine G_putr x eX11_init_85 fX11_37 rfl (fun v => by cases v <;> exact ⟨rfl, rfl⟩) (Or.inr ⟨rfl, ini rfl, rfl⟩) rfl (by repeat' (first | exact hm | refine gpush_o ?_ (by first | (simp only [gpush]; omega) | omega))) ?_
  refine G_aload0 x eX11_init_88 ?_
  refine G_push x eX11_init_89 ?_
  refine G_na_long (N := 144) x eX11_init_92 rfl (by omega) rm (by omega) (by omega) (fun i92 j92 o92 => ?_)
  refine G_putr x eX11_init_94 fX11_40 rfl (fun v => by cases v <;> exact ⟨rfl, rfl⟩) (Or.inr ⟨rfl, ini rfl, rfl⟩) rfl (by repeat' (first | exact hm | refine gpush_o ?_ (by first | (simp only [gpush]; omega) | omega))) ?_
  refine G_aload0 x eX11_init_97 ?_
  refine G_push x eX11_init_98 ?_
  refine G_na_int (N := 144) x eX11_init_101 rfl (by omega) rm (by omega) (by omega) (fun i101 j101 o101 => ?_)
  refine G_putr x eX11_init_103 fX11_44 rfl (fun v => by cases v <;> exact ⟨rfl, rfl⟩) (Or.inr ⟨rfl, ini rfl, rfl⟩) rfl (by repeat' (first | exact hm | refine gpush_o ?_ (by first | (simp only [gpush]; omega) | omega))) ?_
  refine G_aload0 x eX11_init_106 ?_
  refine G_push x eX11_init_107 ?_
  refine G_na_boolean (N := 17280) x eX11_init_110 rfl (by omega) rm (by omega) (by omega) (fun i110 j110 o110 => ?_)
  refine G_putr x eX11_init_112 fX11_47 rfl (fun v => by cases v <;> exact ⟨rfl, rfl⟩) (Or.inr ⟨rfl, ini rfl, rfl⟩) rfl (by repeat' (first | exact hm | refine gpush_o ?_ (by first | (simp only [gpush]; omega) | omega))) ?_
  refine G_aload0 x eX11_init_115 ?_
  refine G_push x eX11_init_116 ?_
  refine G_na_boolean (N := 120) x eX11_init_118 rfl (by omega) rm (by omega) (by omega) (fun i118 j118 o118 => ?_)
  refine G_putr x eX11_init_120 fX11_51 rfl (fun v => by cases v <;> exact ⟨rfl, rfl⟩) (Or.inr ⟨rfl, ini rfl, rfl⟩) rfl (by repeat' (first | exact hm | refine gpush_o ?_ (by first | (simp only [gpush]; omega) | omega))) ?_
  refine G_aload0 x eX11_init_123 ?_
  refine G_push x eX11_init_124 ?_
  refine G_na_boolean (N := 120) x eX11_init_126 rfl (by omega) rm (by omega) (by omega) (fun i126 j126 o126 => ?_)
  refine G_putr x eX11_init_128 fX11_54 rfl (fun v => by cases v <;> exact ⟨rfl, rfl⟩) (Or.inr ⟨rfl, ini rfl, rfl⟩) rfl (by repeat' (first | exact hm | refine gpush_o ?_ (by first | (simp only [gpush]; omega) | omega))) ?_
  refine G_aload0 x eX11_init_131 ?_
  refine G_push x eX11_init_132 ?_
  refine G_na_boolean (N := 120) x eX11_init_134 rfl (by omega) rm (by omega) (by omega) (fun i134 j134 o134 => ?_)
  refine G_putr x eX11_init_136 fX11_57 rfl (fun v => by cases v <;> exact ⟨rfl, rfl⟩) (Or.inr ⟨rfl, ini rfl, rfl⟩) rfl (by repeat' (first | exact hm | refine gpush_o ?_ (by first | (simp only [gpush]; omega) | omega))) ?_
  refine G_aload0 x eX11_init_139 ?_
  refine G_push x eX11_init_140 ?_
  refine G_na_int (N := 121) x eX11_init_142 rfl (by omega) rm (by omega) (by omega) (fun i142 j142 o142 => ?_)
  refine G_putr x eX11_init_144 fX11_60 rfl (fun v => by cases v <;> exact ⟨rfl, rfl⟩) (Or.inr ⟨rfl, ini rfl, rfl⟩) rfl (by repeat' (first | exact hm | refine gpush_o ?_ (by first | (simp only [gpush]; omega) | omega))) ?_
  refine G_aload0 x eX11_init_147 ?_
  refine G_push x eX11_init_148 ?_
  refine G_na_int (N := 120) x eX11_init_150 rfl (by omega) rm (by omega) (by omega) (fun i150 j150 o150 => ?_)
  refine G_putr x eX11_init_152 fX11_63 rfl (fun v => by cases v <;> exact ⟨rfl, rfl⟩) (Or.inr ⟨rfl, ini rfl, rfl⟩) rfl (by repeat' (first | exact hm | refine gpush_o ?_ (by first | (simp only [gpush]; omega) | omega))) ?_
  refine G_aload0 x eX11_init_155 ?_
  refine G_push x eX11_init_156 ?_
  refine G_na_long (N := 604) x eX11_init_159 rfl (by omega) rm (by omega) (by omega) (fun i159 j159 o159 => ?_)
  refine G_putr x eX11_init_161 fX11_66 rfl (fun v => by cases v <;> exact ⟨rfl, rfl⟩) (Or.inr ⟨rfl, ini rfl, rfl⟩) rfl (by repeat' (first | exact hm | refine gpush_o ?_ (by first | (simp only [gpush]; omega) | omega))) ?_
  refine G_aload0 x eX11_init_164 ?_
  refine G_push x eX11_init_165 ?_
  refine G_na_long (N := 604) x eX11_init_168 rfl (by omega) rm (by omega) (by omega) (fun i168 j168 o168 => ?_)
  refine G_putr x eX11_init_170 fX11_69 rfl (fun v => by cases v <;> exact ⟨rfl, rfl⟩) (Or.inr ⟨rfl, ini rfl, rfl⟩) rfl (by repeat' (first | exact hm | refine gpush_o ?_ (by first | (simp only [gpush]; omega) | omega))) ?_
  exact key _ _ (by simp only [gpush]; omega) (fun a ha => by repeat (rw [gpush_k (by first | (simp only [gpush]; omega) | omega)])) ⟨by repeat' (first | exact hm | exact gpush_at (by first | (simp only [gpush]; omega) | omega) | refine gpush_o ?_ (by first | (simp only [gpush]; omega) | omega)), by (repeat (first | rw [uO_s] | rw [uO_k (by decide)])); exact congrArg some (by first | (simp only [gpush]; omega) | omega), by repeat' (first | exact hm | exact gpush_at (by first | (simp only [gpush]; omega) | omega) | refine gpush_o ?_ (by first | (simp only [gpush]; omega) | omega)), by (repeat (first | rw [uO_s] | rw [uO_k (by decide)])); exact congrArg some (by first | (simp only [gpush]; omega) | omega), by repeat' (first | exact hm | exact gpush_at (by first | (simp only [gpush]; omega) | omega) | refine gpush_o ?_ (by first | (simp only [gpush]; omega) | omega)), by (repeat (first | rw [uO_s] | rw [uO_k (by decide)])); exact congrArg some (by first | (simp only [gpush]; omega) | omega), by repeat' (first | exact hm | exact gpush_at (by first | (simp only [gpush]; omega) | omega) | refine gpush_o ?_ (by first | (simp only [gpush]; omega) | omega)), by (repeat (first | rw [uO_s] | rw [uO_k (by decide)])); exact congrArg some (by first | (simp only [gpush]; omega) | omega), by repeat' (first | exact hm | exact gpush_at (by first | (simp only [gpush]; omega) | omega) | refine gpush_o ?_ (by first | (simp only [gpush]; omega) | omega)), by (repeat (first | rw [uO_s] | rw [uO_k (by decide)])); exact congrArg some (by first | (simp only [gpush]; omega) | omega), by repeat' (first | exact hm | exact gpush_at (by first | (simp only [gpush]; omega) | omega) | refine gpush_o ?_ (by first | (simp only [gpush]; omega) | omega)), by (repeat (first | rw [uO_s] | rw [uO_k (by decide)])); exact congrArg some (by first | (simp only [gpush]; omega) | omega), by repeat' (first | exact hm | exact gpush_at (by first | (simp only [gpush]; omega) | omega) | refine gpush_o ?_ (by first | (simp only [gpush]; omega) | omega)), by (repeat (first | rw [uO_s] | rw [uO_k (by decide)])); exact congrArg some (by first | (simp only [gpush]; omega) | omega), by repeat' (first | exact hm | exact gpush_at (by first | (simp only [gpush]; omega) | omega) | refine gpush_o ?_ (by first | (simp only [gpush]; omega) | omega)), by (repeat (first | rw [uO_s] | rw [uO_k (by decide)])); exact congrArg some (by first | (simp only [gpush]; omega) | omega), by repeat' (first | exact hm | exact gpush_at (by first | (simp only [gpush]; omega) | omega) | refine gpush_o ?_ (by first | (simp only [gpush]; omega) | omega)), by (repeat (first | rw [uO_s] | rw [uO_k (by decide)])); exact congrArg some (by first | (simp only [gpush]; omega) | omega), by repeat' (first | exact hm | exact gpush_at (by first | (simp only [gpush]; omega) | omega) | refine gpush_o ?_ (by first | (simp only [gpush]; omega) | omega)), by (repeat (first | rw [uO_s] | rw [uO_k (by decide)])); exact congrArg some (by first | (simp only [gpush]; omega) | omega), by repeat' (first | exact hm | exact gpush_at (by first | (simp only [gpush]; omega) | omega) | refine gpush_o ?_ (by first | (simp only [gpush]; omega) | omega)), by (repeat (first | rw [uO_s] | rw [uO_k (by decide)])); exact congrArg some (by first | (simp only [gpush]; omega) | omega), by repeat' (first | exact hm | exact gpush_at (by first | (simp only [gpush]; omega) | omega) | refine gpush_o ?_ (by first | (simp only [gpush]; omega) | omega)), by (repeat (first | rw [uO_s] | rw [uO_k (by decide)])); exact congrArg some (by first | (simp only [gpush]; omega) | omega), by repeat' (first | exact hm | exact gpush_at (by first | (simp only [gpush]; omega) | omega) | refine gpush_o ?_ (by first | (simp only [gpush]; omega) | omega)), by (repeat (first | rw [uO_s] | rw [uO_k (by decide)])); exact congrArg some (by first | (simp only [gpush]; omega) | omega), by repeat' (first | exact hm | exact gpush_at (by first | (simp only [gpush]; omega) | omega) | refine gpush_o ?_ (by first | (simp only [gpush]; omega) | omega)), by (repeat (first | rw [uO_s] | rw [uO_k (by decide)])); exact congrArg some (by first | (simp only [gpush]; omega) | omega), by repeat' (first | exact hm | exact gpush_at (by first | (simp only [gpush]; omega) | omega) | refine gpush_o ?_ (by first | (simp only [gpush]; omega) | omega)), by (repeat (first | rw [uO_s] | rw [uO_k (by decide)])); exact congrArg some (by first | (simp only [gpush]; omega) | omega), by repeat' (first | exact hm | exact gpush_at (by first | (simp only [gpush]; omega) | omega) | refine gpush_o ?_ (by first | (simp only [gpush]; omega) | omega)), by (repeat (first | rw [uO_s] | rw [uO_k (by decide)])); exact congrArg some (by first | (simp only [gpush]; omega) | omega), by repeat' (first | exact hm | exact gpush_at (by first | (simp only [gpush]; omega) | omega) | refine gpush_o ?_ (by first | (simp only [gpush]; omega) | omega)), by (repeat (first | rw [uO_s] | rw [uO_k (by decide)])); exact congrArg some (by first | (simp only [gpush]; omega) | omega), by repeat' (first | exact hm | exact gpush_at (by first | (simp only [gpush]; omega) | omega) | refine gpush_o ?_ (by first | (simp only [gpush]; omega) | omega)), by (repeat (first | rw [uO_s] | rw [uO_k (by decide)])); exact congrArg some (by first | (simp only [gpush]; omega) | omega), by repeat' (first | exact hm | exact gpush_at (by first | (simp only [gpush]; omega) | omega) | refine gpush_o ?_ (by first | (simp only [gpush]; omega) | omega)), by (repeat (first | rw [uO_s] | rw [uO_k (by decide)])); exact congrArg some (by first | (simp only [gpush]; omega) | omega), by repeat' (first | exact hm | exact gpush_at (by first | (simp only [gpush]; omega) | omega) | refine gpush_o ?_ (by first | (simp only [gpush]; omega) | omega)), by (repeat (first | rw [uO_s] | rw [uO_k (by decide)])); exact congrArg some (by first | (simp only [gpush]; omega) | omega), by repeat' (first | exact hm | exact gpush_at (by first | (simp only [gpush]; omega) | omega) | refine gpush_o ?_ (by first | (simp only [gpush]; omega) | omega))⟩ (fun b j hb => by repeat (rw [uO_a hb]))
