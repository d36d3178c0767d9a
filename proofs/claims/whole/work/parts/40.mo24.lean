theorem rkF_w {S : Int → Int} {r id k : Int} {V : Int → Int64} {E : Int → Int} {w w' : Int64} : (rkF S r id V E k w).1 = (rkF S r id V E k w').1 ∧ (rkF S r id V E k w).2.1 = (rkF S r id V E k w').2.1 ∧ ((rkF S r id V E k w).2.1 = 0 → (rkF S r id V E k w).2.2 = (rkF S r id V E k w').2.2) := by
  unfold rkF
  split
  · split
    · exact ⟨rfl, rfl, fun h => absurd (show (2 : Int) = 0 from h) (by decide)⟩
    · exact ⟨rfl, rfl, fun _ => rfl⟩
  · split
    · exact ⟨rfl, rfl, fun _ => rfl⟩
    · exact ⟨rfl, rfl, fun _ => rfl⟩
theorem rkF_k {S : Int → Int} {r id k : Int} {V : Int → Int64} {E : Int → Int} {w : Int64} (hs : sgOk S id) (k0 : 0 ≤ k) (k1 : k < S (3 + 32 * id + 7)) : k + 1 ≤ (rkF S r id V E k w).1 ∧ (rkF S r id V E k w).1 ≤ S (3 + 32 * id + 7) := by
  unfold rkF
  split
  · next e => exact ⟨by show k + 1 ≤ k + 3; omega, (hs.2.2 k k0 k1 e).2.2⟩
  · split
    · exact ⟨Int.le_refl _, by show k + 1 ≤ _; omega⟩
    · exact ⟨Int.le_refl _, by show k + 1 ≤ _; omega⟩
/-- a formula calculated, from a place on: the error, the sum -/
noncomputable def clc (S : Int → Int) (r id : Int) (V : Int → Int64) (E : Int → Int) : Nat → Int → Int → Int64 → Int64 → Int → Int × Int64
  | 0, _, _, su, _, _ => (0, su)
  | d + 1, k, fi, su, pr, bf =>
    if k < S (3 + 32 * id + 7) then
      let f := rkF S r id V E k 0
      let pr' := if fi = 1 then f.2.2 else pr * f.2.2
      let er := if f.2.1 = 0 ∧ fi = 0 ∧ b01 (far pr') = 1 then 3 else f.2.1
      let sg := if f.1 < S (3 + 32 * id + 7) then S (3 + 32 * id + (8 + f.1)) else -1
      let su' := su + (if bf = -2 then -pr' else pr')
      if er = 0 then
        (if sg = -3 then clc S r id V E d (f.1 + 1) 0 su pr' bf else if b01 (far su') = 1 then (3, su') else clc S r id V E d (f.1 + 1) 1 su' pr' sg)
      else (er, su)
    else (0, su)
noncomputable def clcF (S : Int → Int) (r id : Int) (V : Int → Int64) (E : Int → Int) : Int × Int64 := clc S r id V E 25 0 1 0 1 (-1)
theorem uI_f {I : gI} {a b : Nat} {k x : Int} (h : b ≠ a) : uI I a k x b = I b := funext fun j => uI_a h j
theorem uJ_f {J : gJ} {a b : Nat} {k : Int} {x : Int64} (h : b ≠ a) : uJ J a k x b = J b := funext fun j => uJ_a h j
def clP (T : gT) (I : gI) (J : gJ) (O : gO) (mo : Nat) (c : Int) (res : Int × Int64) : gP := fun v T' I' J' O' => v = none ∧ T' = T ∧ O' = O ∧ (∀ b j, (b ≠ mo ∨ j ≠ 25) → (b ≠ mo + 12 ∨ j ≠ c) → I' b j = I b j) ∧ (∀ b j, (b ≠ mo ∨ j ≠ 26) → (b ≠ mo + 11 ∨ j ≠ c) → J' b j = J b j) ∧ I' (mo + 12) c = res.1 ∧ J' (mo + 11) c = if res.1 = 0 then res.2 else 0
set_option maxHeartbeats 4000000 in
set_option maxRecDepth 20000 in
theorem ct_X11_calculates {T : gT} {I : gI} {J : gJ} {O : gO} {mo : Nat} {S : Int → Int} {r c id : Int} (hM : MoAt T O mo) (hL : lkO I mo S r) (c0 : 0 ≤ c) (c1 : c < 144) (h0 : 0 ≤ id) (h1 : id < 120) (hs : sgOk S id) : Ct yX11_calculates cX11_calculates 12 none [va_rf (some mo), VI c, VI id] 3 72 0 0 T I J O (clP T I J O mo c (clcF S r id (J (mo + 11)) (I (mo + 12)))) := by
  refine Ct.of (by decide) [some (va_rf (some mo)), some (VI c), some (VI id), none, none, none, none, none, none, none, none, none] (gEn1 (List.forall_mem_cons.mpr ⟨cat_VR _, List.forall_mem_cons.mpr ⟨cat_VI _, List.forall_mem_cons.mpr ⟨cat_VI _, fun _ h => nomatch h⟩⟩⟩) rfl (Nat.le_of_ble_eq_true rfl) rfl) ?_
  intro X x en rm ini hr hz
  have hr0 := hr
  have hrS : ∀ (j : Int), in32 (S j) := fun j => by rw [← hL.1]; exact hr _ _
  have hL9 : ∀ e, lkO (uI I mo 25 e) mo S r := fun e => hL.c (fun j => uI_a (by omega) j) (fun j => uI_a (by omega) j) (fun j => uI_a (by omega) j) (uI_k (by omega)) (uI_k (by omega))
  have s0 := hs.1
  have s1 := hs.2.1
  have hr9r : ∀ e, (∀ a k, in32 ((uI (uI I mo 25 e) mo 25 e) a k)) → in32 e := fun e h => by have := h mo 25; rwa [uI_s] at this
  generalize hres : clcF S r id (J (mo + 11)) (I (mo + 12)) = res at en
  have fin : ∀ (e : Int) (w su : Int64) (l5 l6 l7 l8 l9 l10 l11 : Option Value), in32 e → res = (e, su) → G X 197 [some (va_rf (some mo)), some (VI c), some (VI id), some (.long su), none, l5, l6, l7, l8, l9, l10, l11] [] T (uI I mo 25 e) (uJ J mo 26 w) O 0 0 := by
    intro e w su l5 l6 l7 l8 l9 l10 l11 he hr9
    rw [hr9] at en
    have hE1 : ∀ y : Int64, (y = if e = 0 then su else 0) → clP T I J O mo c (e, su) none T (uI (uI I mo 25 e) (mo + 12) c e) (uJ (uJ J mo 26 w) (mo + 11) c y) O := fun y hy =>
      ⟨rfl, rfl, rfl, fun b j b1 b2 => by
        by_cases q : b = mo + 12
        · rw [uI_k (by omega), uI_a (by omega)]
        · rw [uI_a q]
          by_cases q2 : b = mo
          · rw [uI_k (by omega)]
          · rw [uI_a q2], fun b j b1 b2 => by
        by_cases q : b = mo + 11
        · rw [uJ_k (by omega), uJ_a (by omega)]
        · rw [uJ_a q]
          by_cases q2 : b = mo
          · rw [uJ_k (by omega)]
          · rw [uJ_a q2], uI_s, by rw [uJ_s]; exact hy⟩
    refine G_rg (fun hr => ?_)
    refine G_aload0 x eX11_calculates_197 ?_
    refine G_getq x eX11_calculates_198 fX11_44 rfl rfl hM.m hM.o_errors ?_
    refine G_iload1 x eX11_calculates_201 ?_
    refine G_aload0 x eX11_calculates_202 ?_
    refine G_geti x eX11_calculates_203 fX11_237 rfl rfl hM.m (fun h203 => ?_)
    rw [uI_s]
    refine G_iast x eX11_calculates_206 rfl hM.t_errors (by omega) (by omega) (by omega) (by first | omega | exact hr _ _ | exact hr0 _ _ | exact hrS _) ?_
    refine G_rg (fun hr => ?_)
    refine G_aload0 x eX11_calculates_207 ?_
    refine G_getq x eX11_calculates_208 fX11_40 rfl rfl hM.m hM.o_values ?_
    refine G_iload1 x eX11_calculates_211 ?_
    refine G_aload0 x eX11_calculates_212 ?_
    refine G_geti x eX11_calculates_213 fX11_237 rfl rfl hM.m (fun h213 => ?_)
    rw [uI_a (by omega), uI_s]
    refine G_if_ne x eX11_calculates_216 (by first | omega | exact hr _ _ | exact hr0 _ _ | exact hrS _) (fun c216 => ?_) (fun c216 => ?_)
    · refine G_lconst x eX11_calculates_223 ?_
      refine G_last x eX11_calculates_224 rfl hM.t_values (by omega) (by omega) (by omega) ?_
      refine G_return x en eX11_calculates_225 (by omega) (by omega) ?_
      first | exact hE1 _ (by rw [if_pos c216]) | exact hE1 _ (by rw [if_neg c216]; rfl)
    · refine G_lload3 x eX11_calculates_219 ?_
      refine G_goto x eX11_calculates_220 ?_
      refine G_last x eX11_calculates_224 rfl hM.t_values (by omega) (by omega) (by omega) ?_
      refine G_return x en eX11_calculates_225 (by omega) (by omega) ?_
      first | exact hE1 _ (by rw [if_pos c216]) | exact hE1 _ (by rw [if_neg c216]; rfl)
  have quit : ∀ (e bf fi k : Int) (w su pr : Int64) (l11 : Option Value), e ≠ 0 → in32 e → in32 k → res = (e, su) → G X 28 [some (va_rf (some mo)), some (VI c), some (VI id), some (.long su), none, some (.long pr), none, some (VI bf), some (VI fi), some (VI (S (3 + 32 * id + 7))), some (VI k), l11] [] T (uI I mo 25 e) (uJ J mo 26 w) O 0 0 := by
    intro e bf fi k w su pr l11 he hi hk hr9
    refine G_rg (fun hr => ?_)
    refine G_iload10 x eX11_calculates_28 ?_
    refine G_iload9 x eX11_calculates_30 ?_
    refine G_icmp_ge x eX11_calculates_32 (by first | omega | exact hr _ _ | exact hr0 _ _ | exact hrS _) (by first | omega | exact hr _ _ | exact hr0 _ _ | exact hrS _) (fun c32 => ?_) (fun c32 => ?_)
    · exact fin _ _ _ _ _ _ _ _ _ _ hi hr9
    · refine G_aload0 x eX11_calculates_35 ?_
      refine G_geti x eX11_calculates_36 fX11_237 rfl rfl hM.m (fun h36 => ?_)
      rw [uI_s]
      refine G_if_ne x eX11_calculates_39 (by first | omega | exact hr _ _ | exact hr0 _ _ | exact hrS _) (fun c39 => ?_) (fun c39 => ?_)
      · exact fin _ _ _ _ _ _ _ _ _ _ hi hr9
      · omega
  have loop : ∀ (d : Nat) (k fi bf : Int) (w su pr : Int64) (l11 : Option Value), S (3 + 32 * id + 7) - k < d → 0 ≤ k → k ≤ 25 → (fi = 0 ∨ fi = 1) → in32 bf → res = clc S r id (J (mo + 11)) (I (mo + 12)) d k fi su pr bf → G X 28 [some (va_rf (some mo)), some (VI c), some (VI id), some (.long su), none, some (.long pr), none, some (VI bf), some (VI fi), some (VI (S (3 + 32 * id + 7))), some (VI k), l11] [] T (uI I mo 25 0) (uJ J mo 26 w) O 0 0 := by
    intro d
    induction d with
    | zero =>
      intro k fi bf w su pr l11 hd k0 k1 hfi hbf hr9
      refine G_rg (fun hr => ?_)
      refine G_iload10 x eX11_calculates_28 ?_
      refine G_iload9 x eX11_calculates_30 ?_
      refine G_icmp_ge x eX11_calculates_32 (by first | omega | exact hr _ _ | exact hr0 _ _ | exact hrS _) (by first | omega | exact hr _ _ | exact hr0 _ _ | exact hrS _) (fun c32 => ?_) (fun c32 => ?_)
      · exact fin _ _ _ _ _ _ _ _ _ _ (by omega) hr9
      · omega
    | succ d ih =>
      intro k fi bf w su pr l11 hd k0 k1 hfi hbf hr9
      by_cases hk : k < S (3 + 32 * id + 7)
      · unfold clc at hr9
        rw [if_pos hk] at hr9
        have hw := rkF_w (S := S) (r := r) (id := id) (k := k) (V := J (mo + 11)) (E := I (mo + 12)) (w := w) (w' := 0)
        have hkk := rkF_k (r := r) (V := J (mo + 11)) (E := I (mo + 12)) (w := w) hs k0 hk
        have hrk := ct_X11_reckons (J := uJ J mo 26 w) hM (hL9 0) h0 h1 hs k0 hk uI_s
        rw [uI_f (show mo + 12 ≠ mo by omega), uJ_f (show mo + 11 ≠ mo by omega), uI_uI, uJ_uJ, uJ_s] at hrk
        generalize rkF S r id (J (mo + 11)) (I (mo + 12)) k w = rk at hw hkk hrk
        generalize rkF S r id (J (mo + 11)) (I (mo + 12)) k 0 = rk0 at hw hr9
        obtain ⟨kn, er, fv⟩ := rk
        obtain ⟨kn0, er0, fv0⟩ := rk0
        obtain ⟨hw1, hw2, hw3⟩ := hw
        replace hw1 : kn = kn0 := hw1
        replace hw2 : er = er0 := hw2
        replace hw3 : er = 0 → fv = fv0 := hw3
        replace hkk : k + 1 ≤ kn ∧ kn ≤ S (3 + 32 * id + 7) := hkk
        subst hw1
        subst hw2
        dsimp only at hrk hr9
        -- behind the sign
        have s125 : ∀ (sg : Int) (pr' : Int64) (fi : Int) (l11 : Option Value), in32 sg → res = (if sg = -3 then clc S r id (J (mo + 11)) (I (mo + 12)) d (kn + 1) 0 su pr' bf else if b01 (far (su + (if bf = -2 then -pr' else pr'))) = 1 then (3, su + (if bf = -2 then -pr' else pr')) else clc S r id (J (mo + 11)) (I (mo + 12)) d (kn + 1) 1 (su + (if bf = -2 then -pr' else pr')) pr' sg) →
            G X 125 [some (va_rf (some mo)), some (VI c), some (VI id), some (.long su), none, some (.long pr'), none, some (VI bf), some (VI fi), some (VI (S (3 + 32 * id + 7))), some (VI kn), l11] [VI sg] T (uI I mo 25 0) (uJ J mo 26 fv) O 0 0 := by
          intro sg pr' fi l11 hsg hr8
          by_cases e3 : sg = -3
          · rw [if_pos e3] at hr8
            refine G_rg (fun hr => ?_)
            refine G_istore11 x eX11_calculates_125 ?_
            refine G_iinc10 x eX11_calculates_127 ?_
            refine G_iload11 x eX11_calculates_130 ?_
            refine G_push x eX11_calculates_132 ?_
            refine G_icmp_eq x eX11_calculates_134 (by first | omega | exact hr _ _ | exact hr0 _ _ | exact hrS _) (by first | omega | exact hr _ _ | exact hr0 _ _ | exact hrS _) (fun c134 => ?_) (fun c134 => ?_)
            · refine G_push x eX11_calculates_141 ?_
              refine G_istore8 x eX11_calculates_142 ?_
              refine G_iload8 x eX11_calculates_144 ?_
              refine G_if_eq x eX11_calculates_146 (by first | omega | exact hr _ _ | exact hr0 _ _ | exact hrS _) (fun c146 => ?_) (fun c146 => ?_)
              · refine G_goto x eX11_calculates_194 ?_
                exact ih _ _ _ _ _ _ _ (by omega) (by omega) (by omega) (Or.inl rfl) hbf hr8
              · omega
            · omega
          · rw [if_neg e3] at hr8
            have hb : ∀ (q : Int64), q = su + (if bf = -2 then -pr' else pr') → G X 173 [some (va_rf (some mo)), some (VI c), some (VI id), some (.long su), none, some (.long pr'), none, some (VI bf), some (VI 1), some (VI (S (3 + 32 * id + 7))), some (VI (kn + 1)), some (VI sg)] [.long q] T (uI I mo 25 0) (uJ J mo 26 fv) O 0 0 := by
              intro q hq
              rw [← hq] at hr8
              by_cases ef : far q
              · rw [b01_t ef, if_pos rfl] at hr8
                refine G_rg (fun hr => ?_)
                refine G_lstore3 x eX11_calculates_173 ?_
                refine G_aload0 x eX11_calculates_174 ?_
                refine G_lload3 x eX11_calculates_175 ?_
                refine G_cS x eX11_calculates_176 kX11_247 sm_yX11_isFar rm ct_X11_isFar rfl ?_
                rw [b01_t ef]
                refine G_if_eq x eX11_calculates_179 (by omega) (fun c179 => ?_) (fun c179 => ?_)
                · omega
                · refine G_push x eX11_calculates_182 ?_
                  refine G_goto x eX11_calculates_183 ?_
                  refine G_puti x eX11_calculates_187 fX11_237 rfl (Or.inl rfl) rfl hM.m (by first | omega | exact hr _ _ | exact hr0 _ _ | exact hrS _) ?_
                  refine G_rg (fun hr => ?_)
                  refine G_iload11 x eX11_calculates_190 ?_
                  refine G_istore7 x eX11_calculates_192 ?_
                  refine G_goto x eX11_calculates_194 ?_
                  rw [uI_uI]; exact quit _ _ _ _ _ _ _ _ (by omega) (by omega) (by omega) hr8
              · rw [b01_f ef, if_neg (show ¬ (0 : Int) = 1 by decide)] at hr8
                refine G_rg (fun hr => ?_)
                refine G_lstore3 x eX11_calculates_173 ?_
                refine G_aload0 x eX11_calculates_174 ?_
                refine G_lload3 x eX11_calculates_175 ?_
                refine G_cS x eX11_calculates_176 kX11_247 sm_yX11_isFar rm ct_X11_isFar rfl ?_
                rw [b01_f ef]
                refine G_if_eq x eX11_calculates_179 (by omega) (fun c179 => ?_) (fun c179 => ?_)
                · refine G_push x eX11_calculates_186 ?_
                  refine G_puti x eX11_calculates_187 fX11_237 rfl (Or.inl rfl) rfl hM.m (by first | omega | exact hr _ _ | exact hr0 _ _ | exact hrS _) ?_
                  refine G_rg (fun hr => ?_)
                  refine G_iload11 x eX11_calculates_190 ?_
                  refine G_istore7 x eX11_calculates_192 ?_
                  refine G_goto x eX11_calculates_194 ?_
                  rw [uI_uI]; exact ih _ _ _ _ _ _ _ (by omega) (by omega) (by omega) (Or.inr rfl) hsg hr8
                · omega
            refine G_rg (fun hr => ?_)
            refine G_istore11 x eX11_calculates_125 ?_
            refine G_iinc10 x eX11_calculates_127 ?_
            refine G_iload11 x eX11_calculates_130 ?_
            refine G_push x eX11_calculates_132 ?_
            refine G_icmp_eq x eX11_calculates_134 (by first | omega | exact hr _ _ | exact hr0 _ _ | exact hrS _) (by first | omega | exact hr _ _ | exact hr0 _ _ | exact hrS _) (fun c134 => ?_) (fun c134 => ?_)
            · omega
            · refine G_push x eX11_calculates_137 ?_
              refine G_goto x eX11_calculates_138 ?_
              refine G_istore8 x eX11_calculates_142 ?_
              refine G_iload8 x eX11_calculates_144 ?_
              refine G_if_eq x eX11_calculates_146 (by first | omega | exact hr _ _ | exact hr0 _ _ | exact hrS _) (fun c146 => ?_) (fun c146 => ?_)
              · refine G_goto x eX11_calculates_194 ?_
                omega
              · refine G_aload0 x eX11_calculates_149 ?_
                refine G_geti x eX11_calculates_150 fX11_237 rfl rfl hM.m (fun h150 => ?_)
                rw [uI_s]
                refine G_if_ne x eX11_calculates_153 (by first | omega | exact hr _ _ | exact hr0 _ _ | exact hrS _) (fun c153 => ?_) (fun c153 => ?_)
                · refine G_goto x eX11_calculates_194 ?_
                  omega
                · refine G_lload3 x eX11_calculates_156 ?_
                  refine G_iload7 x eX11_calculates_157 ?_
                  refine G_push x eX11_calculates_159 ?_
                  refine G_icmp_ne x eX11_calculates_161 (by first | omega | exact hr _ _ | exact hr0 _ _ | exact hrS _) (by first | omega | exact hr _ _ | exact hr0 _ _ | exact hrS _) (fun c161 => ?_) (fun c161 => ?_)
                  · refine G_lload5 x eX11_calculates_170 ?_
                    refine G_ladd x eX11_calculates_172 ?_
                    first | exact hb _ (by rw [if_pos c161]) | exact hb _ (by rw [if_neg c161])
                  · refine G_lload5 x eX11_calculates_164 ?_
                    refine G_lneg x eX11_calculates_166 ?_
                    refine G_goto x eX11_calculates_167 ?_
                    refine G_ladd x eX11_calculates_172 ?_
                    first | exact hb _ (by rw [if_pos c161]) | exact hb _ (by rw [if_neg c161])
        have s104 : ∀ (er9 fi9 : Int) (pr' : Int64) (l11 : Option Value), in32 er9 → res = (if er9 = 0 then (if (if kn < S (3 + 32 * id + 7) then S (3 + 32 * id + (8 + kn)) else -1) = -3 then clc S r id (J (mo + 11)) (I (mo + 12)) d (kn + 1) 0 su pr' bf else if b01 (far (su + (if bf = -2 then -pr' else pr'))) = 1 then (3, su + (if bf = -2 then -pr' else pr')) else clc S r id (J (mo + 11)) (I (mo + 12)) d (kn + 1) 1 (su + (if bf = -2 then -pr' else pr')) pr' (if kn < S (3 + 32 * id + 7) then S (3 + 32 * id + (8 + kn)) else -1)) else (er9, su)) →
            G X 104 [some (va_rf (some mo)), some (VI c), some (VI id), some (.long su), none, some (.long pr'), none, some (VI bf), some (VI fi9), some (VI (S (3 + 32 * id + 7))), some (VI kn), l11] [] T (uI I mo 25 er9) (uJ J mo 26 fv) O 0 0 := by
          intro er9 fi9 pr' l11 hi hr8
          by_cases ee : er9 = 0
          · rw [if_pos ee] at hr8
            rw [ee]
            refine G_rg (fun hr => ?_)
            refine G_iload10 x eX11_calculates_104 ?_
            refine G_iload9 x eX11_calculates_106 ?_
            refine G_icmp_ge x eX11_calculates_108 (by first | omega | exact hr _ _ | exact hr0 _ _ | exact hrS _) (by first | omega | exact hr _ _ | exact hr0 _ _ | exact hrS _) (fun c108 => ?_) (fun c108 => ?_)
            · refine G_push x eX11_calculates_124 ?_
              first | (rw [if_pos (show kn < S (3 + 32 * id + 7) by omega)] at hr8; exact s125 _ _ _ _ (hrS _) hr8) | (rw [if_neg (show ¬ kn < S (3 + 32 * id + 7) by omega)] at hr8; exact s125 _ _ _ _ (by omega) hr8)
            · refine G_aload0 x eX11_calculates_111 ?_
              refine G_iload2 x eX11_calculates_112 ?_
              refine G_push x eX11_calculates_113 ?_
              refine G_iload10 x eX11_calculates_115 ?_
              refine G_iadd x eX11_calculates_117 ?_
              refine G_cV x eX11_calculates_118 kX11_105 im_yX11_op se_yX11_op rm hM.m (ct_X11_op hM (by omega) (by omega)) rfl ?_
              rw [(hL9 0).1]
              refine G_goto x eX11_calculates_121 ?_
              first | (rw [if_pos (show kn < S (3 + 32 * id + 7) by omega)] at hr8; exact s125 _ _ _ _ (hrS _) hr8) | (rw [if_neg (show ¬ kn < S (3 + 32 * id + 7) by omega)] at hr8; exact s125 _ _ _ _ (by omega) hr8)
          · rw [if_neg ee] at hr8
            refine G_rg (fun hr => ?_)
            refine G_iload10 x eX11_calculates_104 ?_
            refine G_iload9 x eX11_calculates_106 ?_
            refine G_icmp_ge x eX11_calculates_108 (by first | omega | exact hr _ _ | exact hr0 _ _ | exact hrS _) (by first | omega | exact hr _ _ | exact hr0 _ _ | exact hrS _) (fun c108 => ?_) (fun c108 => ?_)
            · refine G_push x eX11_calculates_124 ?_
              refine G_istore11 x eX11_calculates_125 ?_
              refine G_iinc10 x eX11_calculates_127 ?_
              refine G_iload11 x eX11_calculates_130 ?_
              refine G_push x eX11_calculates_132 ?_
              refine G_icmp_eq x eX11_calculates_134 (by first | omega | exact hr _ _ | exact hr0 _ _ | exact hrS _) (by first | omega | exact hr _ _ | exact hr0 _ _ | exact hrS _) (fun c134 => ?_) (fun c134 => ?_)
              · refine G_push x eX11_calculates_141 ?_
                refine G_istore8 x eX11_calculates_142 ?_
                refine G_iload8 x eX11_calculates_144 ?_
                refine G_if_eq x eX11_calculates_146 (by first | omega | exact hr _ _ | exact hr0 _ _ | exact hrS _) (fun c146 => ?_) (fun c146 => ?_)
                · refine G_goto x eX11_calculates_194 ?_
                  exact quit _ _ _ _ _ _ _ _ ee hi (by omega) hr8
                · refine G_aload0 x eX11_calculates_149 ?_
                  refine G_geti x eX11_calculates_150 fX11_237 rfl rfl hM.m (fun h150 => ?_)
                  rw [uI_s]
                  refine G_if_ne x eX11_calculates_153 (by first | omega | exact hr _ _ | exact hr0 _ _ | exact hrS _) (fun c153 => ?_) (fun c153 => ?_)
                  · refine G_goto x eX11_calculates_194 ?_
                    exact quit _ _ _ _ _ _ _ _ ee hi (by omega) hr8
                  · omega
              · refine G_push x eX11_calculates_137 ?_
                refine G_goto x eX11_calculates_138 ?_
                refine G_istore8 x eX11_calculates_142 ?_
                refine G_iload8 x eX11_calculates_144 ?_
                refine G_if_eq x eX11_calculates_146 (by first | omega | exact hr _ _ | exact hr0 _ _ | exact hrS _) (fun c146 => ?_) (fun c146 => ?_)
                · refine G_goto x eX11_calculates_194 ?_
                  exact quit _ _ _ _ _ _ _ _ ee hi (by omega) hr8
                · refine G_aload0 x eX11_calculates_149 ?_
                  refine G_geti x eX11_calculates_150 fX11_237 rfl rfl hM.m (fun h150 => ?_)
                  rw [uI_s]
                  refine G_if_ne x eX11_calculates_153 (by first | omega | exact hr _ _ | exact hr0 _ _ | exact hrS _) (fun c153 => ?_) (fun c153 => ?_)
                  · refine G_goto x eX11_calculates_194 ?_
                    exact quit _ _ _ _ _ _ _ _ ee hi (by omega) hr8
                  · omega
            · refine G_aload0 x eX11_calculates_111 ?_
              refine G_iload2 x eX11_calculates_112 ?_
              refine G_push x eX11_calculates_113 ?_
              refine G_iload10 x eX11_calculates_115 ?_
              refine G_iadd x eX11_calculates_117 ?_
              refine G_cV x eX11_calculates_118 kX11_105 im_yX11_op se_yX11_op rm hM.m (ct_X11_op hM (by omega) (by omega)) rfl ?_
              rw [(hL9 er9).1]
              refine G_goto x eX11_calculates_121 ?_
              refine G_istore11 x eX11_calculates_125 ?_
              refine G_iinc10 x eX11_calculates_127 ?_
              refine G_iload11 x eX11_calculates_130 ?_
              refine G_push x eX11_calculates_132 ?_
              refine G_icmp_eq x eX11_calculates_134 (by first | omega | exact hr _ _ | exact hr0 _ _ | exact hrS _) (by first | omega | exact hr _ _ | exact hr0 _ _ | exact hrS _) (fun c134 => ?_) (fun c134 => ?_)
              · refine G_push x eX11_calculates_141 ?_
                refine G_istore8 x eX11_calculates_142 ?_
                refine G_iload8 x eX11_calculates_144 ?_
                refine G_if_eq x eX11_calculates_146 (by first | omega | exact hr _ _ | exact hr0 _ _ | exact hrS _) (fun c146 => ?_) (fun c146 => ?_)
                · refine G_goto x eX11_calculates_194 ?_
                  exact quit _ _ _ _ _ _ _ _ ee hi (by omega) hr8
                · refine G_aload0 x eX11_calculates_149 ?_
                  refine G_geti x eX11_calculates_150 fX11_237 rfl rfl hM.m (fun h150 => ?_)
                  rw [uI_s]
                  refine G_if_ne x eX11_calculates_153 (by first | omega | exact hr _ _ | exact hr0 _ _ | exact hrS _) (fun c153 => ?_) (fun c153 => ?_)
                  · refine G_goto x eX11_calculates_194 ?_
                    exact quit _ _ _ _ _ _ _ _ ee hi (by omega) hr8
                  · omega
              · refine G_push x eX11_calculates_137 ?_
                refine G_goto x eX11_calculates_138 ?_
                refine G_istore8 x eX11_calculates_142 ?_
                refine G_iload8 x eX11_calculates_144 ?_
                refine G_if_eq x eX11_calculates_146 (by first | omega | exact hr _ _ | exact hr0 _ _ | exact hrS _) (fun c146 => ?_) (fun c146 => ?_)
                · refine G_goto x eX11_calculates_194 ?_
                  exact quit _ _ _ _ _ _ _ _ ee hi (by omega) hr8
                · refine G_aload0 x eX11_calculates_149 ?_
                  refine G_geti x eX11_calculates_150 fX11_237 rfl rfl hM.m (fun h150 => ?_)
                  rw [uI_s]
                  refine G_if_ne x eX11_calculates_153 (by first | omega | exact hr _ _ | exact hr0 _ _ | exact hrS _) (fun c153 => ?_) (fun c153 => ?_)
                  · refine G_goto x eX11_calculates_194 ?_
                    exact quit _ _ _ _ _ _ _ _ ee hi (by omega) hr8
                  · omega
        by_cases ee : er = 0
        · have hfv := hw3 ee
          subst hfv
          rcases hfi with hfi | hfi
          · rw [if_neg (show ¬ fi = 1 by omega)] at hr9
            by_cases ef : far (pr * fv)
            · rw [if_pos (show er = 0 ∧ fi = 0 ∧ b01 (far (pr * fv)) = 1 from ⟨ee, hfi, b01_t ef⟩)] at hr9
              refine G_rg (fun hr => ?_)
              refine G_iload10 x eX11_calculates_28 ?_
              refine G_iload9 x eX11_calculates_30 ?_
              refine G_icmp_ge x eX11_calculates_32 (by first | omega | exact hr _ _ | exact hr0 _ _ | exact hrS _) (by first | omega | exact hr _ _ | exact hr0 _ _ | exact hrS _) (fun c32 => ?_) (fun c32 => ?_)
              · omega
              · refine G_aload0 x eX11_calculates_35 ?_
                refine G_geti x eX11_calculates_36 fX11_237 rfl rfl hM.m (fun h36 => ?_)
                rw [uI_s]
                refine G_if_ne x eX11_calculates_39 (by first | omega | exact hr _ _ | exact hr0 _ _ | exact hrS _) (fun c39 => ?_) (fun c39 => ?_)
                · omega
                · refine G_aload0 x eX11_calculates_42 ?_
                  refine G_iload2 x eX11_calculates_43 ?_
                  refine G_iload10 x eX11_calculates_44 ?_
                  refine G_cV x eX11_calculates_46 kX11_254 im_yX11_reckons se_yX11_reckons rm hM.m hrk rfl ?_
                  refine G_istore10 x eX11_calculates_49 ?_
                  refine G_iload8 x eX11_calculates_51 ?_
                  refine G_if_eq x eX11_calculates_53 (by first | omega | exact hr _ _ | exact hr0 _ _ | exact hrS _) (fun c53 => ?_) (fun c53 => ?_)
                  · refine G_lload5 x eX11_calculates_63 ?_
                    refine G_aload0 x eX11_calculates_65 ?_
                    refine G_getl x eX11_calculates_66 fX11_240 rfl rfl hM.m ?_
                    rw [uJ_s]
                    refine G_lmul x eX11_calculates_69 ?_
                    refine G_lstore5 x eX11_calculates_70 ?_
                    refine G_aload0 x eX11_calculates_72 ?_
                    refine G_aload0 x eX11_calculates_73 ?_
                    refine G_geti x eX11_calculates_74 fX11_237 rfl rfl hM.m (fun h74 => ?_)
                    rw [uI_s]
                    refine G_if_ne x eX11_calculates_77 (by first | omega | exact hr _ _ | exact hr0 _ _ | exact hrS _) (fun c77 => ?_) (fun c77 => ?_)
                    · omega
                    · refine G_iload8 x eX11_calculates_80 ?_
                      refine G_if_ne x eX11_calculates_82 (by first | omega | exact hr _ _ | exact hr0 _ _ | exact hrS _) (fun c82 => ?_) (fun c82 => ?_)
                      · omega
                      · refine G_lload5 x eX11_calculates_85 ?_
                        refine G_cS x eX11_calculates_87 kX11_247 sm_yX11_isFar rm ct_X11_isFar rfl ?_
                        rw [b01_t ef]
                        refine G_if_eq x eX11_calculates_90 (by omega) (fun c90 => ?_) (fun c90 => ?_)
                        · omega
                        · refine G_push x eX11_calculates_93 ?_
                          refine G_goto x eX11_calculates_94 ?_
                          refine G_puti x eX11_calculates_101 fX11_237 rfl (Or.inl rfl) rfl hM.m (by first | omega | exact hr _ _ | exact hr0 _ _ | exact hrS _) ?_
                          refine G_rg (fun hr => ?_)
                          rw [uI_uI]; exact s104 _ _ _ _ (by omega) hr9
                  · omega
            · rw [if_neg (show ¬ (er = 0 ∧ fi = 0 ∧ b01 (far (pr * fv)) = 1) from fun z => ef (b01_1.mp z.2.2))] at hr9
              refine G_rg (fun hr => ?_)
              refine G_iload10 x eX11_calculates_28 ?_
              refine G_iload9 x eX11_calculates_30 ?_
              refine G_icmp_ge x eX11_calculates_32 (by first | omega | exact hr _ _ | exact hr0 _ _ | exact hrS _) (by first | omega | exact hr _ _ | exact hr0 _ _ | exact hrS _) (fun c32 => ?_) (fun c32 => ?_)
              · omega
              · refine G_aload0 x eX11_calculates_35 ?_
                refine G_geti x eX11_calculates_36 fX11_237 rfl rfl hM.m (fun h36 => ?_)
                rw [uI_s]
                refine G_if_ne x eX11_calculates_39 (by first | omega | exact hr _ _ | exact hr0 _ _ | exact hrS _) (fun c39 => ?_) (fun c39 => ?_)
                · omega
                · refine G_aload0 x eX11_calculates_42 ?_
                  refine G_iload2 x eX11_calculates_43 ?_
                  refine G_iload10 x eX11_calculates_44 ?_
                  refine G_cV x eX11_calculates_46 kX11_254 im_yX11_reckons se_yX11_reckons rm hM.m hrk rfl ?_
                  refine G_istore10 x eX11_calculates_49 ?_
                  refine G_iload8 x eX11_calculates_51 ?_
                  refine G_if_eq x eX11_calculates_53 (by first | omega | exact hr _ _ | exact hr0 _ _ | exact hrS _) (fun c53 => ?_) (fun c53 => ?_)
                  · refine G_lload5 x eX11_calculates_63 ?_
                    refine G_aload0 x eX11_calculates_65 ?_
                    refine G_getl x eX11_calculates_66 fX11_240 rfl rfl hM.m ?_
                    rw [uJ_s]
                    refine G_lmul x eX11_calculates_69 ?_
                    refine G_lstore5 x eX11_calculates_70 ?_
                    refine G_aload0 x eX11_calculates_72 ?_
                    refine G_aload0 x eX11_calculates_73 ?_
                    refine G_geti x eX11_calculates_74 fX11_237 rfl rfl hM.m (fun h74 => ?_)
                    rw [uI_s]
                    refine G_if_ne x eX11_calculates_77 (by first | omega | exact hr _ _ | exact hr0 _ _ | exact hrS _) (fun c77 => ?_) (fun c77 => ?_)
                    · refine G_aload0 x eX11_calculates_97 ?_
                      refine G_geti x eX11_calculates_98 fX11_237 rfl rfl hM.m (fun h98 => ?_)
                      rw [uI_s]
                      refine G_puti x eX11_calculates_101 fX11_237 rfl (Or.inl rfl) rfl hM.m (by first | omega | exact hr _ _ | exact hr0 _ _ | exact hrS _) ?_
                      refine G_rg (fun hr => ?_)
                      first | (exfalso; omega) | (rw [uI_uI]; exact s104 _ _ _ _ (by omega) hr9)
                    · refine G_iload8 x eX11_calculates_80 ?_
                      refine G_if_ne x eX11_calculates_82 (by first | omega | exact hr _ _ | exact hr0 _ _ | exact hrS _) (fun c82 => ?_) (fun c82 => ?_)
                      · refine G_aload0 x eX11_calculates_97 ?_
                        refine G_geti x eX11_calculates_98 fX11_237 rfl rfl hM.m (fun h98 => ?_)
                        rw [uI_s]
                        refine G_puti x eX11_calculates_101 fX11_237 rfl (Or.inl rfl) rfl hM.m (by first | omega | exact hr _ _ | exact hr0 _ _ | exact hrS _) ?_
                        refine G_rg (fun hr => ?_)
                        first | (exfalso; omega) | (rw [uI_uI]; exact s104 _ _ _ _ (by omega) hr9)
                      · refine G_lload5 x eX11_calculates_85 ?_
                        refine G_cS x eX11_calculates_87 kX11_247 sm_yX11_isFar rm ct_X11_isFar rfl ?_
                        rw [b01_f ef]
                        refine G_if_eq x eX11_calculates_90 (by omega) (fun c90 => ?_) (fun c90 => ?_)
                        · refine G_aload0 x eX11_calculates_97 ?_
                          refine G_geti x eX11_calculates_98 fX11_237 rfl rfl hM.m (fun h98 => ?_)
                          rw [uI_s]
                          refine G_puti x eX11_calculates_101 fX11_237 rfl (Or.inl rfl) rfl hM.m (by first | omega | exact hr _ _ | exact hr0 _ _ | exact hrS _) ?_
                          refine G_rg (fun hr => ?_)
                          first | (exfalso; omega) | (rw [uI_uI]; exact s104 _ _ _ _ (by omega) hr9)
                        · omega
                  · omega
          · rw [if_pos hfi, if_neg (show ¬ (er = 0 ∧ fi = 0 ∧ b01 (far fv) = 1) by omega)] at hr9
            refine G_rg (fun hr => ?_)
            refine G_iload10 x eX11_calculates_28 ?_
            refine G_iload9 x eX11_calculates_30 ?_
            refine G_icmp_ge x eX11_calculates_32 (by first | omega | exact hr _ _ | exact hr0 _ _ | exact hrS _) (by first | omega | exact hr _ _ | exact hr0 _ _ | exact hrS _) (fun c32 => ?_) (fun c32 => ?_)
            · omega
            · refine G_aload0 x eX11_calculates_35 ?_
              refine G_geti x eX11_calculates_36 fX11_237 rfl rfl hM.m (fun h36 => ?_)
              rw [uI_s]
              refine G_if_ne x eX11_calculates_39 (by first | omega | exact hr _ _ | exact hr0 _ _ | exact hrS _) (fun c39 => ?_) (fun c39 => ?_)
              · omega
              · refine G_aload0 x eX11_calculates_42 ?_
                refine G_iload2 x eX11_calculates_43 ?_
                refine G_iload10 x eX11_calculates_44 ?_
                refine G_cV x eX11_calculates_46 kX11_254 im_yX11_reckons se_yX11_reckons rm hM.m hrk rfl ?_
                refine G_istore10 x eX11_calculates_49 ?_
                refine G_iload8 x eX11_calculates_51 ?_
                refine G_if_eq x eX11_calculates_53 (by first | omega | exact hr _ _ | exact hr0 _ _ | exact hrS _) (fun c53 => ?_) (fun c53 => ?_)
                · omega
                · refine G_aload0 x eX11_calculates_56 ?_
                  refine G_getl x eX11_calculates_57 fX11_240 rfl rfl hM.m ?_
                  rw [uJ_s]
                  refine G_goto x eX11_calculates_60 ?_
                  refine G_lstore5 x eX11_calculates_70 ?_
                  refine G_aload0 x eX11_calculates_72 ?_
                  refine G_aload0 x eX11_calculates_73 ?_
                  refine G_geti x eX11_calculates_74 fX11_237 rfl rfl hM.m (fun h74 => ?_)
                  rw [uI_s]
                  refine G_if_ne x eX11_calculates_77 (by first | omega | exact hr _ _ | exact hr0 _ _ | exact hrS _) (fun c77 => ?_) (fun c77 => ?_)
                  · refine G_aload0 x eX11_calculates_97 ?_
                    refine G_geti x eX11_calculates_98 fX11_237 rfl rfl hM.m (fun h98 => ?_)
                    rw [uI_s]
                    refine G_puti x eX11_calculates_101 fX11_237 rfl (Or.inl rfl) rfl hM.m (by first | omega | exact hr _ _ | exact hr0 _ _ | exact hrS _) ?_
                    refine G_rg (fun hr => ?_)
                    first | (exfalso; omega) | (rw [uI_uI]; exact s104 _ _ _ _ (by omega) hr9)
                  · refine G_iload8 x eX11_calculates_80 ?_
                    refine G_if_ne x eX11_calculates_82 (by first | omega | exact hr _ _ | exact hr0 _ _ | exact hrS _) (fun c82 => ?_) (fun c82 => ?_)
                    · refine G_aload0 x eX11_calculates_97 ?_
                      refine G_geti x eX11_calculates_98 fX11_237 rfl rfl hM.m (fun h98 => ?_)
                      rw [uI_s]
                      refine G_puti x eX11_calculates_101 fX11_237 rfl (Or.inl rfl) rfl hM.m (by first | omega | exact hr _ _ | exact hr0 _ _ | exact hrS _) ?_
                      refine G_rg (fun hr => ?_)
                      first | (exfalso; omega) | (rw [uI_uI]; exact s104 _ _ _ _ (by omega) hr9)
                    · omega
        · rw [if_neg (show ¬ (er = 0 ∧ fi = 0 ∧ b01 (far (if fi = 1 then fv0 else pr * fv0)) = 1) from fun z => ee z.1), if_neg ee] at hr9
          refine G_rg (fun hr => ?_)
          refine G_iload10 x eX11_calculates_28 ?_
          refine G_iload9 x eX11_calculates_30 ?_
          refine G_icmp_ge x eX11_calculates_32 (by first | omega | exact hr _ _ | exact hr0 _ _ | exact hrS _) (by first | omega | exact hr _ _ | exact hr0 _ _ | exact hrS _) (fun c32 => ?_) (fun c32 => ?_)
          · omega
          · refine G_aload0 x eX11_calculates_35 ?_
            refine G_geti x eX11_calculates_36 fX11_237 rfl rfl hM.m (fun h36 => ?_)
            rw [uI_s]
            refine G_if_ne x eX11_calculates_39 (by first | omega | exact hr _ _ | exact hr0 _ _ | exact hrS _) (fun c39 => ?_) (fun c39 => ?_)
            · omega
            · refine G_aload0 x eX11_calculates_42 ?_
              refine G_iload2 x eX11_calculates_43 ?_
              refine G_iload10 x eX11_calculates_44 ?_
              refine G_cV x eX11_calculates_46 kX11_254 im_yX11_reckons se_yX11_reckons rm hM.m hrk rfl ?_
              refine G_istore10 x eX11_calculates_49 ?_
              refine G_iload8 x eX11_calculates_51 ?_
              refine G_if_eq x eX11_calculates_53 (by first | omega | exact hr _ _ | exact hr0 _ _ | exact hrS _) (fun c53 => ?_) (fun c53 => ?_)
              · refine G_lload5 x eX11_calculates_63 ?_
                refine G_aload0 x eX11_calculates_65 ?_
                refine G_getl x eX11_calculates_66 fX11_240 rfl rfl hM.m ?_
                refine G_lmul x eX11_calculates_69 ?_
                refine G_lstore5 x eX11_calculates_70 ?_
                refine G_aload0 x eX11_calculates_72 ?_
                refine G_aload0 x eX11_calculates_73 ?_
                refine G_geti x eX11_calculates_74 fX11_237 rfl rfl hM.m (fun h74 => ?_)
                rw [uI_s]
                rw [uI_s] at h74
                refine G_if_ne x eX11_calculates_77 (by first | omega | exact hr _ _ | exact hr0 _ _ | exact hrS _) (fun c77 => ?_) (fun c77 => ?_)
                · refine G_aload0 x eX11_calculates_97 ?_
                  refine G_geti x eX11_calculates_98 fX11_237 rfl rfl hM.m (fun h98 => ?_)
                  rw [uI_s]
                  refine G_puti x eX11_calculates_101 fX11_237 rfl (Or.inl rfl) rfl hM.m (by first | omega | exact hr _ _ | exact hr0 _ _ | exact hrS _) ?_
                  refine G_rg (fun hr => ?_)
                  rw [uI_uI]; exact s104 _ _ _ _ (hr9r er hr) (by rw [if_neg ee]; exact hr9)
                · omega
              · refine G_aload0 x eX11_calculates_56 ?_
                refine G_getl x eX11_calculates_57 fX11_240 rfl rfl hM.m ?_
                refine G_goto x eX11_calculates_60 ?_
                refine G_lstore5 x eX11_calculates_70 ?_
                refine G_aload0 x eX11_calculates_72 ?_
                refine G_aload0 x eX11_calculates_73 ?_
                refine G_geti x eX11_calculates_74 fX11_237 rfl rfl hM.m (fun h74 => ?_)
                rw [uI_s]
                rw [uI_s] at h74
                refine G_if_ne x eX11_calculates_77 (by first | omega | exact hr _ _ | exact hr0 _ _ | exact hrS _) (fun c77 => ?_) (fun c77 => ?_)
                · refine G_aload0 x eX11_calculates_97 ?_
                  refine G_geti x eX11_calculates_98 fX11_237 rfl rfl hM.m (fun h98 => ?_)
                  rw [uI_s]
                  refine G_puti x eX11_calculates_101 fX11_237 rfl (Or.inl rfl) rfl hM.m (by first | omega | exact hr _ _ | exact hr0 _ _ | exact hrS _) ?_
                  refine G_rg (fun hr => ?_)
                  rw [uI_uI]; exact s104 _ _ _ _ (hr9r er hr) (by rw [if_neg ee]; exact hr9)
                · omega
      · unfold clc at hr9
        rw [if_neg hk] at hr9
        refine G_rg (fun hr => ?_)
        refine G_iload10 x eX11_calculates_28 ?_
        refine G_iload9 x eX11_calculates_30 ?_
        refine G_icmp_ge x eX11_calculates_32 (by first | omega | exact hr _ _ | exact hr0 _ _ | exact hrS _) (by first | omega | exact hr _ _ | exact hr0 _ _ | exact hrS _) (fun c32 => ?_) (fun c32 => ?_)
        · exact fin _ _ _ _ _ _ _ _ _ _ (by omega) hr9
        · omega
  have eJ : uJ J mo 26 (J mo 26) = J := by
    funext b j
    unfold uJ
    split
    · next e => rw [e.1, e.2]
    · rfl
  have h9 := loop 25 0 1 (-1) (J mo 26) 0 1 none (by omega) (by omega) (by omega) (Or.inr rfl) (by omega) hres.symm
  rw [eJ] at h9
  refine G_rg (fun hr => ?_)
  refine G_aload0 x eX11_calculates_0 ?_
  refine G_push x eX11_calculates_1 ?_
  refine G_puti x eX11_calculates_2 fX11_237 rfl (Or.inl rfl) rfl hM.m (by first | omega | exact hr _ _ | exact hr0 _ _ | exact hrS _) ?_
  refine G_rg (fun hr => ?_)
  refine G_lconst x eX11_calculates_5 ?_
  refine G_lstore3 x eX11_calculates_6 ?_
  refine G_lconst x eX11_calculates_7 ?_
  refine G_lstore5 x eX11_calculates_8 ?_
  refine G_push x eX11_calculates_10 ?_
  refine G_istore7 x eX11_calculates_11 ?_
  refine G_push x eX11_calculates_13 ?_
  refine G_istore8 x eX11_calculates_14 ?_
  refine G_aload0 x eX11_calculates_16 ?_
  refine G_iload2 x eX11_calculates_17 ?_
  refine G_push x eX11_calculates_18 ?_
  refine G_cV x eX11_calculates_20 kX11_105 im_yX11_op se_yX11_op rm hM.m (ct_X11_op hM (by omega) (by omega)) rfl ?_
  rw [(hL9 0).1]
  refine G_istore9 x eX11_calculates_23 ?_
  refine G_push x eX11_calculates_25 ?_
  refine G_istore10 x eX11_calculates_26 ?_
  exact h9
