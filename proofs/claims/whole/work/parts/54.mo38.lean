noncomputable def wtThr (S : Int → Int) (r row col : Int) : Int := if cellIn S r row col then (if idS S r (12 * row + col) = -1 ∨ S (3 + 32 * idS S r (12 * row + col) + 5) ≠ 2 then 2 else 0) else 1
set_option maxHeartbeats 8000000 in
set_option maxRecDepth 20000 in
theorem ct_X11_write {T : gT} {I : gI} {J : gJ} {O : gO} {mo : Nat} {r row col : Int} {fl : List (Int × Int × Int × Int)} (hM : MoAt T O mo) (h0 : in32 r) (h1 : in32 row) (h2 : in32 col) (hf : 0 ≤ r → r ≤ 2 → fmOk (I (mo + 1)) r) (hfl : isFm (I (mo + 1)) r (12 * row + col) → fmlAt (I (mo + 1)) (idS (I (mo + 1)) r (12 * row + col)) fl) : Ct yX11_write cX11_write 8 (some .int) [va_rf (some mo), VI r, VI row, VI col] 5 115 0 0 T I J O (if wtThr (I (mo + 1)) r row col = 0 then mTxt T I J O mo (wtT (I (mo + 1)) r fl).length (txA (I (mo + 4)) 0 (wtT (I (mo + 1)) r fl)) (wtT (I (mo + 1)) r fl).length else mSay T I J O mo 0 (wtThr (I (mo + 1)) r row col)) := by
  refine Ct.of (by decide) [some (va_rf (some mo)), some (VI r), some (VI row), some (VI col), none, none, none, none] (gEn1 (List.forall_mem_cons.mpr ⟨cat_VR _, List.forall_mem_cons.mpr ⟨cat_VI _, List.forall_mem_cons.mpr ⟨cat_VI _, List.forall_mem_cons.mpr ⟨cat_VI _, fun _ h => nomatch h⟩⟩⟩⟩) rfl (Nat.le_of_ble_eq_true rfl) rfl) ?_
  intro X x en rm ini hr hz
  have hr0 := hr
  refine G_aload0 x eX11_write_0 ?_
  refine G_iload1 x eX11_write_1 ?_
  refine G_iload2 x eX11_write_2 ?_
  refine G_iload3 x eX11_write_3 ?_
  refine G_cVg x eX11_write_4 kX11_159 im_yX11_isCell se_yX11_isCell rm hM.m (ct_X11_isCell hM (by first | omega | exact hr _ _ | exact hr0 _ _) (by first | omega | exact hr _ _ | exact hr0 _ _) (by first | omega | exact hr _ _ | exact hr0 _ _)) rfl (fun v4 T4 I4 J4 O4 p4 => ?_)
  refine G_rg (fun hr => ?_)
  obtain ⟨rfl, rfl, rfl, rfl, hic⟩ := p4
  refine G_ifb_ne x eX11_write_7 (fun c7 => ?_) (fun c7 => ?_)
  · have hlk := icP.lk hic c7.1
    have hL := hlk.o
    have hf := hf c7.1.1 c7.1.2
    generalize hS : I (mo + 1) = S at *
    have hrS : ∀ (j : Int), in32 (S j) := fun j => by rw [← hS]; exact hr0 _ _
    have hc := cellIn.c c7
    have hcb := hc.b
    have hid := hf.2.2 _ hc
    have ht : wtThr S r row col = if idS S r (12 * row + col) = -1 ∨ S (3 + 32 * idS S r (12 * row + col) + 5) ≠ 2 then 2 else 0 := by unfold wtThr; rw [if_pos c7]
    have hfm : idS S r (12 * row + col) ≠ -1 → S (3 + 32 * idS S r (12 * row + col) + 5) = 2 → isFm S r (12 * row + col) := fun a b => ⟨hc, a, b⟩
    refine G_aload0 x eX11_write_16 ?_
    refine G_iload1 x eX11_write_17 ?_
    refine G_push x eX11_write_18 ?_
    refine G_iload2 x eX11_write_20 ?_
    refine G_imul x eX11_write_21 ?_
    refine G_iload3 x eX11_write_22 ?_
    refine G_iadd x eX11_write_23 ?_
    refine G_cV x eX11_write_24 kX11_214 im_yX11_opAt se_yX11_opAt rm hM.m (ct_X11_opAt hM hL c7.1.1 c7.1.2 hc) rfl ?_
    generalize hidg : idS S r (12 * row + col) = id at *
    have fail : id = -1 ∨ S (3 + 32 * id + 5) ≠ 2 → mSay T4 I J4 O4 mo 0 2 = (if wtThr S r row col = 0 then mTxt T4 I J4 O4 mo (wtT S r fl).length (txA (I (mo + 4)) 0 (wtT S r fl)) (wtT S r fl).length else mSay T4 I J4 O4 mo 0 (wtThr S r row col)) := fun z => by
      rw [ht, if_pos z, if_neg (by decide)]
    have go : id ≠ -1 → S (3 + 32 * id + 5) = 2 → G X 52 [some (va_rf (some mo)), some (VI r), some (VI row), some (VI col), some (VI id), none, none, none] [] T4 I4 J4 O4 0 0 := by
      intro i1 i2
      have hfa := hfl (hfm i1 i2)
      obtain ⟨f1, f2, f3, f4, f5⟩ := hfa
      have ht0 : wtThr S r row col = 0 := by rw [ht, if_neg (by omega)]
      rw [if_pos ht0] at en
      have hL0 : lkO (uI I4 mo 5 0) mo S r := hL.c (fun j => uI_a (by omega) j) (fun j => uI_a (by omega) j) (fun j => uI_a (by omega) j) (uI_k (by omega)) (uI_k (by omega))
      have hLt : ∀ l, lkO (txI (uI I4 mo 5 0) mo l) mo S r := fun l => hL0.c (fun j => txI_o (by omega) (by omega)) (fun j => txI_o (by omega) (by omega)) (fun j => txI_o (by omega) (by omega)) (txI_o (by omega) (by omega)) (txI_o (by omega) (by omega))
      have h5 : ∀ l, (txI (uI I4 mo 5 0) mo l) mo 5 = l.length := fun l => by rw [txI_5, uI_s]; omega
      have hn24 := tks_w (l := fl)
      have hend : mTxt T4 I J4 O4 mo (wtT S r fl).length (txA (I (mo + 4)) 0 (wtT S r fl)) (wtT S r fl).length (some (VI (wtT S r fl).length)) T4 (uI (txI (uI I4 mo 5 0) mo (wtT S r fl)) mo 6 0) J4 O4 := by
        have hfr := hlk.fr
        have eo : ∀ b j, b ≠ mo + 4 → (b ≠ mo ∨ (j ≠ 5 ∧ j ≠ 6)) → (uI (txI (uI I4 mo 5 0) mo (wtT S r fl)) mo 6 0) b j = I4 b j := fun b j q1 q2 => by rw [uI_o (by omega), txI_o q1 (by omega), uI_o (by omega)]
        refine ⟨rfl, rfl, rfl, fun b hb j => ⟨?_, rfl⟩, uI_s, fun j _ _ => ?_, fun j _ _ => ?_, ?_, fun j => ?_, ?_⟩
        · rw [eo b j (by omega) (by omega)]; exact hfr b j (by omega)
        · rw [eo _ _ (by omega) (by omega)]; exact hfr _ _ (by omega)
        · rw [eo _ _ (by omega) (by omega)]; exact hfr _ _ (by omega)
        · rw [eo _ _ (by omega) (by omega)]; exact hfr _ _ (by omega)
        · have h4 : I4 (mo + 4) = I (mo + 4) := funext fun j => hfr _ _ (by omega)
          rw [uI_a (by omega), txI_4, uI_s, uI_f (by omega), h4]
        · rw [uI_k (by omega), h5]
      generalize hI0 : uI I4 mo 5 0 = I0 at *
      -- one sign
      have num : ∀ (done : List Int) (k : Nat) (v : Int) (o7 : Option Value), (k : Int) < S (3 + 32 * id + 7) → S (3 + 32 * id + (8 + (k : Int))) = v → 0 ≤ v → v ≤ 9999 → (done.length : Int) + 4 ≤ 64 → (∀ o7, G X 63 [some (va_rf (some mo)), some (VI r), some (VI row), some (VI col), some (VI id), some (VI 0), some (VI ((k + 1 : Nat) : Int)), o7] [] T4 (txI I0 mo (done ++ dgT v)) J4 O4 0 0) → G X 63 [some (va_rf (some mo)), some (VI r), some (VI row), some (VI col), some (VI id), some (VI 0), some (VI (k : Int)), o7] [] T4 (txI I0 mo done) J4 O4 0 0 := by
        intro done k v o7 hk hv v0 v1 hl kk
        have hd5 := h5 done
        have k9 := fun o7 => kk o7
        rw [txI_app] at k9
        refine G_rg (fun hr => ?_)
        refine G_iload6 x eX11_write_63 ?_
        refine G_aload0 x eX11_write_65 ?_
        refine G_iload4 x eX11_write_66 ?_
        refine G_push x eX11_write_68 ?_
        refine G_cV x eX11_write_70 kX11_105 im_yX11_op se_yX11_op rm hM.m (ct_X11_op hM (by omega) (by omega)) rfl ?_
        rw [(hLt done).1]
        refine G_icmp_ge x eX11_write_73 (by first | omega | exact hr _ _ | exact hr0 _ _ | exact hrS _) (by first | omega | exact hr _ _ | exact hr0 _ _ | exact hrS _) (fun c73 => ?_) (fun c73 => ?_)
        · omega
        · refine G_aload0 x eX11_write_76 ?_
          refine G_iload4 x eX11_write_77 ?_
          refine G_push x eX11_write_79 ?_
          refine G_iload6 x eX11_write_81 ?_
          refine G_iadd x eX11_write_83 ?_
          refine G_cV x eX11_write_84 kX11_105 im_yX11_op se_yX11_op rm hM.m (ct_X11_op hM (by omega) (by omega)) rfl ?_
          rw [(hLt done).1, hv]
          refine G_istore7 x eX11_write_87 ?_
          refine G_iload7 x eX11_write_89 ?_
          refine G_push x eX11_write_91 ?_
          refine G_icmp_ne x eX11_write_93 (by first | omega | exact hr _ _ | exact hr0 _ _ | exact hrS _) (by first | omega | exact hr _ _ | exact hr0 _ _ | exact hrS _) (fun c93 => ?_) (fun c93 => ?_)
          · refine G_iload7 x eX11_write_114 ?_
            refine G_push x eX11_write_116 ?_
            refine G_icmp_lt x eX11_write_119 (by first | omega | exact hr _ _ | exact hr0 _ _ | exact hrS _) (by first | omega | exact hr _ _ | exact hr0 _ _ | exact hrS _) (fun c119 => ?_) (fun c119 => ?_)
            · refine G_iload7 x eX11_write_168 ?_
              refine G_if_lt x eX11_write_170 (by first | omega | exact hr _ _ | exact hr0 _ _ | exact hrS _) (fun c170 => ?_) (fun c170 => ?_)
              · omega
              · refine G_aload0 x eX11_write_173 ?_
                refine G_iload7 x eX11_write_174 ?_
                refine G_cVv x eX11_write_176 kX11_275 im_yX11_showsNumber se_yX11_showsNumber rm hM.m (ct_X11_showsNumber hM v0 v1 (by omega) (by omega)) rfl ?_
                refine G_goto x eX11_write_179 ?_
                refine G_iinc6 x eX11_write_211 ?_
                refine G_goto x eX11_write_214 ?_
                exact k9 _
            · omega
          · omega
      have opr : ∀ (done : List Int) (k : Nat) (c : Int) (o7 : Option Value), (k : Int) < S (3 + 32 * id + 7) → S (3 + 32 * id + (8 + (k : Int))) = opT c → isOp c → (done.length : Int) + 1 ≤ 64 → (∀ o7, G X 63 [some (va_rf (some mo)), some (VI r), some (VI row), some (VI col), some (VI id), some (VI 0), some (VI ((k + 1 : Nat) : Int)), o7] [] T4 (txI I0 mo (done ++ [c])) J4 O4 0 0) → G X 63 [some (va_rf (some mo)), some (VI r), some (VI row), some (VI col), some (VI id), some (VI 0), some (VI (k : Int)), o7] [] T4 (txI I0 mo done) J4 O4 0 0 := by
        intro done k c o7 hk hv hc hl kk
        have hd5 := h5 done
        have k9 := fun o7 => kk o7
        rw [txI_app] at k9
        unfold opT at hv
        rcases hc with e | e | e
        · subst e
          replace hv : S (3 + 32 * id + (8 + (k : Int))) = -1 := hv
          refine G_rg (fun hr => ?_)
          refine G_iload6 x eX11_write_63 ?_
          refine G_aload0 x eX11_write_65 ?_
          refine G_iload4 x eX11_write_66 ?_
          refine G_push x eX11_write_68 ?_
          refine G_cV x eX11_write_70 kX11_105 im_yX11_op se_yX11_op rm hM.m (ct_X11_op hM (by omega) (by omega)) rfl ?_
          rw [(hLt done).1]
          refine G_icmp_ge x eX11_write_73 (by first | omega | exact hr _ _ | exact hr0 _ _ | exact hrS _) (by first | omega | exact hr _ _ | exact hr0 _ _ | exact hrS _) (fun c73 => ?_) (fun c73 => ?_)
          · omega
          · refine G_aload0 x eX11_write_76 ?_
            refine G_iload4 x eX11_write_77 ?_
            refine G_push x eX11_write_79 ?_
            refine G_iload6 x eX11_write_81 ?_
            refine G_iadd x eX11_write_83 ?_
            refine G_cV x eX11_write_84 kX11_105 im_yX11_op se_yX11_op rm hM.m (ct_X11_op hM (by omega) (by omega)) rfl ?_
            rw [(hLt done).1, hv]
            refine G_istore7 x eX11_write_87 ?_
            refine G_iload7 x eX11_write_89 ?_
            refine G_push x eX11_write_91 ?_
            refine G_icmp_ne x eX11_write_93 (by first | omega | exact hr _ _ | exact hr0 _ _ | exact hrS _) (by first | omega | exact hr _ _ | exact hr0 _ _ | exact hrS _) (fun c93 => ?_) (fun c93 => ?_)
            · refine G_iload7 x eX11_write_114 ?_
              refine G_push x eX11_write_116 ?_
              refine G_icmp_lt x eX11_write_119 (by first | omega | exact hr _ _ | exact hr0 _ _ | exact hrS _) (by first | omega | exact hr _ _ | exact hr0 _ _ | exact hrS _) (fun c119 => ?_) (fun c119 => ?_)
              · refine G_iload7 x eX11_write_168 ?_
                refine G_if_lt x eX11_write_170 (by first | omega | exact hr _ _ | exact hr0 _ _ | exact hrS _) (fun c170 => ?_) (fun c170 => ?_)
                · refine G_aload0 x eX11_write_182 ?_
                  refine G_iload7 x eX11_write_183 ?_
                  refine G_push x eX11_write_185 ?_
                  refine G_icmp_ne x eX11_write_186 (by first | omega | exact hr _ _ | exact hr0 _ _ | exact hrS _) (by first | omega | exact hr _ _ | exact hr0 _ _ | exact hrS _) (fun c186 => ?_) (fun c186 => ?_)
                  · refine G_iload7 x eX11_write_194 ?_
                    refine G_push x eX11_write_196 ?_
                    refine G_icmp_ne x eX11_write_198 (by first | omega | exact hr _ _ | exact hr0 _ _ | exact hrS _) (by first | omega | exact hr _ _ | exact hr0 _ _ | exact hrS _) (fun c198 => ?_) (fun c198 => ?_)
                    · refine G_push x eX11_write_206 ?_
                      refine G_cVv x eX11_write_208 kX11_269 im_yX11_shows se_yX11_shows rm hM.m (ct_X11_shows hM (by omega) (by omega) (by omega)) rfl ?_
                      refine G_rg (fun hr => ?_)
                      refine G_iinc6 x eX11_write_211 ?_
                      refine G_goto x eX11_write_214 ?_
                      first | exact k9 _ | (exfalso; omega)
                    · refine G_push x eX11_write_201 ?_
                      refine G_goto x eX11_write_203 ?_
                      refine G_cVv x eX11_write_208 kX11_269 im_yX11_shows se_yX11_shows rm hM.m (ct_X11_shows hM (by omega) (by omega) (by omega)) rfl ?_
                      refine G_rg (fun hr => ?_)
                      refine G_iinc6 x eX11_write_211 ?_
                      refine G_goto x eX11_write_214 ?_
                      first | exact k9 _ | (exfalso; omega)
                  · refine G_push x eX11_write_189 ?_
                    refine G_goto x eX11_write_191 ?_
                    refine G_cVv x eX11_write_208 kX11_269 im_yX11_shows se_yX11_shows rm hM.m (ct_X11_shows hM (by omega) (by omega) (by omega)) rfl ?_
                    refine G_rg (fun hr => ?_)
                    refine G_iinc6 x eX11_write_211 ?_
                    refine G_goto x eX11_write_214 ?_
                    first | exact k9 _ | (exfalso; omega)
                · omega
              · omega
            · omega
        · subst e
          replace hv : S (3 + 32 * id + (8 + (k : Int))) = -2 := hv
          refine G_rg (fun hr => ?_)
          refine G_iload6 x eX11_write_63 ?_
          refine G_aload0 x eX11_write_65 ?_
          refine G_iload4 x eX11_write_66 ?_
          refine G_push x eX11_write_68 ?_
          refine G_cV x eX11_write_70 kX11_105 im_yX11_op se_yX11_op rm hM.m (ct_X11_op hM (by omega) (by omega)) rfl ?_
          rw [(hLt done).1]
          refine G_icmp_ge x eX11_write_73 (by first | omega | exact hr _ _ | exact hr0 _ _ | exact hrS _) (by first | omega | exact hr _ _ | exact hr0 _ _ | exact hrS _) (fun c73 => ?_) (fun c73 => ?_)
          · omega
          · refine G_aload0 x eX11_write_76 ?_
            refine G_iload4 x eX11_write_77 ?_
            refine G_push x eX11_write_79 ?_
            refine G_iload6 x eX11_write_81 ?_
            refine G_iadd x eX11_write_83 ?_
            refine G_cV x eX11_write_84 kX11_105 im_yX11_op se_yX11_op rm hM.m (ct_X11_op hM (by omega) (by omega)) rfl ?_
            rw [(hLt done).1, hv]
            refine G_istore7 x eX11_write_87 ?_
            refine G_iload7 x eX11_write_89 ?_
            refine G_push x eX11_write_91 ?_
            refine G_icmp_ne x eX11_write_93 (by first | omega | exact hr _ _ | exact hr0 _ _ | exact hrS _) (by first | omega | exact hr _ _ | exact hr0 _ _ | exact hrS _) (fun c93 => ?_) (fun c93 => ?_)
            · refine G_iload7 x eX11_write_114 ?_
              refine G_push x eX11_write_116 ?_
              refine G_icmp_lt x eX11_write_119 (by first | omega | exact hr _ _ | exact hr0 _ _ | exact hrS _) (by first | omega | exact hr _ _ | exact hr0 _ _ | exact hrS _) (fun c119 => ?_) (fun c119 => ?_)
              · refine G_iload7 x eX11_write_168 ?_
                refine G_if_lt x eX11_write_170 (by first | omega | exact hr _ _ | exact hr0 _ _ | exact hrS _) (fun c170 => ?_) (fun c170 => ?_)
                · refine G_aload0 x eX11_write_182 ?_
                  refine G_iload7 x eX11_write_183 ?_
                  refine G_push x eX11_write_185 ?_
                  refine G_icmp_ne x eX11_write_186 (by first | omega | exact hr _ _ | exact hr0 _ _ | exact hrS _) (by first | omega | exact hr _ _ | exact hr0 _ _ | exact hrS _) (fun c186 => ?_) (fun c186 => ?_)
                  · refine G_iload7 x eX11_write_194 ?_
                    refine G_push x eX11_write_196 ?_
                    refine G_icmp_ne x eX11_write_198 (by first | omega | exact hr _ _ | exact hr0 _ _ | exact hrS _) (by first | omega | exact hr _ _ | exact hr0 _ _ | exact hrS _) (fun c198 => ?_) (fun c198 => ?_)
                    · refine G_push x eX11_write_206 ?_
                      refine G_cVv x eX11_write_208 kX11_269 im_yX11_shows se_yX11_shows rm hM.m (ct_X11_shows hM (by omega) (by omega) (by omega)) rfl ?_
                      refine G_rg (fun hr => ?_)
                      refine G_iinc6 x eX11_write_211 ?_
                      refine G_goto x eX11_write_214 ?_
                      first | exact k9 _ | (exfalso; omega)
                    · refine G_push x eX11_write_201 ?_
                      refine G_goto x eX11_write_203 ?_
                      refine G_cVv x eX11_write_208 kX11_269 im_yX11_shows se_yX11_shows rm hM.m (ct_X11_shows hM (by omega) (by omega) (by omega)) rfl ?_
                      refine G_rg (fun hr => ?_)
                      refine G_iinc6 x eX11_write_211 ?_
                      refine G_goto x eX11_write_214 ?_
                      first | exact k9 _ | (exfalso; omega)
                  · refine G_push x eX11_write_189 ?_
                    refine G_goto x eX11_write_191 ?_
                    refine G_cVv x eX11_write_208 kX11_269 im_yX11_shows se_yX11_shows rm hM.m (ct_X11_shows hM (by omega) (by omega) (by omega)) rfl ?_
                    refine G_rg (fun hr => ?_)
                    refine G_iinc6 x eX11_write_211 ?_
                    refine G_goto x eX11_write_214 ?_
                    first | exact k9 _ | (exfalso; omega)
                · omega
              · omega
            · omega
        · subst e
          replace hv : S (3 + 32 * id + (8 + (k : Int))) = -3 := hv
          refine G_rg (fun hr => ?_)
          refine G_iload6 x eX11_write_63 ?_
          refine G_aload0 x eX11_write_65 ?_
          refine G_iload4 x eX11_write_66 ?_
          refine G_push x eX11_write_68 ?_
          refine G_cV x eX11_write_70 kX11_105 im_yX11_op se_yX11_op rm hM.m (ct_X11_op hM (by omega) (by omega)) rfl ?_
          rw [(hLt done).1]
          refine G_icmp_ge x eX11_write_73 (by first | omega | exact hr _ _ | exact hr0 _ _ | exact hrS _) (by first | omega | exact hr _ _ | exact hr0 _ _ | exact hrS _) (fun c73 => ?_) (fun c73 => ?_)
          · omega
          · refine G_aload0 x eX11_write_76 ?_
            refine G_iload4 x eX11_write_77 ?_
            refine G_push x eX11_write_79 ?_
            refine G_iload6 x eX11_write_81 ?_
            refine G_iadd x eX11_write_83 ?_
            refine G_cV x eX11_write_84 kX11_105 im_yX11_op se_yX11_op rm hM.m (ct_X11_op hM (by omega) (by omega)) rfl ?_
            rw [(hLt done).1, hv]
            refine G_istore7 x eX11_write_87 ?_
            refine G_iload7 x eX11_write_89 ?_
            refine G_push x eX11_write_91 ?_
            refine G_icmp_ne x eX11_write_93 (by first | omega | exact hr _ _ | exact hr0 _ _ | exact hrS _) (by first | omega | exact hr _ _ | exact hr0 _ _ | exact hrS _) (fun c93 => ?_) (fun c93 => ?_)
            · refine G_iload7 x eX11_write_114 ?_
              refine G_push x eX11_write_116 ?_
              refine G_icmp_lt x eX11_write_119 (by first | omega | exact hr _ _ | exact hr0 _ _ | exact hrS _) (by first | omega | exact hr _ _ | exact hr0 _ _ | exact hrS _) (fun c119 => ?_) (fun c119 => ?_)
              · refine G_iload7 x eX11_write_168 ?_
                refine G_if_lt x eX11_write_170 (by first | omega | exact hr _ _ | exact hr0 _ _ | exact hrS _) (fun c170 => ?_) (fun c170 => ?_)
                · refine G_aload0 x eX11_write_182 ?_
                  refine G_iload7 x eX11_write_183 ?_
                  refine G_push x eX11_write_185 ?_
                  refine G_icmp_ne x eX11_write_186 (by first | omega | exact hr _ _ | exact hr0 _ _ | exact hrS _) (by first | omega | exact hr _ _ | exact hr0 _ _ | exact hrS _) (fun c186 => ?_) (fun c186 => ?_)
                  · refine G_iload7 x eX11_write_194 ?_
                    refine G_push x eX11_write_196 ?_
                    refine G_icmp_ne x eX11_write_198 (by first | omega | exact hr _ _ | exact hr0 _ _ | exact hrS _) (by first | omega | exact hr _ _ | exact hr0 _ _ | exact hrS _) (fun c198 => ?_) (fun c198 => ?_)
                    · refine G_push x eX11_write_206 ?_
                      refine G_cVv x eX11_write_208 kX11_269 im_yX11_shows se_yX11_shows rm hM.m (ct_X11_shows hM (by omega) (by omega) (by omega)) rfl ?_
                      refine G_rg (fun hr => ?_)
                      refine G_iinc6 x eX11_write_211 ?_
                      refine G_goto x eX11_write_214 ?_
                      first | exact k9 _ | (exfalso; omega)
                    · refine G_push x eX11_write_201 ?_
                      refine G_goto x eX11_write_203 ?_
                      refine G_cVv x eX11_write_208 kX11_269 im_yX11_shows se_yX11_shows rm hM.m (ct_X11_shows hM (by omega) (by omega) (by omega)) rfl ?_
                      refine G_rg (fun hr => ?_)
                      refine G_iinc6 x eX11_write_211 ?_
                      refine G_goto x eX11_write_214 ?_
                      first | exact k9 _ | (exfalso; omega)
                  · refine G_push x eX11_write_189 ?_
                    refine G_goto x eX11_write_191 ?_
                    refine G_cVv x eX11_write_208 kX11_269 im_yX11_shows se_yX11_shows rm hM.m (ct_X11_shows hM (by omega) (by omega) (by omega)) rfl ?_
                    refine G_rg (fun hr => ?_)
                    refine G_iinc6 x eX11_write_211 ?_
                    refine G_goto x eX11_write_214 ?_
                    first | exact k9 _ | (exfalso; omega)
                · omega
              · omega
            · omega
      have cel : ∀ (done : List Int) (k : Nat) (f left : Int) (o7 : Option Value), (k : Int) < S (3 + 32 * id + 7) → S (3 + 32 * id + (8 + (k : Int))) = 10000 + f → 0 ≤ f → f < 144 → (left = 0 ∨ left = 1 ∨ left = 2) → (done.length : Int) + 3 ≤ 64 → (∀ o7, G X 63 [some (va_rf (some mo)), some (VI r), some (VI row), some (VI col), some (VI id), some (VI (if left = 0 then 0 else left - 1)), some (VI ((k + 1 : Nat) : Int)), o7] [] T4 (txI I0 mo (done ++ (cnT S r f ++ (if left = 0 then [] else if left = 2 then [58] else [41])))) J4 O4 0 0) → G X 63 [some (va_rf (some mo)), some (VI r), some (VI row), some (VI col), some (VI id), some (VI left), some (VI (k : Int)), o7] [] T4 (txI I0 mo done) J4 O4 0 0 := by
        intro done k f left o7 hk hv v0 v1 hle hl kk
        have hd5 := h5 done
        have hd6 := h5 (done ++ cnT S r f)
        have hcl := cnT_l (S := S) (r := r) (f := f)
        rw [List.length_append] at hd6
        rw [txI_app] at hd6
        have k9 := fun o7 => kk o7
        rw [txI_app, txI_app] at k9
        rcases hle with e | e | e
        · subst e
          refine G_rg (fun hr => ?_)
          refine G_iload6 x eX11_write_63 ?_
          refine G_aload0 x eX11_write_65 ?_
          refine G_iload4 x eX11_write_66 ?_
          refine G_push x eX11_write_68 ?_
          refine G_cV x eX11_write_70 kX11_105 im_yX11_op se_yX11_op rm hM.m (ct_X11_op hM (by omega) (by omega)) rfl ?_
          rw [(hLt done).1]
          refine G_icmp_ge x eX11_write_73 (by first | omega | exact hr _ _ | exact hr0 _ _ | exact hrS _) (by first | omega | exact hr _ _ | exact hr0 _ _ | exact hrS _) (fun c73 => ?_) (fun c73 => ?_)
          · omega
          · refine G_aload0 x eX11_write_76 ?_
            refine G_iload4 x eX11_write_77 ?_
            refine G_push x eX11_write_79 ?_
            refine G_iload6 x eX11_write_81 ?_
            refine G_iadd x eX11_write_83 ?_
            refine G_cV x eX11_write_84 kX11_105 im_yX11_op se_yX11_op rm hM.m (ct_X11_op hM (by omega) (by omega)) rfl ?_
            rw [(hLt done).1, hv]
            refine G_istore7 x eX11_write_87 ?_
            refine G_iload7 x eX11_write_89 ?_
            refine G_push x eX11_write_91 ?_
            refine G_icmp_ne x eX11_write_93 (by first | omega | exact hr _ _ | exact hr0 _ _ | exact hrS _) (by first | omega | exact hr _ _ | exact hr0 _ _ | exact hrS _) (fun c93 => ?_) (fun c93 => ?_)
            · refine G_iload7 x eX11_write_114 ?_
              refine G_push x eX11_write_116 ?_
              refine G_icmp_lt x eX11_write_119 (by first | omega | exact hr _ _ | exact hr0 _ _ | exact hrS _) (by first | omega | exact hr _ _ | exact hr0 _ _ | exact hrS _) (fun c119 => ?_) (fun c119 => ?_)
              · omega
              · refine G_aload0 x eX11_write_122 ?_
                refine G_iload7 x eX11_write_123 ?_
                refine G_cVv x eX11_write_125 kX11_272 im_yX11_showsNamed se_yX11_showsNamed rm hM.m (ct_X11_showsNamed hM (hLt done) v0 v1 (by omega) (by omega)) rfl ?_
                refine G_iload5 x eX11_write_128 ?_
                refine G_if_le x eX11_write_130 (by first | omega | exact hr _ _ | exact hr0 _ _ | exact hrS _) (fun c130 => ?_) (fun c130 => ?_)
                · refine G_iload5 x eX11_write_150 ?_
                  refine G_iload5 x eX11_write_152 ?_
                  refine G_if_le x eX11_write_154 (by first | omega | exact hr _ _ | exact hr0 _ _ | exact hrS _) (fun c154 => ?_) (fun c154 => ?_)
                  · refine G_push x eX11_write_161 ?_
                    refine G_isub x eX11_write_162 ?_
                    refine G_istore5 x eX11_write_163 ?_
                    refine G_goto x eX11_write_165 ?_
                    refine G_iinc6 x eX11_write_211 ?_
                    refine G_goto x eX11_write_214 ?_
                    first | exact k9 _ | (exfalso; omega)
                  · omega
                · omega
            · omega
        · subst e
          refine G_rg (fun hr => ?_)
          refine G_iload6 x eX11_write_63 ?_
          refine G_aload0 x eX11_write_65 ?_
          refine G_iload4 x eX11_write_66 ?_
          refine G_push x eX11_write_68 ?_
          refine G_cV x eX11_write_70 kX11_105 im_yX11_op se_yX11_op rm hM.m (ct_X11_op hM (by omega) (by omega)) rfl ?_
          rw [(hLt done).1]
          refine G_icmp_ge x eX11_write_73 (by first | omega | exact hr _ _ | exact hr0 _ _ | exact hrS _) (by first | omega | exact hr _ _ | exact hr0 _ _ | exact hrS _) (fun c73 => ?_) (fun c73 => ?_)
          · omega
          · refine G_aload0 x eX11_write_76 ?_
            refine G_iload4 x eX11_write_77 ?_
            refine G_push x eX11_write_79 ?_
            refine G_iload6 x eX11_write_81 ?_
            refine G_iadd x eX11_write_83 ?_
            refine G_cV x eX11_write_84 kX11_105 im_yX11_op se_yX11_op rm hM.m (ct_X11_op hM (by omega) (by omega)) rfl ?_
            rw [(hLt done).1, hv]
            refine G_istore7 x eX11_write_87 ?_
            refine G_iload7 x eX11_write_89 ?_
            refine G_push x eX11_write_91 ?_
            refine G_icmp_ne x eX11_write_93 (by first | omega | exact hr _ _ | exact hr0 _ _ | exact hrS _) (by first | omega | exact hr _ _ | exact hr0 _ _ | exact hrS _) (fun c93 => ?_) (fun c93 => ?_)
            · refine G_iload7 x eX11_write_114 ?_
              refine G_push x eX11_write_116 ?_
              refine G_icmp_lt x eX11_write_119 (by first | omega | exact hr _ _ | exact hr0 _ _ | exact hrS _) (by first | omega | exact hr _ _ | exact hr0 _ _ | exact hrS _) (fun c119 => ?_) (fun c119 => ?_)
              · omega
              · refine G_aload0 x eX11_write_122 ?_
                refine G_iload7 x eX11_write_123 ?_
                refine G_cVv x eX11_write_125 kX11_272 im_yX11_showsNamed se_yX11_showsNamed rm hM.m (ct_X11_showsNamed hM (hLt done) v0 v1 (by omega) (by omega)) rfl ?_
                refine G_iload5 x eX11_write_128 ?_
                refine G_if_le x eX11_write_130 (by first | omega | exact hr _ _ | exact hr0 _ _ | exact hrS _) (fun c130 => ?_) (fun c130 => ?_)
                · refine G_iload5 x eX11_write_150 ?_
                  refine G_iload5 x eX11_write_152 ?_
                  refine G_if_le x eX11_write_154 (by first | omega | exact hr _ _ | exact hr0 _ _ | exact hrS _) (fun c154 => ?_) (fun c154 => ?_)
                  · omega
                  · refine G_push x eX11_write_157 ?_
                    refine G_goto x eX11_write_158 ?_
                    refine G_isub x eX11_write_162 ?_
                    refine G_istore5 x eX11_write_163 ?_
                    refine G_goto x eX11_write_165 ?_
                    refine G_iinc6 x eX11_write_211 ?_
                    refine G_goto x eX11_write_214 ?_
                    first | exact k9 _ | (exfalso; omega)
                · refine G_aload0 x eX11_write_133 ?_
                  refine G_iload5 x eX11_write_134 ?_
                  refine G_push x eX11_write_136 ?_
                  refine G_icmp_ne x eX11_write_137 (by first | omega | exact hr _ _ | exact hr0 _ _ | exact hrS _) (by first | omega | exact hr _ _ | exact hr0 _ _ | exact hrS _) (fun c137 => ?_) (fun c137 => ?_)
                  · refine G_push x eX11_write_145 ?_
                    refine G_cVv x eX11_write_147 kX11_269 im_yX11_shows se_yX11_shows rm hM.m (ct_X11_shows hM (by omega) (by omega) (by omega)) rfl ?_
                    refine G_rg (fun hr => ?_)
                    refine G_iload5 x eX11_write_150 ?_
                    refine G_iload5 x eX11_write_152 ?_
                    refine G_if_le x eX11_write_154 (by first | omega | exact hr _ _ | exact hr0 _ _ | exact hrS _) (fun c154 => ?_) (fun c154 => ?_)
                    · omega
                    · refine G_push x eX11_write_157 ?_
                      refine G_goto x eX11_write_158 ?_
                      refine G_isub x eX11_write_162 ?_
                      refine G_istore5 x eX11_write_163 ?_
                      refine G_goto x eX11_write_165 ?_
                      refine G_iinc6 x eX11_write_211 ?_
                      refine G_goto x eX11_write_214 ?_
                      first | exact k9 _ | (exfalso; omega)
                  · omega
            · omega
        · subst e
          refine G_rg (fun hr => ?_)
          refine G_iload6 x eX11_write_63 ?_
          refine G_aload0 x eX11_write_65 ?_
          refine G_iload4 x eX11_write_66 ?_
          refine G_push x eX11_write_68 ?_
          refine G_cV x eX11_write_70 kX11_105 im_yX11_op se_yX11_op rm hM.m (ct_X11_op hM (by omega) (by omega)) rfl ?_
          rw [(hLt done).1]
          refine G_icmp_ge x eX11_write_73 (by first | omega | exact hr _ _ | exact hr0 _ _ | exact hrS _) (by first | omega | exact hr _ _ | exact hr0 _ _ | exact hrS _) (fun c73 => ?_) (fun c73 => ?_)
          · omega
          · refine G_aload0 x eX11_write_76 ?_
            refine G_iload4 x eX11_write_77 ?_
            refine G_push x eX11_write_79 ?_
            refine G_iload6 x eX11_write_81 ?_
            refine G_iadd x eX11_write_83 ?_
            refine G_cV x eX11_write_84 kX11_105 im_yX11_op se_yX11_op rm hM.m (ct_X11_op hM (by omega) (by omega)) rfl ?_
            rw [(hLt done).1, hv]
            refine G_istore7 x eX11_write_87 ?_
            refine G_iload7 x eX11_write_89 ?_
            refine G_push x eX11_write_91 ?_
            refine G_icmp_ne x eX11_write_93 (by first | omega | exact hr _ _ | exact hr0 _ _ | exact hrS _) (by first | omega | exact hr _ _ | exact hr0 _ _ | exact hrS _) (fun c93 => ?_) (fun c93 => ?_)
            · refine G_iload7 x eX11_write_114 ?_
              refine G_push x eX11_write_116 ?_
              refine G_icmp_lt x eX11_write_119 (by first | omega | exact hr _ _ | exact hr0 _ _ | exact hrS _) (by first | omega | exact hr _ _ | exact hr0 _ _ | exact hrS _) (fun c119 => ?_) (fun c119 => ?_)
              · omega
              · refine G_aload0 x eX11_write_122 ?_
                refine G_iload7 x eX11_write_123 ?_
                refine G_cVv x eX11_write_125 kX11_272 im_yX11_showsNamed se_yX11_showsNamed rm hM.m (ct_X11_showsNamed hM (hLt done) v0 v1 (by omega) (by omega)) rfl ?_
                refine G_iload5 x eX11_write_128 ?_
                refine G_if_le x eX11_write_130 (by first | omega | exact hr _ _ | exact hr0 _ _ | exact hrS _) (fun c130 => ?_) (fun c130 => ?_)
                · refine G_iload5 x eX11_write_150 ?_
                  refine G_iload5 x eX11_write_152 ?_
                  refine G_if_le x eX11_write_154 (by first | omega | exact hr _ _ | exact hr0 _ _ | exact hrS _) (fun c154 => ?_) (fun c154 => ?_)
                  · omega
                  · refine G_push x eX11_write_157 ?_
                    refine G_goto x eX11_write_158 ?_
                    refine G_isub x eX11_write_162 ?_
                    refine G_istore5 x eX11_write_163 ?_
                    refine G_goto x eX11_write_165 ?_
                    refine G_iinc6 x eX11_write_211 ?_
                    refine G_goto x eX11_write_214 ?_
                    first | exact k9 _ | (exfalso; omega)
                · refine G_aload0 x eX11_write_133 ?_
                  refine G_iload5 x eX11_write_134 ?_
                  refine G_push x eX11_write_136 ?_
                  refine G_icmp_ne x eX11_write_137 (by first | omega | exact hr _ _ | exact hr0 _ _ | exact hrS _) (by first | omega | exact hr _ _ | exact hr0 _ _ | exact hrS _) (fun c137 => ?_) (fun c137 => ?_)
                  · omega
                  · refine G_push x eX11_write_140 ?_
                    refine G_goto x eX11_write_142 ?_
                    refine G_cVv x eX11_write_147 kX11_269 im_yX11_shows se_yX11_shows rm hM.m (ct_X11_shows hM (by omega) (by omega) (by omega)) rfl ?_
                    refine G_rg (fun hr => ?_)
                    refine G_iload5 x eX11_write_150 ?_
                    refine G_iload5 x eX11_write_152 ?_
                    refine G_if_le x eX11_write_154 (by first | omega | exact hr _ _ | exact hr0 _ _ | exact hrS _) (fun c154 => ?_) (fun c154 => ?_)
                    · omega
                    · refine G_push x eX11_write_157 ?_
                      refine G_goto x eX11_write_158 ?_
                      refine G_isub x eX11_write_162 ?_
                      refine G_istore5 x eX11_write_163 ?_
                      refine G_goto x eX11_write_165 ?_
                      refine G_iinc6 x eX11_write_211 ?_
                      refine G_goto x eX11_write_214 ?_
                      first | exact k9 _ | (exfalso; omega)
            · omega
      have out : ∀ (k : Nat) (o7 : Option Value), (k : Int) = S (3 + 32 * id + 7) → G X 63 [some (va_rf (some mo)), some (VI r), some (VI row), some (VI col), some (VI id), some (VI 0), some (VI (k : Int)), o7] [] T4 (txI I0 mo (wtT S r fl)) J4 O4 0 0 := by
        intro k o7 hk
        have hw5 := h5 (wtT S r fl)
        refine G_rg (fun hr => ?_)
        refine G_iload6 x eX11_write_63 ?_
        refine G_aload0 x eX11_write_65 ?_
        refine G_iload4 x eX11_write_66 ?_
        refine G_push x eX11_write_68 ?_
        refine G_cV x eX11_write_70 kX11_105 im_yX11_op se_yX11_op rm hM.m (ct_X11_op hM (by omega) (by omega)) rfl ?_
        rw [(hLt (wtT S r fl)).1]
        refine G_icmp_ge x eX11_write_73 (by first | omega | exact hr _ _ | exact hr0 _ _ | exact hrS _) (by first | omega | exact hr _ _ | exact hr0 _ _ | exact hrS _) (fun c73 => ?_) (fun c73 => ?_)
        · refine G_aload0 x eX11_write_217 ?_
          refine G_aload0 x eX11_write_218 ?_
          refine G_geti x eX11_write_219 fX11_176 rfl rfl hM.m (fun h219 => ?_)
          rw [hw5]
          rw [hw5] at h219
          refine G_cV x eX11_write_222 kX11_83 im_yX11_tells se_yX11_tells rm hM.m (ct_X11_tells hM h219) rfl ?_
          refine G_rg (fun hr => ?_)
          refine G_ireturn x en eX11_write_225 (by omega) (by omega) ?_
          exact hend
        · omega
      have fac : ∀ (x : Int × Int × Int × Int) (k : Nat) (done : List Int) (o7 : Option Value), tkA S id k (facT x.2.1 x.2.2.1 x.2.2.2) → (k : Int) + (facT x.2.1 x.2.2.1 x.2.2.2).length ≤ S (3 + 32 * id + 7) → faOk x → (done.length : Int) + faW x.2.1 x.2.2.1 ≤ 24 → (∀ o7, G X 63 [some (va_rf (some mo)), some (VI r), some (VI row), some (VI col), some (VI id), some (VI 0), some (VI ((k + (facT x.2.1 x.2.2.1 x.2.2.2).length : Nat) : Int)), o7] [] T4 (txI I0 mo (done ++ faT S r x.2.1 x.2.2.1 x.2.2.2)) J4 O4 0 0) → G X 63 [some (va_rf (some mo)), some (VI r), some (VI row), some (VI col), some (VI id), some (VI 0), some (VI (k : Int)), o7] [] T4 (txI I0 mo done) J4 O4 0 0 := by
        intro x k done o7 hk hn hx hw kk
        obtain ⟨sg, kd, f, s⟩ := x
        obtain ⟨-, hx⟩ := hx
        dsimp only at hk hn hx hw kk
        unfold facT at hk hn kk
        unfold faT at kk
        unfold faW at hw
        rcases hx with ⟨e, q, q2⟩ | ⟨e, q, q2⟩ | ⟨e, q, q2⟩
        · subst e
          have h9 := (tkA.hd hk).1
          exact num done k f o7 (by have : ((k : Int)) + 1 ≤ _ := hn; omega) h9 q.1 q.2 (by have := dgT_l (v := f); have hw2 : (done.length : Int) + ((dgT f).length : Int) ≤ 24 := hw; omega) kk
        · subst e
          have h9 := (tkA.hd hk).1
          have k9 : ∀ o7, G X 63 [some (va_rf (some mo)), some (VI r), some (VI row), some (VI col), some (VI id), some (VI 0), some (VI ((k + 1 : Nat) : Int)), o7] [] T4 (txI I0 mo (done ++ (cnT S r f))) J4 O4 0 0 := kk
          refine cel done k f 0 o7 (by have : ((k : Int)) + 1 ≤ _ := hn; omega) h9 q.1 q.2 (Or.inl rfl) (by have hw2 : (done.length : Int) + 2 ≤ 24 := hw; omega) (fun o7 => ?_)
          have k8 := k9 o7
          rw [← List.append_nil (cnT S r f)] at k8
          exact k8
        · subst e
          have hk2 : tkA S id k [-4, 10000 + f, 10000 + s] := hk
          have hn2 : (k : Int) + 3 ≤ S (3 + 32 * id + 7) := hn
          have hw2 : (done.length : Int) + 8 ≤ 24 := hw
          have t1 := hk2.hd
          have t2 := t1.2.hd
          have t3 := t2.2.hd
          have l1 := cnT_l (S := S) (r := r) (f := f)
          have l2 := cnT_l (S := S) (r := r) (f := s)
          have k9 : ∀ o7, G X 63 [some (va_rf (some mo)), some (VI r), some (VI row), some (VI col), some (VI id), some (VI 0), some (VI ((k + 1 + 1 + 1 : Nat) : Int)), o7] [] T4 (txI I0 mo ((done ++ [83, 40] ++ (cnT S r f ++ [58])) ++ (cnT S r s ++ [41]))) J4 O4 0 0 := fun o7 => by
            have k8 := kk o7
            have e1 : (done ++ [83, 40] ++ (cnT S r f ++ [58])) ++ (cnT S r s ++ [41]) = done ++ (83 :: 40 :: (cnT S r f ++ 58 :: (cnT S r s ++ [41]))) := by simp
            rw [e1]
            exact k8
          have k8 := fun o7 => cel _ _ s 1 o7 (by omega) t3.1 q2.1 q2.2 (Or.inr (Or.inl rfl)) (by simp only [List.length_append, List.length_cons, List.length_nil]; omega) k9
          have k7 := fun o7 => cel (done ++ [83, 40]) (k + 1) f 2 o7 (by omega) t2.1 q.1 q.2 (Or.inr (Or.inr rfl)) (by simp only [List.length_append, List.length_cons, List.length_nil]; omega) k8
          rw [txI_app] at k7
          have hd5 := h5 done
          have hv := t1.1
          have e5 : (sh1 (txI I0 mo done) mo 83) mo 5 = (txI I0 mo done) mo 5 + 1 := sh1_5
          refine G_rg (fun hr => ?_)
          refine G_iload6 x eX11_write_63 ?_
          refine G_aload0 x eX11_write_65 ?_
          refine G_iload4 x eX11_write_66 ?_
          refine G_push x eX11_write_68 ?_
          refine G_cV x eX11_write_70 kX11_105 im_yX11_op se_yX11_op rm hM.m (ct_X11_op hM (by omega) (by omega)) rfl ?_
          rw [(hLt done).1]
          refine G_icmp_ge x eX11_write_73 (by first | omega | exact hr _ _ | exact hr0 _ _ | exact hrS _) (by first | omega | exact hr _ _ | exact hr0 _ _ | exact hrS _) (fun c73 => ?_) (fun c73 => ?_)
          · omega
          · refine G_aload0 x eX11_write_76 ?_
            refine G_iload4 x eX11_write_77 ?_
            refine G_push x eX11_write_79 ?_
            refine G_iload6 x eX11_write_81 ?_
            refine G_iadd x eX11_write_83 ?_
            refine G_cV x eX11_write_84 kX11_105 im_yX11_op se_yX11_op rm hM.m (ct_X11_op hM (by omega) (by omega)) rfl ?_
            rw [(hLt done).1, hv]
            refine G_istore7 x eX11_write_87 ?_
            refine G_iload7 x eX11_write_89 ?_
            refine G_push x eX11_write_91 ?_
            refine G_icmp_ne x eX11_write_93 (by first | omega | exact hr _ _ | exact hr0 _ _ | exact hrS _) (by first | omega | exact hr _ _ | exact hr0 _ _ | exact hrS _) (fun c93 => ?_) (fun c93 => ?_)
            · omega
            · refine G_aload0 x eX11_write_96 ?_
              refine G_push x eX11_write_97 ?_
              refine G_cVv x eX11_write_99 kX11_269 im_yX11_shows se_yX11_shows rm hM.m (ct_X11_shows hM (by omega) (by omega) (by omega)) rfl ?_
              refine G_rg (fun hr => ?_)
              refine G_aload0 x eX11_write_102 ?_
              refine G_push x eX11_write_103 ?_
              refine G_cVv x eX11_write_105 kX11_269 im_yX11_shows se_yX11_shows rm hM.m (ct_X11_shows (I := sh1 (txI I0 mo done) mo 83) hM (by omega) (by omega) (by omega)) rfl ?_
              refine G_rg (fun hr => ?_)
              refine G_push x eX11_write_108 ?_
              refine G_istore5 x eX11_write_109 ?_
              refine G_goto x eX11_write_111 ?_
              refine G_iinc6 x eX11_write_211 ?_
              refine G_goto x eX11_write_214 ?_
              exact k7 _
      have all : ∀ (l : List (Int × Int × Int × Int)) (x : Int × Int × Int × Int) (k : Nat) (done : List Int) (o7 : Option Value), tkA S id k (tks (x :: l)) → (k : Int) + (tks (x :: l)).length = S (3 + 32 * id + 7) → (∀ y ∈ x :: l, faOk y) → (done.length : Int) + flW (x :: l) ≤ 24 → wtT S r fl = done ++ wtT S r (x :: l) → G X 63 [some (va_rf (some mo)), some (VI r), some (VI row), some (VI col), some (VI id), some (VI 0), some (VI (k : Int)), o7] [] T4 (txI I0 mo done) J4 O4 0 0 := by
        intro l
        induction l with
        | nil =>
          intro x k done o7 hk hn hx hw he
          refine fac x k done o7 hk (by rw [tks_1] at hn; omega) (hx x List.mem_cons_self) hw (fun o7 => ?_)
          have h9 := out (k + (facT x.2.1 x.2.2.1 x.2.2.2).length) o7 (by rw [tks_1] at hn; omega)
          rw [he] at h9
          exact h9
        | cons y l ih =>
          intro x k done o7 hk hn hx hw he
          rw [tks_2] at hk hn
          have ha := hk.app
          have hb := ha.2.hd
          have hw2 : (done.length : Int) + (faW x.2.1 x.2.2.1 + 1 + flW (y :: l)) ≤ 24 := hw
          have hyp := flW_p (x := y) (l := l)
          have hxw := faT_l (S := S) (r := r) (k := x.2.1) (f := x.2.2.1) (s := x.2.2.2)
          have hq : 0 ≤ faW y.2.1 y.2.2.1 := by
            unfold faW
            have := dgT_l (v := y.2.2.1)
            split
            · omega
            · split <;> omega
          rw [List.length_append, List.length_cons] at hn
          refine fac x k done o7 ha.1 (by omega) (hx x List.mem_cons_self) (by omega) (fun o7 => ?_)
          refine opr _ _ y.1 o7 (by omega) hb.1 (hx y (List.mem_cons_of_mem _ List.mem_cons_self)).1 (by rw [List.length_append]; omega) (fun o7 => ?_)
          refine ih y _ _ o7 hb.2 (by omega) (fun z hz => hx z (List.mem_cons_of_mem _ hz)) (by rw [List.length_append, List.length_append, List.length_cons, List.length_nil]; omega) ?_
          rw [he]
          show done ++ (faT S r x.2.1 x.2.2.1 x.2.2.2 ++ y.1 :: wtT S r (y :: l)) = _
          simp
      obtain ⟨x9, l, hxl⟩ : ∃ x l, fl = x :: l := by
        cases fl with
        | nil => exact absurd rfl f3
        | cons x l => exact ⟨x, l, rfl⟩
      have hall := all l x9 0 [] none (by rw [← hxl]; intro i v hv; have := f2 i v hv; rw [← this]; congr 2; omega) (by rw [← hxl]; omega) (by rw [← hxl]; exact f4) (by rw [← hxl]; show (0 : Int) + _ ≤ 24; omega) (by rw [hxl]; rfl)
      refine G_rg (fun hr => ?_)
      refine G_aload0 x eX11_write_52 ?_
      refine G_push x eX11_write_53 ?_
      refine G_puti x eX11_write_54 fX11_176 rfl (Or.inl rfl) rfl hM.m (by first | omega | exact hr _ _ | exact hr0 _ _ | exact hrS _) ?_
      refine G_rg (fun hr => ?_)
      refine G_push x eX11_write_57 ?_
      refine G_istore5 x eX11_write_58 ?_
      refine G_push x eX11_write_60 ?_
      refine G_istore6 x eX11_write_61 ?_
      rw [hI0]; exact hall
    refine G_rg (fun hr => ?_)
    refine G_istore4 x eX11_write_27 ?_
    refine G_iload4 x eX11_write_29 ?_
    refine G_push x eX11_write_31 ?_
    refine G_icmp_eq x eX11_write_32 (by first | omega | exact hr _ _ | exact hr0 _ _ | exact hrS _) (by first | omega | exact hr _ _ | exact hr0 _ _ | exact hrS _) (fun c32 => ?_) (fun c32 => ?_)
    · refine G_aload0 x eX11_write_46 ?_
      refine G_push x eX11_write_47 ?_
      refine G_cV x eX11_write_48 kX11_131 im_yX11_fails se_yX11_fails rm hM.m (ct_X11_fails hM (by first | omega | exact hr _ _ | exact hr0 _ _)) rfl ?_
      refine G_rg (fun hr => ?_)
      refine G_ireturn x en eX11_write_51 (by omega) (by omega) ?_
      first | (rw [← fail (by omega)]; exact gSay hlk.fr (fun _ _ _ _ => rfl))
    · refine G_aload0 x eX11_write_35 ?_
      refine G_iload4 x eX11_write_36 ?_
      refine G_push x eX11_write_38 ?_
      refine G_cV x eX11_write_39 kX11_105 im_yX11_op se_yX11_op rm hM.m (ct_X11_op hM (by omega) (by omega)) rfl ?_
      rw [hL.1]
      refine G_push x eX11_write_42 ?_
      refine G_icmp_eq x eX11_write_43 (by first | omega | exact hr _ _ | exact hr0 _ _ | exact hrS _) (by first | omega | exact hr _ _ | exact hr0 _ _ | exact hrS _) (fun c43 => ?_) (fun c43 => ?_)
      · exact go (by omega) (by omega)
      · refine G_aload0 x eX11_write_46 ?_
        refine G_push x eX11_write_47 ?_
        refine G_cV x eX11_write_48 kX11_131 im_yX11_fails se_yX11_fails rm hM.m (ct_X11_fails hM (by first | omega | exact hr _ _ | exact hr0 _ _)) rfl ?_
        refine G_rg (fun hr => ?_)
        refine G_ireturn x en eX11_write_51 (by omega) (by omega) ?_
        first | (rw [← fail (by omega)]; exact gSay hlk.fr (fun _ _ _ _ => rfl))
  · have ht : wtThr (I (mo + 1)) r row col = 1 := by unfold wtThr; rw [if_neg c7]
    rw [ht, if_neg (by decide)] at en
    refine G_aload0 x eX11_write_10 ?_
    refine G_push x eX11_write_11 ?_
    refine G_cV x eX11_write_12 kX11_131 im_yX11_fails se_yX11_fails rm hM.m (ct_X11_fails hM (by first | omega | exact hr _ _ | exact hr0 _ _)) rfl ?_
    refine G_rg (fun hr => ?_)
    refine G_ireturn x en eX11_write_15 (by omega) (by omega) ?_
    exact icP.say hic
