theorem lkI.fr {I I' : gI} {mo : Nat} {r : Int} (h : lkI I I' mo r) : gFr I I' mo := fun b j q => by
  by_cases e : b = mo
  · subst e; exact h.2.1 j (by omega) (by omega)
  · exact h.1 b (by omega) (by omega) e j
theorem gFr.tr {I I1 I2 : gI} {mo : Nat} (h : gFr I I1 mo) (h2 : gFr I1 I2 mo) : gFr I I2 mo := fun b j q => (h2 b j q).trans (h b j q)
theorem gSay {T : gT} {I I' : gI} {J J' : gJ} {O : gO} {mo : Nat} {ans thr : Int} (h : gFr I I' mo) (hj : gFj J J' mo) : mSay T I J O mo ans thr (some (VI ans)) T (uI I' mo 6 thr) J' O := mSay_i (fun b hb j => ⟨h b j (by omega), hj b j (by omega) (by omega)⟩) (fun j => h _ j (by omega)) (fun j => h _ j (by omega)) (fun j => h _ j (by omega)) (h _ _ (by omega)) (h _ _ (by omega))
theorem cellIn.c {S : Int → Int} {r row col : Int} (h : cellIn S r row col) : inC S r (12 * row + col) := by
  have b := rwB S r 1 (-1)
  obtain ⟨h1, h2, h3⟩ := h
  exact ⟨by omega, by omega, by omega⟩
noncomputable def tlThr (S : Int → Int) (r row col w : Int) : Int := if cellIn S r row col then (if 0 ≤ w ∧ w ≤ 6 then 0 else 2) else 1
theorem tlS_32 {S : Int → Int} {r c w : Int} (hS : ∀ j, in32 (S j)) (hf : fmOk S r) (hc : inC S r c) : in32 (tlS S r c w) := by
  have hid := hf.2.2 c hc
  have e1 := sm_b (m := fun d => b01 (rfS S r (idS S r c) d)) 144 (fun _ _ _ => b01_b)
  have e2 := sm_b (m := fun f => b01 (rfS S r (idS S r (fmF S r f)) c)) (fmN S r).toNat (fun _ _ _ => b01_b)
  have e3 := b01_b (p := isFm S r c ∧ cyS S r c)
  have e4 := (fmE S r).n hf
  have e5 := (fmE S r).1
  have z0 : in32 0 := ⟨by decide, by decide⟩
  have z1 : in32 (-1) := ⟨by decide, by decide⟩
  unfold tlS
  split
  · split
    · exact z0
    · exact hS _
  · split
    · split
      · exact z1
      · exact hS _
    · split
      · split
        · exact z1
        · omega
      · split
        · split
          · exact z0
          · exact hS _
        · split
          · split
            · unfold nrS; omega
            · exact z0
          · split
            · unfold ngS; omega
            · omega
set_option maxRecDepth 20000 in
theorem ct_X11_cell {T : gT} {I : gI} {J : gJ} {O : gO} {mo : Nat} {r row col w : Int} (hM : MoAt T O mo) (h0 : in32 r) (h1 : in32 row) (h2 : in32 col) (h3 : in32 w) (hf : 0 ≤ r → r ≤ 2 → fmOk (I (mo + 1)) r) : Ct yX11_cell cX11_cell 5 (some .int) [va_rf (some mo), VI r, VI row, VI col, VI w] 5 117 0 0 T I J O (if tlThr (I (mo + 1)) r row col w = 0 then mSay T I J O mo (tlS (I (mo + 1)) r (12 * row + col) w) 0 else mSay T I J O mo 0 (tlThr (I (mo + 1)) r row col w)) := by
  refine Ct.of (by decide) [some (va_rf (some mo)), some (VI r), some (VI row), some (VI col), some (VI w)] (gEn1 (List.forall_mem_cons.mpr ⟨cat_VR _, List.forall_mem_cons.mpr ⟨cat_VI _, List.forall_mem_cons.mpr ⟨cat_VI _, List.forall_mem_cons.mpr ⟨cat_VI _, List.forall_mem_cons.mpr ⟨cat_VI _, fun _ h => nomatch h⟩⟩⟩⟩⟩) rfl (Nat.le_of_ble_eq_true rfl) rfl) ?_
  intro X x en rm ini hr hz
  have hr0 := hr
  have hrS : ∀ (j : Int), in32 (I (mo + 1) j) := fun j => hr _ _
  refine G_aload0 x eX11_cell_0 ?_
  refine G_iload1 x eX11_cell_1 ?_
  refine G_iload2 x eX11_cell_2 ?_
  refine G_iload3 x eX11_cell_3 ?_
  refine G_cVg x eX11_cell_4 kX11_159 im_yX11_isCell se_yX11_isCell rm hM.m (ct_X11_isCell hM (by first | omega | exact hr _ _ | exact hr0 _ _) (by first | omega | exact hr _ _ | exact hr0 _ _) (by first | omega | exact hr _ _ | exact hr0 _ _)) rfl (fun v4 T4 I4 J4 O4 p4 => ?_)
  refine G_rg (fun hr => ?_)
  obtain ⟨rfl, rfl, rfl, rfl, hic⟩ := p4
  refine G_ifb_ne x eX11_cell_7 (fun c7 => ?_) (fun c7 => ?_)
  · have hlk := icP.lk hic c7.1
    have e1 : I4 (mo + 1) = I (mo + 1) := hlk.o.1
    have hf := hf c7.1.1 c7.1.2
    refine G_iload4 x eX11_cell_16 ?_
    refine G_push x eX11_cell_18 ?_
    refine G_push x eX11_cell_19 ?_
    refine G_cS x eX11_cell_21 kX11_87 sm_yX11_in rm (ct_X11_in (by first | omega | exact hr _ _ | exact hr0 _ _) (by first | omega | exact hr _ _ | exact hr0 _ _) (by first | omega | exact hr _ _ | exact hr0 _ _)) rfl ?_
    refine G_ifb_ne x eX11_cell_24 (fun c24 => ?_) (fun c24 => ?_)
    · have ht : tlThr (I (mo + 1)) r row col w = 0 := by unfold tlThr; rw [if_pos c7, if_pos c24]
      rw [ht, if_pos rfl] at en
      refine G_aload0 x eX11_cell_33 ?_
      refine G_iload1 x eX11_cell_34 ?_
      refine G_cVg x eX11_cell_35 kX11_223 im_yX11_gathers se_yX11_gathers rm hM.m (ct_X11_gathers hM c7.1.1 c7.1.2 (by rw [e1]; exact hf)) rfl (fun v35 T35 I35 J35 O35 p35 => ?_)
      refine G_rg (fun hr => ?_)
      have hA := gaP.A p35
      obtain ⟨q1, q2, q3, q4, q5, -⟩ := p35
      subst q1
      subst q2
      subst q3
      rw [e1] at hA
      refine G_aload0 x eX11_cell_38 ?_
      refine G_aload0 x eX11_cell_39 ?_
      refine G_iload1 x eX11_cell_40 ?_
      refine G_push x eX11_cell_41 ?_
      refine G_iload2 x eX11_cell_43 ?_
      refine G_imul x eX11_cell_44 ?_
      refine G_iload3 x eX11_cell_45 ?_
      refine G_iadd x eX11_cell_46 ?_
      refine G_iload4 x eX11_cell_47 ?_
      refine G_cV x eX11_cell_49 kX11_263 im_yX11_told se_yX11_told rm hM.m (ct_X11_told hM hA hf c7.1.1 c7.1.2 (cellIn.c c7) c24.1 c24.2) rfl ?_
      refine G_cV x eX11_cell_52 kX11_83 im_yX11_tells se_yX11_tells rm hM.m (ct_X11_tells hM (tlS_32 hrS hf (cellIn.c c7))) rfl ?_
      refine G_rg (fun hr => ?_)
      refine G_ireturn x en eX11_cell_55 (by omega) (by omega) ?_
      exact gSay (hlk.fr.tr q4) q5
    · have ht : tlThr (I (mo + 1)) r row col w = 2 := by unfold tlThr; rw [if_pos c7, if_neg c24]
      rw [ht, if_neg (by decide)] at en
      refine G_aload0 x eX11_cell_27 ?_
      refine G_push x eX11_cell_28 ?_
      refine G_cV x eX11_cell_29 kX11_131 im_yX11_fails se_yX11_fails rm hM.m (ct_X11_fails hM (by first | omega | exact hr _ _ | exact hr0 _ _)) rfl ?_
      refine G_rg (fun hr => ?_)
      refine G_ireturn x en eX11_cell_32 (by omega) (by omega) ?_
      exact gSay hlk.fr (fun _ _ _ _ => rfl)
  · have ht : tlThr (I (mo + 1)) r row col w = 1 := by unfold tlThr; rw [if_neg c7]
    rw [ht, if_neg (by decide)] at en
    refine G_aload0 x eX11_cell_10 ?_
    refine G_push x eX11_cell_11 ?_
    refine G_cV x eX11_cell_12 kX11_131 im_yX11_fails se_yX11_fails rm hM.m (ct_X11_fails hM (by first | omega | exact hr _ _ | exact hr0 _ _)) rfl ?_
    refine G_rg (fun hr => ?_)
    refine G_ireturn x en eX11_cell_15 (by omega) (by omega) ?_
    exact icP.say hic
set_option maxRecDepth 20000 in
theorem ct_X11_value {T : gT} {I : gI} {J : gJ} {O : gO} {mo : Nat} {r row col : Int} (hM : MoAt T O mo) (h0 : in32 r) (h1 : in32 row) (h2 : in32 col) (hf : 0 ≤ r → r ≤ 2 → fmOk (I (mo + 1)) r) : Ct yX11_value cX11_value 4 (some .int) [va_rf (some mo), VI r, VI row, VI col] 6 140 0 0 T I J O (if cellIn (I (mo + 1)) r row col then mSay T I J O mo (Int32.ofInt ((vlP (I (mo + 1)) r).1 (12 * row + col)).toInt).toInt 0 else mSay T I J O mo 0 1) := by
  refine Ct.of (by decide) [some (va_rf (some mo)), some (VI r), some (VI row), some (VI col)] (gEn1 (List.forall_mem_cons.mpr ⟨cat_VR _, List.forall_mem_cons.mpr ⟨cat_VI _, List.forall_mem_cons.mpr ⟨cat_VI _, List.forall_mem_cons.mpr ⟨cat_VI _, fun _ h => nomatch h⟩⟩⟩⟩) rfl (Nat.le_of_ble_eq_true rfl) rfl) ?_
  intro X x en rm ini hr hz
  have hr0 := hr
  refine G_aload0 x eX11_value_0 ?_
  refine G_iload1 x eX11_value_1 ?_
  refine G_iload2 x eX11_value_2 ?_
  refine G_iload3 x eX11_value_3 ?_
  refine G_cVg x eX11_value_4 kX11_159 im_yX11_isCell se_yX11_isCell rm hM.m (ct_X11_isCell hM (by first | omega | exact hr _ _ | exact hr0 _ _) (by first | omega | exact hr _ _ | exact hr0 _ _) (by first | omega | exact hr _ _ | exact hr0 _ _)) rfl (fun v4 T4 I4 J4 O4 p4 => ?_)
  refine G_rg (fun hr => ?_)
  obtain ⟨rfl, rfl, rfl, rfl, hic⟩ := p4
  refine G_ifb_ne x eX11_value_7 (fun c7 => ?_) (fun c7 => ?_)
  · have hlk := icP.lk hic c7.1
    have e1 : I4 (mo + 1) = I (mo + 1) := hlk.o.1
    have hf := hf c7.1.1 c7.1.2
    have hcb := (cellIn.c c7).b
    rw [if_pos c7] at en
    refine G_aload0 x eX11_value_16 ?_
    refine G_iload1 x eX11_value_17 ?_
    refine G_cVg x eX11_value_18 kX11_266 im_yX11_works se_yX11_works rm hM.m (ct_X11_works hM c7.1.1 c7.1.2 (by rw [e1]; exact hf)) rfl (fun v18 T18 I18 J18 O18 p18 => ?_)
    refine G_rg (fun hr => ?_)
    obtain ⟨q1, q2, q3, q4, q5, q6, q7⟩ := p18
    subst q1
    subst q2
    subst q3
    rw [e1] at q7
    have hv := (vl_eq hf q7 _ (cellIn.c c7)).1
    refine G_aload0 x eX11_value_21 ?_
    refine G_aload0 x eX11_value_22 ?_
    refine G_getq x eX11_value_23 fX11_40 rfl rfl hM.m hM.o_values ?_
    refine G_push x eX11_value_26 ?_
    refine G_iload2 x eX11_value_28 ?_
    refine G_imul x eX11_value_29 ?_
    refine G_iload3 x eX11_value_30 ?_
    refine G_iadd x eX11_value_31 ?_
    refine G_lald x eX11_value_32 rfl hM.t_values (by omega) (by omega) (by omega) ?_
    rw [hv]
    generalize (vlP (I (mo + 1)) r).1 (12 * row + col) = vv at *
    have h9 : VI vv.toInt = VI (Int32.ofInt vv.toInt).toInt := by unfold VI; rw [Int32.ofInt_toInt]
    refine G_l2i x eX11_value_33 ?_
    rw [h9]
    refine G_cV x eX11_value_34 kX11_83 im_yX11_tells se_yX11_tells rm hM.m (ct_X11_tells hM ⟨Int32.le_toInt _, Int32.toInt_le _⟩) rfl ?_
    refine G_rg (fun hr => ?_)
    refine G_ireturn x en eX11_value_37 (by omega) (by omega) ?_
    exact gSay (hlk.fr.tr q4) q5
  · rw [if_neg c7] at en
    refine G_aload0 x eX11_value_10 ?_
    refine G_push x eX11_value_11 ?_
    refine G_cV x eX11_value_12 kX11_131 im_yX11_fails se_yX11_fails rm hM.m (ct_X11_fails hM (by first | omega | exact hr _ _ | exact hr0 _ _)) rfl ?_
    refine G_rg (fun hr => ?_)
    refine G_ireturn x en eX11_value_15 (by omega) (by omega) ?_
    exact icP.say hic
set_option maxRecDepth 20000 in
theorem ct_X11_error {T : gT} {I : gI} {J : gJ} {O : gO} {mo : Nat} {r row col : Int} (hM : MoAt T O mo) (h0 : in32 r) (h1 : in32 row) (h2 : in32 col) (hf : 0 ≤ r → r ≤ 2 → fmOk (I (mo + 1)) r) : Ct yX11_error cX11_error 4 (some .int) [va_rf (some mo), VI r, VI row, VI col] 6 140 0 0 T I J O (if cellIn (I (mo + 1)) r row col then mSay T I J O mo ((vlP (I (mo + 1)) r).2 (12 * row + col)) 0 else mSay T I J O mo 0 1) := by
  refine Ct.of (by decide) [some (va_rf (some mo)), some (VI r), some (VI row), some (VI col)] (gEn1 (List.forall_mem_cons.mpr ⟨cat_VR _, List.forall_mem_cons.mpr ⟨cat_VI _, List.forall_mem_cons.mpr ⟨cat_VI _, List.forall_mem_cons.mpr ⟨cat_VI _, fun _ h => nomatch h⟩⟩⟩⟩) rfl (Nat.le_of_ble_eq_true rfl) rfl) ?_
  intro X x en rm ini hr hz
  have hr0 := hr
  refine G_aload0 x eX11_error_0 ?_
  refine G_iload1 x eX11_error_1 ?_
  refine G_iload2 x eX11_error_2 ?_
  refine G_iload3 x eX11_error_3 ?_
  refine G_cVg x eX11_error_4 kX11_159 im_yX11_isCell se_yX11_isCell rm hM.m (ct_X11_isCell hM (by first | omega | exact hr _ _ | exact hr0 _ _) (by first | omega | exact hr _ _ | exact hr0 _ _) (by first | omega | exact hr _ _ | exact hr0 _ _)) rfl (fun v4 T4 I4 J4 O4 p4 => ?_)
  refine G_rg (fun hr => ?_)
  obtain ⟨rfl, rfl, rfl, rfl, hic⟩ := p4
  refine G_ifb_ne x eX11_error_7 (fun c7 => ?_) (fun c7 => ?_)
  · have hlk := icP.lk hic c7.1
    have e1 : I4 (mo + 1) = I (mo + 1) := hlk.o.1
    have hf := hf c7.1.1 c7.1.2
    have hcb := (cellIn.c c7).b
    rw [if_pos c7] at en
    refine G_aload0 x eX11_error_16 ?_
    refine G_iload1 x eX11_error_17 ?_
    refine G_cVg x eX11_error_18 kX11_266 im_yX11_works se_yX11_works rm hM.m (ct_X11_works hM c7.1.1 c7.1.2 (by rw [e1]; exact hf)) rfl (fun v18 T18 I18 J18 O18 p18 => ?_)
    refine G_rg (fun hr => ?_)
    obtain ⟨q1, q2, q3, q4, q5, q6, q7⟩ := p18
    subst q1
    subst q2
    subst q3
    rw [e1] at q7
    have hv := (vl_eq hf q7 _ (cellIn.c c7)).2
    refine G_aload0 x eX11_error_21 ?_
    refine G_aload0 x eX11_error_22 ?_
    refine G_getq x eX11_error_23 fX11_44 rfl rfl hM.m hM.o_errors ?_
    refine G_push x eX11_error_26 ?_
    refine G_iload2 x eX11_error_28 ?_
    refine G_imul x eX11_error_29 ?_
    refine G_iload3 x eX11_error_30 ?_
    refine G_iadd x eX11_error_31 ?_
    refine G_iald x eX11_error_32 rfl hM.t_errors (by omega) (by omega) (by omega) (fun h32 => ?_)
    rw [hv] at h32 ⊢
    refine G_cV x eX11_error_33 kX11_83 im_yX11_tells se_yX11_tells rm hM.m (ct_X11_tells hM h32) rfl ?_
    refine G_rg (fun hr => ?_)
    refine G_ireturn x en eX11_error_36 (by omega) (by omega) ?_
    exact gSay (hlk.fr.tr q4) q5
  · rw [if_neg c7] at en
    refine G_aload0 x eX11_error_10 ?_
    refine G_push x eX11_error_11 ?_
    refine G_cV x eX11_error_12 kX11_131 im_yX11_fails se_yX11_fails rm hM.m (ct_X11_fails hM (by first | omega | exact hr _ _ | exact hr0 _ _)) rfl ?_
    refine G_rg (fun hr => ?_)
    refine G_ireturn x en eX11_error_15 (by omega) (by omega) ?_
    exact icP.say hic
set_option maxRecDepth 20000 in
theorem ct_X11_cycles {T : gT} {I : gI} {J : gJ} {O : gO} {mo : Nat} {r : Int} (hM : MoAt T O mo) (h0 : in32 r) (hf : 0 ≤ r → r ≤ 2 → fmOk (I (mo + 1)) r) : Ct yX11_cycles cX11_cycles 2 (some .int) [va_rf (some mo), VI r] 5 117 0 0 T I J O (if 0 ≤ r ∧ r ≤ 2 then mSay T I J O mo (ncS (I (mo + 1)) r) 0 else mSay T I J O mo 0 1) := by
  refine Ct.of (by decide) [some (va_rf (some mo)), some (VI r)] (gEn1 (List.forall_mem_cons.mpr ⟨cat_VR _, List.forall_mem_cons.mpr ⟨cat_VI _, fun _ h => nomatch h⟩⟩) rfl (Nat.le_of_ble_eq_true rfl) rfl) ?_
  intro X x en rm ini hr hz
  have hr0 := hr
  refine G_iload1 x eX11_cycles_0 ?_
  refine G_cS x eX11_cycles_1 kX11_127 sm_yX11_isReplica rm (ct_X11_isReplica (by first | omega | exact hr _ _ | exact hr0 _ _)) rfl ?_
  refine G_ifb_ne x eX11_cycles_4 (fun c4 => ?_) (fun c4 => ?_)
  · have hf := hf c4.1 c4.2
    rw [if_pos c4] at en
    refine G_aload0 x eX11_cycles_13 ?_
    refine G_iload1 x eX11_cycles_14 ?_
    refine G_cVg x eX11_cycles_15 kX11_223 im_yX11_gathers se_yX11_gathers rm hM.m (ct_X11_gathers hM c4.1 c4.2 hf) rfl (fun v15 T15 I15 J15 O15 p15 => ?_)
    refine G_rg (fun hr => ?_)
    have hA := gaP.A p15
    obtain ⟨q1, q2, q3, q4, q5, -⟩ := p15
    subst q1
    subst q2
    subst q3
    have hn := hA.2.1.n hf
    have e2 := sm_b (m := fun f => b01 (cyS (I (mo + 1)) r (fmF (I (mo + 1)) r f))) (fmN (I (mo + 1)) r).toNat (fun _ _ _ => b01_b)
    have e4 := (fmE (I (mo + 1)) r).n hf
    have e5 := (fmE (I (mo + 1)) r).1
    have e6 : in32 (ncS (I (mo + 1)) r) := by unfold ncS; omega
    refine G_aload0 x eX11_cycles_18 ?_
    refine G_aload0 x eX11_cycles_19 ?_
    refine G_cV x eX11_cycles_20 kX11_278 im_yX11_cycleMany se_yX11_cycleMany rm hM.m (ct_X11_cycleMany hM hA hn) rfl ?_
    refine G_cV x eX11_cycles_23 kX11_83 im_yX11_tells se_yX11_tells rm hM.m (ct_X11_tells hM e6) rfl ?_
    refine G_rg (fun hr => ?_)
    refine G_ireturn x en eX11_cycles_26 (by omega) (by omega) ?_
    exact gSay q4 q5
  · rw [if_neg c4] at en
    refine G_aload0 x eX11_cycles_7 ?_
    refine G_push x eX11_cycles_8 ?_
    refine G_cV x eX11_cycles_9 kX11_131 im_yX11_fails se_yX11_fails rm hM.m (ct_X11_fails hM (by first | omega | exact hr _ _ | exact hr0 _ _)) rfl ?_
    refine G_rg (fun hr => ?_)
    refine G_ireturn x en eX11_cycles_12 (by omega) (by omega) ?_
    exact gSay (fun _ _ _ => rfl) (fun _ _ _ _ => rfl)
