def rdQ (T : gT) (I : gI) (J : gJ) (O : gO) (rd tx : Nat) (S : Int → Int) (r : Int) : gP := fun v T' I' J' O' => T' = T ∧ J' = J ∧ O' = O ∧ (∀ b j, b ≠ rd + 1 → (b ≠ rd ∨ (j ≠ 1 ∧ j ≠ 2)) → I' b j = I b j) ∧ v = some (VI (flS (I (tx + 1)) (I tx 1) S r).1) ∧ in32 (flS (I (tx + 1)) (I tx 1) S r).1 ∧ ((flS (I (tx + 1)) (I tx 1) S r).1 = -1 → I' rd 1 = ((flS (I (tx + 1)) (I tx 1) S r).2.length : Nat) ∧ (flS (I (tx + 1)) (I tx 1) S r).2.length ≤ 12 ∧ ∀ (k : Nat) (y : Int × Int × Int × Int), (flS (I (tx + 1)) (I tx 1) S r).2[k]? = some y → I' (rd + 1) (4 * k) = y.1 ∧ I' (rd + 1) (4 * k + 1) = y.2.1 ∧ I' (rd + 1) (4 * k + 2) = y.2.2.1 ∧ I' (rd + 1) (4 * k + 3) = y.2.2.2)
/-- the factors that have been read stand -/
def ptA (I : gI) (rd : Nat) (pre : List (Int × Int × Int × Int)) : Prop := ∀ (k : Nat) (y : Int × Int × Int × Int), pre[k]? = some y → I (rd + 1) (4 * k) = y.1 ∧ I (rd + 1) (4 * k + 1) = y.2.1 ∧ I (rd + 1) (4 * k + 2) = y.2.2.1 ∧ I (rd + 1) (4 * k + 3) = y.2.2.2
theorem adF_o {I : gI} {rd b : Nat} {sg k f s j : Int} (h : b ≠ rd + 1) (h2 : b ≠ rd ∨ j ≠ 1) : adF I rd sg k f s b j = I b j := by
  unfold adF
  rw [uI_o h2, uI_a h, uI_a h, uI_a h, uI_a h]
theorem adF_n {I : gI} {rd : Nat} {sg k f s : Int} : adF I rd sg k f s rd 1 = I rd 1 + 1 := uI_s
theorem ptA.add {I : gI} {rd : Nat} {pre : List (Int × Int × Int × Int)} {sg k f s : Int} (h : ptA I rd pre) (hn : I rd 1 = (pre.length : Nat)) : ptA (adF I rd sg k f s) rd (pre ++ [(sg, k, f, s)]) := by
  intro i y hy
  have ea : ∀ j, adF I rd sg k f s (rd + 1) j = if j = I rd 1 * 4 + 3 then s else if j = I rd 1 * 4 + 2 then f else if j = I rd 1 * 4 + 1 then k else if j = I rd 1 * 4 then sg else I (rd + 1) j := fun j => by
    unfold adF
    rw [uI_a (by omega)]
    by_cases e3 : j = I rd 1 * 4 + 3
    · rw [if_pos e3, e3, uI_s]
    · rw [if_neg e3, uI_k e3]
      by_cases e2 : j = I rd 1 * 4 + 2
      · rw [if_pos e2, e2, uI_s]
      · rw [if_neg e2, uI_k e2]
        by_cases e1 : j = I rd 1 * 4 + 1
        · rw [if_pos e1, e1, uI_s]
        · rw [if_neg e1, uI_k e1]
          by_cases e0 : j = I rd 1 * 4
          · rw [if_pos e0, e0, uI_s]
          · rw [if_neg e0, uI_k e0]
  have hi : i < pre.length + 1 := by have := (List.getElem?_eq_some_iff.mp hy).1; rw [List.length_append] at this; exact this
  rcases (by omega : i < pre.length ∨ i = pre.length) with q | q
  · rw [List.getElem?_append_left q] at hy
    obtain ⟨h1, h2, h3, h4⟩ := h i y hy
    simp only [ea]
    refine ⟨?_, ?_, ?_, ?_⟩
    · rw [if_neg (by omega), if_neg (by omega), if_neg (by omega), if_neg (by omega)]; exact h1
    · rw [if_neg (by omega), if_neg (by omega), if_neg (by omega), if_neg (by omega)]; exact h2
    · rw [if_neg (by omega), if_neg (by omega), if_neg (by omega), if_neg (by omega)]; exact h3
    · rw [if_neg (by omega), if_neg (by omega), if_neg (by omega), if_neg (by omega)]; exact h4
  · subst q
    rw [List.getElem?_append_right (by omega), Nat.sub_self] at hy
    cases hy
    simp only [ea]
    refine ⟨?_, ?_, ?_, ?_⟩
    · rw [if_neg (by omega), if_neg (by omega), if_neg (by omega), if_pos (by omega)]
    · rw [if_neg (by omega), if_neg (by omega), if_pos (by omega)]
    · rw [if_neg (by omega), if_pos (by omega)]
    · rw [if_pos (by omega)]
set_option maxHeartbeats 4000000 in
set_option maxRecDepth 20000 in
theorem ct_X6_read {T : gT} {I : gI} {J : gJ} {O : gO} {rd tx p : Nat} {S : Int → Int} {r : Int} (hM : RdAt T O rd) (hX : TxAt T O tx) (hP : RpAt T O p) (hL : LkR I p S r) (hl0 : 0 ≤ I tx 1) (hl : I tx 1 ≤ 24) (hd : tx + 1 < rd) (hd2 : rd + 1 < p) (hch : ∀ i, -1 ≤ ch (I (tx + 1)) (I tx 1) i ∧ ch (I (tx + 1)) (I tx 1) i < 65536) : Ct yX6_read cX6_read 5 (some .int) [va_rf (some rd), va_rf (some tx), va_rf (some p)] 4 96 0 0 T I J O (rdQ T I J O rd tx S r) := by
  refine Ct.of (by decide) [some (va_rf (some rd)), some (va_rf (some tx)), some (va_rf (some p)), none, none] (gEn1 (List.forall_mem_cons.mpr ⟨cat_VR _, List.forall_mem_cons.mpr ⟨cat_VR _, List.forall_mem_cons.mpr ⟨cat_VR _, fun _ h => nomatch h⟩⟩⟩) rfl (Nat.le_of_ble_eq_true rfl) rfl) ?_
  intro X x en rm ini hr hz
  have hr0 := hr
  have hfb : ∀ a, 0 ≤ a → a ≤ I tx 1 → a ≤ (rcF I tx S r a).1 ∧ (rcF I tx S r a).1 ≤ a + 30 + I tx 1 ∧ ((rcF I tx S r a).2.1 ≠ -1 → a + 1 ≤ (rcF I tx S r a).1 ∧ (rcF I tx S r a).1 ≤ I tx 1) := fun a a0 a1 => by
    have := @facP_b (I (tx + 1)) (rwF S r 0 (-1)) (rwF S r 1 (-1)) (I tx 1) (rwN S r 0 (-1)) (rwN S r 1 (-1)) a a0 a1
    exact ⟨this.1, this.2.1, fun h => (this.2.2 h).2⟩
  unfold rdQ at en
  have hfl : flS (I (tx + 1)) (I tx 1) S r = prs9 (rcF I tx S r) (I (tx + 1)) (I tx 1) 13 43 0 := rfl
  generalize flS (I (tx + 1)) (I tx 1) S r = tot at *
  have loop : ∀ (n k : Nat) (a sg : Int) (pre : List (Int × Int × Int × Int)) (I1 : gI), n + k = 13 → 0 ≤ a → a ≤ I tx 1 → 2 * (k : Int) ≤ a → in32 sg → pre.length = k → (∀ b j, b ≠ rd + 1 → (b ≠ rd ∨ (j ≠ 1 ∧ j ≠ 2)) → I1 b j = I b j) → I1 rd 1 = (k : Int) → I1 rd 2 = a → ptA I1 rd pre → tot.1 = (prs9 (rcF I tx S r) (I (tx + 1)) (I tx 1) n sg a).1 → tot.2 = pre ++ (prs9 (rcF I tx S r) (I (tx + 1)) (I tx 1) n sg a).2 → G X 16 [some (va_rf (some rd)), some (va_rf (some tx)), some (va_rf (some p)), some (VI sg), some (VI (k : Int))] [] T I1 J O 0 0 := by
    intro n
    induction n with
    | zero =>
      intro k a sg pre I1 hnk a0 a1 ka hsg hpl hf hk ha hpt h1 h2
      exfalso
      omega
    | succ n ih =>
      intro k a sg pre I1 hnk a0 a1 ka hsg hpl hf hk ha hpt h1 h2
      have ex : I1 (tx + 1) = I (tx + 1) := funext fun j => hf _ _ (by omega) (by omega)
      have ex1 : I1 tx 1 = I tx 1 := hf _ _ (by omega) (by omega)
      have hL1 : LkR I1 p S r := hL.c (fun b j b1 b2 => hf b j (by omega) (by omega))
      have fb := hfb a a0 a1
      have eF : rcF I1 tx S r (I1 rd 2) = rcF I tx S r a := by unfold rcF; rw [ex, ex1, ha]
      have cF := ct_X6_readFactor (J := J) (S := S) (r := r) (sg := sg) hM hX hP hL1 (by rw [ex1]; exact hl) (by rw [ha]; exact a0) (by rw [ha]; omega) hd hd2 (by rw [ex, ex1]; exact hch) hsg (by rw [hk]; omega) (by rw [hk]; omega)
      rw [eF] at cF
      have hp : prs9 (rcF I tx S r) (I (tx + 1)) (I tx 1) (n + 1) sg a = if (rcF I tx S r a).2.1 = -1 then ((rcF I tx S r a).1, [])
        else if isOp (ch (I (tx + 1)) (I tx 1) (rcF I tx S r a).1) then ((prs9 (rcF I tx S r) (I (tx + 1)) (I tx 1) n (ch (I (tx + 1)) (I tx 1) (rcF I tx S r a).1) ((rcF I tx S r a).1 + 1)).1, (sg, (rcF I tx S r a).2.1, (rcF I tx S r a).2.2.1, (rcF I tx S r a).2.2.2) :: (prs9 (rcF I tx S r) (I (tx + 1)) (I tx 1) n (ch (I (tx + 1)) (I tx 1) (rcF I tx S r a).1) ((rcF I tx S r a).1 + 1)).2)
        else (if (rcF I tx S r a).1 < I tx 1 then (rcF I tx S r a).1 else -1, [(sg, (rcF I tx S r a).2.1, (rcF I tx S r a).2.2.1, (rcF I tx S r a).2.2.2)]) := rfl
      rw [hp] at h1 h2
      clear hp
      generalize hfp : rcF I tx S r a = fp at *
      have hcz : in32 (ch (I (tx + 1)) (I tx 1) fp.1) := ch_32 hr
      by_cases q1 : fp.2.1 = -1
      · rw [if_pos q1] at h1 h2
        rw [rfO_f q1] at cF
        have e2 : (uI I1 rd 2 fp.1) rd 2 = fp.1 := uI_s
        refine G_rg (fun hr => ?_)
        refine G_iload4 x eX6_read_16 ?_
        refine G_push x eX6_read_18 ?_
        refine G_icmp_ge x eX6_read_20 (by first | omega | exact hr _ _ | exact hr0 _ _ | exact hrS _) (by first | omega | exact hr _ _ | exact hr0 _ _ | exact hrS _) (fun c20 => ?_) (fun c20 => ?_)
        · omega
        · refine G_aload0 x eX6_read_23 ?_
          refine G_aload1 x eX6_read_24 ?_
          refine G_aload2 x eX6_read_25 ?_
          refine G_iload3 x eX6_read_26 ?_
          refine G_cV x eX6_read_27 kX6_24 im_yX6_readFactor se_yX6_readFactor rm hM.m cF rfl ?_
          rw [← ite_not]
          refine G_ifb_ne x eX6_read_30 (fun c30 => ?_) (fun c30 => ?_)
          · contradiction
          · refine G_aload0 x eX6_read_33 ?_
            refine G_geti x eX6_read_34 fX6_21 rfl rfl hM.m (fun h34 => ?_)
            rw [e2]
            refine G_ireturn x en eX6_read_37 (by omega) (by omega) ?_
            exact ⟨rfl, rfl, rfl, fun b j b1 b2 => by rw [uI_o (by omega)]; exact hf b j b1 b2, by rw [h1], by rw [h1]; show in32 fp.1; omega, fun z => by rw [h1] at z; exfalso; have z : fp.1 = -1 := z; omega⟩
      · rw [if_neg q1] at h1 h2
        rw [rfO_t q1] at cF
        have fb3 := fb.2.2 q1
        have m2 : adF (uI I1 rd 2 fp.1) rd sg fp.2.1 fp.2.2.1 fp.2.2.2 rd 2 = fp.1 := by rw [adF_o (by omega) (by omega), uI_s]
        have m1 : adF (uI I1 rd 2 fp.1) rd sg fp.2.1 fp.2.2.1 fp.2.2.2 rd 1 = (k : Int) + 1 := by rw [adF_n, uI_k (by omega), hk]
        have mf : ∀ b j, b ≠ rd + 1 → (b ≠ rd ∨ (j ≠ 1 ∧ j ≠ 2)) → adF (uI I1 rd 2 fp.1) rd sg fp.2.1 fp.2.2.1 fp.2.2.2 b j = I b j := fun b j b1 b2 => by rw [adF_o b1 (by omega), uI_o (by omega)]; exact hf b j b1 b2
        have mp : ptA (adF (uI I1 rd 2 fp.1) rd sg fp.2.1 fp.2.2.1 fp.2.2.2) rd (pre ++ [(sg, fp.2.1, fp.2.2.1, fp.2.2.2)]) := ptA.add (fun i y hy => by rw [uI_a (by omega), uI_a (by omega), uI_a (by omega), uI_a (by omega)]; exact hpt i y hy) (by rw [uI_k (by omega), hk, hpl])
        generalize adF (uI I1 rd 2 fp.1) rd sg fp.2.1 fp.2.2.1 fp.2.2.2 = I2 at *
        have x2 : I2 (tx + 1) = I (tx + 1) := funext fun j => mf _ _ (by omega) (by omega)
        have x21 : I2 tx 1 = I tx 1 := mf _ _ (by omega) (by omega)
        have k11 : (k : Int) ≤ 11 := by omega
        have lenp : (pre ++ [(sg, fp.2.1, fp.2.2.1, fp.2.2.2)]).length = k + 1 := by rw [List.length_append, hpl]; rfl
        have endd : ¬ isOp (ch (I (tx + 1)) (I tx 1) fp.1) → ∀ z, z = (if fp.1 < I tx 1 then fp.1 else -1) → (T = T ∧ J = J ∧ O = O ∧ (∀ b j, b ≠ rd + 1 → (b ≠ rd ∨ (j ≠ 1 ∧ j ≠ 2)) → I2 b j = I b j) ∧ some (VI z) = some (VI tot.1) ∧ in32 tot.1 ∧ (tot.1 = -1 → I2 rd 1 = (tot.2.length : Nat) ∧ tot.2.length ≤ 12 ∧ ∀ (k : Nat) (y : Int × Int × Int × Int), tot.2[k]? = some y → I2 (rd + 1) (4 * k) = y.1 ∧ I2 (rd + 1) (4 * k + 1) = y.2.1 ∧ I2 (rd + 1) (4 * k + 2) = y.2.2.1 ∧ I2 (rd + 1) (4 * k + 3) = y.2.2.2)) := fun ho z hz => by
          rw [if_neg ho] at h1 h2
          have h1 : tot.1 = if fp.1 < I tx 1 then fp.1 else -1 := h1
          have h2 : tot.2 = pre ++ [(sg, fp.2.1, fp.2.2.1, fp.2.2.2)] := h2
          refine ⟨rfl, rfl, rfl, mf, by rw [hz, h1], by rw [h1]; split <;> omega, fun _ => ?_⟩
          rw [h2, lenp]
          exact ⟨by rw [m1]; omega, by omega, mp⟩
        have next : isOp (ch (I (tx + 1)) (I tx 1) fp.1) → fp.1 < I tx 1 → G X 16 [some (va_rf (some rd)), some (va_rf (some tx)), some (va_rf (some p)), some (VI (ch (I (tx + 1)) (I tx 1) fp.1)), some (VI ((k : Int) + 1))] [] T (uI I2 rd 2 (fp.1 + 1)) J O 0 0 := fun ho hlt => by
          rw [if_pos ho] at h1 h2
          have := ih (k + 1) (fp.1 + 1) (ch (I (tx + 1)) (I tx 1) fp.1) (pre ++ [(sg, fp.2.1, fp.2.2.1, fp.2.2.2)]) (uI I2 rd 2 (fp.1 + 1)) (by omega) (by omega) (by omega) (by omega) hcz lenp (fun b j b1 b2 => by rw [uI_o (by omega)]; exact mf b j b1 b2) (by rw [uI_k (by omega), m1]; omega) uI_s (fun i y hy => by rw [uI_a (by omega), uI_a (by omega), uI_a (by omega), uI_a (by omega)]; exact mp i y hy) h1 (by rw [h2]; simp)
          rw [show ((k + 1 : Nat) : Int) = (k : Int) + 1 by omega] at this
          exact this
        have ch1 : ¬ fp.1 < I tx 1 → ¬ isOp (ch (I (tx + 1)) (I tx 1) fp.1) := fun h => by rw [ch_no (by omega)]; omega
        refine G_rg (fun hr => ?_)
        refine G_iload4 x eX6_read_16 ?_
        refine G_push x eX6_read_18 ?_
        refine G_icmp_ge x eX6_read_20 (by first | omega | exact hr _ _ | exact hr0 _ _ | exact hrS _) (by first | omega | exact hr _ _ | exact hr0 _ _ | exact hrS _) (fun c20 => ?_) (fun c20 => ?_)
        · omega
        · refine G_aload0 x eX6_read_23 ?_
          refine G_aload1 x eX6_read_24 ?_
          refine G_aload2 x eX6_read_25 ?_
          refine G_iload3 x eX6_read_26 ?_
          refine G_cV x eX6_read_27 kX6_24 im_yX6_readFactor se_yX6_readFactor rm hM.m cF rfl ?_
          rw [← ite_not]
          refine G_ifb_ne x eX6_read_30 (fun c30 => ?_) (fun c30 => ?_)
          · refine G_aload0 x eX6_read_38 ?_
            refine G_geti x eX6_read_39 fX6_21 rfl rfl hM.m (fun h39 => ?_)
            refine G_aload1 x eX6_read_42 ?_
            rw [m2]
            refine G_cV x eX6_read_43 kX6_28 im_yX9_length se_yX9_length rm hX.m (ct_X9_length hX) rfl ?_
            rw [x21]
            refine G_icmp_lt x eX6_read_46 (by first | omega | exact hr _ _ | exact hr0 _ _ | exact hrS _) (by first | omega | exact hr _ _ | exact hr0 _ _ | exact hrS _) (fun c46 => ?_) (fun c46 => ?_)
            · refine G_aload1 x eX6_read_51 ?_
              refine G_aload0 x eX6_read_52 ?_
              refine G_geti x eX6_read_53 fX6_21 rfl rfl hM.m (fun h53 => ?_)
              rw [m2]
              refine G_cV x eX6_read_56 kX6_34 im_yX9_at se_yX9_at rm hX.m (ct_X9_at hX (by first | omega | exact hr _ _ | exact hr0 _ _ | exact hrS _) (by omega)) rfl ?_
              rw [x2, x21]
              refine G_istore3 x eX6_read_59 ?_
              refine G_iload3 x eX6_read_60 ?_
              refine G_push x eX6_read_61 ?_
              refine G_icmp_eq x eX6_read_63 (by first | omega | exact hr _ _ | exact hr0 _ _ | exact hrS _) (by first | omega | exact hr _ _ | exact hr0 _ _ | exact hrS _) (fun c63 => ?_) (fun c63 => ?_)
              · refine G_aload0 x eX6_read_83 ?_
                refine G_dup x eX6_read_84 (by first | rfl | exact cat_rf _) ?_
                refine G_geti x eX6_read_85 fX6_21 rfl rfl hM.m (fun h85 => ?_)
                rw [m2]
                refine G_push x eX6_read_88 ?_
                refine G_iadd x eX6_read_89 ?_
                refine G_puti x eX6_read_90 fX6_21 rfl (Or.inl rfl) rfl hM.m (by first | omega | exact hr _ _ | exact hr0 _ _ | exact hrS _) ?_
                refine G_rg (fun hr => ?_)
                refine G_iinc4 x eX6_read_93 ?_
                refine G_goto x eX6_read_96 ?_
                exact next (by unfold isOp; omega) (by omega)
              · refine G_iload3 x eX6_read_66 ?_
                refine G_push x eX6_read_67 ?_
                refine G_icmp_eq x eX6_read_69 (by first | omega | exact hr _ _ | exact hr0 _ _ | exact hrS _) (by first | omega | exact hr _ _ | exact hr0 _ _ | exact hrS _) (fun c69 => ?_) (fun c69 => ?_)
                · refine G_aload0 x eX6_read_83 ?_
                  refine G_dup x eX6_read_84 (by first | rfl | exact cat_rf _) ?_
                  refine G_geti x eX6_read_85 fX6_21 rfl rfl hM.m (fun h85 => ?_)
                  rw [m2]
                  refine G_push x eX6_read_88 ?_
                  refine G_iadd x eX6_read_89 ?_
                  refine G_puti x eX6_read_90 fX6_21 rfl (Or.inl rfl) rfl hM.m (by first | omega | exact hr _ _ | exact hr0 _ _ | exact hrS _) ?_
                  refine G_rg (fun hr => ?_)
                  refine G_iinc4 x eX6_read_93 ?_
                  refine G_goto x eX6_read_96 ?_
                  exact next (by unfold isOp; omega) (by omega)
                · refine G_iload3 x eX6_read_72 ?_
                  refine G_push x eX6_read_73 ?_
                  refine G_icmp_eq x eX6_read_75 (by first | omega | exact hr _ _ | exact hr0 _ _ | exact hrS _) (by first | omega | exact hr _ _ | exact hr0 _ _ | exact hrS _) (fun c75 => ?_) (fun c75 => ?_)
                  · refine G_aload0 x eX6_read_83 ?_
                    refine G_dup x eX6_read_84 (by first | rfl | exact cat_rf _) ?_
                    refine G_geti x eX6_read_85 fX6_21 rfl rfl hM.m (fun h85 => ?_)
                    rw [m2]
                    refine G_push x eX6_read_88 ?_
                    refine G_iadd x eX6_read_89 ?_
                    refine G_puti x eX6_read_90 fX6_21 rfl (Or.inl rfl) rfl hM.m (by first | omega | exact hr _ _ | exact hr0 _ _ | exact hrS _) ?_
                    refine G_rg (fun hr => ?_)
                    refine G_iinc4 x eX6_read_93 ?_
                    refine G_goto x eX6_read_96 ?_
                    exact next (by unfold isOp; omega) (by omega)
                  · refine G_aload0 x eX6_read_78 ?_
                    refine G_geti x eX6_read_79 fX6_21 rfl rfl hM.m (fun h79 => ?_)
                    rw [m2]
                    refine G_ireturn x en eX6_read_82 (by omega) (by omega) ?_
                    first | exact endd (ch1 (by omega)) _ (by rw [if_neg (by omega)]) | exact endd (by unfold isOp; omega) _ (by rw [if_pos (by omega)])
            · refine G_push x eX6_read_49 ?_
              refine G_ireturn x en eX6_read_50 (by omega) (by omega) ?_
              first | exact endd (ch1 (by omega)) _ (by rw [if_neg (by omega)]) | exact endd (by unfold isOp; omega) _ (by rw [if_pos (by omega)])
          · contradiction
  refine G_aload0 x eX6_read_0 ?_
  refine G_push x eX6_read_1 ?_
  refine G_puti x eX6_read_2 fX6_17 rfl (Or.inl rfl) rfl hM.m (by first | omega | exact hr _ _ | exact hr0 _ _ | exact hrS _) ?_
  refine G_rg (fun hr => ?_)
  refine G_aload0 x eX6_read_5 ?_
  refine G_push x eX6_read_6 ?_
  refine G_puti x eX6_read_7 fX6_21 rfl (Or.inl rfl) rfl hM.m (by first | omega | exact hr _ _ | exact hr0 _ _ | exact hrS _) ?_
  refine G_rg (fun hr => ?_)
  refine G_push x eX6_read_10 ?_
  refine G_istore3 x eX6_read_12 ?_
  refine G_push x eX6_read_13 ?_
  refine G_istore4 x eX6_read_14 ?_
  refine loop 13 0 0 43 [] _ (by omega) (by omega) (by omega) (by omega) (by omega) rfl (fun b j b1 b2 => by rw [uI_o (by omega), uI_o (by omega)]) (by rw [uI_k (by omega), uI_s]; rfl) uI_s (fun i y hy => by cases hy) (by rw [hfl]) (by rw [hfl]; rfl)
