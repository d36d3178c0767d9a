theorem rowI_rowI {I : gI} {a : Nat} {S S' : Int → Int} : rowI (rowI I a S) a S' = rowI I a S' := by
  funext b j
  unfold rowI
  by_cases e : b = a
  · rw [if_pos e, if_pos e]
  · rw [if_neg e, if_neg e, if_neg e]
theorem carI_rowI {I : gI} {mo : Nat} {S : Int → Int} {r id : Int} : carI (rowI I (mo + 1) S) mo r id = rowI I (mo + 1) (carS S r id) := by rw [carI_row, rowI_rowI, rowI_s]
/-- one operation more of another replica comes in -/
def get0 (S : Int → Int) (r f : Int) : Int → Int := sU (sU S (3843 + 270 * r + (1 + f)) (S (3843 + 270 * r + (1 + f)) + 1)) (3843 + 270 * r + 0) (if S (3843 + 270 * r + 0) < S (3 + 32 * (40 * f + S (3843 + 270 * r + (1 + f))) + 1) then S (3 + 32 * (40 * f + S (3843 + 270 * r + (1 + f))) + 1) else S (3843 + 270 * r + 0))
def get1 (S : Int → Int) (r f : Int) : Int → Int := carS (get0 S r f) r (40 * f + S (3843 + 270 * r + (1 + f)))
def getK (S : Int → Int) (r f : Int) : Nat → Int → Int
  | 0 => S
  | k + 1 => get1 (getK S r f k) r f
def opV (S : Int → Int) (id : Int) : Prop := 0 ≤ opS S id 3 ∧ opS S id 3 < 12 ∧ (opS S id 0 = 4 → 0 ≤ opS S id 4 ∧ opS S id 4 < 12) ∧ (opS S id 0 ≠ 4 → 0 ≤ opS S id 2 ∧ opS S id 2 ≤ 1)
def clOk (S : Int → Int) (r : Int) : Prop := ∀ c, 0 ≤ c → c < 144 → -1 ≤ S (3843 + 270 * r + (126 + c)) ∧ S (3843 + 270 * r + (126 + c)) < 120
/-- only lines and cells of the replica itself change -/
theorem carS_out {S : Int → Int} {r id j : Int} (hv : opV S id) (hj : j < 3843 + 270 * r + 6 ∨ 3843 + 270 * r + 270 ≤ j) : carS S r id j = S j := by
  obtain ⟨v1, v2, v3, v4⟩ := hv
  unfold carS
  split
  · next h =>
    have := v3 h
    simp only
    split
    · rw [sU_o (by omega)]
    · rfl
  · next h =>
    have := v4 h
    simp only
    split
    · rw [sU_o (by omega)]
    · split
      · split
        · rw [sU_o (by omega), sU_o (by omega), sU_o (by omega), sU_o (by omega)]
        · rw [sU_o (by omega), sU_o (by omega), sU_o (by omega)]
      · split
        · rw [sU_o (by omega)]
        · rfl
theorem carS_cl {S : Int → Int} {r id : Int} (h0 : 0 ≤ r) (h1 : r < 3) (hi : 0 ≤ id) (hi2 : id < 120) (hv : opV S id) (h : clOk S r) : clOk (carS S r id) r := by
  obtain ⟨v1, v2, v3, v4⟩ := hv
  intro c c0 c1
  have hc := h c c0 c1
  unfold carS
  split
  · next h =>
    have := v3 h
    simp only
    split
    · unfold sU
      split
      · omega
      · exact hc
    · exact hc
  · next h =>
    have := v4 h
    simp only
    split
    · rw [sU_o (by omega)]; exact hc
    · split
      · split
        · rw [sU_o (by omega), sU_o (by omega), sU_o (by omega), sU_o (by omega)]; exact hc
        · rw [sU_o (by omega), sU_o (by omega), sU_o (by omega)]; exact hc
      · split
        · rw [sU_o (by omega)]; exact hc
        · exact hc
theorem opV_c {S S' : Int → Int} {id : Int} (h0 : 0 ≤ id) (h1 : id < 120) (h : ∀ j, 3 ≤ j → j < 3843 → S' j = S j) (hv : opV S id) : opV S' id := by
  unfold opV opS at *
  rw [h _ (by omega) (by omega), h _ (by omega) (by omega), h _ (by omega) (by omega), h _ (by omega) (by omega)]
  exact hv
theorem get0_o {S : Int → Int} {r f j : Int} (h : j ≠ 3843 + 270 * r + (1 + f)) (h2 : j ≠ 3843 + 270 * r + 0) : get0 S r f j = S j := by unfold get0; rw [sU_o h2, sU_o h]
theorem getK_inv {S : Int → Int} {r f : Int} (h0 : 0 ≤ r) (h1 : r < 3) (f0 : 0 ≤ f) (f1 : f < 3) (hv : ∀ k, 0 ≤ k → k < S f → opV S (40 * f + k)) (hs : S f ≤ 40) (hc : clOk S r) (hq : 0 ≤ S (3843 + 270 * r + (1 + f))) (k : Nat) (hk : S (3843 + 270 * r + (1 + f)) + k ≤ S f) : (∀ j, j < 3843 → getK S r f k j = S j) ∧ clOk (getK S r f k) r ∧ getK S r f k (3843 + 270 * r + (1 + f)) = S (3843 + 270 * r + (1 + f)) + k := by
  induction k with
  | zero => exact ⟨fun _ _ => rfl, hc, by show S _ = _; omega⟩
  | succ k ih =>
    obtain ⟨a1, a2, a3⟩ := ih (by omega)
    have hid : opV (get0 (getK S r f k) r f) (40 * f + getK S r f k (3843 + 270 * r + (1 + f))) := by
      rw [a3]
      refine opV_c (S := S) (by omega) (by omega) (fun j j0 j1 => ?_) (hv _ (by omega) (by omega))
      rw [get0_o (by omega) (by omega)]
      exact a1 j j1
    refine ⟨fun j hj => ?_, ?_, ?_⟩
    · show carS _ _ _ j = _
      rw [carS_out hid (by omega), get0_o (by omega) (by omega)]
      exact a1 j hj
    · refine carS_cl h0 h1 (by rw [a3]; omega) (by rw [a3]; omega) hid (fun c c0 c1 => ?_)
      rw [get0_o (by omega) (by omega)]
      exact a2 c c0 c1
    · show carS _ _ _ _ = _
      rw [carS_out hid (by omega)]
      unfold get0
      rw [sU_o (by omega), sU_s, a3]
      omega
theorem opOk_of {I : gI} {mo : Nat} {r id : Int} (h : opV (I (mo + 1)) id) (hc : clOk (I (mo + 1)) r) : opOk I mo r id := by
  unfold opV opS at h
  obtain ⟨v1, v2, v3, v4⟩ := h
  refine ⟨v1, v2, fun e => ⟨(v3 e).1, (v3 e).2, ?_⟩, v4⟩
  have g := v3 e
  have := hc (12 * I (mo + 1) (3 + 32 * id + 3) + I (mo + 1) (3 + 32 * id + 4)) (by omega) (by omega)
  rw [show 126 + (12 * I (mo + 1) (3 + 32 * id + 3) + I (mo + 1) (3 + 32 * id + 4)) = 126 + 12 * I (mo + 1) (3 + 32 * id + 3) + I (mo + 1) (3 + 32 * id + 4) by omega] at this
  exact this
set_option maxRecDepth 20000 in
theorem ct_X11_missed {T : gT} {I : gI} {J : gJ} {O : gO} {mo : Nat} {r f : Int} (hM : MoAt T O mo) (h0 : 0 ≤ r) (h1 : r < 3) (h2 : 0 ≤ f) (h3 : f < 3) : Ct yX11_missed cX11_missed 3 (some .int) [va_rf (some mo), VI r, VI f] 1 22 0 0 T I J O (pv (some (VI (I (mo + 1) f - I (mo + 1) (3843 + 270 * r + (1 + f))))) T I J O) := by
  refine Ct.of (by decide) [some (va_rf (some mo)), some (VI r), some (VI f)] (gEn1 (List.forall_mem_cons.mpr ⟨cat_VR _, List.forall_mem_cons.mpr ⟨cat_VI _, List.forall_mem_cons.mpr ⟨cat_VI _, fun _ h => nomatch h⟩⟩⟩) rfl (Nat.le_of_ble_eq_true rfl) rfl) ?_
  intro X x en rm ini hr hz
  have hr0 := hr
  refine G_rg (fun hr => ?_)
  refine G_aload0 x eX11_missed_0 ?_
  refine G_getq x eX11_missed_1 fX11_7 rfl rfl hM.m hM.o_s ?_
  refine G_iload2 x eX11_missed_4 ?_
  refine G_iald x eX11_missed_5 rfl hM.t_s (by omega) (by omega) (by omega) (fun h5 => ?_)
  refine G_aload0 x eX11_missed_6 ?_
  refine G_iload1 x eX11_missed_7 ?_
  refine G_push x eX11_missed_8 ?_
  refine G_iload2 x eX11_missed_9 ?_
  refine G_iadd x eX11_missed_10 ?_
  refine G_cV x eX11_missed_11 kX11_108 im_yX11_of se_yX11_of rm hM.m (ct_X11_of hM (by omega) (by omega)) rfl ?_
  refine G_isub x eX11_missed_14 ?_
  refine G_ireturn x en eX11_missed_15 (by omega) (by omega) ?_
  first | exact pv_i | (refine ⟨?_, rfl, rfl, rfl, rfl⟩; split <;> first | rfl | omega)
set_option maxHeartbeats 2000000 in
set_option maxRecDepth 20000 in
theorem ct_X11_gets {T : gT} {I : gI} {J : gJ} {O : gO} {mo : Nat} {r f n : Int} (hM : MoAt T O mo) (h0 : 0 ≤ r) (h1 : r < 3) (h2 : 0 ≤ f) (h3 : f < 3) (h4 : 1 ≤ n) (h5 : n ≤ 40) (hv : ∀ k, 0 ≤ k → k < I (mo + 1) f → opV (I (mo + 1)) (40 * f + k)) (hs : I (mo + 1) f ≤ 40) (hc : clOk (I (mo + 1)) r) (hq : 0 ≤ I (mo + 1) (3843 + 270 * r + (1 + f))) (hq2 : I (mo + 1) (3843 + 270 * r + (1 + f)) ≤ I (mo + 1) f) : Ct yX11_gets cX11_gets 7 (some .int) [va_rf (some mo), VI r, VI f, VI n] 2 49 0 0 T I J O (pv (some (VI (min (I (mo + 1) f - I (mo + 1) (3843 + 270 * r + (1 + f))) n))) T (rowI I (mo + 1) (getK (I (mo + 1)) r f (min (I (mo + 1) f - I (mo + 1) (3843 + 270 * r + (1 + f))) n).toNat)) J O) := by
  refine Ct.of (by decide) [some (va_rf (some mo)), some (VI r), some (VI f), some (VI n), none, none, none] (gEn1 (List.forall_mem_cons.mpr ⟨cat_VR _, List.forall_mem_cons.mpr ⟨cat_VI _, List.forall_mem_cons.mpr ⟨cat_VI _, List.forall_mem_cons.mpr ⟨cat_VI _, fun _ h => nomatch h⟩⟩⟩⟩) rfl (Nat.le_of_ble_eq_true rfl) rfl) ?_
  intro X x en rm ini hr hz
  have hr0 := hr
  have loop : ∀ (d : Nat) (k : Nat) (m : Int) (o6 : Option Value), d = (m - k).toNat → m = min (I (mo + 1) f - I (mo + 1) (3843 + 270 * r + (1 + f))) n → (k : Int) ≤ m → G X 25 [some (va_rf (some mo)), some (VI r), some (VI f), some (VI n), some (VI m), some (VI (k : Int)), o6] [] T (rowI I (mo + 1) (getK (I (mo + 1)) r f k)) J O 0 0 := by
    intro d
    induction d using Nat.strongRecOn with
    | ind d ih =>
    intro k m o6 hd hm hkm
    have hb : m ≤ 40 := by omega
    obtain ⟨i1, i2, i3⟩ := getK_inv h0 h1 h2 h3 hv hs hc hq k (by omega)
    have g0 : rowI I (mo + 1) (getK (I (mo + 1)) r f k) (mo + 1) = getK (I (mo + 1)) r f k := rowI_s
    have hnx : carI (uI (uI (rowI I (mo + 1) (getK (I (mo + 1)) r f k)) (mo + 1) (3843 + 270 * r + (1 + f)) (getK (I (mo + 1)) r f k (3843 + 270 * r + (1 + f)) + 1)) (mo + 1) (3843 + 270 * r + 0) (if getK (I (mo + 1)) r f k (3843 + 270 * r + 0) < getK (I (mo + 1)) r f k (3 + 32 * (40 * f + getK (I (mo + 1)) r f k (3843 + 270 * r + (1 + f))) + 1) then getK (I (mo + 1)) r f k (3 + 32 * (40 * f + getK (I (mo + 1)) r f k (3843 + 270 * r + (1 + f))) + 1) else getK (I (mo + 1)) r f k (3843 + 270 * r + 0))) mo r (40 * f + getK (I (mo + 1)) r f k (3843 + 270 * r + (1 + f))) = rowI I (mo + 1) (getK (I (mo + 1)) r f (k + 1)) := by
      rw [uI_rowI, uI_rowI, carI_rowI]
      rfl
    have hok : opV (get0 (getK (I (mo + 1)) r f k) r f) (40 * f + getK (I (mo + 1)) r f k (3843 + 270 * r + (1 + f))) ∨ m ≤ k := by
      by_cases hk9 : m ≤ k
      · exact Or.inr hk9
      · refine Or.inl ?_
        rw [i3]
        refine opV_c (S := I (mo + 1)) (by omega) (by omega) (fun j j0 j1 => ?_) (hv _ (by omega) (by omega))
        rw [get0_o (by omega) (by omega)]
        exact i1 j j1
    generalize hSk : getK (I (mo + 1)) r f k = Sk at *
    refine G_iload5 x eX11_gets_25 ?_
    refine G_iload4 x eX11_gets_27 ?_
    refine G_icmp_ge x eX11_gets_29 (by first | omega | exact hr _ _ | exact hr0 _ _) (by first | omega | exact hr _ _ | exact hr0 _ _) (fun c29 => ?_) (fun c29 => ?_)
    · refine G_iload4 x eX11_gets_116 ?_
      refine G_ireturn x en eX11_gets_118 (by omega) (by omega) ?_
      rw [show (min (I (mo + 1) f - I (mo + 1) (3843 + 270 * r + (1 + f))) n).toNat = k by omega, hSk, show min (I (mo + 1) f - I (mo + 1) (3843 + 270 * r + (1 + f))) n = m by omega]
      exact pv_i
    · have hok := hok.resolve_right c29
      refine G_push x eX11_gets_32 ?_
      refine G_iload2 x eX11_gets_34 ?_
      refine G_imul x eX11_gets_35 ?_
      refine G_aload0 x eX11_gets_36 ?_
      refine G_iload1 x eX11_gets_37 ?_
      refine G_push x eX11_gets_38 ?_
      refine G_iload2 x eX11_gets_39 ?_
      refine G_iadd x eX11_gets_40 ?_
      refine G_cV x eX11_gets_41 kX11_108 im_yX11_of se_yX11_of rm hM.m (ct_X11_of hM (by omega) (by omega)) rfl ?_
      rw [g0]
      refine G_iadd x eX11_gets_44 ?_
      refine G_istore6 x eX11_gets_45 ?_
      refine G_aload0 x eX11_gets_47 ?_
      refine G_iload1 x eX11_gets_48 ?_
      refine G_push x eX11_gets_49 ?_
      refine G_iload2 x eX11_gets_50 ?_
      refine G_iadd x eX11_gets_51 ?_
      refine G_aload0 x eX11_gets_52 ?_
      refine G_iload1 x eX11_gets_53 ?_
      refine G_push x eX11_gets_54 ?_
      refine G_iload2 x eX11_gets_55 ?_
      refine G_iadd x eX11_gets_56 ?_
      refine G_cV x eX11_gets_57 kX11_108 im_yX11_of se_yX11_of rm hM.m (ct_X11_of hM (by omega) (by omega)) rfl ?_
      rw [g0]
      refine G_push x eX11_gets_60 ?_
      refine G_iadd x eX11_gets_61 ?_
      refine G_cVv x eX11_gets_62 kX11_115 im_yX11_puts se_yX11_puts rm hM.m (ct_X11_puts hM (by omega) (by omega) (by omega)) rfl ?_
      refine G_rg (fun hr => ?_)
      rw [uI_rowI]
      generalize hid : 40 * f + Sk (3843 + 270 * r + (1 + f)) = id at *
      have hidr : 0 ≤ id ∧ id < 120 := by omega
      generalize hS1 : sU Sk (3843 + 270 * r + (1 + f)) (Sk (3843 + 270 * r + (1 + f)) + 1) = S1
      have g1 : rowI I (mo + 1) S1 (mo + 1) = S1 := rowI_s
      have m1 : S1 (3 + 32 * id + 1) = Sk (3 + 32 * id + 1) := by rw [← hS1, sU_o (by omega)]
      have m2 : S1 (3843 + 270 * r + 0) = Sk (3843 + 270 * r + 0) := by rw [← hS1, sU_o (by omega)]
      have hG : ∀ v, v = (if Sk (3843 + 270 * r + 0) < Sk (3 + 32 * id + 1) then Sk (3 + 32 * id + 1) else Sk (3843 + 270 * r + 0)) → sU S1 (3843 + 270 * r + 0) v = get0 Sk r f := fun v hv => by rw [← hS1, hv]; unfold get0; rw [hid]
      have g5 : ∀ S9, rowI I (mo + 1) S9 (mo + 1) = S9 := fun _ => rowI_s
      have hcl2 : clOk (get0 Sk r f) r := fun c c0 c1 => by rw [get0_o (by omega) (by omega)]; exact i2 c c0 c1
      have hend : ∀ v, in32 v → v = (if Sk (3843 + 270 * r + 0) < Sk (3 + 32 * id + 1) then Sk (3 + 32 * id + 1) else Sk (3843 + 270 * r + 0)) → G X 100 [some (va_rf (some mo)), some (VI r), some (VI f), some (VI n), some (VI m), some (VI (k : Int)), some (VI id)] [VI v, VI 0, VI r, va_rf (some mo)] T (rowI I (mo + 1) S1) J O 0 0 := by
        intro v hvr hv
        refine G_cVv x eX11_gets_100 kX11_115 im_yX11_puts se_yX11_puts rm hM.m (ct_X11_puts hM (by omega) (by omega) hvr) rfl ?_
        refine G_rg (fun hr => ?_)
        rw [uI_rowI, hG v hv]
        refine G_aload0 x eX11_gets_103 ?_
        refine G_iload1 x eX11_gets_104 ?_
        refine G_iload6 x eX11_gets_105 ?_
        refine G_cVv x eX11_gets_107 kX11_119 im_yX11_carries se_yX11_carries rm hM.m (ct_X11_carries hM (by omega) (by omega) (by omega) (by omega) (opOk_of (by rw [g5]; exact hok) (by rw [g5]; exact hcl2))) rfl ?_
        refine G_rg (fun hr => ?_)
        rw [carI_rowI]
        have hnx2 : carS (get0 Sk r f) r id = getK (I (mo + 1)) r f (k + 1) := by
          show _ = get1 (getK (I (mo + 1)) r f k) r f
          rw [hSk]
          unfold get1
          rw [hid]
        rw [hnx2]
        refine G_iinc5 x eX11_gets_110 ?_
        refine G_goto x eX11_gets_113 ?_
        exact ih _ (by omega) (k + 1) m _ rfl hm (by omega)
      refine G_aload0 x eX11_gets_65 ?_
      refine G_iload1 x eX11_gets_66 ?_
      refine G_push x eX11_gets_67 ?_
      refine G_aload0 x eX11_gets_68 ?_
      refine G_iload6 x eX11_gets_69 ?_
      refine G_push x eX11_gets_71 ?_
      refine G_cV x eX11_gets_72 kX11_105 im_yX11_op se_yX11_op rm hM.m (ct_X11_op hM (by omega) (by omega)) rfl ?_
      rw [g1, m1]
      refine G_aload0 x eX11_gets_75 ?_
      refine G_iload1 x eX11_gets_76 ?_
      refine G_push x eX11_gets_77 ?_
      refine G_cV x eX11_gets_78 kX11_108 im_yX11_of se_yX11_of rm hM.m (ct_X11_of hM (by omega) (by omega)) rfl ?_
      rw [g1, m2]
      refine G_rg (fun hr => ?_)
      have hq1 : in32 (Sk (3 + 32 * id + 1)) := by rw [← m1, ← g1]; exact hr _ _
      have hq3 : in32 (Sk (3843 + 270 * r + 0)) := by rw [← m2, ← g1]; exact hr _ _
      refine G_icmp_le x eX11_gets_81 (by first | omega | exact hr _ _ | exact hr0 _ _) (by first | omega | exact hr _ _ | exact hr0 _ _) (fun c81 => ?_) (fun c81 => ?_)
      · refine G_aload0 x eX11_gets_94 ?_
        refine G_iload1 x eX11_gets_95 ?_
        refine G_push x eX11_gets_96 ?_
        refine G_cV x eX11_gets_97 kX11_108 im_yX11_of se_yX11_of rm hM.m (ct_X11_of hM (by omega) (by omega)) rfl ?_
        rw [g1, m2]
        exact hend _ hq3 (by rw [if_neg (by omega)])
      · refine G_aload0 x eX11_gets_84 ?_
        refine G_iload6 x eX11_gets_85 ?_
        refine G_push x eX11_gets_87 ?_
        refine G_cV x eX11_gets_88 kX11_105 im_yX11_op se_yX11_op rm hM.m (ct_X11_op hM (by omega) (by omega)) rfl ?_
        refine G_goto x eX11_gets_91 ?_
        rw [g1, m1]
        exact hend _ hq1 (by rw [if_pos (by omega)])
  refine G_rg (fun hr => ?_)
  refine G_aload0 x eX11_gets_0 ?_
  refine G_iload1 x eX11_gets_1 ?_
  refine G_iload2 x eX11_gets_2 ?_
  refine G_cV x eX11_gets_3 kX11_284 im_yX11_missed se_yX11_missed rm hM.m (ct_X11_missed hM (by omega) (by omega) (by omega) (by omega)) rfl ?_
  refine G_iload3 x eX11_gets_6 ?_
  refine G_icmp_ge x eX11_gets_7 (by first | omega | exact hr _ _ | exact hr0 _ _) (by first | omega | exact hr _ _ | exact hr0 _ _) (fun c7 => ?_) (fun c7 => ?_)
  · refine G_iload3 x eX11_gets_19 ?_
    refine G_istore4 x eX11_gets_20 ?_
    refine G_push x eX11_gets_22 ?_
    refine G_istore5 x eX11_gets_23 ?_
    first | exact rowI_id (I := I) ▸ loop _ 0 _ _ rfl (by omega) (by omega) | (have hl9 := loop _ 0 (I (mo + 1) f - I (mo + 1) (3843 + 270 * r + (1 + f))) none rfl (by omega) (by omega); rw [show getK (I (mo + 1)) r f 0 = I (mo + 1) from rfl, rowI_id] at hl9; exact hl9) | (have hl9 := loop _ 0 n none rfl (by omega) (by omega); rw [show getK (I (mo + 1)) r f 0 = I (mo + 1) from rfl, rowI_id] at hl9; exact hl9)
  · refine G_aload0 x eX11_gets_10 ?_
    refine G_iload1 x eX11_gets_11 ?_
    refine G_iload2 x eX11_gets_12 ?_
    refine G_cV x eX11_gets_13 kX11_284 im_yX11_missed se_yX11_missed rm hM.m (ct_X11_missed hM (by omega) (by omega) (by omega) (by omega)) rfl ?_
    refine G_goto x eX11_gets_16 ?_
    refine G_istore4 x eX11_gets_20 ?_
    refine G_push x eX11_gets_22 ?_
    refine G_istore5 x eX11_gets_23 ?_
    first | exact rowI_id (I := I) ▸ loop _ 0 _ _ rfl (by omega) (by omega) | (have hl9 := loop _ 0 (I (mo + 1) f - I (mo + 1) (3843 + 270 * r + (1 + f))) none rfl (by omega) (by omega); rw [show getK (I (mo + 1)) r f 0 = I (mo + 1) from rfl, rowI_id] at hl9; exact hl9) | (have hl9 := loop _ 0 n none rfl (by omega) (by omega); rw [show getK (I (mo + 1)) r f 0 = I (mo + 1) from rfl, rowI_id] at hl9; exact hl9)
noncomputable def rcThr (r f n : Int) : Int := if (0 ≤ r ∧ r ≤ 2) ∧ 0 ≤ f ∧ f ≤ 2 then (if r ≠ f ∧ 1 ≤ n ∧ n ≤ 40 then 0 else 2) else 1
def gtN (S : Int → Int) (r f n : Int) : Int := min (S f - S (3843 + 270 * r + (1 + f))) n
def gtS (S : Int → Int) (r f n : Int) : Int → Int := getK S r f (gtN S r f n).toNat
/-- what a replica needs of another's operations -/
def rcOk (S : Int → Int) (r f : Int) : Prop := (∀ k, 0 ≤ k → k < S f → opV S (40 * f + k)) ∧ S f ≤ 40 ∧ clOk S r ∧ 0 ≤ S (3843 + 270 * r + (1 + f)) ∧ S (3843 + 270 * r + (1 + f)) ≤ S f
set_option maxRecDepth 20000 in
theorem ct_X11_receive {T : gT} {I : gI} {J : gJ} {O : gO} {mo : Nat} {r f n : Int} (hM : MoAt T O mo) (h0 : in32 r) (h1 : in32 f) (h2 : in32 n) (h3 : 0 ≤ I mo 3 ∧ I mo 3 ≤ 4) (h4 : ∀ r f, 0 ≤ r → r ≤ 2 → 0 ≤ f → f ≤ 2 → r ≠ f → rcOk (I (mo + 1)) r f) : Ct yX11_receive cX11_receive 4 (some .int) [va_rf (some mo), VI r, VI f, VI n] 3 75 0 0 T I J O (if rcThr r f n = 0 then mDo T I J O mo (gtN (I (mo + 1)) r f n) (gtS (I (mo + 1)) r f n) else mSay T I J O mo 0 (rcThr r f n)) := by
  refine Ct.of (by decide) [some (va_rf (some mo)), some (VI r), some (VI f), some (VI n)] (gEn1 (List.forall_mem_cons.mpr ⟨cat_VR _, List.forall_mem_cons.mpr ⟨cat_VI _, List.forall_mem_cons.mpr ⟨cat_VI _, List.forall_mem_cons.mpr ⟨cat_VI _, fun _ h => nomatch h⟩⟩⟩⟩) rfl (Nat.le_of_ble_eq_true rfl) rfl) ?_
  intro X x en rm ini hr hz
  have hr0 := hr
  have h1f : ∀ Ls, ¬ ((0 ≤ r ∧ r ≤ 2) ∧ 0 ≤ f ∧ f ≤ 2) → G X 14 (some (va_rf (some mo)) :: Ls) [] T I J O 0 0 := by
    intro Ls hc
    refine G_aload0 x eX11_receive_14 ?_
    refine G_push x eX11_receive_15 ?_
    refine G_cV x eX11_receive_16 kX11_131 im_yX11_fails se_yX11_fails rm hM.m (ct_X11_fails hM (by first | omega | exact hr _ _ | exact hr0 _ _)) rfl ?_
    refine G_rg (fun hr => ?_)
    refine G_ireturn x en eX11_receive_19 (by omega) (by omega) ?_
    have ht : rcThr r f n = 1 := by unfold rcThr; rw [if_neg hc]
    rw [ht, if_neg (by omega)]
    exact mSay_i (fun b hb j => ⟨rfl, rfl⟩) (fun j => rfl) (fun j => rfl) (fun j => rfl) rfl rfl
  have h2f : ∀ Ls, (0 ≤ r ∧ r ≤ 2) ∧ 0 ≤ f ∧ f ≤ 2 → ¬ (r ≠ f ∧ 1 ≤ n ∧ n ≤ 40) → G X 35 (some (va_rf (some mo)) :: Ls) [] T I J O 0 0 := by
    intro Ls hc hc2
    refine G_aload0 x eX11_receive_35 ?_
    refine G_push x eX11_receive_36 ?_
    refine G_cV x eX11_receive_37 kX11_131 im_yX11_fails se_yX11_fails rm hM.m (ct_X11_fails hM (by first | omega | exact hr _ _ | exact hr0 _ _)) rfl ?_
    refine G_rg (fun hr => ?_)
    refine G_ireturn x en eX11_receive_40 (by omega) (by omega) ?_
    have ht : rcThr r f n = 2 := by unfold rcThr; rw [if_pos hc, if_neg hc2]
    rw [ht, if_neg (by omega)]
    exact mSay_i (fun b hb j => ⟨rfl, rfl⟩) (fun j => rfl) (fun j => rfl) (fun j => rfl) rfl rfl
  have hgo : (0 ≤ r ∧ r ≤ 2) ∧ 0 ≤ f ∧ f ≤ 2 → (r ≠ f ∧ 1 ≤ n ∧ n ≤ 40) → G X 41 [some (va_rf (some mo)), some (VI r), some (VI f), some (VI n)] [] T I J O 0 0 := by
    intro hc hc2
    have e0 := holdS (I := I) (I1 := I) (mo := mo) (fun _ => rfl)
    have hrc := h4 r f hc.1.1 hc.1.2 hc.2.1 hc.2.2 hc2.1
    refine G_aload0 x eX11_receive_41 ?_
    refine G_cVv x eX11_receive_42 kX11_141 im_yX11_hold se_yX11_hold rm hM.m (ct_X11_hold hM) rfl ?_
    refine G_rg (fun hr => ?_)
    generalize hH : cpI I (mo + 3) (mo + 1) 0 0 4653 = H1 at *
    obtain ⟨q1, q2, q3, q4, q5⟩ : rcOk (H1 (mo + 1)) r f := by rw [e0]; exact hrc
    refine G_aload0 x eX11_receive_45 ?_
    refine G_aload0 x eX11_receive_46 ?_
    refine G_iload1 x eX11_receive_47 ?_
    refine G_iload2 x eX11_receive_48 ?_
    refine G_iload3 x eX11_receive_49 ?_
    refine G_cV x eX11_receive_50 kX11_287 im_yX11_gets se_yX11_gets rm hM.m (ct_X11_gets hM (by omega) (by omega) (by omega) (by omega) (by omega) (by omega) q1 q2 q3 q4 q5) rfl ?_
    rw [e0]
    have e5 : rowI H1 (mo + 1) (getK (I (mo + 1)) r f (min (I (mo + 1) f - I (mo + 1) (3843 + 270 * r + (1 + f))) n).toNat) mo 3 = I mo 3 := by rw [rowI_o (by omega), ← hH, cpI_b (by omega)]
    rw [e0] at q2 q4 q5
    refine G_cV x eX11_receive_53 kX11_148 im_yX11_ends se_yX11_ends rm hM.m (ct_X11_ends hM (by omega) (by rw [e5]; omega) (by rw [e5]; omega)) rfl ?_
    refine G_rg (fun hr => ?_)
    refine G_ireturn x en eX11_receive_56 (by omega) (by omega) ?_
    have ht : rcThr r f n = 0 := by unfold rcThr; rw [if_pos hc, if_pos hc2]
    rw [if_pos ht]
    exact mDo_i (I1 := I) (fun b hb j => rfl) (fun _ => rfl) (fun _ => rfl) (fun _ => rfl) rfl rfl (fun b9 q1 q2 j q3 => by rw [rowI_o q1, hH]) (fun j q1 q2 => by rw [rowI_s]; rfl)
  refine G_rg (fun hr => ?_)
  refine G_iload1 x eX11_receive_0 ?_
  refine G_cS x eX11_receive_1 kX11_127 sm_yX11_isReplica rm (ct_X11_isReplica (by first | omega | exact hr _ _ | exact hr0 _ _)) rfl ?_
  refine G_ifb_eq x eX11_receive_4 (fun c4 => ?_) (fun c4 => ?_)
  · exact h1f _ (by omega)
  · refine G_iload2 x eX11_receive_7 ?_
    refine G_cS x eX11_receive_8 kX11_127 sm_yX11_isReplica rm (ct_X11_isReplica (by first | omega | exact hr _ _ | exact hr0 _ _)) rfl ?_
    refine G_ifb_ne x eX11_receive_11 (fun c11 => ?_) (fun c11 => ?_)
    · refine G_iload1 x eX11_receive_20 ?_
      refine G_iload2 x eX11_receive_21 ?_
      refine G_icmp_eq x eX11_receive_22 (by first | omega | exact hr _ _ | exact hr0 _ _) (by first | omega | exact hr _ _ | exact hr0 _ _) (fun c22 => ?_) (fun c22 => ?_)
      · exact h2f _ (by omega) (by omega)
      · refine G_iload3 x eX11_receive_25 ?_
        refine G_push x eX11_receive_26 ?_
        refine G_push x eX11_receive_27 ?_
        refine G_cS x eX11_receive_29 kX11_87 sm_yX11_in rm (ct_X11_in (by first | omega | exact hr _ _ | exact hr0 _ _) (by first | omega | exact hr _ _ | exact hr0 _ _) (by first | omega | exact hr _ _ | exact hr0 _ _)) rfl ?_
        refine G_ifb_ne x eX11_receive_32 (fun c32 => ?_) (fun c32 => ?_)
        · exact hgo (by omega) (by omega)
        · exact h2f _ (by omega) (by omega)
    · exact h1f _ (by omega)
set_option maxRecDepth 20000 in
theorem ct_X11_missing {T : gT} {I : gI} {J : gJ} {O : gO} {mo : Nat} {r f : Int} (hM : MoAt T O mo) (h0 : in32 r) (h1 : in32 f) (h4 : ∀ r f, 0 ≤ r → r ≤ 2 → 0 ≤ f → f ≤ 2 → r ≠ f → rcOk (I (mo + 1)) r f) : Ct yX11_missing cX11_missing 3 (some .int) [va_rf (some mo), VI r, VI f] 2 44 0 0 T I J O (if (0 ≤ r ∧ r ≤ 2) ∧ 0 ≤ f ∧ f ≤ 2 then (if r = f then mSay T I J O mo 0 2 else mSay T I J O mo (I (mo + 1) f - I (mo + 1) (3843 + 270 * r + (1 + f))) 0) else mSay T I J O mo 0 1) := by
  refine Ct.of (by decide) [some (va_rf (some mo)), some (VI r), some (VI f)] (gEn1 (List.forall_mem_cons.mpr ⟨cat_VR _, List.forall_mem_cons.mpr ⟨cat_VI _, List.forall_mem_cons.mpr ⟨cat_VI _, fun _ h => nomatch h⟩⟩⟩) rfl (Nat.le_of_ble_eq_true rfl) rfl) ?_
  intro X x en rm ini hr hz
  have hr0 := hr
  refine G_rg (fun hr => ?_)
  refine G_iload1 x eX11_missing_0 ?_
  refine G_cS x eX11_missing_1 kX11_127 sm_yX11_isReplica rm (ct_X11_isReplica (by first | omega | exact hr _ _ | exact hr0 _ _)) rfl ?_
  refine G_ifb_eq x eX11_missing_4 (fun c4 => ?_) (fun c4 => ?_)
  · refine G_aload0 x eX11_missing_14 ?_
    refine G_push x eX11_missing_15 ?_
    refine G_cV x eX11_missing_16 kX11_131 im_yX11_fails se_yX11_fails rm hM.m (ct_X11_fails hM (by first | omega | exact hr _ _ | exact hr0 _ _)) rfl ?_
    refine G_rg (fun hr => ?_)
    refine G_ireturn x en eX11_missing_19 (by omega) (by omega) ?_
    (repeat' split) <;> first | (exfalso; omega) | exact mSay_i (fun b hb j => ⟨rfl, rfl⟩) (fun j => rfl) (fun j => rfl) (fun j => rfl) rfl rfl
  · refine G_iload2 x eX11_missing_7 ?_
    refine G_cS x eX11_missing_8 kX11_127 sm_yX11_isReplica rm (ct_X11_isReplica (by first | omega | exact hr _ _ | exact hr0 _ _)) rfl ?_
    refine G_ifb_ne x eX11_missing_11 (fun c11 => ?_) (fun c11 => ?_)
    · refine G_iload1 x eX11_missing_20 ?_
      refine G_iload2 x eX11_missing_21 ?_
      refine G_icmp_ne x eX11_missing_22 (by first | omega | exact hr _ _ | exact hr0 _ _) (by first | omega | exact hr _ _ | exact hr0 _ _) (fun c22 => ?_) (fun c22 => ?_)
      · have hrc := (h4 r f (by omega) (by omega) (by omega) (by omega) (by omega)).2
        refine G_aload0 x eX11_missing_33 ?_
        refine G_aload0 x eX11_missing_34 ?_
        refine G_iload1 x eX11_missing_35 ?_
        refine G_iload2 x eX11_missing_36 ?_
        refine G_cV x eX11_missing_37 kX11_284 im_yX11_missed se_yX11_missed rm hM.m (ct_X11_missed hM (by omega) (by omega) (by omega) (by omega)) rfl ?_
        refine G_cV x eX11_missing_40 kX11_83 im_yX11_tells se_yX11_tells rm hM.m (ct_X11_tells hM (by first | omega | exact hr _ _ | exact hr0 _ _)) rfl ?_
        refine G_rg (fun hr => ?_)
        refine G_ireturn x en eX11_missing_43 (by omega) (by omega) ?_
        (repeat' split) <;> first | (exfalso; omega) | exact mSay_i (fun b hb j => ⟨rfl, rfl⟩) (fun j => rfl) (fun j => rfl) (fun j => rfl) rfl rfl
      · refine G_aload0 x eX11_missing_25 ?_
        refine G_push x eX11_missing_26 ?_
        refine G_cV x eX11_missing_27 kX11_131 im_yX11_fails se_yX11_fails rm hM.m (ct_X11_fails hM (by first | omega | exact hr _ _ | exact hr0 _ _)) rfl ?_
        refine G_rg (fun hr => ?_)
        refine G_goto x eX11_missing_30 ?_
        refine G_ireturn x en eX11_missing_43 (by omega) (by omega) ?_
        (repeat' split) <;> first | (exfalso; omega) | exact mSay_i (fun b hb j => ⟨rfl, rfl⟩) (fun j => rfl) (fun j => rfl) (fun j => rfl) rfl rfl
    · refine G_aload0 x eX11_missing_14 ?_
      refine G_push x eX11_missing_15 ?_
      refine G_cV x eX11_missing_16 kX11_131 im_yX11_fails se_yX11_fails rm hM.m (ct_X11_fails hM (by first | omega | exact hr _ _ | exact hr0 _ _)) rfl ?_
      refine G_rg (fun hr => ?_)
      refine G_ireturn x en eX11_missing_19 (by omega) (by omega) ?_
      (repeat' split) <;> first | (exfalso; omega) | exact mSay_i (fun b hb j => ⟨rfl, rfl⟩) (fun j => rfl) (fun j => rfl) (fun j => rfl) rfl rfl
set_option maxRecDepth 20000 in
theorem ct_X11_clock {T : gT} {I : gI} {J : gJ} {O : gO} {mo : Nat} {r : Int} (hM : MoAt T O mo) (h0 : in32 r) : Ct yX11_clock cX11_clock 2 (some .int) [va_rf (some mo), VI r] 2 42 0 0 T I J O (if 0 ≤ r ∧ r ≤ 2 then mSay T I J O mo (I (mo + 1) (3843 + 270 * r + 0)) 0 else mSay T I J O mo 0 1) := by
  refine Ct.of (by decide) [some (va_rf (some mo)), some (VI r)] (gEn1 (List.forall_mem_cons.mpr ⟨cat_VR _, List.forall_mem_cons.mpr ⟨cat_VI _, fun _ h => nomatch h⟩⟩) rfl (Nat.le_of_ble_eq_true rfl) rfl) ?_
  intro X x en rm ini hr hz
  have hr0 := hr
  refine G_rg (fun hr => ?_)
  refine G_iload1 x eX11_clock_0 ?_
  refine G_cS x eX11_clock_1 kX11_127 sm_yX11_isReplica rm (ct_X11_isReplica (by first | omega | exact hr _ _ | exact hr0 _ _)) rfl ?_
  refine G_ifb_eq x eX11_clock_4 (fun c4 => ?_) (fun c4 => ?_)
  · refine G_aload0 x eX11_clock_20 ?_
    refine G_push x eX11_clock_21 ?_
    refine G_cV x eX11_clock_22 kX11_131 im_yX11_fails se_yX11_fails rm hM.m (ct_X11_fails hM (by first | omega | exact hr _ _ | exact hr0 _ _)) rfl ?_
    refine G_rg (fun hr => ?_)
    refine G_ireturn x en eX11_clock_25 (by omega) (by omega) ?_
    (repeat' split) <;> first | (exfalso; omega) | exact mSay_i (fun b hb j => ⟨rfl, rfl⟩) (fun j => rfl) (fun j => rfl) (fun j => rfl) rfl rfl
  · refine G_aload0 x eX11_clock_7 ?_
    refine G_aload0 x eX11_clock_8 ?_
    refine G_iload1 x eX11_clock_9 ?_
    refine G_push x eX11_clock_10 ?_
    refine G_cV x eX11_clock_11 kX11_108 im_yX11_of se_yX11_of rm hM.m (ct_X11_of hM (by omega) (by omega)) rfl ?_
    refine G_cV x eX11_clock_14 kX11_83 im_yX11_tells se_yX11_tells rm hM.m (ct_X11_tells hM (by first | omega | exact hr _ _ | exact hr0 _ _)) rfl ?_
    refine G_rg (fun hr => ?_)
    refine G_goto x eX11_clock_17 ?_
    refine G_ireturn x en eX11_clock_25 (by omega) (by omega) ?_
    (repeat' split) <;> first | (exfalso; omega) | exact mSay_i (fun b hb j => ⟨rfl, rfl⟩) (fun j => rfl) (fun j => rfl) (fun j => rfl) rfl rfl
set_option maxRecDepth 20000 in
theorem ct_X11_operation {T : gT} {I : gI} {J : gJ} {O : gO} {mo : Nat} {r k w : Int} (hM : MoAt T O mo) (h0 : in32 r) (h1 : in32 k) (h2 : in32 w) (h3 : 0 ≤ r → r ≤ 2 → 0 ≤ I (mo + 1) r ∧ I (mo + 1) r ≤ 40) : Ct yX11_operation cX11_operation 4 (some .int) [va_rf (some mo), VI r, VI k, VI w] 2 42 0 0 T I J O (if 0 ≤ r ∧ r ≤ 2 then (if 0 ≤ w ∧ w ≤ 4 then mSay T I J O mo (if 0 ≤ k ∧ k < I (mo + 1) r then I (mo + 1) (3 + 32 * (40 * r + k) + w) else -1) 0 else mSay T I J O mo 0 2) else mSay T I J O mo 0 1) := by
  refine Ct.of (by decide) [some (va_rf (some mo)), some (VI r), some (VI k), some (VI w)] (gEn1 (List.forall_mem_cons.mpr ⟨cat_VR _, List.forall_mem_cons.mpr ⟨cat_VI _, List.forall_mem_cons.mpr ⟨cat_VI _, List.forall_mem_cons.mpr ⟨cat_VI _, fun _ h => nomatch h⟩⟩⟩⟩) rfl (Nat.le_of_ble_eq_true rfl) rfl) ?_
  intro X x en rm ini hr hz
  have hr0 := hr
  refine G_rg (fun hr => ?_)
  refine G_iload1 x eX11_operation_0 ?_
  refine G_cS x eX11_operation_1 kX11_127 sm_yX11_isReplica rm (ct_X11_isReplica (by first | omega | exact hr _ _ | exact hr0 _ _)) rfl ?_
  refine G_ifb_ne x eX11_operation_4 (fun c4 => ?_) (fun c4 => ?_)
  · refine G_iload3 x eX11_operation_13 ?_
    refine G_push x eX11_operation_14 ?_
    refine G_push x eX11_operation_15 ?_
    refine G_cS x eX11_operation_16 kX11_87 sm_yX11_in rm (ct_X11_in (by first | omega | exact hr _ _ | exact hr0 _ _) (by first | omega | exact hr _ _ | exact hr0 _ _) (by first | omega | exact hr _ _ | exact hr0 _ _)) rfl ?_
    refine G_ifb_ne x eX11_operation_19 (fun c19 => ?_) (fun c19 => ?_)
    · have h9 := h3 (by omega) (by omega)
      refine G_aload0 x eX11_operation_28 ?_
      refine G_iload2 x eX11_operation_29 ?_
      refine G_push x eX11_operation_30 ?_
      refine G_aload0 x eX11_operation_31 ?_
      refine G_getq x eX11_operation_32 fX11_7 rfl rfl hM.m hM.o_s ?_
      refine G_iload1 x eX11_operation_35 ?_
      refine G_iald x eX11_operation_36 rfl hM.t_s (by omega) (by omega) (by omega) (fun h36 => ?_)
      refine G_push x eX11_operation_37 ?_
      refine G_isub x eX11_operation_38 ?_
      refine G_cS x eX11_operation_39 kX11_87 sm_yX11_in rm (ct_X11_in (by first | omega | exact hr _ _ | exact hr0 _ _) (by first | omega | exact hr _ _ | exact hr0 _ _) (by first | omega | exact hr _ _ | exact hr0 _ _)) rfl ?_
      refine G_ifb_eq x eX11_operation_42 (fun c42 => ?_) (fun c42 => ?_)
      · refine G_push x eX11_operation_59 ?_
        refine G_cV x eX11_operation_60 kX11_83 im_yX11_tells se_yX11_tells rm hM.m (ct_X11_tells hM (by first | omega | exact hr _ _ | exact hr0 _ _)) rfl ?_
        refine G_rg (fun hr => ?_)
        refine G_ireturn x en eX11_operation_63 (by omega) (by omega) ?_
        (repeat' split) <;> first | (exfalso; omega) | exact mSay_i (fun b hb j => ⟨rfl, rfl⟩) (fun j => rfl) (fun j => rfl) (fun j => rfl) rfl rfl
      · refine G_aload0 x eX11_operation_45 ?_
        refine G_push x eX11_operation_46 ?_
        refine G_iload1 x eX11_operation_48 ?_
        refine G_imul x eX11_operation_49 ?_
        refine G_iload2 x eX11_operation_50 ?_
        refine G_iadd x eX11_operation_51 ?_
        refine G_iload3 x eX11_operation_52 ?_
        refine G_cV x eX11_operation_53 kX11_105 im_yX11_op se_yX11_op rm hM.m (ct_X11_op hM (by omega) (by omega)) rfl ?_
        refine G_goto x eX11_operation_56 ?_
        refine G_cV x eX11_operation_60 kX11_83 im_yX11_tells se_yX11_tells rm hM.m (ct_X11_tells hM (by first | omega | exact hr _ _ | exact hr0 _ _)) rfl ?_
        refine G_rg (fun hr => ?_)
        refine G_ireturn x en eX11_operation_63 (by omega) (by omega) ?_
        (repeat' split) <;> first | (exfalso; omega) | exact mSay_i (fun b hb j => ⟨rfl, rfl⟩) (fun j => rfl) (fun j => rfl) (fun j => rfl) rfl rfl
    · refine G_aload0 x eX11_operation_22 ?_
      refine G_push x eX11_operation_23 ?_
      refine G_cV x eX11_operation_24 kX11_131 im_yX11_fails se_yX11_fails rm hM.m (ct_X11_fails hM (by first | omega | exact hr _ _ | exact hr0 _ _)) rfl ?_
      refine G_rg (fun hr => ?_)
      refine G_ireturn x en eX11_operation_27 (by omega) (by omega) ?_
      (repeat' split) <;> first | (exfalso; omega) | exact mSay_i (fun b hb j => ⟨rfl, rfl⟩) (fun j => rfl) (fun j => rfl) (fun j => rfl) rfl rfl
  · refine G_aload0 x eX11_operation_7 ?_
    refine G_push x eX11_operation_8 ?_
    refine G_cV x eX11_operation_9 kX11_131 im_yX11_fails se_yX11_fails rm hM.m (ct_X11_fails hM (by first | omega | exact hr _ _ | exact hr0 _ _)) rfl ?_
    refine G_rg (fun hr => ?_)
    refine G_ireturn x en eX11_operation_12 (by omega) (by omega) ?_
    (repeat' split) <;> first | (exfalso; omega) | exact mSay_i (fun b hb j => ⟨rfl, rfl⟩) (fun j => rfl) (fun j => rfl) (fun j => rfl) rfl rfl
