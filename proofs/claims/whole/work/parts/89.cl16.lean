/-! the class's own helpers -/
section GCX
variable {X : gX} {cc : ByteArray} {own : String} {pc q : Nat} {Ls : List (Option Value)} {st : List Value} {T : gT} {I : gI} {J : gJ} {O : gO} {k n mc ms : Nat} {P : gP} {PX : gPX}
theorem G_cSX {idx np fr lo fr0 lo0 mc0 ms0 mc' ms' : Nat} {y : MethodName} {cy : ByteArray} {maxL : Nat} {ret : Option FieldType} {as rest : List Value} {P' : gP} {PX' : gPX} (x : Ok X cc own) (th : gTh X P PX mc ms) (d : Dc cc pc (.invokestatic idx) 3 q) (L : Lk own idx y cy maxL ret np) (hst : Cond.static y ∈ gtb) (rm : gRm X fr0 lo0 mc0 ms0)
    (C : Cx y cy maxL ret as fr lo mc' ms' T I J O P' PX') (hx : ∀ cl T' I' J' O', PX' cl T' I' J' O' → PX cl T' I' J' O') (hstk : st = as.reverse ++ rest) (kk : ∀ v T' I' J' O', P' v T' I' J' O' → G X q Ls (v.toList ++ rest) T' I' J' O' (k + mc') (n + ms')) (hr : rest.length ≤ 4 := by exact Nat.le_of_ble_eq_true rfl) (hn : as.length = np := by rfl) (hfr : fr + 1 ≤ fr0 := by exact Nat.le_of_ble_eq_true rfl) (hlo : 8 + (maxL + 11) + lo ≤ lo0 := by exact Nat.le_of_ble_eq_true rfl) (hmc0 : k + mc' ≤ mc0 := by omega) (hms0 : n + ms' ≤ ms0 := by omega) (hmc : k + mc' ≤ mc := by omega) (hms : n + ms' ≤ ms := by omega) : G X pc Ls st T I J O k n := G_callSX x th d L hst rm C hx kk hr hstk hn hfr hlo hmc0 hms0 hmc hms
theorem G_cVX {idx np fr lo fr0 lo0 mc0 ms0 mc' ms' ci a : Nat} {y : MethodName} {cy : ByteArray} {maxL : Nat} {ret : Option FieldType} {as rest : List Value} {P' : gP} {PX' : gPX} (x : Ok X cc own) (th : gTh X P PX mc ms) (d : Dc cc pc (.invokevirtual idx) 3 q) (L : Lk own idx y cy maxL ret np) (hin : Cond.instanceMethod y ∈ gtb ∧ Cond.selects y.cls y y ∈ gtb) (hT : T.2 a = some (.inl ci)) (rm : gRm X fr0 lo0 mc0 ms0)
    (C : Cx y cy maxL ret (va_rf (some a) :: as) fr lo mc' ms' T I J O P' PX') (hx : ∀ cl T' I' J' O', PX' cl T' I' J' O' → PX cl T' I' J' O') (hstk : st = as.reverse ++ va_rf (some a) :: rest) (kk : ∀ v T' I' J' O', P' v T' I' J' O' → G X q Ls (v.toList ++ rest) T' I' J' O' (k + mc') (n + ms')) (hc : vwCl[ci]? = some (y.cls, gTb ci, gN ci) := by rfl) (hr : rest.length ≤ 4 := by exact Nat.le_of_ble_eq_true rfl) (hn : as.length = np := by rfl) (hfr : fr + 1 ≤ fr0 := by exact Nat.le_of_ble_eq_true rfl) (hlo : 8 + (maxL + 11) + lo ≤ lo0 := by exact Nat.le_of_ble_eq_true rfl) (hmc0 : k + mc' ≤ mc0 := by omega) (hms0 : n + ms' ≤ ms0 := by omega) (hmc : k + mc' ≤ mc := by omega) (hms : n + ms' ≤ ms := by omega) : G X pc Ls st T I J O k n := G_callVX x th d L hin rfl hT hc rm C hx kk hr hstk hn hfr hlo hmc0 hms0 hmc hms
end GCX
/-- thrown, nothing changed -/
def tX (cls : String) (T : gT) (I : gI) (J : gJ) (O : gO) : gPX := fun cl T' I' J' O' => cl = cls ∧ T.1 ≤ T'.1 ∧ T'.2 = T.2 ∧ I' = I ∧ J' = J ∧ O' = O
set_option maxRecDepth 20000 in
theorem ct_X10_replicaAt {T : gT} {I : gI} {J : gJ} {O : gO} {ss : Nat} {r : Int} (hS : SsAt T O ss) (h0 : in32 r) : Cx yX10_replicaAt cX10_replicaAt 2 (some (.object "SharedSheet$Replica")) [va_rf (some ss), VI r] 6 90 1 6 T I J O (fun v T' I' J' O' => (0 ≤ r ∧ r ≤ 2) ∧ v = some (va_rf (some (rpA ss r))) ∧ T' = T ∧ I' = I ∧ J' = J ∧ O' = O) (fun cl T' I' J' O' => ¬ (0 ≤ r ∧ r ≤ 2) ∧ tX xcI T I J O cl T' I' J' O') := by
  refine Cx.of' (by decide) [some (va_rf (some ss)), some (VI r)] (gEn1 (List.forall_mem_cons.mpr ⟨cat_VR _, List.forall_mem_cons.mpr ⟨cat_VI _, fun _ h => nomatch h⟩⟩) rfl (Nat.le_of_ble_eq_true rfl) rfl) ?_
  intro X x en rm th hr
  have hr0 := hr
  have hZ := hS.z
  refine G_rg (fun hr => ?_)
  refine G_iload1 x eX10_replicaAt_0 ?_
  refine G_if_lt x eX10_replicaAt_1 (by first | omega | exact hr _ _ | exact hr0 _ _ | exact hrS _) (fun c1 => ?_) (fun c1 => ?_)
  · refine G_throwW x th rm tf_I tk_I ti_I ts_265 tw_I tg_I eX10_replicaAt_9.1 eX10_replicaAt_12.1 eX10_replicaAt_13.1 eX10_replicaAt_16.1 eX10_replicaAt_19.1 (Nat.le_of_ble_eq_true rfl) (Nat.le_of_ble_eq_true rfl) (Nat.le_of_ble_eq_true rfl) (by omega) (by omega) (by omega) (by omega) ?_
    exact fun N hN => ⟨by omega, rfl, hN, rfl, rfl, rfl, rfl⟩
  · refine G_iload1 x eX10_replicaAt_4 ?_
    refine G_push x eX10_replicaAt_5 ?_
    refine G_icmp_lt x eX10_replicaAt_6 (by first | omega | exact hr _ _ | exact hr0 _ _ | exact hrS _) (by first | omega | exact hr _ _ | exact hr0 _ _ | exact hrS _) (fun c6 => ?_) (fun c6 => ?_)
    · refine G_aload0 x eX10_replicaAt_20 ?_
      refine G_getq x eX10_replicaAt_21 fX10_11 rfl rfl hZ.m hZ.o_replicas ?_
      refine G_iload1 x eX10_replicaAt_24 ?_
      refine G_aald x eX10_replicaAt_25 rfl hZ.t_replicas (fun _ => rfl) (by omega) (by omega) (by omega) ?_
      rw [(hS.rp (r := r) (by omega) (by omega)).2]
      refine G_areturn x en (by first | exact Or.inl ⟨_, rfl⟩ | exact Or.inr ⟨_, rfl⟩) eX10_replicaAt_26 (by omega) (by omega) ?_
      exact ⟨by omega, rfl, rfl, rfl, rfl, rfl⟩
    · refine G_throwW x th rm tf_I tk_I ti_I ts_265 tw_I tg_I eX10_replicaAt_9.1 eX10_replicaAt_12.1 eX10_replicaAt_13.1 eX10_replicaAt_16.1 eX10_replicaAt_19.1 (Nat.le_of_ble_eq_true rfl) (Nat.le_of_ble_eq_true rfl) (Nat.le_of_ble_eq_true rfl) (by omega) (by omega) (by omega) (by omega) ?_
      exact fun N hN => ⟨by omega, rfl, hN, rfl, rfl, rfl, rfl⟩
set_option maxRecDepth 20000 in
theorem ct_X10_requireIndex {T : gT} {I : gI} {J : gJ} {O : gO} {i e : Int} (h0 : in32 i) (h1 : in32 e) : Cx yX10_requireIndex cX10_requireIndex 2 none [VI i, VI e] 6 90 1 6 T I J O (fun v T' I' J' O' => (0 ≤ i ∧ i < e) ∧ v = none ∧ T' = T ∧ I' = I ∧ J' = J ∧ O' = O) (fun cl T' I' J' O' => ¬ (0 ≤ i ∧ i < e) ∧ tX xcI T I J O cl T' I' J' O') := by
  refine Cx.of' (by decide) [some (VI i), some (VI e)] (gEn1 (List.forall_mem_cons.mpr ⟨cat_VI _, List.forall_mem_cons.mpr ⟨cat_VI _, fun _ h => nomatch h⟩⟩) rfl (Nat.le_of_ble_eq_true rfl) rfl) ?_
  intro X x en rm th hr
  have hr0 := hr
  refine G_rg (fun hr => ?_)
  refine G_iload0 x eX10_requireIndex_0 ?_
  refine G_if_lt x eX10_requireIndex_1 (by first | omega | exact hr _ _ | exact hr0 _ _ | exact hrS _) (fun c1 => ?_) (fun c1 => ?_)
  · refine G_throwW x th rm tf_I tk_I ti_I ts_268 tw_I tg_I eX10_requireIndex_9.1 eX10_requireIndex_12.1 eX10_requireIndex_13.1 eX10_requireIndex_16.1 eX10_requireIndex_19.1 (Nat.le_of_ble_eq_true rfl) (Nat.le_of_ble_eq_true rfl) (Nat.le_of_ble_eq_true rfl) (by omega) (by omega) (by omega) (by omega) ?_
    exact fun N hN => ⟨by omega, rfl, hN, rfl, rfl, rfl, rfl⟩
  · refine G_iload0 x eX10_requireIndex_4 ?_
    refine G_iload1 x eX10_requireIndex_5 ?_
    refine G_icmp_lt x eX10_requireIndex_6 (by first | omega | exact hr _ _ | exact hr0 _ _ | exact hrS _) (by first | omega | exact hr _ _ | exact hr0 _ _ | exact hrS _) (fun c6 => ?_) (fun c6 => ?_)
    · refine G_return x en eX10_requireIndex_20 (by omega) (by omega) ?_
      exact ⟨by omega, rfl, rfl, rfl, rfl, rfl⟩
    · refine G_throwW x th rm tf_I tk_I ti_I ts_268 tw_I tg_I eX10_requireIndex_9.1 eX10_requireIndex_12.1 eX10_requireIndex_13.1 eX10_requireIndex_16.1 eX10_requireIndex_19.1 (Nat.le_of_ble_eq_true rfl) (Nat.le_of_ble_eq_true rfl) (Nat.le_of_ble_eq_true rfl) (by omega) (by omega) (by omega) (by omega) ?_
      exact fun N hN => ⟨by omega, rfl, hN, rfl, rfl, rfl, rfl⟩
set_option maxRecDepth 20000 in
theorem ct_X10_requireArgument {T : gT} {I : gI} {J : gJ} {O : gO} {a l m : Int} (h0 : in32 a) (h1 : in32 l) (h2 : in32 m) : Cx yX10_requireArgument cX10_requireArgument 3 none [VI a, VI l, VI m] 6 90 1 6 T I J O (fun v T' I' J' O' => (l ≤ a ∧ a ≤ m) ∧ v = none ∧ T' = T ∧ I' = I ∧ J' = J ∧ O' = O) (fun cl T' I' J' O' => ¬ (l ≤ a ∧ a ≤ m) ∧ tX xcA T I J O cl T' I' J' O') := by
  refine Cx.of' (by decide) [some (VI a), some (VI l), some (VI m)] (gEn1 (List.forall_mem_cons.mpr ⟨cat_VI _, List.forall_mem_cons.mpr ⟨cat_VI _, List.forall_mem_cons.mpr ⟨cat_VI _, fun _ h => nomatch h⟩⟩⟩) rfl (Nat.le_of_ble_eq_true rfl) rfl) ?_
  intro X x en rm th hr
  have hr0 := hr
  refine G_rg (fun hr => ?_)
  refine G_iload0 x eX10_requireArgument_0 ?_
  refine G_iload1 x eX10_requireArgument_1 ?_
  refine G_icmp_lt x eX10_requireArgument_2 (by first | omega | exact hr _ _ | exact hr0 _ _ | exact hrS _) (by first | omega | exact hr _ _ | exact hr0 _ _ | exact hrS _) (fun c2 => ?_) (fun c2 => ?_)
  · refine G_throwW x th rm tf_A tk_A ti_A ts_270 tw_A tg_A eX10_requireArgument_10.1 eX10_requireArgument_13.1 eX10_requireArgument_14.1 eX10_requireArgument_17.1 eX10_requireArgument_20.1 (Nat.le_of_ble_eq_true rfl) (Nat.le_of_ble_eq_true rfl) (Nat.le_of_ble_eq_true rfl) (by omega) (by omega) (by omega) (by omega) ?_
    exact fun N hN => ⟨by omega, rfl, hN, rfl, rfl, rfl, rfl⟩
  · refine G_iload0 x eX10_requireArgument_5 ?_
    refine G_iload2 x eX10_requireArgument_6 ?_
    refine G_icmp_le x eX10_requireArgument_7 (by first | omega | exact hr _ _ | exact hr0 _ _ | exact hrS _) (by first | omega | exact hr _ _ | exact hr0 _ _ | exact hrS _) (fun c7 => ?_) (fun c7 => ?_)
    · refine G_return x en eX10_requireArgument_21 (by omega) (by omega) ?_
      exact ⟨by omega, rfl, rfl, rfl, rfl, rfl⟩
    · refine G_throwW x th rm tf_A tk_A ti_A ts_270 tw_A tg_A eX10_requireArgument_10.1 eX10_requireArgument_13.1 eX10_requireArgument_14.1 eX10_requireArgument_17.1 eX10_requireArgument_20.1 (Nat.le_of_ble_eq_true rfl) (Nat.le_of_ble_eq_true rfl) (Nat.le_of_ble_eq_true rfl) (by omega) (by omega) (by omega) (by omega) ?_
      exact fun N hN => ⟨by omega, rfl, hN, rfl, rfl, rfl, rfl⟩
set_option maxRecDepth 20000 in
theorem ct_X10_requireOther {T : gT} {I : gI} {J : gJ} {O : gO} {p q : Nat} : Cx yX10_requireOther cX10_requireOther 2 none [va_rf (some p), va_rf (some q)] 6 90 1 6 T I J O (fun v T' I' J' O' => p ≠ q ∧ v = none ∧ T' = T ∧ I' = I ∧ J' = J ∧ O' = O) (fun cl T' I' J' O' => p = q ∧ tX xcA T I J O cl T' I' J' O') := by
  refine Cx.of' (by decide) [some (va_rf (some p)), some (va_rf (some q))] (gEn1 (List.forall_mem_cons.mpr ⟨cat_VR _, List.forall_mem_cons.mpr ⟨cat_VR _, fun _ h => nomatch h⟩⟩) rfl (Nat.le_of_ble_eq_true rfl) rfl) ?_
  intro X x en rm th hr
  have hr0 := hr
  refine G_rg (fun hr => ?_)
  refine G_aload0 x eX10_requireOther_0 ?_
  refine G_aload1 x eX10_requireOther_1 ?_
  refine G_acmp_ne x eX10_requireOther_2 (fun c2 => ?_) (fun c2 => ?_)
  · refine G_return x en eX10_requireOther_16 (by omega) (by omega) ?_
    exact ⟨fun z => c2 (by rw [z]), rfl, rfl, rfl, rfl, rfl⟩
  · refine G_throwW x th rm tf_A tk_A ti_A ts_272 tw_A tg_A eX10_requireOther_5.1 eX10_requireOther_8.1 eX10_requireOther_9.1 eX10_requireOther_12.1 eX10_requireOther_15.1 (Nat.le_of_ble_eq_true rfl) (Nat.le_of_ble_eq_true rfl) (Nat.le_of_ble_eq_true rfl) (by omega) (by omega) (by omega) (by omega) ?_
    exact fun N hN => ⟨by cases c2; rfl, rfl, hN, rfl, rfl, rfl, rfl⟩
set_option maxRecDepth 20000 in
theorem ct_X10_requireLogRoom {T : gT} {I : gI} {J : gJ} {O : gO} {p : Nat} (hM : RpAt T O p) (f0 : 0 ≤ I p 0) (f1 : I p 0 ≤ 2) : Cx yX10_requireLogRoom cX10_requireLogRoom 1 none [va_rf (some p)] 6 90 1 6 T I J O (fun v T' I' J' O' => I (p + 26) (I p 0) < 40 ∧ v = none ∧ T' = T ∧ I' = I ∧ J' = J ∧ O' = O) (fun cl T' I' J' O' => 40 ≤ I (p + 26) (I p 0) ∧ tX xcS T I J O cl T' I' J' O') := by
  refine Cx.of' (by decide) [some (va_rf (some p))] (gEn1 (List.forall_mem_cons.mpr ⟨cat_VR _, fun _ h => nomatch h⟩) rfl (Nat.le_of_ble_eq_true rfl) rfl) ?_
  intro X x en rm th hr
  have hr0 := hr
  refine G_rg (fun hr => ?_)
  refine G_aload0 x eX10_requireLogRoom_0 ?_
  refine G_cV x eX10_requireLogRoom_1 kX10_190 im_yX8_logLength se_yX8_logLength rm hM.m (ct_X8_logLength hM f0 f1) rfl ?_
  refine G_push x eX10_requireLogRoom_4 ?_
  refine G_icmp_lt x eX10_requireLogRoom_6 (by first | omega | exact hr _ _ | exact hr0 _ _ | exact hrS _) (by first | omega | exact hr _ _ | exact hr0 _ _ | exact hrS _) (fun c6 => ?_) (fun c6 => ?_)
  · refine G_return x en eX10_requireLogRoom_20 (by omega) (by omega) ?_
    exact ⟨by omega, rfl, rfl, rfl, rfl, rfl⟩
  · refine G_throwW x th rm tf_S tk_S ti_S ts_274 tw_S tg_S eX10_requireLogRoom_9.1 eX10_requireLogRoom_12.1 eX10_requireLogRoom_13.1 eX10_requireLogRoom_16.1 eX10_requireLogRoom_19.1 (Nat.le_of_ble_eq_true rfl) (Nat.le_of_ble_eq_true rfl) (Nat.le_of_ble_eq_true rfl) (by omega) (by omega) (by omega) (by omega) ?_
    exact fun N hN => ⟨by omega, rfl, hN, rfl, rfl, rfl, rfl⟩
abbrev uC (p : Prop) (res : Option Value) (T : gT) (I : gI) (J : gJ) (O : gO) : gP := fun v T' I' J' O' => p ∧ v = res ∧ T' = T ∧ I' = I ∧ J' = J ∧ O' = O
set_option maxRecDepth 20000 in
theorem ct_X10_requireCell {T : gT} {I : gI} {J : gJ} {O : gO} {p : Nat} {row col n m : Int} (hM : RpAt T O p) (hn : I (p + 1) 6 = n) (hm : I (p + 8) 6 = m) (h0 : in32 row) (h1 : in32 col) : Cx yX10_requireCell cX10_requireCell 3 none [va_rf (some p), VI row, VI col] 7 111 2 12 T I J O (uC ((0 ≤ row ∧ row < n) ∧ 0 ≤ col ∧ col < m) none T I J O) (fun cl T' I' J' O' => ¬ ((0 ≤ row ∧ row < n) ∧ 0 ≤ col ∧ col < m) ∧ tX xcI T I J O cl T' I' J' O') := by
  refine Cx.of' (by decide) [some (va_rf (some p)), some (VI row), some (VI col)] (gEn1 (List.forall_mem_cons.mpr ⟨cat_VR _, List.forall_mem_cons.mpr ⟨cat_VI _, List.forall_mem_cons.mpr ⟨cat_VI _, fun _ h => nomatch h⟩⟩⟩) rfl (Nat.le_of_ble_eq_true rfl) rfl) ?_
  intro X x en rm th hr
  have hr0 := hr
  have i1 := hr (p + 1) 6
  have i2 := hr (p + 8) 6
  refine G_rg (fun hr => ?_)
  refine G_iload1 x eX10_requireCell_0 ?_
  refine G_aload0 x eX10_requireCell_1 ?_
  refine G_getq x eX10_requireCell_2 fX10_201 rfl rfl hM.m hM.o_rows ?_
  refine G_cV x eX10_requireCell_5 kX10_47 im_yX4_count se_yX4_count rm hM.s_rows.m (ct_X4_count hM.s_rows) rfl ?_
  rw [hn]
  refine G_cSX x th eX10_requireCell_8 kX10_53 sm_yX10_requireIndex rm (ct_X10_requireIndex (i := row) (e := n) h0 (by rw [← hn]; exact i1)) (fun _ _ _ _ _ h9 => ⟨by have := h9.1; omega, h9.2⟩) rfl (fun v8 T8 I8 J8 O8 p8 => ?_)
  refine G_rg (fun hr => ?_)
  obtain ⟨q1, rfl, rfl, rfl, rfl, rfl⟩ := p8
  refine G_iload2 x eX10_requireCell_11 ?_
  refine G_aload0 x eX10_requireCell_12 ?_
  refine G_getq x eX10_requireCell_13 fX10_209 rfl rfl hM.m hM.o_columns ?_
  refine G_cV x eX10_requireCell_16 kX10_47 im_yX4_count se_yX4_count rm hM.s_columns.m (ct_X4_count hM.s_columns) rfl ?_
  rw [hm]
  refine G_cSX x th eX10_requireCell_19 kX10_53 sm_yX10_requireIndex rm (ct_X10_requireIndex (i := col) (e := m) h1 (by rw [← hm]; exact i2)) (fun _ _ _ _ _ h9 => ⟨by have := h9.1; omega, h9.2⟩) rfl (fun v19 T19 I19 J19 O19 p19 => ?_)
  refine G_rg (fun hr => ?_)
  obtain ⟨q2, rfl, rfl, rfl, rfl, rfl⟩ := p19
  refine G_return x en eX10_requireCell_22 (by omega) (by omega) ?_
  exact ⟨⟨q1, q2⟩, rfl, rfl, rfl, rfl, rfl⟩
theorem RpR.ln {B : Nat} {T : gT} {I : gI} {O : gO} {p : Nat} {S : Int → Int} {r b : Int} (h : RpR B T I O p S r) (hb : b = 0 ∨ b = 1) : lnTb I (lnO p b) S r b := by
  rcases hb with e | e
  · rw [e]; exact h.2.2.1
  · rw [e]; exact h.2.2.2.1
theorem RpAt.ln {T : gT} {O : gO} {p : Nat} {b : Int} (h : RpAt T O p) (hb : b = 0 ∨ b = 1) : LnAt T O (lnO p b) := by
  rcases hb with e | e
  · rw [e]; exact h.s_rows
  · rw [e]; exact h.s_columns
set_option maxRecDepth 20000 in
theorem ct_X10_shown {T : gT} {I : gI} {J : gJ} {O : gO} {B ss : Nat} {S : Int → Int} {r b : Int} (hS : SsAt T O ss) (hR : ∀ r, 0 ≤ r → r ≤ 2 → RpR B T I O (rpA ss r) S r) (h0 : in32 r) (hb : b = 0 ∨ b = 1) : Cx yX10_shown cX10_shown 3 (some .int) [va_rf (some ss), VI r, VI b] 7 111 1 6 T I J O (uC (0 ≤ r ∧ r ≤ 2) (some (VI (rwN S r b (-1)))) T I J O) (fun cl T' I' J' O' => ¬ (0 ≤ r ∧ r ≤ 2) ∧ tX xcI T I J O cl T' I' J' O') := by
  refine Cx.of' (by decide) [some (va_rf (some ss)), some (VI r), some (VI b)] (gEn1 (List.forall_mem_cons.mpr ⟨cat_VR _, List.forall_mem_cons.mpr ⟨cat_VI _, List.forall_mem_cons.mpr ⟨cat_VI _, fun _ h => nomatch h⟩⟩⟩) rfl (Nat.le_of_ble_eq_true rfl) rfl) ?_
  intro X x en rm th hr
  have hr0 := hr
  have hZ := hS.z
  have hss := hZ.m
  refine G_aload0 x eX10_shown_0 ?_
  refine G_iload1 x eX10_shown_1 ?_
  refine G_cVX x th eX10_shown_2 kX10_39 ⟨im_yX10_replicaAt, se_yX10_replicaAt⟩ hZ.m rm (ct_X10_replicaAt hS h0) (fun _ _ _ _ _ h9 => h9) rfl (fun v2 T2 I2 J2 O2 p2 => ?_)
  refine G_rg (fun hr => ?_)
  obtain ⟨q1, rfl, rfl, rfl, rfl, rfl⟩ := p2
  have hp := (hS.rp q1.1 q1.2).1
  have ht := (hR r q1.1 q1.2).ln hb
  have en1 := ht.R.1
  have hLn := hp.ln hb
  refine G_iload2 x eX10_shown_5 ?_
  refine G_cV x eX10_shown_6 kX10_43 im_yX8_linesOf se_yX8_linesOf rm hp.m (ct_X8_linesOf hp hb) rfl ?_
  refine G_cV x eX10_shown_9 kX10_47 im_yX4_count se_yX4_count rm hLn.m (ct_X4_count hLn) rfl ?_
  rw [en1]
  refine G_rg (fun hr => ?_)
  refine G_ireturn x en eX10_shown_12 (by omega) (by omega) ?_
  exact ⟨q1, rfl, rfl, rfl, rfl, rfl⟩
