/-! switches, calls with a fuller stack -/
section G96
variable {X : gX} {cc : ByteArray} {own : String} {pc q : Nat} {Ls : List (Option Value)} {st : List Value} {T : gT} {I : gI} {J : gJ} {O : gO} {k n mc ms : Nat} {P : gP}
theorem G_tableIn {a dflt lo hi off : Int} {offs : Array Int} {len tgt : Nat} (x : Ok X cc own) (d : decode cc pc = .ok (.tableswitch dflt lo hi offs, len)) (ha : in32 a) (h1 : lo ≤ a) (h2 : a ≤ hi) (ho : offs[(a - lo).toNat]? = some off) (ht : (pc : Int) + off = (tgt : Int)) (h : G X tgt Ls st T I J O k n) : G X pc Ls (VI a :: st) T I J O k n := by
  obtain ⟨p, l, e, R, s, m, args, below, meth, c, E, Q⟩ := X
  intro H locs ls hW hS hL
  exact lv_tableIn x.1 x.2.1 d (by rw [i32_toInt ha]; omega) (by rw [i32_toInt ha]; omega) (by rw [i32_toInt ha]; exact ho) ht (h H locs ls hW hS hL)
theorem G_tableOut {a dflt lo hi : Int} {offs : Array Int} {len tgt : Nat} (x : Ok X cc own) (d : decode cc pc = .ok (.tableswitch dflt lo hi offs, len)) (ha : in32 a) (h1 : a < lo ∨ hi < a) (ht : (pc : Int) + dflt = (tgt : Int)) (h : G X tgt Ls st T I J O k n) : G X pc Ls (VI a :: st) T I J O k n := by
  obtain ⟨p, l, e, R, s, m, args, below, meth, c, E, Q⟩ := X
  intro H locs ls hW hS hL
  exact lv_tableOut x.1 x.2.1 d (by rw [i32_toInt ha]; exact h1) ht (h H locs ls hW hS hL)
theorem G_lookup {a dflt off : Int} {ps : Array (Int × Int)} {len tgt : Nat} (x : Ok X cc own) (d : decode cc pc = .ok (.lookupswitch dflt ps, len)) (ha : in32 a) (hp : (ps.toList.zip (ps.toList.drop 1)).all (fun (a, next) => a.1 < next.1) = true) (ho : Op.lookupswitch.offset ps.toList dflt a = off) (ht : (pc : Int) + off = (tgt : Int)) (h : G X tgt Ls st T I J O k n) : G X pc Ls (VI a :: st) T I J O k n := by
  obtain ⟨p, l, e, R, s, m, args, below, meth, c, E, Q⟩ := X
  intro H locs ls hW hS hL
  exact lv_lookup x.1 x.2.1 d hp (by rw [i32_toInt ha]; exact ho) ht (h H locs ls hW hS hL)
theorem G_cVg8 {idx np fr lo fr0 lo0 mc0 ms0 : Nat} {y : MethodName} {cy : ByteArray} {maxL : Nat} {ret : Option FieldType} {as rest : List Value} {ci a : Nat} (x : Ok X cc own) (d : Dc cc pc (.invokevirtual idx) 3 q) (L : Lk own idx y cy maxL ret np) (hin : Cond.instanceMethod y ∈ gtb) (hse : Cond.selects y.cls y y ∈ gtb) (rm : gRm X fr0 lo0 mc0 ms0) (hT : T.2 a = some (.inl ci)) (C : Ct y cy maxL ret (va_rf (some a) :: as) fr lo mc ms T I J O P) (hstk : st = as.reverse ++ va_rf (some a) :: rest) (kk : ∀ v T' I' J' O', P v T' I' J' O' → G X q Ls (v.toList ++ rest) T' I' J' O' (k + mc) (n + ms)) (hc : vwCl[ci]? = some (y.cls, gTb ci, gN ci) := by rfl) (hr : (rest.map fun v => v.category).sum ≤ 8 := by exact Nat.le_of_ble_eq_true rfl) (hn : as.length = np := by rfl) (hfr : fr + 1 ≤ fr0 := by exact Nat.le_of_ble_eq_true rfl) (hlo : 8 + (maxL + 11) + lo ≤ lo0 := by exact Nat.le_of_ble_eq_true rfl) (hmc : k + mc ≤ mc0 := by omega) (hms : n + ms ≤ ms0 := by omega) : G X pc Ls st T I J O k n := by
  obtain ⟨d, rfl⟩ := d
  refine G_run (as := va_rf (some a) :: as) (rest := rest) ?_ kk
  intro p l e R s m args below meth c E Q hX H locs ls hW hS hL
  subst hX
  have hR : R = { frames := fr0, cells := mc0, slots := ms0, locals := lo0 } := rm
  subst hR
  have hp := gPS (as := va_rf (some a) :: as) x.2.2.2.2.1 x.2.2.2.2.2.1 hW hS
  exact va_runV (n := np) (ret := ret) (C := y.cls) ⟨x.1, x.2.1, rfl, x.2.2.1, x.2.2.2.1⟩ (C l E x.2.2.2.2.2.2.2) ⟨gCB x.2.2.2.1 L ⟨hfr, hlo⟩, x.2.2.2.1 _ hin, x.2.2.2.1 _ hse⟩ ⟨hp.1, va_recv x.2.2.2.2.1.1 (va_P1 (hW.2.1 a _ hT).2) (ci := ci) (q0 := 0) hc rfl, hp.2⟩ rfl hn hL.1 hstk (lv_room hr) d ⟨hmc, hms⟩
theorem G_cI8 {idx np fr lo fr0 lo0 mc0 ms0 mc ms a : Nat} {P : gP} {y : MethodName} {cy : ByteArray} {maxL : Nat} {as rest : List Value} (x : Ok X cc own) (d : Dc cc pc (.invokespecial idx) 3 q) (L : Lk own idx y cy maxL none np) (hin : Cond.instanceMethod y ∈ gtb) (rm : gRm X fr0 lo0 mc0 ms0) (C : Ct y cy maxL none (va_rf (some a) :: as) fr lo mc ms T I J O P) (hstk : st = as.reverse ++ va_rf (some a) :: rest) (kk : ∀ v T' I' J' O', P v T' I' J' O' → G X q Ls (v.toList ++ rest) T' I' J' O' (k + mc) (n + ms)) (hy : y.name = "<init>" := by rfl) (hr : (rest.map fun v => v.category).sum ≤ 8 := by exact Nat.le_of_ble_eq_true rfl) (hn : as.length = np := by rfl) (hfr : fr + 1 ≤ fr0 := by exact Nat.le_of_ble_eq_true rfl) (hlo : 8 + (maxL + 11) + lo ≤ lo0 := by exact Nat.le_of_ble_eq_true rfl) (hmc : k + mc ≤ mc0 := by omega) (hms : n + ms ≤ ms0 := by omega) : G X pc Ls st T I J O k n := by
  obtain ⟨d, rfl⟩ := d
  refine G_run (as := va_rf (some a) :: as) (rest := rest) ?_ kk
  intro p l e R s m args below meth c E Q hX H locs ls hW hS hL
  subst hX
  have hR : R = { frames := fr0, cells := mc0, slots := ms0, locals := lo0 } := rm
  subst hR
  exact va_runI (n := np) ⟨x.1, x.2.1, rfl, x.2.2.1, x.2.2.2.1⟩ (C l E x.2.2.2.2.2.2.2) ⟨gCB x.2.2.2.1 L ⟨hfr, hlo⟩, hy, x.2.2.2.1 _ hin⟩ (gPS x.2.2.2.2.1 x.2.2.2.2.2.1 hW hS) rfl hn hL.1 hstk (lv_room hr) d ⟨hmc, hms⟩
end G96
/-! questions about operations and contents -/
set_option maxRecDepth 20000 in
theorem ct_X10_aboutOperation {T : gT} {I : gI} {J : gJ} {O : gO} {a : Nat} {w : Int} (hA : T.2 a = some (.inl 5)) (h0 : in32 w) : Ct yX10_aboutOperation cX10_aboutOperation 2 (some .int) [va_rf (some a), VI w] 0 0 0 0 T I J O (pv (some (VI (if w = 0 then I a 0 else if w = 1 then I a 1 else if w = 2 then I a 3 else if w = 3 then I a 4 else I a 5))) T I J O) := by
  refine Ct.of (by decide) [some (va_rf (some a)), some (VI w)] (gEn1 (List.forall_mem_cons.mpr ⟨cat_VR _, List.forall_mem_cons.mpr ⟨cat_VI _, fun _ h => nomatch h⟩⟩) rfl (Nat.le_of_ble_eq_true rfl) rfl) ?_
  intro X x en rm ini hr hz
  have hr0 := hr
  refine G_rg (fun hr => ?_)
  refine G_iload1 x eX10_aboutOperation_0 ?_
  by_cases z1_0 : w = 0
  · refine G_tableIn (tgt := 32) (off := 31) x eX10_aboutOperation_1 (by first | omega | exact hr _ _ | exact hr0 _ _ | exact hrS _) (by omega) (by omega) (by rw [z1_0]; rfl) (by omega) ?_
    refine G_aload0 x eX10_aboutOperation_32 ?_
    refine G_geti x eX10_aboutOperation_33 fX10_315 rfl rfl hA (fun h33 => ?_)
    refine G_ireturn x en eX10_aboutOperation_36 (by omega) (by omega) ?_
    refine ⟨?_, rfl, rfl, rfl, rfl⟩; (repeat' split) <;> first | rfl | omega
  by_cases z1_1 : w = 1
  · refine G_tableIn (tgt := 37) (off := 36) x eX10_aboutOperation_1 (by first | omega | exact hr _ _ | exact hr0 _ _ | exact hrS _) (by omega) (by omega) (by rw [z1_1]; rfl) (by omega) ?_
    refine G_aload0 x eX10_aboutOperation_37 ?_
    refine G_geti x eX10_aboutOperation_38 fX10_300 rfl rfl hA (fun h38 => ?_)
    refine G_ireturn x en eX10_aboutOperation_41 (by omega) (by omega) ?_
    refine ⟨?_, rfl, rfl, rfl, rfl⟩; (repeat' split) <;> first | rfl | omega
  by_cases z1_2 : w = 2
  · refine G_tableIn (tgt := 42) (off := 41) x eX10_aboutOperation_1 (by first | omega | exact hr _ _ | exact hr0 _ _ | exact hrS _) (by omega) (by omega) (by rw [z1_2]; rfl) (by omega) ?_
    refine G_aload0 x eX10_aboutOperation_42 ?_
    refine G_geti x eX10_aboutOperation_43 fX10_316 rfl rfl hA (fun h43 => ?_)
    refine G_ireturn x en eX10_aboutOperation_46 (by omega) (by omega) ?_
    refine ⟨?_, rfl, rfl, rfl, rfl⟩; (repeat' split) <;> first | rfl | omega
  by_cases z1_3 : w = 3
  · refine G_tableIn (tgt := 47) (off := 46) x eX10_aboutOperation_1 (by first | omega | exact hr _ _ | exact hr0 _ _ | exact hrS _) (by omega) (by omega) (by rw [z1_3]; rfl) (by omega) ?_
    refine G_aload0 x eX10_aboutOperation_47 ?_
    refine G_geti x eX10_aboutOperation_48 fX10_318 rfl rfl hA (fun h48 => ?_)
    refine G_ireturn x en eX10_aboutOperation_51 (by omega) (by omega) ?_
    refine ⟨?_, rfl, rfl, rfl, rfl⟩; (repeat' split) <;> first | rfl | omega
  refine G_tableOut (tgt := 52) x eX10_aboutOperation_1 (by first | omega | exact hr _ _ | exact hr0 _ _ | exact hrS _) (by omega) (by omega) ?_
  refine G_aload0 x eX10_aboutOperation_52 ?_
  refine G_geti x eX10_aboutOperation_53 fX10_321 rfl rfl hA (fun h53 => ?_)
  refine G_ireturn x en eX10_aboutOperation_56 (by omega) (by omega) ?_
  refine ⟨?_, rfl, rfl, rfl, rfl⟩; (repeat' split) <;> first | rfl | omega
set_option maxRecDepth 20000 in
theorem ct_q_operation {T : gT} {I : gI} {J : gJ} {O : gO} {B ss : Nat} {S : Int → Int} {n : Int} {Rc X : Int → Int} {L : Int} (hW : WW B ss T I J O S n Rc X L) (hI : Inv S) {r k w : Int} (h0 : in32 r) (h1 : in32 k) (h2 : in32 w) : Cx yX10_operation cX10_operation 6 (some .int) [va_rf (some ss), VI r, VI k, VI w] 7 112 2 12 T I J O (cRet B ss T I J O (aThr r w 4) (VI (if 0 ≤ k ∧ k < S r then S (3 + 32 * (40 * r + k) + w) else -1)) S n Rc X L) (cThr B ss T I J O (aThr r w 4) nIA S n Rc X L) := by
  refine Cx.of' (by decide) [some (va_rf (some ss)), some (VI r), some (VI k), some (VI w), none, none] (gEn1 (List.forall_mem_cons.mpr ⟨cat_VR _, List.forall_mem_cons.mpr ⟨cat_VI _, List.forall_mem_cons.mpr ⟨cat_VI _, List.forall_mem_cons.mpr ⟨cat_VI _, fun _ h => nomatch h⟩⟩⟩⟩) rfl (Nat.le_of_ble_eq_true rfl) rfl) ?_
  intro X x en rm th hr
  have hr0 := hr
  have hS := hW.1.1
  have hZ := hS.z
  have hss := hZ.m
  refine G_aload0 x eX10_operation_0 ?_
  refine G_iload1 x eX10_operation_1 ?_
  refine G_cVX x th eX10_operation_2 kX10_39 ⟨im_yX10_replicaAt, se_yX10_replicaAt⟩ hZ.m rm (ct_X10_replicaAt hS h0) (fun _ _ _ _ _ h9 => cThr.tx h9.2 1 (by have q9 := h9.1; unfold aThr; (repeat' split) <;> first | rfl | omega) (by omega) rfl FrC.rf hW) rfl (fun v2 T2 I2 J2 O2 p2 => ?_)
  refine G_rg (fun hr => ?_)
  obtain ⟨q1, rfl, rfl, rfl, rfl, rfl⟩ := p2
  have hp := (hS.rp q1.1 q1.2).1
  obtain ⟨hR, hG, hC⟩ := hW.2.1 r q1.1 q1.2
  have hn := hR.2.1 r q1.1 q1.2
  rw [cIx_s] at hn
  have hf := hI.f q1.1 q1.2
  refine G_astore4 x eX10_operation_5 ?_
  refine G_iload3 x eX10_operation_7 ?_
  refine G_push x eX10_operation_8 ?_
  refine G_push x eX10_operation_9 ?_
  refine G_cSX x th eX10_operation_10 kX10_85 sm_yX10_requireArgument rm (ct_X10_requireArgument (a := w) (l := 0) (m := 4) h2 (by omega) (by omega)) (fun _ _ _ _ _ h9 => cThr.tx h9.2 2 (by have q9 := h9.1; unfold aThr; (repeat' split) <;> first | rfl | omega) (by omega) rfl FrC.rf hW) rfl (fun v10 T10 I10 J10 O10 p10 => ?_)
  refine G_rg (fun hr => ?_)
  obtain ⟨q2, rfl, rfl, rfl, rfl, rfl⟩ := p10
  have cL := ct_X8_logLength (I := I10) (J := J10) hp (by rw [hR.1.1]; exact q1.1) (by rw [hR.1.1]; exact q1.2)
  rw [hR.1.1, hn] at cL
  by_cases hk : 0 ≤ k ∧ k < S r
  · obtain ⟨a, a1, a2⟩ := hG k hk.1 hk.2
    have cG := ct_X8_logged (I := I10) (J := J10) (k := k) hp hk.1 (by omega)
    rw [a1] at cG
    have hA := a2.2.1
    refine G_rg (fun hr => ?_)
    refine G_iload2 x eX10_operation_13 ?_
    refine G_if_lt x eX10_operation_14 (by first | omega | exact hr _ _ | exact hr0 _ _ | exact hrS _) (fun c14 => ?_) (fun c14 => ?_)
    · exfalso; omega
    · refine G_iload2 x eX10_operation_17 ?_
      refine G_aload4 x eX10_operation_18 ?_
      refine G_cV x eX10_operation_20 kX10_190 im_yX8_logLength se_yX8_logLength rm hp.m cL rfl ?_
      refine G_icmp_lt x eX10_operation_23 (by first | omega | exact hr _ _ | exact hr0 _ _ | exact hrS _) (by first | omega | exact hr _ _ | exact hr0 _ _ | exact hrS _) (fun c23 => ?_) (fun c23 => ?_)
      · refine G_aload4 x eX10_operation_28 ?_
        refine G_iload2 x eX10_operation_30 ?_
        refine G_cV x eX10_operation_31 kX10_193 im_yX8_logged se_yX8_logged rm hp.m cG rfl ?_
        refine G_astore5 x eX10_operation_34 ?_
        refine G_aload5 x eX10_operation_36 ?_
        refine G_ifnonnull x eX10_operation_38 (fun b38 c38 => ?_) (fun c38 => ?_)
        · refine G_aload5 x eX10_operation_45 ?_
          refine G_iload3 x eX10_operation_47 ?_
          refine G_cS x eX10_operation_48 kX10_197 sm_yX10_aboutOperation rm (ct_X10_aboutOperation hA h2) rfl ?_
          refine G_ireturn x en eX10_operation_51 (by omega) (by omega) ?_
          refine ⟨by unfold aThr; rw [if_pos q1, if_pos q2], ?_, FrC.rf, hW⟩; obtain ⟨-, -, ⟨g0, g1, g2, g3, g4, g5⟩, -⟩ := a2; rw [if_pos hk, g0, g1, g3, g4, g5]; rcases (by omega : w = 0 ∨ w = 1 ∨ w = 2 ∨ w = 3 ∨ w = 4) with e | e | e | e | e <;> subst e <;> rfl
        · contradiction
      · exfalso; omega
  · refine G_rg (fun hr => ?_)
    refine G_iload2 x eX10_operation_13 ?_
    refine G_if_lt x eX10_operation_14 (by first | omega | exact hr _ _ | exact hr0 _ _ | exact hrS _) (fun c14 => ?_) (fun c14 => ?_)
    · refine G_push x eX10_operation_26 ?_
      refine G_ireturn x en eX10_operation_27 (by omega) (by omega) ?_
      exact ⟨by unfold aThr; rw [if_pos q1, if_pos q2], by rw [if_neg hk], FrC.rf, hW⟩
    · refine G_iload2 x eX10_operation_17 ?_
      refine G_aload4 x eX10_operation_18 ?_
      refine G_cV x eX10_operation_20 kX10_190 im_yX8_logLength se_yX8_logLength rm hp.m cL rfl ?_
      refine G_icmp_lt x eX10_operation_23 (by first | omega | exact hr _ _ | exact hr0 _ _ | exact hrS _) (by first | omega | exact hr _ _ | exact hr0 _ _ | exact hrS _) (fun c23 => ?_) (fun c23 => ?_)
      · exfalso; omega
      · refine G_push x eX10_operation_26 ?_
        refine G_ireturn x en eX10_operation_27 (by omega) (by omega) ?_
        exact ⟨by unfold aThr; rw [if_pos q1, if_pos q2], by rw [if_neg hk], FrC.rf, hW⟩
theorem cn_0 {B : Nat} {T : gT} {I : gI} {O : gO} {S : Int → Int} {r c : Int} {co : Nat} (h : cnG B T I O S r c co) : I co 0 = tlS S r c 0 := by
  unfold tlS
  rw [if_pos rfl]
  rcases h.2 with ⟨e, e1, -⟩ | ⟨e, e1⟩
  · rw [if_pos e]; exact e1
  · rw [if_neg (by omega)]; exact e1.2.2.1
theorem cn_3 {B : Nat} {T : gT} {I : gI} {O : gO} {S : Int → Int} {r c : Int} {co : Nat} (h : cnG B T I O S r c co) : I co 1 = tlS S r c 3 := by
  unfold tlS
  rw [if_neg (by omega), if_neg (by omega), if_neg (by omega), if_pos rfl]
  rcases h.2 with ⟨e, -, e1, -⟩ | ⟨e, e1⟩
  · rw [if_pos (Or.inl e)]; exact e1
  · rw [e1.2.2.2.1]
    by_cases q : S (3 + 32 * idS S r c + 5) = 1
    · rw [if_pos q, if_neg (by omega)]
    · rw [if_neg q, if_pos (Or.inr q)]
theorem tl_1 {S : Int → Int} {r c : Int} : tlS S r c 1 = if idS S r c = -1 then -1 else S (3 + 32 * idS S r c + 1) := rfl
theorem tl_2 {S : Int → Int} {r c : Int} : tlS S r c 2 = if idS S r c = -1 then -1 else idS S r c / 40 := rfl
set_option maxRecDepth 20000 in
theorem ct_X10_aboutContent {T : gT} {I : gI} {J : gJ} {O : gO} {B p : Nat} {S : Int → Int} {r c w : Int} (hM : RpAt T O p) (hR : RpR B T I O p S r) (hW : clW S r) (hc : inC S r c) (w0 : 0 ≤ w) (w1 : w ≤ 3) : Ct yX10_aboutContent cX10_aboutContent 4 (some .int) [va_rf (some p), VI c, VI w] 4 86 0 0 T I J O (pv (some (VI (tlS S r c w))) T I J O) := by
  refine Ct.of (by decide) [some (va_rf (some p)), some (VI c), some (VI w), none] (gEn1 (List.forall_mem_cons.mpr ⟨cat_VR _, List.forall_mem_cons.mpr ⟨cat_VI _, List.forall_mem_cons.mpr ⟨cat_VI _, fun _ h => nomatch h⟩⟩⟩) rfl (Nat.le_of_ble_eq_true rfl) rfl) ?_
  intro X x en rm ini hr hz
  have hr0 := hr
  have hL := hR.L
  have hw := hR.wr hc
  have cW := ct_X8_writerAt (J := J) hM hL hc
  have cC := ct_X8_contentAt (J := J) hM hR hW hc
  obtain ⟨ow, how⟩ : ∃ ow, ow = O (p + 27) (12 * rwF S r 0 (-1) (c / 12) + rwF S r 1 (-1) (c % 12)) := ⟨_, rfl⟩
  rw [← how] at cW hw
  refine G_aload0 x eX10_aboutContent_0 ?_
  refine G_iload1 x eX10_aboutContent_1 ?_
  refine G_cV x eX10_aboutContent_2 kX10_294 im_yX8_writerAt se_yX8_writerAt rm hM.m cW rfl ?_
  refine G_astore3 x eX10_aboutContent_5 ?_
  refine G_iload2 x eX10_aboutContent_6 ?_
  rcases (by omega : w = 0 ∨ w = 1 ∨ w = 2 ∨ w = 3) with e | e | e | e
  · subst e
    refine G_tableIn (off := 25) (tgt := 32) x eX10_aboutContent_7 ⟨by decide, by decide⟩ (by omega) (by omega) rfl (by omega) ?_
    refine G_aload0 x eX10_aboutContent_32 ?_
    refine G_iload1 x eX10_aboutContent_33 ?_
    refine G_cVg x eX10_aboutContent_34 kX10_142 im_yX8_contentAt se_yX8_contentAt rm hM.m cC rfl (fun v34 T34 I34 J34 O34 p34 => ?_)
    refine G_rg (fun hr => ?_)
    obtain ⟨rfl, rfl, rfl, rfl, co, rfl, hco⟩ := p34
    have hco1 := hco.1
    refine G_geti x eX10_aboutContent_37 fX10_297 rfl rfl hco1 (fun h37 => ?_)
    rw [cn_0 hco]
    refine G_rg (fun hr => ?_)
    refine G_ireturn x en eX10_aboutContent_40 (by omega) (by omega) ?_
    exact pv_i
  · subst e
    refine G_tableIn (off := 34) (tgt := 41) x eX10_aboutContent_7 ⟨by decide, by decide⟩ (by omega) (by omega) rfl (by omega) ?_
    rcases hw with ⟨e1, e2⟩ | ⟨e1, a, e2, e3⟩
    · rw [e2]
      refine G_rg (fun hr => ?_)
      refine G_aload3 x eX10_aboutContent_41 ?_
      refine G_ifnonnull x eX10_aboutContent_42 (fun b42 c42 => ?_) (fun c42 => ?_)
      · cases c42
      · refine G_push x eX10_aboutContent_45 ?_
        refine G_goto x eX10_aboutContent_46 ?_
        refine G_ireturn x en eX10_aboutContent_53 (by omega) (by omega) ?_
        exact ⟨by rw [tl_1, if_pos e1], rfl, rfl, rfl, rfl⟩
    · rw [e2]
      have ha := e3.2.1
      refine G_rg (fun hr => ?_)
      refine G_aload3 x eX10_aboutContent_41 ?_
      refine G_ifnonnull x eX10_aboutContent_42 (fun b42 c42 => ?_) (fun c42 => ?_)
      · refine G_aload3 x eX10_aboutContent_49 ?_
        refine G_geti x eX10_aboutContent_50 fX10_300 rfl rfl ha (fun h50 => ?_)
        refine G_ireturn x en eX10_aboutContent_53 (by omega) (by omega) ?_
        exact ⟨by rw [tl_1, if_neg (by omega), e3.2.2.1.2.1], rfl, rfl, rfl, rfl⟩
      · cases c42
  · subst e
    refine G_tableIn (off := 47) (tgt := 54) x eX10_aboutContent_7 ⟨by decide, by decide⟩ (by omega) (by omega) rfl (by omega) ?_
    rcases hw with ⟨e1, e2⟩ | ⟨e1, a, e2, e3⟩
    · rw [e2]
      refine G_rg (fun hr => ?_)
      refine G_aload3 x eX10_aboutContent_54 ?_
      refine G_ifnonnull x eX10_aboutContent_55 (fun b55 c55 => ?_) (fun c55 => ?_)
      · cases c55
      · refine G_push x eX10_aboutContent_58 ?_
        refine G_goto x eX10_aboutContent_59 ?_
        refine G_ireturn x en eX10_aboutContent_66 (by omega) (by omega) ?_
        exact ⟨by rw [tl_2, if_pos e1], rfl, rfl, rfl, rfl⟩
    · rw [e2]
      have ha := e3.2.1
      refine G_rg (fun hr => ?_)
      refine G_aload3 x eX10_aboutContent_54 ?_
      refine G_ifnonnull x eX10_aboutContent_55 (fun b55 c55 => ?_) (fun c55 => ?_)
      · refine G_aload3 x eX10_aboutContent_62 ?_
        refine G_geti x eX10_aboutContent_63 fX10_301 rfl rfl ha (fun h63 => ?_)
        refine G_ireturn x en eX10_aboutContent_66 (by omega) (by omega) ?_
        exact ⟨by rw [tl_2, if_neg (by omega), e3.2.2.1.2.2.1], rfl, rfl, rfl, rfl⟩
      · cases c55
  · subst e
    refine G_tableOut (tgt := 67) x eX10_aboutContent_7 ⟨by decide, by decide⟩ (by omega) (by omega) ?_
    refine G_aload0 x eX10_aboutContent_67 ?_
    refine G_iload1 x eX10_aboutContent_68 ?_
    refine G_cVg x eX10_aboutContent_69 kX10_142 im_yX8_contentAt se_yX8_contentAt rm hM.m cC rfl (fun v69 T69 I69 J69 O69 p69 => ?_)
    refine G_rg (fun hr => ?_)
    obtain ⟨rfl, rfl, rfl, rfl, co, rfl, hco⟩ := p69
    have hco1 := hco.1
    refine G_geti x eX10_aboutContent_72 fX10_304 rfl rfl hco1 (fun h72 => ?_)
    rw [cn_3 hco]
    refine G_rg (fun hr => ?_)
    refine G_ireturn x en eX10_aboutContent_75 (by omega) (by omega) ?_
    exact pv_i
/-! references -/
theorem rf_nr {S : Int → Int} {r c : Int} {W : Int → Prop} (c0 : 0 ≤ c) (c1 : c < 144) : sm (fun d => b01 (Rw S r W c d)) 192 = tlS S r c 4 := by
  have e : tlS S r c 4 = if b01 (isFm S r c) = 1 then nrS S r c else 0 := rfl
  rw [e]
  by_cases q : isFm S r c
  · rw [if_pos (b01_t q), sm_z 144 192 (by omega) (fun i a b => b01_f (fun z => by
      rcases z with z | z
      · have := z.2.2.2.2
        omega
      · omega))]
    refine sm_c _ (fun i a b => b01_e ⟨fun z => ?_, fun z => Or.inl ⟨c1, c1, q, z, by omega⟩⟩)
    rcases z with z | z
    · exact z.2.2.2.1
    · omega
  · rw [if_neg (fun z => q (b01_1.mp z))]
    refine sm_0 _ (fun i a b => b01_f (fun z => ?_))
    rcases z with z | z
    · exact q z.2.2.1
    · omega
set_option maxRecDepth 20000 in
theorem ct_X0_countReferences {T : gT} {I : gI} {J : gJ} {O : gO} {ca : Nat} {S : Int → Int} {r c : Int} {W : Int → Prop} (hM : CaAt T O ca) (hR : CsIs (J (ca + 6 + 1)) (Rw S r W)) (c0 : 0 ≤ c) (c1 : c < 144) : Ct yX0_countReferences cX0_countReferences 2 (some .int) [va_rf (some ca), VI c] 2 44 0 0 T I J O (pv (some (VI (tlS S r c 4))) T I J O) := by
  refine Ct.of (by decide) [some (va_rf (some ca)), some (VI c)] (gEn1 (List.forall_mem_cons.mpr ⟨cat_VR _, List.forall_mem_cons.mpr ⟨cat_VI _, fun _ h => nomatch h⟩⟩) rfl (Nat.le_of_ble_eq_true rfl) rfl) ?_
  intro X x en rm ini hr hz
  have hr0 := hr
  refine G_rg (fun hr => ?_)
  refine G_aload0 x eX0_countReferences_0 ?_
  refine G_getq x eX0_countReferences_1 fX0_33 rfl rfl hM.m hM.o_references ?_
  refine G_iload1 x eX0_countReferences_4 ?_
  refine G_cV x eX0_countReferences_5 kX0_76 im_yX1_size se_yX1_size rm hM.s_references.m (ct_X1_size hM.s_references hR c0 (by omega)) rfl ?_
  refine G_ireturn x en eX0_countReferences_8 (by omega) (by omega) ?_
  exact ⟨by rw [rf_nr c0 c1], rfl, rfl, rfl, rfl⟩
set_option maxRecDepth 20000 in
theorem ct_X0_countReferrers {T : gT} {I : gI} {J : gJ} {O : gO} {ca : Nat} {S : Int → Int} {r c : Int} {W : Int → Prop} (hM : CaAt T O ca) (hR : CsIs (J (ca + 6 + 1)) (Rw S r W)) (hE : EnF S r 144 (I (ca + 3)) (I ca 4)) (n9 : I ca 4 ≤ 120) (c0 : 0 ≤ c) (c1 : c < 144) : Ct yX0_countReferrers cX0_countReferrers 4 (some .int) [va_rf (some ca), VI c] 2 42 0 0 T I J O (pv (some (VI (tlS S r c 5))) T I J O) := by
  refine Ct.of (by decide) [some (va_rf (some ca)), some (VI c), none, none] (gEn1 (List.forall_mem_cons.mpr ⟨cat_VR _, List.forall_mem_cons.mpr ⟨cat_VI _, fun _ h => nomatch h⟩⟩) rfl (Nat.le_of_ble_eq_true rfl) rfl) ?_
  intro X x en rm ini hr hz
  have hr0 := hr
  have n8 := hE.1
  have hq := fm_eq hE
  have fin : sm (fun g => b01 (rfS S r (idS S r (I (ca + 3) g)) c)) (I ca 4).toNat = tlS S r c 5 := by
    show _ = ngS S r c
    unfold ngS
    rw [← hq.1]
    exact sm_c _ (fun i a b => by rw [hq.2 i a (by omega)])
  have loop : ∀ (d f : Nat), (f : Int) + d = I ca 4 → G X 4 [some (va_rf (some ca)), some (VI c), some (VI (sm (fun g => b01 (rfS S r (idS S r (I (ca + 3) g)) c)) f)), some (VI (f : Int))] [] T I J O 0 0 := by
    intro d
    induction d with
    | zero =>
      intro f hd
      rw [show (I ca 4).toNat = f by omega] at fin
      refine G_rg (fun hr => ?_)
      refine G_iload3 x eX0_countReferrers_4 ?_
      refine G_aload0 x eX0_countReferrers_5 ?_
      refine G_geti x eX0_countReferrers_6 fX0_80 rfl rfl hM.m (fun h6 => ?_)
      refine G_icmp_ge x eX0_countReferrers_9 (by first | omega | exact hr _ _ | exact hr0 _ _ | exact hrS _) (by first | omega | exact hr _ _ | exact hr0 _ _ | exact hrS _) (fun c9 => ?_) (fun c9 => ?_)
      · refine G_iload2 x eX0_countReferrers_38 ?_
        refine G_ireturn x en eX0_countReferrers_39 (by omega) (by omega) ?_
        exact ⟨by rw [fin], rfl, rfl, rfl, rfl⟩
      · exfalso; omega
    | succ d ih =>
      intro f hd
      have cb := hE.2.2.2.1 f (by omega) (by omega)
      have sb := sm_b (m := fun g => b01 (rfS S r (idS S r (I (ca + 3) g)) c)) f (fun _ _ _ => b01_b)
      have ih := ih (f + 1) (by omega)
      have sS : sm (fun g => b01 (rfS S r (idS S r (I (ca + 3) g)) c)) (f + 1) = sm (fun g => b01 (rfS S r (idS S r (I (ca + 3) g)) c)) f + b01 (rfS S r (idS S r (I (ca + 3) f)) c) := rfl
      have hb : b01 (Rw S r W (I (ca + 3) f) c) = b01 (rfS S r (idS S r (I (ca + 3) f)) c) := b01_e ⟨fun z => by
        rcases z with z | z
        · exact z.2.2.2.1
        · omega, fun z => Or.inl ⟨cb.2.1, cb.2.1, cb.2.2, z, c1⟩⟩
      have cH := ct_X1_has (T := T) (I := I) (J := J) (O := O) (s := I (ca + 3) f) (c := c) hM.s_references hR cb.1 (by omega) c0 c1
      rw [hb] at cH
      rw [sS, show ((f + 1 : Nat) : Int) = (f : Int) + 1 by omega] at ih
      have hw01 := @b01_b (rfS S r (idS S r (I (ca + 3) f)) c)
      generalize sm (fun g => b01 (rfS S r (idS S r (I (ca + 3) g)) c)) f = u at *
      generalize b01 (rfS S r (idS S r (I (ca + 3) f)) c) = w at *
      refine G_rg (fun hr => ?_)
      refine G_iload3 x eX0_countReferrers_4 ?_
      refine G_aload0 x eX0_countReferrers_5 ?_
      refine G_geti x eX0_countReferrers_6 fX0_80 rfl rfl hM.m (fun h6 => ?_)
      refine G_icmp_ge x eX0_countReferrers_9 (by first | omega | exact hr _ _ | exact hr0 _ _ | exact hrS _) (by first | omega | exact hr _ _ | exact hr0 _ _ | exact hrS _) (fun c9 => ?_) (fun c9 => ?_)
      · exfalso; omega
      · refine G_aload0 x eX0_countReferrers_12 ?_
        refine G_getq x eX0_countReferrers_13 fX0_33 rfl rfl hM.m hM.o_references ?_
        refine G_aload0 x eX0_countReferrers_16 ?_
        refine G_getq x eX0_countReferrers_17 fX0_18 rfl rfl hM.m hM.o_formulaCells ?_
        refine G_iload3 x eX0_countReferrers_20 ?_
        refine G_iald x eX0_countReferrers_21 rfl hM.t_formulaCells (by omega) (by omega) (by omega) (fun h21 => ?_)
        refine G_iload1 x eX0_countReferrers_22 ?_
        refine G_cV x eX0_countReferrers_23 kX0_72 im_yX1_has se_yX1_has rm hM.s_references.m cH rfl ?_
        refine G_if_eq x eX0_countReferrers_26 (by omega) (fun c26 => ?_) (fun c26 => ?_)
        · refine G_iinc3 x eX0_countReferrers_32 ?_
          refine G_goto x eX0_countReferrers_35 ?_
          first | exact ih | (rw [show u + w = u by omega] at ih; exact ih) | (rw [show u + w = u + 1 by omega] at ih; exact ih)
        · refine G_iinc2 x eX0_countReferrers_29 ?_
          refine G_iinc3 x eX0_countReferrers_32 ?_
          refine G_goto x eX0_countReferrers_35 ?_
          first | exact ih | (rw [show u + w = u by omega] at ih; exact ih) | (rw [show u + w = u + 1 by omega] at ih; exact ih)
  refine G_push x eX0_countReferrers_0 ?_
  refine G_istore2 x eX0_countReferrers_1 ?_
  refine G_push x eX0_countReferrers_2 ?_
  refine G_istore3 x eX0_countReferrers_3 ?_
  exact loop (I ca 4).toNat 0 (by omega)
set_option maxRecDepth 20000 in
theorem ct_X10_aboutReferences {T : gT} {I : gI} {J : gJ} {O : gO} {ca : Nat} {S : Int → Int} {r c w : Int} (hM : CaAt T O ca) (hA : CaR I J ca S r) (hf : fmOk S r) (c0 : 0 ≤ c) (c1 : c < 144) (w0 : 4 ≤ w) (w1 : w ≤ 6) : Ct yX10_aboutReferences cX10_aboutReferences 3 (some .int) [va_rf (some ca), VI c, VI w] 3 65 0 0 T I J O (pv (some (VI (tlS S r c w))) T I J O) := by
  refine Ct.of (by decide) [some (va_rf (some ca)), some (VI c), some (VI w)] (gEn1 (List.forall_mem_cons.mpr ⟨cat_VR _, List.forall_mem_cons.mpr ⟨cat_VI _, List.forall_mem_cons.mpr ⟨cat_VI _, fun _ h => nomatch h⟩⟩⟩) rfl (Nat.le_of_ble_eq_true rfl) rfl) ?_
  intro X x en rm ini hr hz
  have hr0 := hr
  obtain ⟨a1, -, -, -, ⟨W, a2⟩, a3⟩ := hA
  have n9 := a1.n hf
  refine G_iload2 x eX10_aboutReferences_0 ?_
  rcases (by omega : w = 4 ∨ w = 5 ∨ w = 6) with e | e | e
  · subst e
    refine G_lookup (off := 27) (tgt := 28) x eX10_aboutReferences_1 ⟨by decide, by decide⟩ rfl rfl (by omega) ?_
    refine G_rg (fun hr => ?_)
    refine G_aload0 x eX10_aboutReferences_28 ?_
    refine G_iload1 x eX10_aboutReferences_29 ?_
    refine G_cV x eX10_aboutReferences_30 kX10_305 im_yX0_countReferences se_yX0_countReferences rm hM.m (ct_X0_countReferences hM a2 c0 c1) rfl ?_
    refine G_ireturn x en eX10_aboutReferences_33 (by omega) (by omega) ?_
    exact pv_i
  · subst e
    refine G_lookup (off := 33) (tgt := 34) x eX10_aboutReferences_1 ⟨by decide, by decide⟩ rfl rfl (by omega) ?_
    refine G_rg (fun hr => ?_)
    refine G_aload0 x eX10_aboutReferences_34 ?_
    refine G_iload1 x eX10_aboutReferences_35 ?_
    refine G_cV x eX10_aboutReferences_36 kX10_308 im_yX0_countReferrers se_yX0_countReferrers rm hM.m (ct_X0_countReferrers hM a2 a1 n9 c0 c1) rfl ?_
    refine G_ireturn x en eX10_aboutReferences_39 (by omega) (by omega) ?_
    exact pv_i
  · subst e
    refine G_lookup (off := 39) (tgt := 40) x eX10_aboutReferences_1 ⟨by decide, by decide⟩ rfl rfl (by omega) ?_
    have e6 : tlS S r c 6 = b01 (isFm S r c ∧ cyS S r c) := rfl
    have cO := ct_X0_isOnCycle (T := T) (I := I) (J := J) (O := O) (c := c) hM a3 c0 c1
    rw [← e6] at cO
    have hb := @b01_b (isFm S r c ∧ cyS S r c)
    rw [← e6] at hb
    generalize tlS S r c 6 = t at *
    refine G_aload0 x eX10_aboutReferences_40 ?_
    refine G_iload1 x eX10_aboutReferences_41 ?_
    refine G_cV x eX10_aboutReferences_42 kX10_311 im_yX0_isOnCycle se_yX0_isOnCycle rm hM.m cO rfl ?_
    refine G_if_eq x eX10_aboutReferences_45 (by omega) (fun c45 => ?_) (fun c45 => ?_)
    · refine G_rg (fun hr => ?_)
      refine G_push x eX10_aboutReferences_52 ?_
      refine G_ireturn x en eX10_aboutReferences_53 (by omega) (by omega) ?_
      exact ⟨by rw [show t = 0 by omega], rfl, rfl, rfl, rfl⟩
    · refine G_rg (fun hr => ?_)
      refine G_push x eX10_aboutReferences_48 ?_
      refine G_goto x eX10_aboutReferences_49 ?_
      refine G_ireturn x en eX10_aboutReferences_53 (by omega) (by omega) ?_
      exact ⟨by rw [show t = 1 by omega], rfl, rfl, rfl, rfl⟩
