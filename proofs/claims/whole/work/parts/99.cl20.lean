/-! the class makes operations -/
def ctS (S : Int → Int) : Int → Int := fun k => S (cIx (k / 3) (k % 3))
theorem nEnd_b {n : Int} (h0 : 0 ≤ n) (h1 : n ≤ 4) : 1 ≤ nEnd n ∧ nEnd n ≤ 4 := by
  unfold nEnd
  split <;> omega
/-- a record is kept -/
theorem WW.kp {B ss : Nat} {T T' : gT} {I I' : gI} {J J' : gJ} {O O' : gO} {S : Int → Int} {n : Int} {Rc X : Int → Int} {L : Int} {v : Option Value} (h : WW B ss T I J O S n Rc X L) (n0 : 0 ≤ n) (n1 : n ≤ 4) (hk : kpP T I J O ss v T' I' J' O') : v = none ∧ T' = T ∧ J' = J ∧ O' = O ∧ WW B ss T I' J O S (nEnd n) (rKeep Rc n (ctS S)) X L ∧ FrC ss T T I I' J J O O ∧ ∀ b j, b ≠ ss + 3 → b ≠ ss + 2 → I' b j = I b j := by
  obtain ⟨k1, k2, k3, k4, k5, k6, k7⟩ := hk
  have e1 := h.2.2.1.1
  have e2 := h.2.2.1.2
  rw [e1] at k6 k7
  have nb := nEnd_b n0 n1
  have hC : ∀ k, 0 ≤ k → k < 9 → ctC I ss k = ctS S k := fun k a b => (h.2.1 (k / 3) (by omega) (by omega)).1.2.1 (k % 3) (by omega) (by omega)
  have hw := h.lo (I' := I') (n' := nEnd n) (Rc' := rKeep Rc n (ctS S)) (X' := X) (L' := L) (fun b j hb => k5 b j (by omega) (by omega)) k6 (fun j j0 j1 => by
    rw [k7 j j0 (by omega)]
    unfold rKeep
    by_cases c : n = 4
    · rw [if_pos c, if_pos c]
      by_cases d : 27 ≤ j
      · rw [if_pos d, if_pos d, hC _ (by omega) (by omega)]
      · rw [if_neg d, if_neg d, e2 _ (by omega) (by omega)]
    · rw [if_neg c, if_neg c]
      have hE : nEnd n = n + 1 := by unfold nEnd; rw [if_neg c]
      rw [hE] at j1
      by_cases d : 9 * n ≤ j ∧ j < 9 * n + 9
      · rw [if_pos d, if_pos d, hC _ (by omega) (by omega)]
      · rw [if_neg d, if_neg d, e2 _ (by omega) (by omega)]) (by rw [k5 _ _ (by omega) (by omega)]; exact h.2.2.2.1) (fun i i0 i1 => by rw [k5 _ _ (by omega) (by omega)]; exact h.2.2.2.2 i i0 i1)
  exact ⟨k1, k2, k3, k4, hw.1, hw.2, fun b j b1 b2 => k5 b j b1 (by omega)⟩
def apQ (B ss : Nat) (T : gT) (I : gI) (J : gJ) (O : gO) (S : Int → Int) (n : Int) (Rc X : Int → Int) (L : Int) : gP := fun v T' I' J' O' => v = none ∧ T' = T ∧ J' = J ∧ WW B ss T I' J O' S n Rc X L ∧ FrC ss T T I I' J J O O'
set_option maxRecDepth 20000 in
theorem ct_X8_append {T : gT} {I : gI} {J : gJ} {O : gO} {B ss a : Nat} {S S2 : Int → Int} {n : Int} {Rc Xt : Int → Int} {L r : Int} (hW : WW B ss T I J O S n Rc Xt L) (hI : Inv S) (r0 : 0 ≤ r) (r1 : r ≤ 2) (hn : S r < 40) (e1 : ∀ j, 0 ≤ j → j < 4653 → (j < 3 + 32 * (40 * r + S r) ∨ 3 + 32 * (40 * r + S r) + 32 ≤ j) → j ≠ 3843 + 270 * r + 4 → j ≠ 3843 + 270 * r + 5 → S2 j = S j) (hA : opG B T I O S2 (40 * r + S r) a) (v : opV S2 (40 * r + S r)) : Ct yX8_append cX8_append 3 none [va_rf (some (rpA ss r)), va_rf (some a)] 4 88 0 0 T I J O (apQ B ss T I J O (cR S2 r (40 * r + S r)) n Rc Xt L) := by
  refine Ct.of (by decide) [some (va_rf (some (rpA ss r))), some (va_rf (some a)), none] (gEn1 (List.forall_mem_cons.mpr ⟨cat_VR _, List.forall_mem_cons.mpr ⟨cat_VR _, fun _ h => nomatch h⟩⟩) rfl (Nat.le_of_ble_eq_true rfl) rfl) ?_
  intro X x en rm ini hr hz
  have hr0 := hr
  have hf := hI.f r0 r1
  have hS := hW.1.1
  have hp := (hS.rp r0 r1).1
  have hbp := rpA_b (ss := ss) r0 r1
  have hBs := hW.1.2.1
  have eo : ∀ i, cdK S i → ∀ w, 0 ≤ w → w < 32 → opS S2 i w = opS S i w := fun i hi w w0 w1 => by
    have i1 := hi.1
    have i2 := hi.2
    have ne : i ≠ 40 * r + S r := fun z => by
      rw [z, show (40 * r + S r) / 40 = r by omega] at i2
      omega
    exact e1 _ (by omega) (by omega) (by omega) (by omega) (by omega)
  have es : ∀ r', 0 ≤ r' → r' ≤ 2 → sEq S S2 r' := fun r' a b => sEq.of hI a b (fun j j0 j1 j2 j3 => e1 j (by omega) (by omega) (by omega) (by omega) (by omega)) eo
  have er : ∀ r', 0 ≤ r' → r' ≤ 2 → S2 r' = S r' := fun r' a b => e1 r' (by omega) (by omega) (by omega) (by omega) (by omega)
  have hW2 := hW.s hI es er eo
  obtain ⟨hW3, hF3⟩ := hW2.lg (z := some a) (k := S r) r0 r1 (by rw [er r r0 r1]; omega)
  obtain ⟨hR, hG, hC⟩ := hW.2.1 r r0 r1
  obtain ⟨hR3, hG3, hC3⟩ := hW3.2.1 r r0 r1
  have hp3 := (hW3.1.1.rp r0 r1).1
  have hki : hiK B T T I I O (uO O (rpA ss r + 25) (S r) (some a)) := ⟨Nat.le_refl _, fun b b1 b2 => ⟨rfl, fun j => rfl, fun j => uO_a (by omega) j⟩⟩
  have hA3 := hA.mv (S' := S2) hki (fun _ _ _ => rfl)
  have hcl2 : ∀ r', 0 ≤ r' → r' ≤ 2 → clOk S2 r' := fun r' a b c c0 c1 => by
    rw [e1 _ (by omega) (by omega) (by omega) (by omega) (by omega)]
    exact hI.cl a b c c0 c1
  have hbn2 : bnS S2 r := fun kd l k0 k1 l0 l1 => by
    rw [e1 _ (by simp only [lA]; omega) (by simp only [lA]; omega) (by simp only [lA]; omega) (by simp only [lA]; omega) (by simp only [lA]; omega), e1 _ (by simp only [lA]; omega) (by simp only [lA]; omega) (by simp only [lA]; omega) (by simp only [lA]; omega) (by simp only [lA]; omega)]
    exact hI.bn r0 r1 kd l k0 k1 l0 l1
  have cC := ct_X8_carryOut (T := T) (I := I) (J := J) (O := uO O (rpA ss r + 25) (S r) (some a)) (S := S2) (r := r) (id := 40 * r + S r) hp3 (by omega) hR3 r0 r1 (by omega) (by omega) hA3 v hbn2 (hcl2 r r0 r1) (fun f f0 f1 => by
    have := cIx_b r0 r1 f0 f1
    rw [e1 _ (by omega) (by omega) (by omega) (by omega) (by omega)]
    have := hI.1 r f r0 r1 f0 f1
    omega)
  have cL := ct_X8_logLength (T := T) (I := I) (J := J) (O := O) hp (by rw [hR.1.1]; exact r0) (by rw [hR.1.1]; exact r1)
  have hcn := hR.2.1 r r0 r1
  rw [cIx_s] at hcn
  rw [hR.1.1, hcn] at cL
  have ha := hA.2.1
  have i0 : 0 ≤ 40 * r + S r := by omega
  have i1 : 40 * r + S r < 120 := by omega
  have fin9 : ∀ (I' : gI) (O' : gO), coK T I I' (uO O (rpA ss r + 25) (S r) (some a)) O' (rpA ss r) → RpR B T I' O' (rpA ss r) (cR S2 r (40 * r + S r)) r → I' (rpA ss r + 15) 11 = 0 → apQ B ss T I J O (cR S2 r (40 * r + S r)) n Rc Xt L none T I' J O' := by
    intro I' O' hco hRn hun
    have hcr : cR S2 r (40 * r + S r) r = S r + 1 := by
      have := cR_cnt r0 r1 i0 i1 v (f := r) r0 r1
      rw [cIx_s, if_pos (by omega), er r r0 r1] at this
      exact this
    have hlg : lgR B T I' O' (rpA ss r) (cR S2 r (40 * r + S r)) r (cR S2 r (40 * r + S r) r) := fun k k0 k1 => by
      rw [hcr] at k1
      have hkb := hco.hi (B := B) (by omega)
      by_cases e : k = S r
      · refine ⟨a, by rw [hco.2.1 _ _ (by omega), e, uO_s], ?_⟩
        rw [e]
        exact hA3.mv hkb (fun w w0 w1 => cR_op r0 r1 i0 i1 v (by omega) (by omega))
      · obtain ⟨o, o1, o2⟩ := hG3 k k0 (by rw [er r r0 r1]; omega)
        exact ⟨o, by rw [hco.2.1 _ _ (by omega)]; exact o1, o2.mv hkb (fun w w0 w1 => cR_op r0 r1 i0 i1 v (by omega) (by omega))⟩
    have hup := hW3.up2 (S' := cR S2 r (40 * r + S r)) (fun r' a b => by rw [er r' a b]; exact (hI.f a b).2) (fun r' a b => (es r' a b).fk (hI.fm a b)) hcl2 r0 r1 hco hRn hlg (Or.inl hun) (fun j j0 j1 => cR_op r0 r1 i0 i1 v j0 j1) (fun r' a b e => ⟨cR_out r0 r1 i0 i1 v e (by omega), fun j j0 j1 => cR_out r0 r1 i0 i1 v (by omega) (by omega)⟩)
    exact ⟨rfl, rfl, rfl, hup.1, hF3.tr hup.2⟩
  refine G_aload0 x eX8_append_0 ?_
  refine G_cV x eX8_append_1 kX8_69 im_yX8_logLength se_yX8_logLength rm hp.m cL rfl ?_
  refine G_istore2 x eX8_append_4 ?_
  refine G_iload2 x eX8_append_5 ?_
  refine G_push x eX8_append_6 ?_
  refine G_icmp_ge x eX8_append_8 (by omega) (by omega) (fun c8 => absurd c8 (by omega)) (fun c8 => ?_)
  refine G_aload0 x eX8_append_11 ?_
  refine G_getq x eX8_append_12 fX8_30 rfl rfl hp.m hp.o_log ?_
  refine G_iload2 x eX8_append_15 ?_
  refine G_aload1 x eX8_append_16 ?_
  refine G_aast x eX8_append_17 rfl hp.t_log (fun _ => rfl) rfl rfl ha (by omega) (by omega) (by omega) ?_
  refine G_aload0 x eX8_append_18 ?_
  refine G_aload1 x eX8_append_19 ?_
  refine G_cVg x eX8_append_20 kX8_73 im_yX8_carryOut se_yX8_carryOut rm hp.m cC rfl (fun v20 T20 I20 J20 O20 p20 => ?_)
  refine G_rg (fun hr => ?_)
  obtain ⟨rfl, e2, e3, hco, hRn, hun⟩ := p20
  obtain rfl := e2.symm
  obtain rfl := e3.symm
  have hfin := fin9 _ _ hco hRn hun
  refine G_rg (fun hr => ?_)
  refine G_return x en eX8_append_23 (by omega) (by omega) ?_
  exact hfin
theorem WW.nw {B ss : Nat} {T : gT} {I : gI} {J : gJ} {O : gO} {S : Int → Int} {n : Int} {Rc X : Int → Int} {L : Int} (h : WW B ss T I J O S n Rc X L) {ty : gTy} {I' : gI} {J' : gJ} {O' : gO} (e : ∀ b, b < T.1 → (∀ j, I' b j = I b j) ∧ (∀ j, J' b j = J b j) ∧ ∀ j, O' b j = O b j) : WW B ss (gpush T ty) I' J' O' S n Rc X L ∧ FrC ss T (gpush T ty) I I' J J' O O' :=
  ⟨h.mv (by show T.1 ≤ T.1 + 1; omega) (fun b b1 _ => ⟨gpush_k b1, e b b1⟩), by show T.1 ≤ T.1 + 1; omega, fun b b1 _ => ⟨gpush_k b1, e b b1⟩⟩
def clQ (B ss : Nat) (T : gT) (I : gI) (J : gJ) (O : gO) (full : Prop) (ans : Option Value) (S : Int → Int) (n : Int) (Rc X : Int → Int) (L : Int) : gP := fun v T' I' J' O' => full ∧ v = ans ∧ FrC ss T T' I I' J J' O O' ∧ WW B ss T' I' J' O' S n Rc X L
set_option maxRecDepth 20000 in
theorem ct_X10_changeLine {T : gT} {I : gI} {J : gJ} {O : gO} {B ss : Nat} {S S1 : Int → Int} {n : Int} {Rc Xt : Int → Int} {L r num b l pl : Int} (hW : WW B ss T I J O S n Rc Xt L) (hI : Inv S) (n0 : 0 ≤ n) (n1 : n ≤ 4) (r0 : 0 ≤ r) (r1 : r ≤ 2) (h1 : ∀ j, j ≠ 3843 + 270 * r + 4 → j ≠ 3843 + 270 * r + 5 → S1 j = S j) (hk : 1 ≤ num ∧ num ≤ 3) (hb : b = 0 ∨ b = 1) (hl : 0 ≤ l ∧ l < 12) (hpl : in32 pl) : Cx yX10_changeLine cX10_changeLine 6 none [va_rf (some ss), va_rf (some (rpA ss r)), VI num, VI b, VI l, VI pl] 7 110 2 13 T I J O (clQ B ss T I J O (S r < 40) none (mksS S1 r num b l pl) (nEnd n) (rKeep Rc n (ctS S)) Xt L) (fun cl T' I' J' O' => S r = 40 ∧ tX xcS T I J O cl T' I' J' O') := by
  refine Cx.of' (by decide) [some (va_rf (some ss)), some (va_rf (some (rpA ss r))), some (VI num), some (VI b), some (VI l), some (VI pl)] (gEn1 (List.forall_mem_cons.mpr ⟨cat_VR _, List.forall_mem_cons.mpr ⟨cat_VR _, List.forall_mem_cons.mpr ⟨cat_VI _, List.forall_mem_cons.mpr ⟨cat_VI _, List.forall_mem_cons.mpr ⟨cat_VI _, List.forall_mem_cons.mpr ⟨cat_VI _, fun _ h => nomatch h⟩⟩⟩⟩⟩⟩) rfl (Nat.le_of_ble_eq_true rfl) rfl) ?_
  intro X x en rm th hr
  have hr0 := hr
  have hS := hW.1.1
  have hZ := hS.z
  have hss := hZ.m
  have hp := (hS.rp r0 r1).1
  have hbp := rpA_b (ss := ss) r0 r1
  have hBs := hW.1.2.1
  have hBt := hW.1.2.2
  have hf := hI.f r0 r1
  have hck := hI.ck r0 r1
  obtain ⟨hR, hG, hC⟩ := hW.2.1 r r0 r1
  have hcn := hR.2.1 r r0 r1
  rw [cIx_s] at hcn
  have er : S1 r = S r := h1 r (by omega) (by omega)
  have ec : S1 (3843 + 270 * r) = S (3843 + 270 * r) := h1 _ (by omega) (by omega)
  have cQ := ct_X10_requireLogRoom (I := I) (J := J) hp (by rw [hR.1.1]; exact r0) (by rw [hR.1.1]; exact r1)
  rw [hR.1.1, hcn] at cQ
  refine G_aload1 x eX10_changeLine_0 ?_
  refine G_cSX x th eX10_changeLine_1 kX10_276 sm_yX10_requireLogRoom rm cQ (fun _ _ _ _ _ h9 => ⟨by have := h9.1; omega, h9.2⟩) rfl (fun v1 T1 I1 J1 O1 p1 => ?_)
  refine G_rg (fun hr => ?_)
  obtain ⟨q1, rfl, e1, e2, e3, e4⟩ := p1
  obtain rfl := e1.symm
  obtain rfl := e2.symm
  obtain rfl := e3.symm
  obtain rfl := e4.symm
  have hg5 : gN 5 = 7 := rfl
  refine G_aload0 x eX10_changeLine_4 ?_
  refine G_getq x eX10_changeLine_5 fX10_18 rfl rfl hZ.m hZ.o_records ?_
  refine G_aload0 x eX10_changeLine_8 ?_
  refine G_getq x eX10_changeLine_9 fX10_11 rfl rfl hZ.m hZ.o_replicas ?_
  refine G_cVg x eX10_changeLine_12 kX10_174 im_yX7_keep se_yX7_keep rm hZ.s_records.m (ct_X7_keep hS (by rw [hW.2.2.1.1]; exact n0) (by rw [hW.2.2.1.1]; exact n1)) rfl (fun v12 T12 I12 J12 O12 p12 => ?_)
  refine G_rg (fun hr => ?_)
  obtain ⟨rfl, e1, e2, e3, hWk, hFk, hkk⟩ := hW.kp n0 n1 p12
  obtain rfl := e1.symm
  obtain rfl := e2.symm
  obtain rfl := e3.symm
  obtain ⟨hRk, hGk, hCk⟩ := hWk.2.1 r r0 r1
  refine G_aload1 x eX10_changeLine_15 ?_
  refine G_nw x eX10_changeLine_16 clX10_280 itX5 ini_X5 rfl rm (by omega) (by show _ + gN 5 ≤ _; simp only [gN]; omega) (fun i16 j16 o16 => ?_) (hdf_X5)
  refine G_dup x eX10_changeLine_19 (by first | rfl | exact cat_rf _) ?_
  have hpN : RpAt (gpush T (.inl 5)) O (rpA ss r) := hp.mv (fun q b1 b2 => gpush_k (by omega)) (fun _ _ _ _ _ => rfl)
  refine G_iload2 x eX10_changeLine_20 ?_
  refine G_aload1 x eX10_changeLine_21 ?_
  refine G_cV x eX10_changeLine_22 kX10_282 im_yX8_nextClock se_yX8_nextClock rm hpN.m (ct_X8_nextClock hpN) rfl ?_
  refine G_aload1 x eX10_changeLine_25 ?_
  refine G_geti x eX10_changeLine_26 fX10_285 rfl rfl hpN.m (fun h26 => ?_)
  rw [hRk.1.1, hRk.1.2]
  have hbb : G X 38 [some (va_rf (some ss)), some (va_rf (some (rpA ss r))), some (VI num), some (VI b), some (VI l), some (VI pl)] [VI b, VI r, VI (S (3843 + 270 * r) + 1), VI num, va_rf (some T.1), va_rf (some T.1), va_rf (some (rpA ss r))] (gpush T (.inl 5)) I12 J O (0 + 1 + 0 + 1 + 0) (0 + 6 + 0 + gN 5 + 0) := by
    have hnw : T.1 < (gpush T (.inl 5)).1 := by show T.1 < T.1 + 1; omega
    have hTa : (gpush T (.inl 5)).2 T.1 = some (.inl 5) := gpush_s
    refine G_iload4 x eX10_changeLine_38 ?_
    refine G_iload5 x eX10_changeLine_40 ?_
    refine G_null x eX10_changeLine_42 ?_
    refine G_cI x eX10_changeLine_43 kX10_288 im_yX5_init rm (ct_X5_init (fo := none) hTa (by omega) (by omega) (by omega) (by omega) (by omega) hpl) rfl (fun v43 T43 I43 J43 O43 p43 => ?_)
    refine G_rg (fun hr => ?_)
    obtain ⟨rfl, e1, e2, e3, e4⟩ := p43
    obtain ⟨hWn, hFn⟩ := hWk.nw (ty := .inl 5) (I' := I43) (J' := J43) (O' := O43) (fun b b1 => by
      rw [e2, e3, e4]
      exact ⟨fun j => by (repeat (first | rw [uI_s] | rw [uI_a (by omega)] | rw [uI_k (by omega)])), fun j => rfl, fun j => uO_a (by omega) j⟩)
    obtain rfl := e1.symm
    obtain rfl := e3.symm
    have oo : ∀ j, (j < 3 + 32 * (40 * r + S r) ∨ 3 + 32 * (40 * r + S r) + 4 < j) → opW S1 r num b l pl j = S1 j := fun j hj => opW_o (by rw [er]; exact hj)
    have f := @opW_f S1 r num b l pl
    rw [er, ec] at f
    have hv : opV (opW S1 r num b l pl) (40 * r + S r) := by
      unfold opV
      rw [f.1, f.2.2.1, f.2.2.2.1, f.2.2.2.2]
      exact ⟨hl.1, hl.2, by omega, by omega⟩
    have g0 : I43 T.1 0 = num ∧ I43 T.1 1 = S (3843 + 270 * r) + 1 ∧ I43 T.1 2 = r ∧ I43 T.1 3 = b ∧ I43 T.1 4 = l ∧ I43 T.1 5 = pl := by
      rw [e2]
      refine ⟨?_, ?_, ?_, ?_, ?_, ?_⟩ <;> (repeat (first | rw [uI_s] | rw [uI_a (by omega)] | rw [uI_k (by omega)]))
    have hA : opG B (gpush T (.inl 5)) I43 O43 (opW S1 r num b l pl) (40 * r + S r) T.1 := by
      refine ⟨⟨by omega, hnw⟩, hTa, ⟨g0.1.trans f.1.symm, g0.2.1.trans f.2.1.symm, by rw [g0.2.2.1]; omega, g0.2.2.2.1.trans f.2.2.1.symm, g0.2.2.2.2.1.trans f.2.2.2.1.symm, g0.2.2.2.2.2.trans f.2.2.2.2.symm⟩, Or.inr ⟨?_, by rw [e4, uO_s]⟩⟩
      have z := f.1
      intro z2
      have z3 := z.symm.trans z2
      omega
    have cA := ct_X8_append (S2 := opW S1 r num b l pl) hWn hI r0 r1 q1 (fun j j0 j1 j2 j3 j4 => by rw [oo j (by omega)]; exact h1 j j3 j4) hA hv
    have em := mks_cR (S := S1) (num := num) (col := b) (l := l) (pl := pl) r0 r1 (by rw [er]; exact hf.1) (by rw [er]; exact q1)
    rw [er] at em
    rw [← em] at cA
    have hpM := (hWn.1.1.rp r0 r1).1
    refine G_cVg x eX10_changeLine_46 kX10_291 im_yX8_append se_yX8_append rm hpM.m cA rfl (fun v46 T46 I46 J46 O46 p46 => ?_)
    refine G_rg (fun hr => ?_)
    obtain ⟨rfl, e5, e6, hWf, hFf⟩ := p46
    obtain rfl := e5.symm
    obtain rfl := e6.symm
    have hF9 := (hFk.tr hFn).tr hFf
    refine G_rg (fun hr => ?_)
    refine G_return x en eX10_changeLine_49 (by omega) (by omega) ?_
    exact ⟨q1, rfl, hF9, hWf⟩
  refine G_iload3 x eX10_changeLine_29 ?_
  rcases hb with rfl | rfl
  · refine G_if_eq x eX10_changeLine_30 (by omega) (fun c30 => ?_) (fun c30 => absurd rfl c30)
    refine G_push x eX10_changeLine_37 ?_
    exact hbb
  · refine G_if_eq x eX10_changeLine_30 (by omega) (fun c30 => absurd c30 (by omega)) (fun c30 => ?_)
    refine G_push x eX10_changeLine_33 ?_
    refine G_goto x eX10_changeLine_34 ?_
    exact hbb
