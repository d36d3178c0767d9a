/-! a replica takes operations, is reset -/
/-- the log of a replica -/
def lgR (B : Nat) (T : gT) (I : gI) (O : gO) (q : Nat) (S : Int → Int) (f n : Int) : Prop := ∀ k, 0 ≤ k → k < n → ∃ a, O (q + 25) k = some a ∧ opG B T I O S (40 * f + k) a
theorem lgR.mv {B : Nat} {T T' : gT} {I I' : gI} {O O' : gO} {q : Nat} {S S' : Int → Int} {f n n' : Int} (h : lgR B T I O q S f n) (k : hiK B T T' I I' O O') (e : ∀ j, O' (q + 25) j = O (q + 25) j) (s1 : ∀ id w, 0 ≤ id → id < 120 → 0 ≤ w → w < 32 → S' (3 + 32 * id + w) = S (3 + 32 * id + w)) (hn : n' ≤ n) (f0 : 0 ≤ f) (f1 : f ≤ 2) (n1 : n ≤ 40) : lgR B T' I' O' q S' f n' := fun i i0 i1 => by
  obtain ⟨a, a1, a2⟩ := h i i0 (by omega)
  exact ⟨a, (e i).trans a1, a2.mv k (fun w w0 w1 => s1 _ w (by omega) (by omega) w0 w1)⟩
/-- what stays well while operations are carried out -/
def rpW (S : Int → Int) (r : Int) : Prop := bnS S r ∧ clOk S r
theorem cR_bn {S : Int → Int} {r id : Int} (h : bnS S r) (r0 : 0 ≤ r) (r1 : r ≤ 2) (i0 : 0 ≤ id) (i1 : id < 120) (v : opV S id) : bnS (cR S r id) r := by
  intro kd l k0 k1 l0 l1
  by_cases hk : opS S id 0 = 4
  · rw [cR_wl r0 r1 i0 i1 v hk (by simp only [lA]; omega) (by simp only [lA]; omega), cR_wl r0 r1 i0 i1 v hk (by simp only [lA]; omega) (by simp only [lA]; omega)]
    exact h kd l k0 k1 l0 l1
  · obtain ⟨-, -, -, n4, n5⟩ := cR_ln (kd := kd) (l := l) r0 r1 i0 i1 v hk l0 l1 k0 k1
    have := h kd l k0 k1 l0 l1
    rw [n4, n5]
    constructor
    · split
      · exact Or.inr rfl
      · exact this.1
    · split
      · exact Or.inr rfl
      · exact this.2
theorem cR_cl {S : Int → Int} {r id : Int} (h : clOk S r) (r0 : 0 ≤ r) (r1 : r ≤ 2) (i0 : 0 ≤ id) (i1 : id < 120) (v : opV S id) : clOk (cR S r id) r := by
  intro c c0 c1
  by_cases hk : opS S id 0 = 4
  · rw [cR_wc r0 r1 i0 i1 v hk h c0 c1]
    split
    · omega
    · exact h c c0 c1
  · rw [cR_lc r0 r1 i0 i1 v hk c0 c1]
    exact h c c0 c1
theorem cR_V {S : Int → Int} {r id id' : Int} (r0 : 0 ≤ r) (r1 : r ≤ 2) (i0 : 0 ≤ id) (i1 : id < 120) (v : opV S id) (j0 : 0 ≤ id') (j1 : id' < 120) (h : opV S id') : opV (cR S r id) id' := by
  unfold opV at *
  simp only [opS] at *
  rw [cR_op r0 r1 i0 i1 v (by omega) (by omega), cR_op r0 r1 i0 i1 v (by omega) (by omega), cR_op r0 r1 i0 i1 v (by omega) (by omega), cR_op r0 r1 i0 i1 v (by omega) (by omega)]
  exact h
theorem get1_cR {S : Int → Int} {r f : Int} (hne : r ≠ f) (k0 : 0 ≤ S (3843 + 270 * r + (1 + f))) (k1 : S (3843 + 270 * r + (1 + f)) < 40) : get1 S r f = cR S r (40 * f + S (3843 + 270 * r + (1 + f))) := by
  unfold get1 cR
  have e : get0 S r f = cR0 S r (40 * f + S (3843 + 270 * r + (1 + f))) := by
    unfold get0 cR0
    have ei : cIx r ((40 * f + S (3843 + 270 * r + (1 + f))) / 40) = 3843 + 270 * r + (1 + f) := by
      rw [show (40 * f + S (3843 + 270 * r + (1 + f))) / 40 = f by omega]
      exact if_neg (fun z => hne z.symm)
    rw [ei, show 3843 + 270 * r + 0 = 3843 + 270 * r by omega]
    congr 1
    split <;> omega
  rw [e]
def tkP (B : Nat) (T : gT) (I : gI) (J : gJ) (O : gO) (p : Nat) (S : Int → Int) (r f m : Int) : gP := fun v T' I' J' O' => v = some (VI (gtN S r f m)) ∧ T' = T ∧ J' = J ∧ coK T I I' O O' p ∧ RpR B T I' O' p (gtS S r f m) r ∧ ((I' = I ∧ O' = O ∧ gtN S r f m = 0) ∨ I' (p + 15) 11 = 0)
theorem coK.tr {T : gT} {I I' I2 : gI} {O O' O2 : gO} {p : Nat} (h : coK T I I' O O' p) (h2 : coK T I' I2 O' O2 p) : coK T I I2 O O2 p := ⟨fun b j hb => (h2.1 b j hb).trans (h.1 b j hb), fun b j hb => (h2.2.1 b j hb).trans (h.2.1 b j hb), fun b j b1 b2 b3 => (h2.2.2 b j b1 b2 b3).trans (h.2.2 b j b1 b2 b3)⟩
theorem coK.rf {T : gT} {I : gI} {O : gO} {p : Nat} : coK T I I O O p := ⟨fun _ _ _ => rfl, fun _ _ _ => rfl, fun _ _ _ _ _ => rfl⟩
set_option maxHeartbeats 4000000 in
set_option maxRecDepth 20000 in
theorem ct_X8_take {T : gT} {I : gI} {J : gJ} {O : gO} {B p q : Nat} {S : Int → Int} {r f m : Int} (hM : RpAt T O p) (hN : RpAt T O q) (hB : p + 28 ≤ B) (hB2 : q + 28 ≤ B) (hd : p + 28 < q ∨ q + 28 < p) (hR : RpR B T I O p S r) (r0 : 0 ≤ r) (r1 : r ≤ 2) (f0 : 0 ≤ f) (f1 : f ≤ 2) (hne : r ≠ f) (hq0 : I q 0 = f) (hq1 : I (q + 26) f = S f) (hlg : lgR B T I O q S f (S f)) (hrc : rcOk S r f) (hb : bnS S r) (hcn : ∀ f', 0 ≤ f' → f' ≤ 2 → S (cIx r f') ≤ 40) (m0 : 1 ≤ m) (m1 : m ≤ 40) : Ct yX8_take cX8_take 5 (some .int) [va_rf (some p), va_rf (some q), VI m] 4 88 0 0 T I J O (tkP B T I J O p S r f m) := by
  refine Ct.of (by decide) [some (va_rf (some p)), some (va_rf (some q)), some (VI m), none, none] (gEn1 (List.forall_mem_cons.mpr ⟨cat_VR _, List.forall_mem_cons.mpr ⟨cat_VR _, List.forall_mem_cons.mpr ⟨cat_VI _, fun _ h => nomatch h⟩⟩⟩) rfl (Nat.le_of_ble_eq_true rfl) rfl) ?_
  intro X x en rm ini hr hz
  have hr0 := hr
  obtain ⟨hv, hs, hc, hq, hq2⟩ := hrc
  have er : I (p + 26) f = S (3843 + 270 * r + (1 + f)) := by rw [hR.2.1 f f0 f1]; unfold cIx; rw [if_neg (fun z => hne z.symm)]
  have eN : min m (S f - S (3843 + 270 * r + (1 + f))) = gtN S r f m := by unfold gtN; omega
  have n0 : 0 ≤ gtN S r f m ∧ gtN S r f m ≤ 40 ∧ S (3843 + 270 * r + (1 + f)) + gtN S r f m ≤ S f := by unfold gtN; omega
  have loop : ∀ (d i : Nat) (I1 : gI) (O1 : gO), i + d = (gtN S r f m).toNat → coK T I I1 O O1 p → RpR B T I1 O1 p (getK S r f i) r → bnS (getK S r f i) r → ((i = 0 ∧ I1 = I ∧ O1 = O) ∨ I1 (p + 15) 11 = 0) → G X 13 [some (va_rf (some p)), some (va_rf (some q)), some (VI m), some (VI (gtN S r f m)), some (VI (i : Int))] [] T I1 J O1 0 0 := by
    intro d
    induction d with
    | zero =>
      intro i I1 O1 hd9 k1 k2 k3 k4
      refine G_rg (fun hr => ?_)
      refine G_iload4 x eX8_take_13 ?_
      refine G_iload3 x eX8_take_15 ?_
      refine G_icmp_ge x eX8_take_16 (by first | omega | exact hr _ _ | exact hr0 _ _ | exact hrS _) (by first | omega | exact hr _ _ | exact hr0 _ _ | exact hrS _) (fun c16 => ?_) (fun c16 => ?_)
      · refine G_iload3 x eX8_take_41 ?_
        refine G_ireturn x en eX8_take_42 (by omega) (by omega) ?_
        exact ⟨rfl, rfl, rfl, k1, by unfold gtS; rw [← (show i = (gtN S r f m).toNat by omega)]; exact k2, k4.imp (fun z => ⟨z.2.1, z.2.2, by have := z.1; omega⟩) id⟩
      · omega
    | succ d ih =>
      intro i I1 O1 hd9 k1 k2 k3 k4
      obtain ⟨g1, g2, g3⟩ := getK_inv (r := r) (f := f) r0 (by omega) f0 (by omega) hv hs hc hq i (by omega)
      have hM1 : RpAt T O1 p := hM.mv (fun _ _ _ => rfl) (fun b j b1 b2 b3 => k1.2.1 b j (by omega))
      have hN1 : RpAt T O1 q := hN.mv (fun _ _ _ => rfl) (fun b j b1 b2 b3 => k1.2.1 b j (by omega))
      have eq0 : I1 q 0 = f := (k1.1 q 0 (by omega)).trans hq0
      have er1 : I1 (p + 26) f = S (3843 + 270 * r + (1 + f)) + i := by rw [k2.2.1 f f0 f1]; unfold cIx; rw [if_neg (fun z => hne z.symm)]; exact g3
      obtain ⟨a, ha1, ha2⟩ := hlg (S (3843 + 270 * r + (1 + f)) + i) (by omega) (by omega)
      have ha3 : O1 (q + 25) (S (3843 + 270 * r + (1 + f)) + i) = some a := (k1.2.1 _ _ (by omega)).trans ha1
      have ha4 : opG B T I1 O1 (getK S r f i) (40 * f + (S (3843 + 270 * r + (1 + f)) + i)) a := ha2.mv (k1.hi hB) (fun w w0 w1 => g1 _ (by omega))
      have vv : opV (getK S r f i) (40 * f + (S (3843 + 270 * r + (1 + f)) + i)) := by
        have := hv (S (3843 + 270 * r + (1 + f)) + i) (by omega) (by omega)
        unfold opV at *
        simp only [opS] at *
        rw [g1 _ (by omega), g1 _ (by omega), g1 _ (by omega), g1 _ (by omega)]
        exact this
      have hcn' : ∀ f', 0 ≤ f' → f' ≤ 2 → getK S r f i (cIx r f') ≤ 100 := fun f' f0' f1' => by
        rcases cIx_b r0 r1 f0' f1' with ⟨z1, z2⟩ | ⟨z1, z2, z3, z4⟩
        · rw [z1, g1 _ (by omega)]; have := hcn f' f0' f1'; rw [z1] at this; omega
        · by_cases e : f' = f
          · rw [z4, e, g3]; omega
          · rw [z4, getK_out (r := r) (f := f) r0 (by omega) f0 (by omega) hv hs hc hq i (by omega) _ (by omega) (by omega) (by omega), ← z4]
            have := hcn f' f0' f1'; omega
      have cC := ct_X8_carryOut (J := J) hM1 hB k2 r0 r1 (by omega) (by omega) ha4 vv k3 g2 hcn'
      have eK : cR (getK S r f i) r (40 * f + (S (3843 + 270 * r + (1 + f)) + i)) = getK S r f (i + 1) := by
        show _ = get1 (getK S r f i) r f
        rw [get1_cR hne (by rw [g3]; omega) (by rw [g3]; omega), g3]
      have kb := cR_bn k3 r0 r1 (by omega) (by omega) vv
      rw [eK] at kb
      refine G_rg (fun hr => ?_)
      refine G_iload4 x eX8_take_13 ?_
      refine G_iload3 x eX8_take_15 ?_
      refine G_icmp_ge x eX8_take_16 (by first | omega | exact hr _ _ | exact hr0 _ _ | exact hrS _) (by first | omega | exact hr _ _ | exact hr0 _ _ | exact hrS _) (fun c16 => ?_) (fun c16 => ?_)
      · omega
      · refine G_aload0 x eX8_take_19 ?_
        refine G_aload1 x eX8_take_20 ?_
        refine G_aload0 x eX8_take_21 ?_
        refine G_aload1 x eX8_take_22 ?_
        refine G_geti x eX8_take_23 fX8_50 rfl rfl hN1.m (fun h23 => ?_)
        rw [eq0]
        refine G_cV x eX8_take_26 kX8_65 im_yX8_carriedOf se_yX8_carriedOf rm hM1.m (ct_X8_carriedOf hM1 f0 f1) rfl ?_
        rw [er1]
        refine G_cV x eX8_take_29 kX8_87 im_yX8_logged se_yX8_logged rm hN1.m (ct_X8_logged hN1 (by omega) (by omega)) rfl ?_
        rw [ha3]
        refine G_cVg x eX8_take_32 kX8_73 im_yX8_carryOut se_yX8_carryOut rm hM1.m cC rfl (fun v32 T32 I32 J32 O32 p32 => ?_)
        refine G_rg (fun hr => ?_)
        obtain ⟨rfl, rfl, rfl, u1, u2, u3⟩ := p32
        rw [eK] at u2
        refine G_iinc4 x eX8_take_35 ?_
        refine G_goto x eX8_take_38 ?_
        exact ih (i + 1) _ _ (by omega) (k1.tr u1) u2 kb (Or.inr u3)
  have l0 := loop (gtN S r f m).toNat 0 I O (by omega) coK.rf hR hb (Or.inl ⟨rfl, rfl, rfl⟩)
  have b26 := hr (p + 26) f
  have b27 := hr (q + 26) f
  refine G_iload2 x eX8_take_0 ?_
  refine G_aload0 x eX8_take_1 ?_
  refine G_aload1 x eX8_take_2 ?_
  refine G_cV x eX8_take_3 kX8_77 im_yX8_lacking se_yX8_lacking rm hM.m (ct_X8_lacking hM hN (by omega) (by omega)) rfl ?_
  rw [hq0, hq1, er]
  refine G_cS x eX8_take_6 kX8_81 sm_yJ9_min_7cf53 rm (ct_J9_min_7cf53 (by first | omega | exact hr _ _ | exact hr0 _ _ | exact hrS _) (by first | omega | exact hr _ _ | exact hr0 _ _ | exact hrS _)) rfl ?_
  rw [eN]
  refine G_istore3 x eX8_take_9 ?_
  refine G_push x eX8_take_10 ?_
  refine G_istore4 x eX8_take_11 ?_
  exact l0
