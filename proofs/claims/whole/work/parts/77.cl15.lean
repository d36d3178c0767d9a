/-! undo: replicas built anew -/
def rbK (S : Int → Int) (r f : Int) : Nat → Int → Int
  | 0 => S
  | k + 1 => cR (rbK S r f k) r (40 * f + k)
def rbF (S : Int → Int) (r : Int) (C : Int → Int) : Int → Int := rbK (rbK (rbK (zR S r) r 0 (C 0).toNat) r 1 (C 1).toNat) r 2 (C 2).toNat
/-- well, while it is built -/
def rbV (S S1 : Int → Int) (r : Int) (C : Int → Int) (f k : Int) : Prop := bnS S1 r ∧ clOk S1 r ∧ (∀ j, 3 ≤ j → j < 3843 → S1 j = S j) ∧ ∀ f', 0 ≤ f' → f' ≤ 2 → S1 (cIx r f') = if f' < f then C f' else if f' = f then k else 0
theorem rbV.z {S : Int → Int} {r : Int} {C : Int → Int} (r0 : 0 ≤ r) (r1 : r ≤ 2) : rbV S (zR S r) r C 0 0 := by
  refine ⟨fun kd l k0 k1 l0 l1 => ?_, fun c c0 c1 => ?_, fun j j0 j1 => zR_o (by omega) (by omega), fun f' f0 f1 => ?_⟩
  · have e : ∀ w, 0 ≤ w → w < 5 → zR S r (lA r kd l + w) = S0 (3843 + 270 * r + 6 + 5 * (12 * kd + l) + w) := fun w w0 w1 => zR_i (by simp only [lA]; omega) (by simp only [lA]; omega)
    rw [e 3 (by omega) (by omega), e 4 (by omega) (by omega), S0_l r0 r1 (by omega) (by omega) (by omega) (by omega), S0_l r0 r1 (by omega) (by omega) (by omega) (by omega)]
    constructor
    · rw [if_neg (by omega), if_neg (by omega), if_pos rfl]; split <;> omega
    · rw [if_neg (by omega), if_neg (by omega), if_neg (by omega)]; omega
  · rw [zR_i (by omega) (by omega), show 3843 + 270 * r + (126 + c) = 3843 + 270 * r + 126 + c by omega, S0_c r0 r1 c0 c1]
    omega
  · rw [zR_c r0 r1 f0 f1, if_neg (by omega)]
    split <;> rfl
theorem rbV.s {S S1 : Int → Int} {r : Int} {C : Int → Int} {f k : Int} (h : rbV S S1 r C f k) (r0 : 0 ≤ r) (r1 : r ≤ 2) (f0 : 0 ≤ f) (f1 : f ≤ 2) (k0 : 0 ≤ k) (k1 : k < 40) (v : opV S (40 * f + k)) : opV S1 (40 * f + k) ∧ rbV S (cR S1 r (40 * f + k)) r C f (k + 1) := by
  obtain ⟨h1, h2, h3, h4⟩ := h
  have v1 : opV S1 (40 * f + k) := by
    unfold opV at *
    simp only [opS] at *
    rw [h3 _ (by omega) (by omega), h3 _ (by omega) (by omega), h3 _ (by omega) (by omega), h3 _ (by omega) (by omega)]
    exact v
  refine ⟨v1, cR_bn h1 r0 r1 (by omega) (by omega) v1, cR_cl h2 r0 r1 (by omega) (by omega) v1, fun j j0 j1 => by rw [cR_op r0 r1 (by omega) (by omega) v1 j0 j1]; exact h3 j j0 j1, fun f' f0' f1' => ?_⟩
  rw [cR_cnt r0 r1 (by omega) (by omega) v1 f0' f1', show (40 * f + k) / 40 = f by omega, h4 f' f0' f1']
  by_cases e : f' = f
  · rw [if_pos e, if_neg (by omega), if_pos e, if_neg (by omega), if_pos e]
  · rw [if_neg e, if_neg e, if_neg e]
theorem rbV.n {S S1 : Int → Int} {r : Int} {C : Int → Int} {f : Int} (h : rbV S S1 r C f (C f)) : rbV S S1 r C (f + 1) 0 := by
  obtain ⟨h1, h2, h3, h4⟩ := h
  refine ⟨h1, h2, h3, fun f' f0' f1' => ?_⟩
  rw [h4 f' f0' f1']
  rcases (by omega : f' < f ∨ f' = f ∨ f < f') with q | q | q
  · rw [if_pos q, if_pos (by omega)]
  · rw [if_neg (by omega), if_pos q, if_pos (by omega), q]
  · rw [if_neg (by omega), if_neg (by omega), if_neg (by omega)]
    split <;> rfl
abbrev rcC9 (I : gI) (ss : Nat) (n r f : Int) : Int := I (ss + 3) (9 * n + 3 * r + f)
/-- kept while undo runs -/
def unK (T : gT) (I I' : gI) (O O' : gO) (ss : Nat) : Prop := (∀ b j, (b < ss + 8 ∨ ss + 94 < b) → (b ≠ ss + 2 ∨ j ≠ 1) → I' b j = I b j) ∧ (∀ b j, b ≠ ss + 35 → b ≠ ss + 64 → b ≠ ss + 93 → O' b j = O b j) ∧ ∀ r, 0 ≤ r → r ≤ 2 → I' (rpA ss r) 0 = r ∧ I' (rpA ss r + 28) 0 = 0 ∧ I' (rpA ss r + 28) 1 = 0
def rsP (B : Nat) (T : gT) (I : gI) (J : gJ) (O : gO) (ss : Nat) (S : Int → Int) : gP := fun v T' I' J' O' => v = none ∧ T' = T ∧ J' = J ∧ unK T I I' O O' ss ∧ I' (ss + 2) 1 = I (ss + 2) 1 - 1 ∧ ∀ r, 0 ≤ r → r ≤ 2 → RpR B T I' O' (rpA ss r) (rbF S r (rcC9 I ss (I (ss + 2) 1 - 1) r)) r ∧ I' (rpA ss r + 15) 11 = 0
theorem unK.tr {T : gT} {I I' I2 : gI} {O O' O2 : gO} {ss : Nat} {r : Int} (h : unK T I I' O O' ss) (r0 : 0 ≤ r) (r1 : r ≤ 2) (h2 : coK T I' I2 O' O2 (rpA ss r)) (e : I2 (rpA ss r) 0 = r ∧ I2 (rpA ss r + 28) 0 = 0 ∧ I2 (rpA ss r + 28) 1 = 0) : unK T I I2 O O2 ss := by
  have hp : rpA ss r = ss + 8 ∨ rpA ss r = ss + 37 ∨ rpA ss r = ss + 66 := by unfold rpA; omega
  refine ⟨fun b j hb hj => (h2.1 b j (by omega)).trans (h.1 b j hb hj), fun b j b1 b2 b3 => (h2.2.1 b j (by omega)).trans (h.2.1 b j b1 b2 b3), fun r' r0' r1' => ?_⟩
  by_cases q : r' = r
  · rw [q]; exact e
  · have hne : rpA ss r' + 28 < rpA ss r ∨ rpA ss r + 28 < rpA ss r' := by unfold rpA; omega
    rw [h2.1 _ _ (by omega), h2.1 _ _ (by omega), h2.1 _ _ (by omega)]
    exact h.2.2 r' r0' r1'
theorem unK.hi {B : Nat} {T : gT} {I I' : gI} {O O' : gO} {ss : Nat} (h : unK T I I' O O' ss) (hB : ss + 94 ≤ B) : hiK B T T I I' O O' := ⟨Nat.le_refl _, fun b b1 b2 => ⟨rfl, fun j => h.1 b j (by omega) (by omega), fun j => h.2.1 b j (by omega) (by omega) (by omega)⟩⟩
theorem unK.at {T : gT} {I I' : gI} {O O' : gO} {ss : Nat} (h : unK T I I' O O' ss) (hS : SsAt T O ss) : SsAt T O' ss := hS.mv (fun _ _ _ => rfl) (fun b j b1 b2 c1 c2 c3 c4 c5 c6 c7 c8 c9 => h.2.1 b j (by omega) (by omega) (by omega))
def unD (B : Nat) (T : gT) (I1 : gI) (O1 : gO) (ss : Nat) (S : Int → Int) (C : Int → Int → Int) (r : Int) : Prop := ∀ r', 0 ≤ r' → r' < r → RpR B T I1 O1 (rpA ss r') (rbF S r' (C r')) r' ∧ I1 (rpA ss r' + 15) 11 = 0
theorem unD.mv {B : Nat} {T : gT} {I1 I2 : gI} {O1 O2 : gO} {ss : Nat} {S : Int → Int} {C : Int → Int → Int} {r : Int} (h : unD B T I1 O1 ss S C r) (hB : ss + 94 ≤ B) (r0 : 0 ≤ r) (r1 : r ≤ 2) (k : coK T I1 I2 O1 O2 (rpA ss r)) : unD B T I2 O2 ss S C r := by
  intro r' r0' r1'
  have hne : rpA ss r' + 28 < rpA ss r := by unfold rpA; omega
  have hb : rpA ss r + 28 ≤ ss + 94 := by unfold rpA; omega
  obtain ⟨h1, h2⟩ := h r' r0' r1'
  exact ⟨h1.mv (by omega) (k.hi (by omega)) (fun j hj b b1 b2 b3 => k.1 b j (by omega)) (fun j b b1 b2 b3 => k.1 b j (by omega)) (fun j b hb => k.2.1 b j (by omega)) (fun _ _ _ _ _ _ => rfl) (fun _ _ _ => rfl) rfl r0' (by omega), by rw [k.1 _ _ (by omega)]; exact h2⟩
def rbJ (S : Int → Int) (r : Int) (C : Int → Int) : Nat → Int → Int
  | 0 => zR S r
  | f + 1 => rbK (rbJ S r C f) r f (C f).toNat
set_option maxHeartbeats 8000000 in
set_option maxRecDepth 20000 in
theorem ct_X7_restoreLatest {T : gT} {I : gI} {J : gJ} {O : gO} {B ss : Nat} {S : Int → Int} (hS : SsAt T O ss) (hB : ss + 94 ≤ B) (n0 : 1 ≤ I (ss + 2) 1) (n1 : I (ss + 2) 1 ≤ 4) (hr3 : ∀ r, 0 ≤ r → r ≤ 2 → I (rpA ss r) 0 = r ∧ I (rpA ss r + 28) 0 = 0 ∧ I (rpA ss r + 28) 1 = 0 ∧ O (rpA ss r + 28) 2 = none) (hC : ∀ r f, 0 ≤ r → r ≤ 2 → 0 ≤ f → f ≤ 2 → 0 ≤ rcC9 I ss (I (ss + 2) 1 - 1) r f ∧ rcC9 I ss (I (ss + 2) 1 - 1) r f ≤ S f) (hs : ∀ f, 0 ≤ f → f ≤ 2 → S f ≤ 40 ∧ lgR B T I O (rpA ss f) S f (S f) ∧ ∀ k, 0 ≤ k → k < S f → opV S (40 * f + k)) : Ct yX7_restoreLatest cX7_restoreLatest 6 none [va_rf (some (ss + 2)), va_rf (some (ss + 1))] 4 88 0 0 T I J O (rsP B T I J O ss S) := by
  refine Ct.of (by decide) [some (va_rf (some (ss + 2))), some (va_rf (some (ss + 1))), none, none, none, none] (gEn1 (List.forall_mem_cons.mpr ⟨cat_VR _, List.forall_mem_cons.mpr ⟨cat_VR _, fun _ h => nomatch h⟩⟩) rfl (Nat.le_of_ble_eq_true rfl) rfl) ?_
  intro X x en rm ini hr hz
  have hr0 := hr
  have hM : RcAt T O (ss + 2) := hS.z.s_records
  have ht : T.2 (ss + 1) = some (.inr (4, 3)) := hS.z.t_replicas
  generalize hn : I (ss + 2) 1 - 1 = n at *
  -- operations of one log
  have loop3 : ∀ (d k : Nat) (r f : Int) (S1 : Int → Int) (I1 : gI) (O1 : gO), 0 ≤ r → r ≤ 2 → 0 ≤ f → f ≤ 2 → (k : Int) + d = rcC9 I ss n r f → unK T I I1 O O1 ss → I1 (ss + 2) 1 = n → unD B T I1 O1 ss S (rcC9 I ss n) r → RpR B T I1 O1 (rpA ss r) (rbK S1 r f k) r → rbV S (rbK S1 r f k) r (rcC9 I ss n r) f k → I1 (rpA ss r + 15) 11 = 0 →
      (∀ I2 O2, unK T I I2 O O2 ss → I2 (ss + 2) 1 = n → unD B T I2 O2 ss S (rcC9 I ss n) r → RpR B T I2 O2 (rpA ss r) (rbK S1 r f (rcC9 I ss n r f).toNat) r → rbV S (rbK S1 r f (rcC9 I ss n r f).toNat) r (rcC9 I ss n r) f (rcC9 I ss n r f) → I2 (rpA ss r + 15) 11 = 0 → ∀ y, G X 88 [some (va_rf (some (ss + 2))), some (va_rf (some (ss + 1))), some (VI r), some (VI f), some (VI (rcC9 I ss n r f)), y] [] T I2 J O2 0 0) →
      G X 61 [some (va_rf (some (ss + 2))), some (va_rf (some (ss + 1))), some (VI r), some (VI f), some (VI (rcC9 I ss n r f)), some (VI (k : Int))] [] T I1 J O1 0 0 := by
    intro d
    induction d with
    | zero =>
      intro k r f S1 I1 O1 r0 r1 f0 f1 hk k1 k2 k3 k4 k5 k6 kk
      have c9 := hC r f r0 r1 f0 f1
      have s9 := (hs f f0 f1).1
      have ek : (rcC9 I ss n r f).toNat = k := by omega
      have kk := kk I1 O1 k1 k2 k3 (by rw [ek]; exact k4) (by rw [ek, show rcC9 I ss n r f = (k : Int) by omega]; exact k5) k6
      refine G_rg (fun hr => ?_)
      refine G_iload5 x eX7_restoreLatest_61 ?_
      refine G_iload4 x eX7_restoreLatest_63 ?_
      refine G_icmp_ge x eX7_restoreLatest_65 (by first | omega | exact hr _ _ | exact hr0 _ _ | exact hrS _) (by first | omega | exact hr _ _ | exact hr0 _ _ | exact hrS _) (fun c65 => ?_) (fun c65 => ?_)
      · exact kk _
      · omega
    | succ d ih =>
      intro k r f S1 I1 O1 r0 r1 f0 f1 hk k1 k2 k3 k4 k5 k6 kk
      have c9 := hC r f r0 r1 f0 f1
      obtain ⟨s9, s8, s7⟩ := hs f f0 f1
      have hS1 := k1.at hS
      have hp := hS1.rp r0 r1
      have hq := hS1.rp f0 f1
      have hpb : rpA ss r + 28 ≤ ss + 94 := by unfold rpA; omega
      obtain ⟨a, ha1, ha2⟩ := s8 k (by omega) (by omega)
      have ha3 : O1 (rpA ss f + 25) (k : Int) = some a := (k1.2.1 _ _ (by unfold rpA; omega) (by unfold rpA; omega) (by unfold rpA; omega)).trans ha1
      have ha4 : opG B T I1 O1 (rbK S1 r f k) (40 * f + k) a := ha2.mv (k1.hi hB) (fun w w0 w1 => k5.2.2.1 _ (by omega) (by omega))
      have v9 := k5.s r0 r1 f0 f1 (by omega) (by omega) (s7 k (by omega) (by omega))
      have hcn' : ∀ f', 0 ≤ f' → f' ≤ 2 → rbK S1 r f k (cIx r f') ≤ 100 := fun f' f0' f1' => by
        rw [k5.2.2.2 f' f0' f1']
        have z1 := hC r f' r0 r1 f0' f1'
        have z2 := (hs f' f0' f1').1
        split
        · omega
        · split <;> omega
      have cC := ct_X8_carryOut (J := J) hp.1 (by omega) k4 r0 r1 (by omega) (by omega) ha4 v9.1 k5.1 k5.2.1 hcn'
      have tm : T.2 (rpA ss r) = some (.inl 8) := hp.1.m
      refine G_rg (fun hr => ?_)
      refine G_iload5 x eX7_restoreLatest_61 ?_
      refine G_iload4 x eX7_restoreLatest_63 ?_
      refine G_icmp_ge x eX7_restoreLatest_65 (by first | omega | exact hr _ _ | exact hr0 _ _ | exact hrS _) (by first | omega | exact hr _ _ | exact hr0 _ _ | exact hrS _) (fun c65 => ?_) (fun c65 => ?_)
      · omega
      · refine G_aload1 x eX7_restoreLatest_68 ?_
        refine G_iload2 x eX7_restoreLatest_69 ?_
        refine G_aald x eX7_restoreLatest_70 rfl ht (fun _ => rfl) (by omega) (by omega) (by omega) ?_
        rw [hp.2]
        refine G_aload1 x eX7_restoreLatest_71 ?_
        refine G_iload3 x eX7_restoreLatest_72 ?_
        refine G_aald x eX7_restoreLatest_73 rfl ht (fun _ => rfl) (by omega) (by omega) (by omega) ?_
        rw [hq.2]
        refine G_iload5 x eX7_restoreLatest_74 ?_
        refine G_cV x eX7_restoreLatest_76 kX7_31 im_yX8_logged se_yX8_logged rm hq.1.m (ct_X8_logged hq.1 (by omega) (by omega)) rfl ?_
        rw [ha3]
        refine G_cVg x eX7_restoreLatest_79 kX7_35 im_yX8_carryOut se_yX8_carryOut rm tm cC rfl (fun v79 T79 I79 J79 O79 p79 => ?_)
        obtain ⟨rfl, rfl, rfl, u1, u2, u3⟩ := p79
        refine G_iinc5 x eX7_restoreLatest_82 ?_
        refine G_goto x eX7_restoreLatest_85 ?_
        exact ih (k + 1) r f S1 I79 O79 r0 r1 f0 f1 (by omega) (k1.tr r0 r1 u1 ⟨u2.1.1, u2.2.2.2.2.2.1, u2.2.2.2.2.2.2.1⟩) (by rw [u1.1 _ _ (by unfold rpA; omega)]; exact k2) (k3.mv hB r0 r1 u1) u2 v9.2 u3 kk
  -- the logs
  have loop2 : ∀ (d f : Nat) (r : Int) (I1 : gI) (O1 : gO) (y4 y5 : Option Value), 0 ≤ r → r ≤ 2 → f + d = 3 → unK T I I1 O O1 ss → I1 (ss + 2) 1 = n → unD B T I1 O1 ss S (rcC9 I ss n) r → RpR B T I1 O1 (rpA ss r) (rbJ S r (rcC9 I ss n r) f) r → rbV S (rbJ S r (rcC9 I ss n r) f) r (rcC9 I ss n r) f 0 → I1 (rpA ss r + 15) 11 = 0 →
      (∀ I2 O2, unK T I I2 O O2 ss → I2 (ss + 2) 1 = n → unD B T I2 O2 ss S (rcC9 I ss n) (r + 1) → ∀ z3 z4 z5, G X 94 [some (va_rf (some (ss + 2))), some (va_rf (some (ss + 1))), some (VI r), z3, z4, z5] [] T I2 J O2 0 0) →
      G X 33 [some (va_rf (some (ss + 2))), some (va_rf (some (ss + 1))), some (VI r), some (VI (f : Int)), y4, y5] [] T I1 J O1 0 0 := by
    intro d
    induction d with
    | zero =>
      intro f r I1 O1 y4 y5 r0 r1 hf k1 k2 k3 k4 k5 k6 kk
      have ef : f = 3 := by omega
      subst ef
      have kk := kk I1 O1 k1 k2 (fun r' r0' r1' => by
        by_cases q : r' = r
        · rw [q]; exact ⟨k4, k6⟩
        · exact k3 r' r0' (by omega))
      refine G_rg (fun hr => ?_)
      refine G_iload3 x eX7_restoreLatest_33 ?_
      refine G_push x eX7_restoreLatest_34 ?_
      refine G_icmp_ge x eX7_restoreLatest_35 (by first | omega | exact hr _ _ | exact hr0 _ _ | exact hrS _) (by first | omega | exact hr _ _ | exact hr0 _ _ | exact hrS _) (fun c35 => ?_) (fun c35 => ?_)
      · exact kk _ _ _
      · omega
    | succ d ih =>
      intro f r I1 O1 y4 y5 r0 r1 hf k1 k2 k3 k4 k5 k6 kk
      have c9 := hC r f r0 r1 (by omega) (by omega)
      have eC : I1 (ss + 3) (n * 9 + r * 3 + f) = rcC9 I ss n r f := by
        rw [k1.1 _ _ (by omega) (by omega), show n * 9 + r * 3 + (f : Int) = 9 * n + 3 * r + f by omega]
      have l3 := loop3 (rcC9 I ss n r f).toNat 0 r f (rbJ S r (rcC9 I ss n r) f) I1 O1 r0 r1 (by omega) (by omega) (by omega) k1 k2 k3 k4 k5 k6 (fun I2 O2 m1 m2 m3 m4 m5 m6 y => by
        have nx := ih (f + 1) r I2 O2 (some (VI (rcC9 I ss n r f))) y r0 r1 (by omega) m1 m2 m3 m4 (by have := m5.n; rw [show ((f + 1 : Nat) : Int) = (f : Int) + 1 by omega]; exact this) m6 kk
        rw [show ((f + 1 : Nat) : Int) = (f : Int) + 1 by omega] at nx
        refine G_iinc3 x eX7_restoreLatest_88 ?_
        refine G_goto x eX7_restoreLatest_91 ?_
        exact nx)
      have hM1 : RcAt T O1 (ss + 2) := (k1.at hS).z.s_records
      refine G_rg (fun hr => ?_)
      refine G_iload3 x eX7_restoreLatest_33 ?_
      refine G_push x eX7_restoreLatest_34 ?_
      refine G_icmp_ge x eX7_restoreLatest_35 (by first | omega | exact hr _ _ | exact hr0 _ _ | exact hrS _) (by first | omega | exact hr _ _ | exact hr0 _ _ | exact hrS _) (fun c35 => ?_) (fun c35 => ?_)
      · omega
      · refine G_aload0 x eX7_restoreLatest_38 ?_
        refine G_getq x eX7_restoreLatest_39 fX7_11 rfl rfl hM1.m hM1.o_carried ?_
        refine G_aload0 x eX7_restoreLatest_42 ?_
        refine G_geti x eX7_restoreLatest_43 fX7_15 rfl rfl hM1.m (fun h43 => ?_)
        rw [k2]
        refine G_push x eX7_restoreLatest_46 ?_
        refine G_imul x eX7_restoreLatest_48 ?_
        refine G_iload2 x eX7_restoreLatest_49 ?_
        refine G_push x eX7_restoreLatest_50 ?_
        refine G_imul x eX7_restoreLatest_51 ?_
        refine G_iadd x eX7_restoreLatest_52 ?_
        refine G_iload3 x eX7_restoreLatest_53 ?_
        refine G_iadd x eX7_restoreLatest_54 ?_
        refine G_iald x eX7_restoreLatest_55 rfl hM1.t_carried (by omega) (by omega) (by omega) (fun h55 => ?_)
        rw [eC]
        refine G_istore4 x eX7_restoreLatest_56 ?_
        refine G_push x eX7_restoreLatest_58 ?_
        refine G_istore5 x eX7_restoreLatest_59 ?_
        exact l3
  -- the replicas
  have loop1 : ∀ (d r : Nat) (I1 : gI) (O1 : gO) (z3 z4 z5 : Option Value), r + d = 3 → unK T I I1 O O1 ss → I1 (ss + 2) 1 = n → unD B T I1 O1 ss S (rcC9 I ss n) r → G X 20 [some (va_rf (some (ss + 2))), some (va_rf (some (ss + 1))), some (VI (r : Int)), z3, z4, z5] [] T I1 J O1 0 0 := by
    intro d
    induction d with
    | zero =>
      intro r I1 O1 z3 z4 z5 hd k1 k2 k3
      have er : r = 3 := by omega
      subst er
      refine G_rg (fun hr => ?_)
      refine G_iload2 x eX7_restoreLatest_20 ?_
      refine G_push x eX7_restoreLatest_21 ?_
      refine G_icmp_ge x eX7_restoreLatest_22 (by first | omega | exact hr _ _ | exact hr0 _ _ | exact hrS _) (by first | omega | exact hr _ _ | exact hr0 _ _ | exact hrS _) (fun c22 => ?_) (fun c22 => ?_)
      · refine G_return x en eX7_restoreLatest_100 (by omega) (by omega) ?_
        exact ⟨rfl, rfl, rfl, k1, k2.trans hn.symm, fun r r0 r1 => by rw [hn]; exact k3 r r0 (by omega)⟩
      · omega
    | succ d ih =>
      intro r I1 O1 z3 z4 z5 hd k1 k2 k3
      have hS1 := k1.at hS
      have hp := hS1.rp (r := r) (by omega) (by omega)
      have h3 := k1.2.2 r (by omega) (by omega)
      have h4 := (hr3 r (by omega) (by omega)).2.2.2
      have h5 : O1 (rpA ss r + 28) 2 = none := (k1.2.1 _ _ (by unfold rpA; omega) (by unfold rpA; omega) (by unfold rpA; omega)).trans h4
      have cC := ct_X8_reset (J := J) (B := B) (S := S) hp.1 h3.1 ⟨h3.2.1, h3.2.2, h5⟩ (by omega) (by omega)
      have tm : T.2 (rpA ss r) = some (.inl 8) := hp.1.m
      have ht1 : T.2 (ss + 1) = some (.inr (4, 3)) := hS.z.t_replicas
      have fin94 : ∀ I2 O2, unK T I I2 O O2 ss → I2 (ss + 2) 1 = n → unD B T I2 O2 ss S (rcC9 I ss n) ((r : Int) + 1) → ∀ z3 z4 z5, G X 94 [some (va_rf (some (ss + 2))), some (va_rf (some (ss + 1))), some (VI (r : Int)), z3, z4, z5] [] T I2 J O2 0 0 := by
        intro I2 O2 m1 m2 m3 z3 z4 z5
        have nx := ih (r + 1) I2 O2 z3 z4 z5 (by omega) m1 m2 (by rw [show ((r + 1 : Nat) : Int) = (r : Int) + 1 by omega]; exact m3)
        rw [show ((r + 1 : Nat) : Int) = (r : Int) + 1 by omega] at nx
        refine G_iinc2 x eX7_restoreLatest_94 ?_
        refine G_goto x eX7_restoreLatest_97 ?_
        exact nx
      refine G_rg (fun hr => ?_)
      refine G_iload2 x eX7_restoreLatest_20 ?_
      refine G_push x eX7_restoreLatest_21 ?_
      refine G_icmp_ge x eX7_restoreLatest_22 (by first | omega | exact hr _ _ | exact hr0 _ _ | exact hrS _) (by first | omega | exact hr _ _ | exact hr0 _ _ | exact hrS _) (fun c22 => ?_) (fun c22 => ?_)
      · omega
      · refine G_aload1 x eX7_restoreLatest_25 ?_
        refine G_iload2 x eX7_restoreLatest_26 ?_
        refine G_aald x eX7_restoreLatest_27 rfl ht1 (fun _ => rfl) (by omega) (by omega) (by omega) ?_
        rw [hp.2]
        refine G_cVg x eX7_restoreLatest_28 kX7_28 im_yX8_reset se_yX8_reset rm tm cC rfl (fun v28 T28 I28 J28 O28 p28 => ?_)
        obtain ⟨rfl, rfl, rfl, u1, u2, u3⟩ := p28
        refine G_push x eX7_restoreLatest_31 ?_
        refine G_istore3 x eX7_restoreLatest_32 ?_
        exact loop2 3 0 r I28 O28 _ _ (by omega) (by omega) (by omega) (k1.tr (by omega) (by omega) u1 ⟨u2.1.1, u2.2.2.2.2.2.1, u2.2.2.2.2.2.2.1⟩) (by rw [u1.1 _ _ (by unfold rpA; omega)]; exact k2) (k3.mv hB (by omega) (by omega) u1) u2 (rbV.z (by omega) (by omega)) u3 (fun I2 O2 m1 m2 m3 z3 z4 z5 => fin94 I2 O2 m1 m2 m3 z3 z4 z5)
  have s0 := loop1 3 0 (uI I (ss + 2) 1 n) O none none none (by omega) ⟨fun b j hb hj => uI_o hj, fun _ _ _ _ _ => rfl, fun r r0 r1 => by rw [uI_a (by unfold rpA; omega), uI_a (by unfold rpA; omega), uI_a (by unfold rpA; omega)]; have := hr3 r r0 r1; exact ⟨this.1, this.2.1, this.2.2.1⟩⟩ uI_s (fun r' a b => by omega)
  refine G_rg (fun hr => ?_)
  refine G_aload0 x eX7_restoreLatest_0 ?_
  refine G_geti x eX7_restoreLatest_1 fX7_15 rfl rfl hM.m (fun h1 => ?_)
  refine G_if_gt x eX7_restoreLatest_4 (by first | omega | exact hr _ _ | exact hr0 _ _ | exact hrS _) (fun c4 => ?_) (fun c4 => ?_)
  · refine G_aload0 x eX7_restoreLatest_8 ?_
    refine G_dup x eX7_restoreLatest_9 (by first | rfl | exact cat_rf _) ?_
    refine G_geti x eX7_restoreLatest_10 fX7_15 rfl rfl hM.m (fun h10 => ?_)
    refine G_push x eX7_restoreLatest_13 ?_
    refine G_isub x eX7_restoreLatest_14 ?_
    rw [hn]
    refine G_puti x eX7_restoreLatest_15 fX7_15 rfl (Or.inl rfl) rfl hM.m (by first | omega | exact hr _ _ | exact hr0 _ _ | exact hrS _) ?_
    refine G_rg (fun hr => ?_)
    refine G_push x eX7_restoreLatest_18 ?_
    refine G_istore2 x eX7_restoreLatest_19 ?_
    exact s0
  · refine G_return x en eX7_restoreLatest_7 (by omega) (by omega) ?_
    exfalso; omega
