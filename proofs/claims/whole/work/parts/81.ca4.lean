/-! the cells read for calculation -/
set_option maxRecDepth 20000 in
theorem ct_af0 {T : gT} {I : gI} {J : gJ} {O : gO} {ca : Nat} {c : Int} (hM : CaAt T O ca) : Ct yX0_addFormula cX0_addFormula 3 none [va_rf (some ca), VI c, va_rf none] 0 0 0 0 T I J O (pv none T I J O) := by
  refine Ct.of (by decide) [some (va_rf (some ca)), some (VI c), some (va_rf none)] (gEn1 (List.forall_mem_cons.mpr ⟨cat_VR _, List.forall_mem_cons.mpr ⟨cat_VI _, List.forall_mem_cons.mpr ⟨cat_VR _, fun _ h => nomatch h⟩⟩⟩) rfl (Nat.le_of_ble_eq_true rfl) rfl) ?_
  intro X x en rm ini hr hz
  have hr0 := hr
  refine G_rg (fun hr => ?_)
  refine G_aload2 x eX0_addFormula_0 ?_
  refine G_ifnull x eX0_addFormula_1 (fun c1 => ?_) (fun b1 c1 => ?_)
  · refine G_return x en eX0_addFormula_44 (by omega) (by omega) ?_
    first | exact pv_i | (refine ⟨?_, rfl, rfl, rfl, rfl⟩; split <;> first | rfl | omega)
  · contradiction
set_option maxRecDepth 20000 in
theorem ct_af1 {T : gT} {I : gI} {J : gJ} {O : gO} {ca fa : Nat} {c : Int} (hM : CaAt T O ca) (hF : T.2 fa = some (.inl 3)) (hc : in32 c) (n0 : 0 ≤ I ca 4) (n1 : I ca 4 < 144) : Ct yX0_addFormula cX0_addFormula 3 none [va_rf (some ca), VI c, va_rf (some fa)] 0 0 0 0 T I J O (pv none T (uI (uI I (ca + 3) (I ca 4) c) ca 4 (I ca 4 + 1)) J (uO O (ca + 4) (I ca 4) (some fa))) := by
  refine Ct.of (by decide) [some (va_rf (some ca)), some (VI c), some (va_rf (some fa))] (gEn1 (List.forall_mem_cons.mpr ⟨cat_VR _, List.forall_mem_cons.mpr ⟨cat_VI _, List.forall_mem_cons.mpr ⟨cat_VR _, fun _ h => nomatch h⟩⟩⟩) rfl (Nat.le_of_ble_eq_true rfl) rfl) ?_
  intro X x en rm ini hr hz
  have hr0 := hr
  have e4 : (uI I (ca + 3) (I ca 4) c) ca 4 = I ca 4 := uI_a (by omega) _
  have hM2 : CaAt T (uO O (ca + 4) (I ca 4) (some fa)) ca := hM.mv (fun _ _ _ => rfl) (fun b j hb => by unfold uO; rw [if_neg (fun z => by omega)])
  refine G_rg (fun hr => ?_)
  refine G_aload2 x eX0_addFormula_0 ?_
  refine G_ifnull x eX0_addFormula_1 (fun c1 => ?_) (fun b1 c1 => ?_)
  · refine G_return x en eX0_addFormula_44 (by omega) (by omega) ?_
    first | exact pv_i | contradiction | (exfalso; omega)
  · refine G_aload0 x eX0_addFormula_4 ?_
    refine G_geti x eX0_addFormula_5 fX0_80 rfl rfl hM.m (fun h5 => ?_)
    refine G_push x eX0_addFormula_8 ?_
    refine G_icmp_ge x eX0_addFormula_11 (by first | omega | exact hr _ _ | exact hr0 _ _ | exact hrS _) (by first | omega | exact hr _ _ | exact hr0 _ _ | exact hrS _) (fun c11 => ?_) (fun c11 => ?_)
    · refine G_return x en eX0_addFormula_44 (by omega) (by omega) ?_
      first | exact pv_i | contradiction | (exfalso; omega)
    · refine G_aload0 x eX0_addFormula_14 ?_
      refine G_getq x eX0_addFormula_15 fX0_18 rfl rfl hM.m hM.o_formulaCells ?_
      refine G_aload0 x eX0_addFormula_18 ?_
      refine G_geti x eX0_addFormula_19 fX0_80 rfl rfl hM.m (fun h19 => ?_)
      refine G_iload1 x eX0_addFormula_22 ?_
      refine G_iast x eX0_addFormula_23 rfl hM.t_formulaCells (by omega) (by omega) (by omega) (by first | omega | exact hr _ _ | exact hr0 _ _ | exact hrS _) ?_
      refine G_rg (fun hr => ?_)
      refine G_aload0 x eX0_addFormula_24 ?_
      refine G_getq x eX0_addFormula_25 fX0_23 rfl rfl hM.m hM.o_formulas ?_
      refine G_aload0 x eX0_addFormula_28 ?_
      refine G_geti x eX0_addFormula_29 fX0_80 rfl rfl hM.m (fun h29 => ?_)
      rw [e4]
      refine G_aload2 x eX0_addFormula_32 ?_
      refine G_aast x eX0_addFormula_33 rfl hM.t_formulas (fun _ => rfl) rfl rfl hF (by omega) (by omega) (by omega) ?_
      refine G_aload0 x eX0_addFormula_34 ?_
      refine G_dup x eX0_addFormula_35 (by first | rfl | exact cat_rf _) ?_
      refine G_geti x eX0_addFormula_36 fX0_80 rfl rfl hM.m (fun h36 => ?_)
      rw [e4]
      refine G_push x eX0_addFormula_39 ?_
      refine G_iadd x eX0_addFormula_40 ?_
      refine G_puti x eX0_addFormula_41 fX0_80 rfl (Or.inl rfl) rfl hM.m (by first | omega | exact hr _ _ | exact hr0 _ _ | exact hrS _) ?_
      refine G_rg (fun hr => ?_)
      refine G_return x en eX0_addFormula_44 (by omega) (by omega) ?_
      first | exact pv_i | contradiction | (exfalso; omega)
def crF (I I1 : gI) (O O1 : gO) (ca : Nat) : Prop := (∀ b j, b ≠ ca + 1 → b ≠ ca + 2 → b ≠ ca + 3 → (b ≠ ca ∨ j ≠ 4) → I1 b j = I b j) ∧ ∀ b j, b ≠ ca + 4 → O1 b j = O b j
def cr1 (B : Nat) (T : gT) (I1 : gI) (O1 : gO) (ca : Nat) (S : Int → Int) (r m : Int) : Prop := EnF S r m (I1 (ca + 3)) (I1 ca 4) ∧ (∀ f, 0 ≤ f → f < I1 ca 4 → ∃ fa fl, O1 (ca + 4) f = some fa ∧ fmH B T I1 O1 fa fl ∧ fmlAt S (idS S r (I1 (ca + 3) f)) fl) ∧ ∀ c, inC S r c → c < m → vV I1 ca c = valS S r c ∧ I1 (ca + 2) c = 0
theorem crF.hi {B : Nat} {T : gT} {I I1 : gI} {O O1 : gO} {ca : Nat} (h : crF I I1 O O1 ca) (hB : ca + 4 ≤ B) : hiK B T T I I1 O O1 := ⟨Nat.le_refl _, fun b b1 b2 => ⟨rfl, fun j => h.1 b j (by omega) (by omega) (by omega) (by omega), fun j => h.2 b j (by omega)⟩⟩
theorem RpR.ca {B : Nat} {T : gT} {I I1 : gI} {O O1 : gO} {p : Nat} {S : Int → Int} {r : Int} (h : RpR B T I O p S r) (hB : p + 28 ≤ B) (k : hiK B T T I I1 O O1) (e1 : ∀ b j, p ≤ b → b ≤ p + 28 → (b < p + 15 ∨ p + 24 < b) → I1 b j = I b j) (e2 : ∀ b j, p + 24 < b → O1 b j = O b j) (r0 : 0 ≤ r) (r1 : r ≤ 2) : RpR B T I1 O1 p S r := h.mv hB k (fun j _ b b1 b2 b3 => e1 b j b1 b2 (by omega)) (fun j b b1 b2 b3 => e1 b j (by omega) b2 (by omega)) (fun j b hb => e2 b j (by omega)) (fun _ _ _ _ _ _ => rfl) (fun _ _ _ => rfl) rfl r0 r1
def rcP (B : Nat) (T : gT) (I : gI) (J : gJ) (O : gO) (ca : Nat) (S : Int → Int) (r : Int) : gP := fun v T' I' J' O' => v = none ∧ T' = T ∧ J' = J ∧ crF I I' O O' ca ∧ cr1 B T I' O' ca S r 144
/-- one more cell -/
theorem cr1.add {B : Nat} {T : gT} {I1 I2 : gI} {O1 O2 : gO} {ca fa : Nat} {S : Int → Int} {r c : Int} {fl : List (Int × Int × Int × Int)} (h : cr1 B T I1 O1 ca S r c) (hB : ca + 4 ≤ B) (hc : isFm S r c) (hk : hiK B T T I1 I2 O1 O2) (e3 : ∀ j, I2 (ca + 3) j = if j = I1 ca 4 then c else I1 (ca + 3) j) (e4 : I2 ca 4 = I1 ca 4 + 1) (eO : ∀ j, O2 (ca + 4) j = if j = I1 ca 4 then some fa else O1 (ca + 4) j) (eV : ∀ j, I2 (ca + 1) j = if j = c then 0 else I1 (ca + 1) j) (eE : ∀ j, I2 (ca + 2) j = if j = c then 0 else I1 (ca + 2) j) (hfa : fmH B T I1 O1 fa fl) (hfl : fmlAt S (idS S r c) fl) : cr1 B T I2 O2 ca S r (c + 1) := by
  obtain ⟨h1, h2, h3⟩ := h
  have hb := hc.1.b
  refine ⟨?_, fun f f0 f1 => ?_, fun d hd hd2 => ?_⟩
  · rw [e4]
    refine En.ins h1 hb.1 hc h1.1 (Int.le_refl _) ?_ (fun j a b => by omega) (fun j a b => by rw [e3, if_neg (by omega)]) (by rw [e3, if_pos rfl]) (fun j a b => by omega)
    by_cases q : I1 ca 4 = 0
    · exact Or.inl q
    · have := h1.1
      have := (h1.2.2.2.1 (I1 ca 4 - 1) (by omega) (by omega)).2.1
      exact Or.inr (by show I1 (ca + 3) _ ≤ c; omega)
  · rw [e4] at f1
    by_cases q : f = I1 ca 4
    · exact ⟨fa, fl, by rw [eO, if_pos q], hfa.mv hk, by rw [e3, if_pos q]; exact hfl⟩
    · obtain ⟨fa', fl', a1, a2, a3⟩ := h2 f f0 (by omega)
      exact ⟨fa', fl', by rw [eO, if_neg q]; exact a1, a2.mv hk, by rw [e3, if_neg q]; exact a3⟩
  · unfold vV
    rw [eV, eE]
    by_cases q : d = c
    · rw [if_pos q, if_pos q, q]
      refine ⟨?_, rfl⟩
      unfold valS
      rw [if_neg (fun z => by have := hc.2.2; omega)]
      rfl
    · rw [if_neg q, if_neg q]
      exact h3 d hd (by omega)
theorem cr1.no {B : Nat} {T : gT} {I1 I2 : gI} {O1 : gO} {ca : Nat} {S : Int → Int} {r c : Int} (h : cr1 B T I1 O1 ca S r c) (hB : ca + 4 ≤ B) (hc : ¬ isFm S r c) (hk : hiK B T T I1 I2 O1 O1) (e3 : ∀ j, I2 (ca + 3) j = I1 (ca + 3) j) (e4 : I2 ca 4 = I1 ca 4) (eV : ∀ j, j ≠ c → I2 (ca + 1) j = I1 (ca + 1) j) (eV2 : Int64.ofInt (I2 (ca + 1) c) = valS S r c) (eE : ∀ j, I2 (ca + 2) j = if j = c then 0 else I1 (ca + 2) j) : cr1 B T I2 O1 ca S r (c + 1) := by
  obtain ⟨h1, h2, h3⟩ := h
  refine ⟨?_, fun f f0 f1 => ?_, fun d hd hd2 => ?_⟩
  · rw [e4, show I2 (ca + 3) = I1 (ca + 3) from funext e3]
    exact h1.skip hc
  · rw [e4] at f1
    obtain ⟨fa', fl', a1, a2, a3⟩ := h2 f f0 f1
    exact ⟨fa', fl', a1, a2.mv hk, by rw [e3]; exact a3⟩
  · unfold vV
    by_cases q : d = c
    · rw [q, eE, if_pos rfl]; exact ⟨eV2, rfl⟩
    · rw [eV d q, eE, if_neg q]; exact h3 d hd (by omega)
theorem cn_val {B : Nat} {T : gT} {I : gI} {O : gO} {S : Int → Int} {r c : Int} {co : Nat} (hc : inC S r c) (h : cnG B T I O S r c co) : (Int64.ofInt (I co 1) = valS S r c ∨ isFm S r c) ∧ ((isFm S r c ∧ I co 1 = 0 ∧ ∃ fa fl, O co 2 = some fa ∧ fmH B T I O fa fl ∧ fmlAt S (idS S r c) fl) ∨ (¬ isFm S r c ∧ Int64.ofInt (I co 1) = valS S r c ∧ O co 2 = none)) := by
  rcases h.2 with ⟨q1, q2, q3, q4⟩ | ⟨q1, -, q3, q4, q5, q6⟩
  · have hn : ¬ isFm S r c := fun z => z.2.1 q1
    have hv : Int64.ofInt (I co 1) = valS S r c := by unfold valS; rw [if_neg (fun z => z.1 q1), q3]; rfl
    exact ⟨Or.inl hv, Or.inr ⟨hn, hv, q4⟩⟩
  · rcases q6 with ⟨k2, fa, fl, a1, a2, a3⟩ | ⟨k2, a1⟩
    · have hf : isFm S r c := ⟨hc, by omega, k2⟩
      exact ⟨Or.inr hf, Or.inl ⟨hf, by rw [q5, if_neg (by omega)], fa, fl, a1, a2, a3⟩⟩
    · have hn : ¬ isFm S r c := fun z => k2 z.2.2
      have hv : Int64.ofInt (I co 1) = valS S r c := by
        unfold valS
        rw [q5]
        by_cases k1 : S (3 + 32 * idS S r c + 5) = 1
        · rw [if_pos k1, if_pos ⟨by omega, k1⟩]
        · rw [if_neg k1, if_neg (fun z => k1 z.2)]; rfl
      exact ⟨Or.inl hv, Or.inr ⟨hn, hv, a1⟩⟩
set_option maxHeartbeats 8000000 in
set_option maxRecDepth 20000 in
theorem ct_X0_readCells {T : gT} {I : gI} {J : gJ} {O : gO} {B p ca : Nat} {S : Int → Int} {r : Int} (hP : RpAt T O p) (hca : ca = p + 15) (hB : p + 28 ≤ B) (hR : RpR B T I O p S r) (hW : clW S r) (hf : fmOk S r) (r0 : 0 ≤ r) (r1 : r ≤ 2) : Ct yX0_readCells cX0_readCells 6 none [va_rf (some ca), va_rf (some p)] 4 86 0 0 T I J O (rcP B T I J O ca S r) := by
  refine Ct.of (by decide) [some (va_rf (some ca)), some (va_rf (some p)), none, none, none, none] (gEn1 (List.forall_mem_cons.mpr ⟨cat_VR _, List.forall_mem_cons.mpr ⟨cat_VR _, fun _ h => nomatch h⟩⟩) rfl (Nat.le_of_ble_eq_true rfl) rfl) ?_
  intro X x en rm ini hr hz
  have hr0 := hr
  have hM : CaAt T O ca := by rw [hca]; exact hP.s_calculation
  have b0 := rwB S r 0 (-1)
  have b1 := rwB S r 1 (-1)
  have hL0 := hR.L
  have inner : ∀ (d : Nat) (row col : Int) (I1 : gI) (O1 : gO) (y4 y5 : Option Value), col + d = rwN S r 1 (-1) → 0 ≤ col → 0 ≤ row → row < rwN S r 0 (-1) → crF I I1 O O1 ca → cr1 B T I1 O1 ca S r (12 * row + col) → (∀ (I2 : gI) (O2 : gO) (y3 y4 y5 : Option Value), crF I I2 O O2 ca → cr1 B T I2 O2 ca S r (12 * row + rwN S r 1 (-1)) → G X 92 [some (va_rf (some ca)), some (va_rf (some p)), some (VI row), y3, y4, y5] [] T I2 J O2 0 0) → G X 20 [some (va_rf (some ca)), some (va_rf (some p)), some (VI row), some (VI col), y4, y5] [] T I1 J O1 0 0 := by
    intro d
    induction d with
    | zero =>
      intro row col I1 O1 y4 y5 hd q0 w0 w1 k1 k2 kk
      have hP1 : RpAt T O1 p := hP.mv (fun _ _ _ => rfl) (fun b j b1 b2 b3 => k1.2 b j (by omega))
      have ec : I1 (p + 8) 6 = rwN S r 1 (-1) := (k1.1 _ _ (by omega) (by omega) (by omega) (by omega)).trans hL0.2.1
      have kk := kk I1 O1 (some (VI col)) y4 y5 k1 (by rw [show rwN S r 1 (-1) = col by omega]; exact k2)
      refine G_rg (fun hr => ?_)
      refine G_iload3 x eX0_readCells_20 ?_
      refine G_aload1 x eX0_readCells_21 ?_
      refine G_getq x eX0_readCells_22 fX0_95 rfl rfl hP1.m hP1.o_columns ?_
      refine G_cV x eX0_readCells_25 kX0_89 im_yX4_count se_yX4_count rm hP1.s_columns.m (ct_X4_count hP1.s_columns) rfl ?_
      rw [ec]
      refine G_icmp_ge x eX0_readCells_28 (by first | omega | exact hr _ _ | exact hr0 _ _ | exact hrS _) (by first | omega | exact hr _ _ | exact hr0 _ _ | exact hrS _) (fun c28 => ?_) (fun c28 => ?_)
      · exact kk
      · omega
    | succ d ih =>
      intro row col I1 O1 y4 y5 hd q0 w0 w1 k1 k2 kk
      have hP1 : RpAt T O1 p := hP.mv (fun _ _ _ => rfl) (fun b j b1 b2 b3 => k1.2 b j (by omega))
      have hM1 : CaAt T O1 ca := by rw [hca]; exact hP1.s_calculation
      have ec : I1 (p + 8) 6 = rwN S r 1 (-1) := (k1.1 _ _ (by omega) (by omega) (by omega) (by omega)).trans hL0.2.1
      have hR1 : RpR B T I1 O1 p S r := hR.ca hB (k1.hi (by omega)) (fun b j b1 b2 b3 => k1.1 b j (by omega) (by omega) (by omega) (by omega)) (fun b j hb => k1.2 b j (by omega)) r0 r1
      have hc : inC S r (row * 12 + col) := ⟨by omega, by omega, by omega⟩
      have hcb := hc.b
      have cC := ct_X8_contentAt (J := J) hP1 hR1 hW hc
      have n9 := k2.1.n hf
      have n8 := k2.1.1
      -- the cell's content
      have go : ∀ co, cnG B T I1 O1 S r (row * 12 + col) co → co ≠ ca + 1 → co ≠ ca + 2 → G X 55 [some (va_rf (some ca)), some (va_rf (some p)), some (VI row), some (VI col), some (VI (row * 12 + col)), some (va_rf (some co))] [] T I1 J O1 0 0 := by
        intro co hco nc1 nc2
        have hco1 := hco.1
        have i32 := hr0 co 1
        have hk : ∀ (I2 : gI), (∀ b j, b ≠ ca + 1 → b ≠ ca + 2 → b ≠ ca + 3 → (b ≠ ca ∨ j ≠ 4) → I2 b j = I1 b j) → hiK B T T I1 I2 O1 O1 := fun I2 h => ⟨Nat.le_refl _, fun b b1 b2 => ⟨rfl, fun j => h b j (by omega) (by omega) (by omega) (by omega), fun _ => rfl⟩⟩
        rcases (cn_val hc hco).2 with ⟨v1, v2, fa, fl, a1, a2, a3⟩ | ⟨v1, v2, a1⟩
        · have hfa := a2.1.1
          have e4 : (uI (uI I1 (ca + 1) (row * 12 + col) (I1 co 1)) (ca + 2) (row * 12 + col) 0) ca 4 = I1 ca 4 := by rw [uI_a (by omega), uI_a (by omega)]
          have nx := ih row (col + 1) (uI (uI (uI (uI I1 (ca + 1) (row * 12 + col) (I1 co 1)) (ca + 2) (row * 12 + col) 0) (ca + 3) (I1 ca 4) (row * 12 + col)) ca 4 (I1 ca 4 + 1)) (uO O1 (ca + 4) (I1 ca 4) (some fa)) (some (VI (row * 12 + col))) (some (va_rf (some co))) (by omega) (by omega) w0 w1 ⟨fun b j c1 c2 c3 c4 => by rw [uI_o c4, uI_a c3, uI_a c2, uI_a c1]; exact k1.1 b j c1 c2 c3 c4, fun b j hb => by unfold uO; rw [if_neg (fun z => hb z.1)]; exact k1.2 b j hb⟩ (by
            rw [show 12 * row + (col + 1) = (row * 12 + col) + 1 by omega]
            rw [show 12 * row + col = row * 12 + col by omega] at k2
            refine k2.add (by omega) v1 ⟨Nat.le_refl _, fun b b1 b2 => ⟨rfl, fun j => by rw [uI_a (by omega), uI_a (by omega), uI_a (by omega), uI_a (by omega)], fun j => by unfold uO; rw [if_neg (fun z => by omega)]⟩⟩ (fun j => ?_) uI_s (fun j => ?_) (fun j => ?_) (fun j => ?_) a2 a3
            · rw [uI_a (by omega)]
              by_cases q : j = I1 ca 4
              · rw [if_pos q, q, uI_s]
              · rw [if_neg q, uI_k q, uI_a (by omega), uI_a (by omega)]
            · unfold uO
              by_cases q : j = I1 ca 4
              · rw [if_pos ⟨rfl, q⟩, if_pos q]
              · rw [if_neg (fun z => q z.2), if_neg q]
            · rw [uI_a (by omega), uI_a (by omega), uI_a (by omega)]
              by_cases q : j = row * 12 + col
              · rw [if_pos q, q, uI_s, v2]
              · rw [if_neg q, uI_k q]
            · rw [uI_a (by omega), uI_a (by omega)]
              by_cases q : j = row * 12 + col
              · rw [if_pos q, q, uI_s]
              · rw [if_neg q, uI_k q, uI_a (by omega)]) kk
          refine G_rg (fun hr => ?_)
          refine G_aload0 x eX0_readCells_55 ?_
          refine G_getq x eX0_readCells_56 fX0_9 rfl rfl hM1.m hM1.o_values ?_
          refine G_iload4 x eX0_readCells_59 ?_
          refine G_aload5 x eX0_readCells_61 ?_
          refine G_geti x eX0_readCells_63 fX0_102 rfl rfl hco1 (fun h63 => ?_)
          refine G_iast x eX0_readCells_66 rfl hM1.t_values (by omega) (by omega) (by omega) (by first | omega | exact hr _ _ | exact hr0 _ _ | exact hrS _) ?_
          refine G_rg (fun hr => ?_)
          refine G_aload0 x eX0_readCells_67 ?_
          refine G_getq x eX0_readCells_68 fX0_15 rfl rfl hM1.m hM1.o_errors ?_
          refine G_iload4 x eX0_readCells_71 ?_
          refine G_push x eX0_readCells_73 ?_
          refine G_iast x eX0_readCells_74 rfl hM1.t_errors (by omega) (by omega) (by omega) (by first | omega | exact hr _ _ | exact hr0 _ _ | exact hrS _) ?_
          refine G_rg (fun hr => ?_)
          refine G_aload0 x eX0_readCells_75 ?_
          refine G_iload4 x eX0_readCells_76 ?_
          refine G_aload5 x eX0_readCells_78 ?_
          refine G_getr x eX0_readCells_80 fX0_107 rfl rfl hco1 ?_
          rw [a1]
          refine G_cVv x eX0_readCells_83 kX0_111 im_yX0_addFormula se_yX0_addFormula rm hM1.m (ct_af1 hM1 hfa (by omega) (by rw [e4]; omega) (by rw [e4]; omega)) rfl ?_
          rw [e4]
          refine G_iinc3 x eX0_readCells_86 ?_
          refine G_goto x eX0_readCells_89 ?_
          exact nx
        · have nx := ih row (col + 1) (uI (uI I1 (ca + 1) (row * 12 + col) (I1 co 1)) (ca + 2) (row * 12 + col) 0) O1 (some (VI (row * 12 + col))) (some (va_rf (some co))) (by omega) (by omega) w0 w1 ⟨fun b j c1 c2 c3 c4 => by rw [uI_a c2, uI_a c1]; exact k1.1 b j c1 c2 c3 c4, k1.2⟩ (by
            rw [show 12 * row + (col + 1) = (row * 12 + col) + 1 by omega]
            rw [show 12 * row + col = row * 12 + col by omega] at k2
            refine k2.no (by omega) v1 (hk _ (fun b j c1 c2 c3 c4 => by rw [uI_a c2, uI_a c1])) (fun j => by rw [uI_a (by omega), uI_a (by omega)]) (by rw [uI_a (by omega), uI_a (by omega)]) (fun j hj => by rw [uI_a (by omega), uI_k hj]) (by rw [uI_a (by omega), uI_s]; exact v2) (fun j => ?_)
            by_cases q : j = row * 12 + col
            · rw [if_pos q, q, uI_s]
            · rw [if_neg q, uI_k q, uI_a (by omega)]) kk
          refine G_rg (fun hr => ?_)
          refine G_aload0 x eX0_readCells_55 ?_
          refine G_getq x eX0_readCells_56 fX0_9 rfl rfl hM1.m hM1.o_values ?_
          refine G_iload4 x eX0_readCells_59 ?_
          refine G_aload5 x eX0_readCells_61 ?_
          refine G_geti x eX0_readCells_63 fX0_102 rfl rfl hco1 (fun h63 => ?_)
          refine G_iast x eX0_readCells_66 rfl hM1.t_values (by omega) (by omega) (by omega) (by first | omega | exact hr _ _ | exact hr0 _ _ | exact hrS _) ?_
          refine G_rg (fun hr => ?_)
          refine G_aload0 x eX0_readCells_67 ?_
          refine G_getq x eX0_readCells_68 fX0_15 rfl rfl hM1.m hM1.o_errors ?_
          refine G_iload4 x eX0_readCells_71 ?_
          refine G_push x eX0_readCells_73 ?_
          refine G_iast x eX0_readCells_74 rfl hM1.t_errors (by omega) (by omega) (by omega) (by first | omega | exact hr _ _ | exact hr0 _ _ | exact hrS _) ?_
          refine G_rg (fun hr => ?_)
          refine G_aload0 x eX0_readCells_75 ?_
          refine G_iload4 x eX0_readCells_76 ?_
          refine G_aload5 x eX0_readCells_78 ?_
          refine G_getr x eX0_readCells_80 fX0_107 rfl rfl hco1 ?_
          rw [a1]
          refine G_cVv x eX0_readCells_83 kX0_111 im_yX0_addFormula se_yX0_addFormula rm hM1.m (ct_af0 hM1) rfl ?_
          refine G_iinc3 x eX0_readCells_86 ?_
          refine G_goto x eX0_readCells_89 ?_
          exact nx
      refine G_rg (fun hr => ?_)
      refine G_iload3 x eX0_readCells_20 ?_
      refine G_aload1 x eX0_readCells_21 ?_
      refine G_getq x eX0_readCells_22 fX0_95 rfl rfl hP1.m hP1.o_columns ?_
      refine G_cV x eX0_readCells_25 kX0_89 im_yX4_count se_yX4_count rm hP1.s_columns.m (ct_X4_count hP1.s_columns) rfl ?_
      rw [ec]
      refine G_icmp_ge x eX0_readCells_28 (by first | omega | exact hr _ _ | exact hr0 _ _ | exact hrS _) (by first | omega | exact hr _ _ | exact hr0 _ _ | exact hrS _) (fun c28 => ?_) (fun c28 => ?_)
      · omega
      · refine G_iload2 x eX0_readCells_31 ?_
        refine G_push x eX0_readCells_32 ?_
        refine G_imul x eX0_readCells_34 ?_
        refine G_iload3 x eX0_readCells_35 ?_
        refine G_iadd x eX0_readCells_36 ?_
        refine G_istore4 x eX0_readCells_37 ?_
        refine G_iload4 x eX0_readCells_39 ?_
        refine G_cN x eX0_readCells_41 knX0_65 sm_yX10_isCell rm (ct_X10_isCell (by first | omega | exact hr _ _ | exact hr0 _ _ | exact hrS _)) rfl ?_
        refine G_ifb_eq x eX0_readCells_44 (fun c44 => ?_) (fun c44 => ?_)
        · omega
        · refine G_aload1 x eX0_readCells_47 ?_
          refine G_iload4 x eX0_readCells_48 ?_
          refine G_cVg x eX0_readCells_50 kX0_98 im_yX8_contentAt se_yX8_contentAt rm hP1.m cC rfl (fun v50 T50 I50 J50 O50 p50 => ?_)
          refine G_rg (fun hr => ?_)
          obtain ⟨rfl, rfl, rfl, rfl, co, rfl, hco⟩ := p50
          refine G_astore5 x eX0_readCells_53 ?_
          exact go co hco (fun z => by have h9 := hco.1; rw [z, hM1.t_values] at h9; cases h9) (fun z => by have h9 := hco.1; rw [z, hM1.t_errors] at h9; cases h9)
  have outer : ∀ (d : Nat) (row : Int) (I1 : gI) (O1 : gO) (y3 y4 y5 : Option Value), row + d = rwN S r 0 (-1) → 0 ≤ row → crF I I1 O O1 ca → cr1 B T I1 O1 ca S r (12 * row) → G X 7 [some (va_rf (some ca)), some (va_rf (some p)), some (VI row), y3, y4, y5] [] T I1 J O1 0 0 := by
    intro d
    induction d with
    | zero =>
      intro row I1 O1 y3 y4 y5 hd w0 k1 k2
      have hP1 : RpAt T O1 p := hP.mv (fun _ _ _ => rfl) (fun b j b1 b2 b3 => k1.2 b j (by omega))
      have er : I1 (p + 1) 6 = rwN S r 0 (-1) := (k1.1 _ _ (by omega) (by omega) (by omega) (by omega)).trans hL0.1.1
      refine G_rg (fun hr => ?_)
      refine G_iload2 x eX0_readCells_7 ?_
      refine G_aload1 x eX0_readCells_8 ?_
      refine G_getq x eX0_readCells_9 fX0_83 rfl rfl hP1.m hP1.o_rows ?_
      refine G_cV x eX0_readCells_12 kX0_89 im_yX4_count se_yX4_count rm hP1.s_rows.m (ct_X4_count hP1.s_rows) rfl ?_
      rw [er]
      refine G_icmp_ge x eX0_readCells_15 (by first | omega | exact hr _ _ | exact hr0 _ _ | exact hrS _) (by first | omega | exact hr _ _ | exact hr0 _ _ | exact hrS _) (fun c15 => ?_) (fun c15 => ?_)
      · refine G_return x en eX0_readCells_98 (by omega) (by omega) ?_
        exact ⟨rfl, rfl, rfl, k1, ⟨k2.1.skips (by omega) (fun x a b z => by have := z.1.2.1; omega), k2.2.1, fun c hc _ => k2.2.2 c hc (by have := hc.2.1; omega)⟩⟩
      · omega
    | succ d ih =>
      intro row I1 O1 y3 y4 y5 hd w0 k1 k2
      have hP1 : RpAt T O1 p := hP.mv (fun _ _ _ => rfl) (fun b j b1 b2 b3 => k1.2 b j (by omega))
      have er : I1 (p + 1) 6 = rwN S r 0 (-1) := (k1.1 _ _ (by omega) (by omega) (by omega) (by omega)).trans hL0.1.1
      have nx := inner (rwN S r 1 (-1)).toNat row 0 I1 O1 y4 y5 (by omega) (by omega) w0 (by omega) k1 (by rw [show 12 * row + 0 = 12 * row by omega]; exact k2) (fun I2 O2 z3 z4 z5 m1 m2 => by
        have z := ih (row + 1) I2 O2 z3 z4 z5 (by omega) (by omega) m1 ⟨m2.1.skips (by omega) (fun x a b z => by have := z.1.2.2; omega), m2.2.1, fun c hc h9 => m2.2.2 c hc (by have := hc.2.2; omega)⟩
        refine G_iinc2 x eX0_readCells_92 ?_
        refine G_goto x eX0_readCells_95 ?_
        exact z)
      refine G_rg (fun hr => ?_)
      refine G_iload2 x eX0_readCells_7 ?_
      refine G_aload1 x eX0_readCells_8 ?_
      refine G_getq x eX0_readCells_9 fX0_83 rfl rfl hP1.m hP1.o_rows ?_
      refine G_cV x eX0_readCells_12 kX0_89 im_yX4_count se_yX4_count rm hP1.s_rows.m (ct_X4_count hP1.s_rows) rfl ?_
      rw [er]
      refine G_icmp_ge x eX0_readCells_15 (by first | omega | exact hr _ _ | exact hr0 _ _ | exact hrS _) (by first | omega | exact hr _ _ | exact hr0 _ _ | exact hrS _) (fun c15 => ?_) (fun c15 => ?_)
      · omega
      · refine G_push x eX0_readCells_18 ?_
        refine G_istore3 x eX0_readCells_19 ?_
        exact nx
  have s0 := outer (rwN S r 0 (-1)).toNat 0 (uI I ca 4 0) O none none none (by omega) (by omega) ⟨fun b j _ _ _ h => uI_o h, fun _ _ _ => rfl⟩ ⟨by rw [uI_s]; exact En.zero, fun f f0 f1 => by rw [uI_s] at f1; omega, fun c hc h9 => by have := hc.1; omega⟩
  refine G_rg (fun hr => ?_)
  refine G_aload0 x eX0_readCells_0 ?_
  refine G_push x eX0_readCells_1 ?_
  refine G_puti x eX0_readCells_2 fX0_80 rfl (Or.inl rfl) rfl hM.m (by first | omega | exact hr _ _ | exact hr0 _ _ | exact hrS _) ?_
  refine G_rg (fun hr => ?_)
  refine G_push x eX0_readCells_5 ?_
  refine G_istore2 x eX0_readCells_6 ?_
  exact s0
