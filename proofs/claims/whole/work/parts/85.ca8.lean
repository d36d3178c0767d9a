/-! formulas calculated, one behind the other -/
def Wk (W0 : Int → Prop) (h : Int → Int) (k c : Int) : Prop := W0 c ∧ ¬ oDn h k c
theorem all9 {S : Int → Int} {r n : Int} {f h : Int → Int} (hE : EnF S r 144 f n) (h1 : ∀ i, 0 ≤ i → i < n → isFm S r (h i)) (h2 : ∀ i j, 0 ≤ i → i < j → j < n → h i ≠ h j) (c : Int) (hc : isFm S r c) : oDn h n c := by
  apply Classical.byContradiction
  intro hn
  have n0 := hE.1
  have ex : ∀ x, isFm S r x → ∃ g, 0 ≤ g ∧ g < n ∧ f g = x := fun x hx => hE.2.2.2.2 x hx.1.1 hx.1.b.2 hx
  have hI : ∀ i, ∃ g, 0 ≤ i → i ≤ n → 0 ≤ g ∧ g < n ∧ f g = (if i = n then c else h i) := fun i => by
    by_cases q : 0 ≤ i ∧ i ≤ n
    · by_cases e : i = n
      · obtain ⟨g, g0⟩ := ex c hc
        exact ⟨g, fun _ _ => by rw [if_pos e]; exact g0⟩
      · obtain ⟨g, g0⟩ := ex (h i) (h1 i q.1 (by omega))
        exact ⟨g, fun _ _ => by rw [if_neg e]; exact g0⟩
    · exact ⟨0, fun a b => absurd ⟨a, b⟩ q⟩
  have hg := fun i => Classical.choose_spec (hI i)
  have := pig (g := fun i => Classical.choose (hI i)) (K := n.toNat) (n.toNat + 1) (fun i a b => by have := hg i a (by omega); omega) (fun i j a b d e => by
    have e1 := (hg i a (by omega)).2.2
    have e2 := (hg j (by omega) (by omega)).2.2
    have e : Classical.choose (hI i) = Classical.choose (hI j) := e
    rw [e, e2, if_neg (show ¬ i = n by omega)] at e1
    by_cases q : j = n
    · rw [if_pos q] at e1; exact hn ⟨i, a, by omega, e1.symm⟩
    · rw [if_neg q] at e1; exact h2 i j a b (by omega) e1.symm)
  omega
def cwF9 (I I' : gI) (ca : Nat) : Prop := ∀ b j, b ≠ ca + 1 → b ≠ ca + 2 → b ≠ ca + 5 → (b ≠ ca ∨ (j ≠ 10 ∧ j ≠ 6)) → I' b j = I b j
/-- the state, some calculated -/
def cwS9 (I I1 : gI) (J J1 : gJ) (ca : Nat) (S : Int → Int) (r o : Int) (W0 : Int → Prop) (Q : (Int → Int) → Int → (Int → Int64) → (Int → Int) → Prop) (h : Int → Int) (k : Int) : Prop :=
  cwF9 I I1 ca ∧ (∀ b j, b ≠ ca + 6 + 1 → J1 b j = J b j) ∧ (∀ i, 0 ≤ i → i < k → rdW S r (Wk W0 h i) (h i) ∧ ∀ d, rdW S r (Wk W0 h i) d → h i ≤ d) ∧ CsIs (J1 (ca + 6 + 1)) (Rw S r (Wk W0 h k)) ∧ Q h k (vV I1 ca) (I1 (ca + 2)) ∧ (∀ c, inC S r c → ¬ far (vV I1 ca c)) ∧ ((o = 1 ∧ I1 ca 6 = k ∧ ∀ i, 0 ≤ i → i < k → I1 (ca + 5) i = h i) ∨ (o = 0 ∧ I1 ca 6 = I ca 6 ∧ ∀ j, I1 (ca + 5) j = I (ca + 5) j))
def cwP9 (T : gT) (I : gI) (J : gJ) (O : gO) (ca : Nat) (S : Int → Int) (r o : Int) (W0 : Int → Prop) (Q : (Int → Int) → Int → (Int → Int64) → (Int → Int) → Prop) : gP := fun v T' I' J' O' => v = none ∧ T' = T ∧ O' = O ∧ ∃ h k, (0 ≤ k ∧ k ≤ I ca 4) ∧ cwS9 I I' J J' ca S r o W0 Q h k ∧ ∀ c, ¬ rdW S r (Wk W0 h k) c
def stepQ (S : Int → Int) (r : Int) (W0 : Int → Prop) (Q : (Int → Int) → Int → (Int → Int64) → (Int → Int) → Prop) : Prop := ∀ h h' k V E V' E' c, Q h k V E → 0 ≤ k → rdW S r (Wk W0 h k) c → (∀ d, rdW S r (Wk W0 h k) d → c ≤ d) → (∀ i, 0 ≤ i → i < k → h' i = h i) → h' k = c → V' c = clV S r c V E → E' c = clE S r c V E → (∀ d, d ≠ c → V' d = V d ∧ E' d = E d) → Q h' (k + 1) V' E'
theorem Wk_c {W0 : Int → Prop} {h h' : Int → Int} {k : Int} (e : ∀ i, 0 ≤ i → i < k → h' i = h i) : Wk W0 h' k = Wk W0 h k := by
  funext c
  unfold Wk
  rw [propext (oDn_c e)]
set_option maxHeartbeats 8000000 in
set_option maxRecDepth 20000 in
theorem ct_X0_calculateWaiting {T : gT} {I : gI} {J : gJ} {O : gO} {B p ca : Nat} {S : Int → Int} {r o : Int} {W0 : Int → Prop} {Q : (Int → Int) → Int → (Int → Int64) → (Int → Int) → Prop} (hP : RpAt T O p) (hca : ca = p + 15) (hB : p + 28 ≤ B) (hL : LkR I p S r) (hE : EnF S r 144 (I (ca + 3)) (I ca 4)) (hFs : ∀ f, 0 ≤ f → f < I ca 4 → ∃ fa fl, O (ca + 4) f = some fa ∧ fmH B T I O fa fl ∧ fmlAt S (idS S r (I (ca + 3) f)) fl) (n9 : I ca 4 ≤ 120) (hR : CsIs (J (ca + 6 + 1)) (Rw S r W0)) (hW : ∀ c, W0 c → isFm S r c) (ho : (o = 1 ∧ I ca 6 = 0) ∨ (o = 0)) (hnf : ∀ c, inC S r c → ¬ far (vV I ca c)) (hQ0 : ∀ h, Q h 0 (vV I ca) (I (ca + 2))) (hQs : stepQ S r W0 Q) : Ct yX0_calculateWaiting cX0_calculateWaiting 6 none [va_rf (some ca), va_rf (some p), VI o] 4 104 0 0 T I J O (cwP9 T I J O ca S r o W0 Q) := by
  refine Ct.of (by decide) [some (va_rf (some ca)), some (va_rf (some p)), some (VI o), none, none, none] (gEn1 (List.forall_mem_cons.mpr ⟨cat_VR _, List.forall_mem_cons.mpr ⟨cat_VR _, List.forall_mem_cons.mpr ⟨cat_VI _, fun _ h => nomatch h⟩⟩⟩) rfl (Nat.le_of_ble_eq_true rfl) rfl) ?_
  intro X x en rm ini hr hz
  have hr0 := hr
  have hM : CaAt T O ca := by rw [hca]; exact hP.s_calculation
  have n8 := hE.1
  have loop : ∀ (d k : Nat) (h : Int → Int) (I1 : gI) (J1 : gJ) (y4 y5 : Option Value), (k : Int) + d = I ca 4 → cwS9 I I1 J J1 ca S r o W0 Q h k → G X 2 [some (va_rf (some ca)), some (va_rf (some p)), some (VI o), some (VI (k : Int)), y4, y5] [] T I1 J1 O 0 0 := by
    intro d
    induction d with
    | zero =>
      intro k h I1 J1 y4 y5 hd hv
      obtain ⟨v1, v2, v3, v4, v5, v6, v7⟩ := hv
      have e4 : I1 ca 4 = I ca 4 := v1 _ _ (by omega) (by omega) (by omega) (by omega)
      refine G_rg (fun hr => ?_)
      refine G_iload3 x eX0_calculateWaiting_2 ?_
      refine G_aload0 x eX0_calculateWaiting_3 ?_
      refine G_geti x eX0_calculateWaiting_4 fX0_80 rfl rfl hM.m (fun h4 => ?_)
      rw [e4]
      refine G_icmp_ge x eX0_calculateWaiting_7 (by first | omega | exact hr _ _ | exact hr0 _ _ | exact hrS _) (by first | omega | exact hr _ _ | exact hr0 _ _ | exact hrS _) (fun c7 => ?_) (fun c7 => ?_)
      · refine G_return x en eX0_calculateWaiting_99 (by omega) (by omega) ?_
        exact ⟨rfl, rfl, rfl, h, k, ⟨by omega, by omega⟩, ⟨v1, v2, v3, v4, v5, v6, v7⟩, fun c hc => hc.1.2 (by have h9 := all9 hE (fun i i0 i1 => hW _ (v3 i i0 (by omega)).1.1.1) (fun i j i0 i1 i2 e => (v3 j (by omega) (by omega)).1.1.2 ⟨i, i0, i1, e⟩) c (hW c hc.1.1); rw [show (k : Int) = I ca 4 by omega]; exact h9)⟩
      · omega
    | succ d ih =>
      intro k h I1 J1 y4 y5 hd hv
      have hv' := hv
      obtain ⟨v1, v2, v3, v4, v5, v6, v7⟩ := hv
      have e4 : I1 ca 4 = I ca 4 := v1 _ _ (by omega) (by omega) (by omega) (by omega)
      have e3 : I1 (ca + 3) = I (ca + 3) := funext fun j => v1 _ _ (by omega) (by omega) (by omega) (by omega)
      have hE1 : EnF S r 144 (I1 (ca + 3)) (I1 ca 4) := by rw [e3, e4]; exact hE
      have cF := ct_X0_firstReady (T := T) (I := I1) (J := J1) (O := O) (W := Wk W0 h k) hM hE1 (by omega) v4 (fun c hc => hW c hc.1)
      have hL1 : LkR I1 p S r := hL.c (fun b j b1 b2 => v1 b j (by omega) (by omega) (by omega) (by omega))
      have hi1 : hiK B T T I I1 O O := ⟨Nat.le_refl _, fun b b1 b2 => ⟨rfl, fun j => v1 b j (by omega) (by omega) (by omega) (by omega), fun _ => rfl⟩⟩
      -- one is ready
      have go : ∀ f, 0 ≤ f → f < I ca 4 → rdW S r (Wk W0 h k) (I (ca + 3) f) → (∀ c, rdW S r (Wk W0 h k) c → I (ca + 3) f ≤ c) → G X 23 [some (va_rf (some ca)), some (va_rf (some p)), some (VI o), some (VI (k : Int)), some (VI f), y5] [] T I1 J1 O 0 0 := by
        intro f f0 f1 hrd hmin
        obtain ⟨fa, fl, a1, a2, a3⟩ := hFs f f0 f1
        have cb := hE.2.2.2.1 f f0 f1
        have hF1 : fmG T I1 O fa fl := (a2.mv hi1).1
        have cD := ct_X1_drop (I := I1) (s := 144) (c := I (ca + 3) f) hM.s_references v4 (by omega) (by omega) cb.1 cb.2.1
        have cL := fun J2 : gJ => ct_X0_calculateFormula (J := J2) (c := I (ca + 3) f) hM hP hL1 hF1 (fl_le a3.2.2) a3.2.2.2.1 cb.1 cb.2.1 (by omega) a3.2.2.1
        have hA := clcF_A (E := I1 (ca + 2)) v6 a3 (fl_le a3.2.2) a2.2.2.2
        have hnfA := clA_nf (S := S) (r := r) (V := vV I1 ca) (E := I1 (ca + 2)) fl none 0 far0
        generalize clA S r (vV I1 ca) (I1 (ca + 2)) fl none 0 = res at *
        obtain ⟨cc, hcc⟩ : ∃ cc, cc = I (ca + 3) f := ⟨_, rfl⟩
        rw [← hcc] at hrd hmin cb cD cL a3 hA
        have e3f : I1 (ca + 3) f = cc := by rw [e3, hcc]
        obtain ⟨I2, hI2⟩ : ∃ I2, I2 = uI (uI (uI I1 ca 10 res.1) (ca + 2) cc res.1) (ca + 1) cc (if res.1 = 0 then res.2.toInt else 0) := ⟨_, rfl⟩
        have cL : ∀ J2 : gJ, _ := fun J2 => cL J2
        have i2f : ∀ b j, b ≠ ca + 1 → b ≠ ca + 2 → (b ≠ ca ∨ j ≠ 10) → I2 b j = I1 b j := fun b j b1 b2 b3 => by rw [hI2, uI_a b1, uI_a b2, uI_o b3]
        have i2V : ∀ j, I2 (ca + 1) j = if j = cc then (if res.1 = 0 then res.2.toInt else 0) else I1 (ca + 1) j := fun j => by
          rw [hI2]
          by_cases q : j = cc
          · rw [if_pos q, q, uI_s]
          · rw [if_neg q, uI_k q, uI_a (by omega), uI_a (by omega)]
        have i2E : ∀ j, I2 (ca + 2) j = if j = cc then res.1 else I1 (ca + 2) j := fun j => by
          rw [hI2, uI_a (by omega)]
          by_cases q : j = cc
          · rw [if_pos q, q, uI_s]
          · rw [if_neg q, uI_k q, uI_a (by omega)]
        have vcc : Int64.ofInt (if res.1 = 0 then res.2.toInt else 0) = if res.1 = 0 then res.2 else 0 := by
          by_cases q : res.1 = 0
          · rw [if_pos q, if_pos q]; exact Int64.ofInt_toInt _
          · rw [if_neg q, if_neg q]; rfl
        have hclV : (if res.1 = 0 then res.2 else 0) = clV S r cc (vV I1 ca) (I1 (ca + 2)) := by
          unfold clV
          rw [← hA.1]
          by_cases q : (clcF S r (idS S r cc) (vV I1 ca) (I1 (ca + 2))).1 = 0
          · rw [if_pos q, if_pos q, hA.2 q]
          · rw [if_neg q, if_neg q]
        -- what comes behind, whatever else is written
        have nxt : ∀ (I3 : gI) (J2 : gJ), (∀ b j, b ≠ ca + 6 + 1 → J2 b j = J1 b j) → CsIs (J2 (ca + 6 + 1)) (fun s' c' => Rw S r (Wk W0 h k) s' c' ∧ ¬ (s' = 144 ∧ c' = cc)) → cwF9 I I3 ca → (∀ j, I3 (ca + 1) j = I2 (ca + 1) j) → (∀ j, I3 (ca + 2) j = I2 (ca + 2) j) → ((o = 1 ∧ I3 ca 6 = (k : Int) + 1 ∧ ∀ i, 0 ≤ i → i < (k : Int) + 1 → I3 (ca + 5) i = if i = k then cc else h i) ∨ (o = 0 ∧ I3 ca 6 = I ca 6 ∧ ∀ j, I3 (ca + 5) j = I (ca + 5) j)) → ∀ y4 y5, G X 2 [some (va_rf (some ca)), some (va_rf (some p)), some (VI o), some (VI ((k : Int) + 1)), y4, y5] [] T I3 J2 O 0 0 := by
          intro I3 J2 m1 m2 m3 m4 m5 m6 y4 y5
          have hh : ∀ i, 0 ≤ i → i < (k : Int) → (fun i => if i = (k : Int) then cc else h i) i = h i := fun i i0 i1 => if_neg (by omega)
          have dn : ∀ c, oDn (fun i => if i = (k : Int) then cc else h i) ((k : Int) + 1) c ↔ oDn h k c ∨ c = cc := fun c => by
            constructor
            · rintro ⟨i, i0, i1, i2⟩
              by_cases q : i = (k : Int)
              · right; have i2 : (if i = (k : Int) then cc else h i) = c := i2; rw [if_pos q] at i2; exact i2.symm
              · left; exact ⟨i, i0, by omega, by have i2 : (if i = (k : Int) then cc else h i) = c := i2; rw [if_neg q] at i2; exact i2⟩
            · rintro (⟨i, i0, i1, i2⟩ | e)
              · exact ⟨i, i0, by omega, by show (if i = (k : Int) then cc else h i) = c; rw [if_neg (by omega)]; exact i2⟩
              · exact ⟨k, by omega, by omega, by show (if (k : Int) = (k : Int) then cc else h k) = c; rw [if_pos rfl]; exact e.symm⟩
          have vN : ∀ c, vV I3 ca c = if c = cc then (if res.1 = 0 then res.2 else 0) else vV I1 ca c := fun c => by
            unfold vV
            rw [m4, i2V]
            by_cases q : c = cc
            · rw [if_pos q, if_pos q]; exact vcc
            · rw [if_neg q, if_neg q]
          have := ih (k + 1) (fun i => if i = (k : Int) then cc else h i) I3 J2 y4 y5 (by omega) ⟨m3, fun b j hb => (m1 b j hb).trans (v2 b j hb), fun i i0 i1 => by
            by_cases q : i = (k : Int)
            · subst q
              rw [Wk_c hh]
              show rdW S r (Wk W0 h k) (if (k : Int) = (k : Int) then cc else h k) ∧ ∀ d, rdW S r (Wk W0 h k) d → (if (k : Int) = (k : Int) then cc else h k) ≤ d
              rw [if_pos rfl]
              exact ⟨hrd, hmin⟩
            · rw [Wk_c (k := i) (fun j j0 j1 => hh j j0 (by omega))]
              show rdW S r (Wk W0 h i) (if i = (k : Int) then cc else h i) ∧ ∀ d, rdW S r (Wk W0 h i) d → (if i = (k : Int) then cc else h i) ≤ d
              rw [if_neg q]
              exact v3 i i0 (by omega), m2.iff (fun s c _ _ _ _ => by
            have e1 : ((k + 1 : Nat) : Int) = (k : Int) + 1 := by omega
            rw [e1]
            unfold Rw Wk
            rw [dn c]
            constructor
            · rintro ⟨a1 | ⟨a1, a2, a3⟩, a4⟩
              · exact Or.inl a1
              · exact Or.inr ⟨a1, a2, fun z => z.elim a3 (fun z => a4 ⟨a1, z⟩)⟩
            · rintro (a1 | ⟨a1, a2, a3⟩)
              · exact ⟨Or.inl a1, fun z => by have := a1.1; have := z.1; omega⟩
              · exact ⟨Or.inr ⟨a1, a2, fun z => a3 (Or.inl z)⟩, fun z => a3 (Or.inr z.2)⟩), by
            have e1 : ((k + 1 : Nat) : Int) = (k : Int) + 1 := by omega
            rw [e1]
            exact hQs h _ k _ _ _ _ cc v5 (by omega) hrd hmin hh (if_pos rfl) (by rw [vN, if_pos rfl]; exact hclV) (by rw [m5, i2E, if_pos rfl]; unfold clE; exact hA.1.symm) (fun d hd9 => ⟨by rw [vN, if_neg hd9], by rw [m5, i2E, if_neg hd9]⟩), fun c hc => by
            rw [vN]
            by_cases q : c = cc
            · rw [if_pos q]
              by_cases q2 : res.1 = 0
              · rw [if_pos q2]; exact hnfA q2
              · rw [if_neg q2]; exact far0
            · rw [if_neg q]; exact v6 c hc, by
            have e1 : ((k + 1 : Nat) : Int) = (k : Int) + 1 := by omega
            rw [e1]
            exact m6⟩
          rw [show ((k + 1 : Nat) : Int) = (k : Int) + 1 by omega] at this
          exact this
        have i26 : I2 ca 6 = I1 ca 6 := i2f _ _ (by omega) (by omega) (by omega)
        have i25 : ∀ j, I2 (ca + 5) j = I1 (ca + 5) j := fun j => i2f _ _ (by omega) (by omega) (by omega)
        have f2 : cwF9 I I2 ca := fun b j b1 b2 b3 b4 => (i2f b j b1 b2 (by omega)).trans (v1 b j b1 b2 b3 b4)
        have cL : ∀ J2 : gJ, Ct yX0_calculateFormula cX0_calculateFormula 10 none [va_rf (some ca), va_rf (some p), VI cc, va_rf (some fa)] 3 75 0 0 T I1 J2 O (pv none T I2 J2 O) := fun J2 => by rw [hI2]; exact cL J2
        rcases v7 with ⟨o1, o2, o3⟩ | ⟨o1, o2, o3⟩
        · subst o1
          have f3 : cwF9 I (uI (uI I2 (ca + 5) (k : Int) cc) ca 6 ((k : Int) + 1)) ca := fun b j b1 b2 b3 b4 => by rw [uI_o (by omega), uI_a b3]; exact f2 b j b1 b2 b3 b4
          have e6 : I2 ca 6 = (k : Int) := i26.trans o2
          have e62 : (uI I2 (ca + 5) (k : Int) cc) ca 6 = (k : Int) := by rw [uI_a (by omega)]; exact e6
          refine G_rg (fun hr => ?_)
          refine G_aload0 x eX0_calculateWaiting_23 ?_
          refine G_getq x eX0_calculateWaiting_24 fX0_18 rfl rfl hM.m hM.o_formulaCells ?_
          refine G_iload4 x eX0_calculateWaiting_27 ?_
          refine G_iald x eX0_calculateWaiting_29 rfl hM.t_formulaCells (by omega) (by omega) (by omega) (fun h29 => ?_)
          rw [e3f]
          refine G_istore5 x eX0_calculateWaiting_30 ?_
          refine G_aload0 x eX0_calculateWaiting_32 ?_
          refine G_getq x eX0_calculateWaiting_33 fX0_33 rfl rfl hM.m hM.o_references ?_
          refine G_push x eX0_calculateWaiting_36 ?_
          refine G_iload5 x eX0_calculateWaiting_39 ?_
          refine G_cVg x eX0_calculateWaiting_41 kX0_163 im_yX1_drop se_yX1_drop rm hM.s_references.m cD rfl (fun v41 T41 I41 J41 O41 p41 => ?_)
          refine G_rg (fun hr => ?_)
          obtain ⟨rfl, rfl, rfl, rfl, u1, u2⟩ := p41
          refine G_aload0 x eX0_calculateWaiting_44 ?_
          refine G_aload1 x eX0_calculateWaiting_45 ?_
          refine G_iload5 x eX0_calculateWaiting_46 ?_
          refine G_aload0 x eX0_calculateWaiting_48 ?_
          refine G_getq x eX0_calculateWaiting_49 fX0_23 rfl rfl hM.m hM.o_formulas ?_
          refine G_iload4 x eX0_calculateWaiting_52 ?_
          refine G_aald x eX0_calculateWaiting_54 rfl hM.t_formulas (fun _ => rfl) (by omega) (by omega) (by omega) ?_
          rw [a1]
          refine G_cVv x eX0_calculateWaiting_55 kX0_169 im_yX0_calculateFormula se_yX0_calculateFormula rm hM.m (cL _) rfl ?_
          refine G_iload2 x eX0_calculateWaiting_58 ?_
          refine G_if_eq x eX0_calculateWaiting_59 (by first | omega | exact hr _ _ | exact hr0 _ _ | exact hrS _) (fun c59 => ?_) (fun c59 => ?_)
          · refine G_iinc3 x eX0_calculateWaiting_93 ?_
            refine G_goto x eX0_calculateWaiting_96 ?_
            first | (exfalso; omega) | exact nxt _ _ u1 u2 f3 (fun j => by rw [uI_a (by omega), uI_a (by omega)]) (fun j => by rw [uI_a (by omega), uI_a (by omega)]) (Or.inl ⟨rfl, uI_s, fun i i0 i1 => by rw [uI_a (by omega)]; by_cases q : i = (k : Int); (rw [if_pos q, q, uI_s]); (rw [if_neg q, uI_k q, i25]; exact o3 i i0 (by omega))⟩) _ _
          · refine G_aload0 x eX0_calculateWaiting_62 ?_
            refine G_geti x eX0_calculateWaiting_63 fX0_54 rfl rfl hM.m (fun h63 => ?_)
            rw [e6]
            refine G_push x eX0_calculateWaiting_66 ?_
            refine G_icmp_ge x eX0_calculateWaiting_69 (by first | omega | exact hr _ _ | exact hr0 _ _ | exact hrS _) (by first | omega | exact hr _ _ | exact hr0 _ _ | exact hrS _) (fun c69 => ?_) (fun c69 => ?_)
            · refine G_iinc3 x eX0_calculateWaiting_93 ?_
              refine G_goto x eX0_calculateWaiting_96 ?_
              first | (exfalso; omega) | exact nxt _ _ u1 u2 f3 (fun j => by rw [uI_a (by omega), uI_a (by omega)]) (fun j => by rw [uI_a (by omega), uI_a (by omega)]) (Or.inl ⟨rfl, uI_s, fun i i0 i1 => by rw [uI_a (by omega)]; by_cases q : i = (k : Int); (rw [if_pos q, q, uI_s]); (rw [if_neg q, uI_k q, i25]; exact o3 i i0 (by omega))⟩) _ _
            · refine G_aload0 x eX0_calculateWaiting_72 ?_
              refine G_getq x eX0_calculateWaiting_73 fX0_27 rfl rfl hM.m hM.o_ordered ?_
              refine G_aload0 x eX0_calculateWaiting_76 ?_
              refine G_geti x eX0_calculateWaiting_77 fX0_54 rfl rfl hM.m (fun h77 => ?_)
              rw [e6]
              refine G_iload5 x eX0_calculateWaiting_80 ?_
              refine G_iast x eX0_calculateWaiting_82 rfl hM.t_ordered (by omega) (by omega) (by omega) (by first | omega | exact hr _ _ | exact hr0 _ _ | exact hrS _) ?_
              refine G_rg (fun hr => ?_)
              refine G_aload0 x eX0_calculateWaiting_83 ?_
              refine G_dup x eX0_calculateWaiting_84 (by first | rfl | exact cat_rf _) ?_
              refine G_geti x eX0_calculateWaiting_85 fX0_54 rfl rfl hM.m (fun h85 => ?_)
              rw [e62]
              refine G_push x eX0_calculateWaiting_88 ?_
              refine G_iadd x eX0_calculateWaiting_89 ?_
              refine G_puti x eX0_calculateWaiting_90 fX0_54 rfl (Or.inl rfl) rfl hM.m (by first | omega | exact hr _ _ | exact hr0 _ _ | exact hrS _) ?_
              refine G_rg (fun hr => ?_)
              refine G_iinc3 x eX0_calculateWaiting_93 ?_
              refine G_goto x eX0_calculateWaiting_96 ?_
              first | (exfalso; omega) | exact nxt _ _ u1 u2 f3 (fun j => by rw [uI_a (by omega), uI_a (by omega)]) (fun j => by rw [uI_a (by omega), uI_a (by omega)]) (Or.inl ⟨rfl, uI_s, fun i i0 i1 => by rw [uI_a (by omega)]; by_cases q : i = (k : Int); (rw [if_pos q, q, uI_s]); (rw [if_neg q, uI_k q, i25]; exact o3 i i0 (by omega))⟩) _ _
        · subst o1
          refine G_rg (fun hr => ?_)
          refine G_aload0 x eX0_calculateWaiting_23 ?_
          refine G_getq x eX0_calculateWaiting_24 fX0_18 rfl rfl hM.m hM.o_formulaCells ?_
          refine G_iload4 x eX0_calculateWaiting_27 ?_
          refine G_iald x eX0_calculateWaiting_29 rfl hM.t_formulaCells (by omega) (by omega) (by omega) (fun h29 => ?_)
          rw [e3f]
          refine G_istore5 x eX0_calculateWaiting_30 ?_
          refine G_aload0 x eX0_calculateWaiting_32 ?_
          refine G_getq x eX0_calculateWaiting_33 fX0_33 rfl rfl hM.m hM.o_references ?_
          refine G_push x eX0_calculateWaiting_36 ?_
          refine G_iload5 x eX0_calculateWaiting_39 ?_
          refine G_cVg x eX0_calculateWaiting_41 kX0_163 im_yX1_drop se_yX1_drop rm hM.s_references.m cD rfl (fun v41 T41 I41 J41 O41 p41 => ?_)
          refine G_rg (fun hr => ?_)
          obtain ⟨rfl, rfl, rfl, rfl, u1, u2⟩ := p41
          refine G_aload0 x eX0_calculateWaiting_44 ?_
          refine G_aload1 x eX0_calculateWaiting_45 ?_
          refine G_iload5 x eX0_calculateWaiting_46 ?_
          refine G_aload0 x eX0_calculateWaiting_48 ?_
          refine G_getq x eX0_calculateWaiting_49 fX0_23 rfl rfl hM.m hM.o_formulas ?_
          refine G_iload4 x eX0_calculateWaiting_52 ?_
          refine G_aald x eX0_calculateWaiting_54 rfl hM.t_formulas (fun _ => rfl) (by omega) (by omega) (by omega) ?_
          rw [a1]
          refine G_cVv x eX0_calculateWaiting_55 kX0_169 im_yX0_calculateFormula se_yX0_calculateFormula rm hM.m (cL _) rfl ?_
          refine G_iload2 x eX0_calculateWaiting_58 ?_
          refine G_if_eq x eX0_calculateWaiting_59 (by first | omega | exact hr _ _ | exact hr0 _ _ | exact hrS _) (fun c59 => ?_) (fun c59 => ?_)
          · refine G_iinc3 x eX0_calculateWaiting_93 ?_
            refine G_goto x eX0_calculateWaiting_96 ?_
            exact nxt _ _ u1 u2 f2 (fun _ => rfl) (fun _ => rfl) (Or.inr ⟨rfl, i26.trans o2, fun j => (i25 j).trans (o3 j)⟩) _ _
          · omega
      have go9 : ∀ f, ((f = -1 ∧ ∀ c, ¬ rdW S r (Wk W0 h k) c) ∨ ((0 ≤ f ∧ f < I1 ca 4) ∧ rdW S r (Wk W0 h k) (I1 (ca + 3) f) ∧ ∀ c, rdW S r (Wk W0 h k) c → I1 (ca + 3) f ≤ c)) → f ≠ -1 → G X 23 [some (va_rf (some ca)), some (va_rf (some p)), some (VI o), some (VI (k : Int)), some (VI f), y5] [] T I1 J1 O 0 0 := fun f hff hf1 => by
        rcases hff with z | ⟨z1, z2, z3⟩
        · exact absurd z.1 hf1
        · rw [e3] at z2 z3
          exact go f z1.1 (by omega) z2 z3
      refine G_rg (fun hr => ?_)
      refine G_iload3 x eX0_calculateWaiting_2 ?_
      refine G_aload0 x eX0_calculateWaiting_3 ?_
      refine G_geti x eX0_calculateWaiting_4 fX0_80 rfl rfl hM.m (fun h4 => ?_)
      rw [e4]
      refine G_icmp_ge x eX0_calculateWaiting_7 (by first | omega | exact hr _ _ | exact hr0 _ _ | exact hrS _) (by first | omega | exact hr _ _ | exact hr0 _ _ | exact hrS _) (fun c7 => ?_) (fun c7 => ?_)
      · omega
      · refine G_aload0 x eX0_calculateWaiting_10 ?_
        refine G_cVg x eX0_calculateWaiting_11 kX0_166 im_yX0_firstReady se_yX0_firstReady rm hM.m cF rfl (fun v11 T11 I11 J11 O11 p11 => ?_)
        refine G_rg (fun hr => ?_)
        obtain ⟨rfl, rfl, rfl, rfl, f, rfl, hff⟩ := p11
        have hf32 : in32 f := by rcases hff with z | z; omega; have := z.1; omega
        refine G_istore4 x eX0_calculateWaiting_14 ?_
        refine G_iload4 x eX0_calculateWaiting_16 ?_
        refine G_push x eX0_calculateWaiting_18 ?_
        refine G_icmp_ne x eX0_calculateWaiting_19 (by first | omega | exact hr _ _ | exact hr0 _ _ | exact hrS _) (by first | omega | exact hr _ _ | exact hr0 _ _ | exact hrS _) (fun c19 => ?_) (fun c19 => ?_)
        · exact go9 f hff (by omega)
        · refine G_return x en eX0_calculateWaiting_22 (by omega) (by omega) ?_
          exact ⟨rfl, rfl, rfl, h, k, ⟨by omega, by omega⟩, hv', by rcases hff with z | z; exact z.2; exact absurd z.1.1 (by omega)⟩
  have s0 := loop (I ca 4).toNat 0 (fun _ => 0) I J none none (by omega) ⟨fun _ _ _ _ _ _ => rfl, fun _ _ _ => rfl, fun i a b => by omega, hR.iff (fun s c _ _ _ _ => or_congr Iff.rfl (and_congr Iff.rfl ⟨fun z => ⟨z, fun ⟨i, i0, i1, _⟩ => by omega⟩, fun z => z.1⟩)), hQ0 _, hnf, ho.imp (fun z => ⟨z.1, z.2, fun i a b => by omega⟩) (fun z => ⟨z, rfl, fun _ => rfl⟩)⟩
  refine G_push x eX0_calculateWaiting_0 ?_
  refine G_istore3 x eX0_calculateWaiting_1 ?_
  exact s0
