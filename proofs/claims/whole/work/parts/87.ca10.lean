/-! the calculation is the model's -/
theorem rd_c {S : Int → Int} {r k : Int} {h : Int → Int} (hp : ∀ i, 0 ≤ i → i < k → rdW S r (Wk (isFm S r) h i) (h i)) : ∀ x, oDn h k x → isFm S r x ∧ ∀ d, rfC S r x d → oDn h k d := by
  rintro x ⟨i, i0, i1, rfl⟩
  obtain ⟨h1, h2⟩ := hp i i0 i1
  refine ⟨h1.1, fun d hd => ?_⟩
  apply Classical.byContradiction
  intro hn
  exact h2 d ⟨hd.1.1.b.2, hd.1, hd.2.2, hd.2.1.1.b.2⟩ ⟨hd.2.1, fun ⟨j, j0, j1, j2⟩ => hn ⟨j, j0, by omega, j2⟩⟩
theorem rd_o {S : Int → Int} {r k : Int} {h : Int → Int} (hp : ∀ i, 0 ≤ i → i < k → rdW S r (Wk (isFm S r) h i) (h i)) (c : Int) : rdW S r (Wk (isFm S r) h k) c ↔ oRd S r h k c := by
  constructor
  · rintro ⟨⟨h1, h2⟩, h3⟩
    have h4 : ∀ d, rfC S r c d → oDn h k d := fun d hd => by
      apply Classical.byContradiction
      intro hn
      exact h3 d ⟨hd.1.1.b.2, hd.1, hd.2.2, hd.2.1.1.b.2⟩ ⟨hd.2.1, hn⟩
    exact ⟨h1, fun hy => h2 (hy (fun x => oDn h k x) h4 (fun x y hx hxy => (rd_c hp x hx).2 y hxy)), h2, h4⟩
  · rintro ⟨h1, h2, h3, h4⟩
    exact ⟨⟨h1, h3⟩, fun d hd hw => hw.2 (h4 d ⟨h1, hw.1, hd.2.2.1⟩)⟩
/-- errors, cycles marked -/
noncomputable def eC (S : Int → Int) (r : Int) (E : Int → Int) (c : Int) : Int := @ite Int (isFm S r c ∧ cyS S r c) (Classical.propDecidable _) 1 (E c)
theorem eC_t {S : Int → Int} {r c : Int} {E : Int → Int} (h : isFm S r c) (h2 : cyS S r c) : eC S r E c = 1 := @if_pos _ (Classical.propDecidable _) ⟨h, h2⟩ _ _ _
theorem eC_f {S : Int → Int} {r c : Int} {E : Int → Int} (h : ¬ (isFm S r c ∧ cyS S r c)) : eC S r E c = E c := @if_neg _ (Classical.propDecidable _) h _ _ _
def Q1 (S : Int → Int) (r : Int) (h : Int → Int) (k : Int) (V : Int → Int64) (E : Int → Int) : Prop := (∀ i, 0 ≤ i → i < k → rdW S r (Wk (isFm S r) h i) (h i)) ∧ wkK S r (oDn h k) V (eC S r E) ∧ (∀ x, oDn h k x → ¬ cyS S r x ∧ knS S r x) ∧ ∀ c, isFm S r c → cyS S r c → V c = 0
theorem Q1_s {S : Int → Int} {r : Int} (hf : fmOk S r) : stepQ S r (isFm S r) (Q1 S r) := by
  intro h h' k V E V' E' c hq k0 hrd hmin hh hk hV hE hd
  obtain ⟨q1, q2, q3, q4⟩ := hq
  have ho := (rd_o q1 c).mp hrd
  obtain ⟨o1, o2, o3, o4⟩ := ho
  have dn : ∀ x, oDn h' (k + 1) x ↔ oDn h k x ∨ x = c := fun x => by
    constructor
    · rintro ⟨i, i0, i1, i2⟩
      by_cases q : i = k
      · right; rw [← i2, q, hk]
      · left; exact ⟨i, i0, by omega, by rw [← hh i i0 (by omega)]; exact i2⟩
    · rintro (⟨i, i0, i1, i2⟩ | e)
      · exact ⟨i, i0, by omega, by rw [hh i i0 i1]; exact i2⟩
      · exact ⟨k, k0, by omega, by rw [hk, e]⟩
  have hcl : clcF S r (idS S r c) V E = clcF S r (idS S r c) V (eC S r E) := clcF_c (hf.1 c o1) (fun d d0 hd9 => ⟨rfl, by
    rw [eC_f]
    rintro ⟨z1, z2⟩
    exact (q3 d (o4 d ⟨o1, z1, hd9⟩)).1 z2⟩)
  refine ⟨fun i i0 i1 => ?_, ?_, fun x hx => ?_, fun x hx hy => ?_⟩
  · by_cases q : i = k
    · subst q; rw [hk, Wk_c hh]; exact hrd
    · rw [hh i i0 (by omega), Wk_c (k := i) (fun j j0 j1 => hh j j0 (by omega))]; exact q1 i i0 (by omega)
  · refine q2.add hf o1 o2 o3 (fun d hd9 => Or.inr (o4 d hd9)) (fun x hx hxf d hd9 => Or.inr ((rd_c q1 x hx).2 d hd9)) dn (by rw [hV]; unfold clV; rw [hcl]) (by rw [eC_f (fun z => o2 z.2), hE]; unfold clE; rw [hcl]) (fun x hx => (hd x hx).1) (fun x hx => ?_)
    by_cases z : isFm S r x ∧ cyS S r x
    · rw [eC_t z.1 z.2, eC_t z.1 z.2]
    · rw [eC_f z, eC_f z]; exact (hd x hx).2
  · rcases (dn x).mp hx with z | z
    · exact q3 x z
    · rw [z]; exact ⟨o2, knS.mk o1 o2 (fun d hd9 => Or.inr (q3 d (o4 d hd9)).2)⟩
  · have hne : x ≠ c := fun z => o2 (by rw [← z]; exact hy)
    rw [(hd x hne).1]; exact q4 x hx hy
/-- .. behind the cycles -/
def Q2 (S : Int → Int) (r : Int) (D : Int → Prop) (h : Int → Int) (k : Int) (V : Int → Int64) (E : Int → Int) : Prop := wkK S r (fun c => D c ∨ oDn h k c) V E ∧ ∀ x, D x ∨ oDn h k x → isFm S r x ∧ ¬ cyS S r x ∧ knS S r x ∧ ∀ d, rfC S r x d → cyS S r d ∨ D d ∨ oDn h k d
theorem Q2_s {S : Int → Int} {r : Int} {D : Int → Prop} (hf : fmOk S r) : stepQ S r (fun c => (isFm S r c ∧ ¬ D c) ∧ ¬ cyS S r c) (Q2 S r D) := by
  intro h h' k V E V' E' c hq k0 hrd hmin hh hk hV hE hd
  obtain ⟨q1, q2⟩ := hq
  obtain ⟨⟨⟨⟨o1, o2⟩, o3⟩, o4⟩, o5⟩ := hrd
  have dn : ∀ x, oDn h' (k + 1) x ↔ oDn h k x ∨ x = c := fun x => by
    constructor
    · rintro ⟨i, i0, i1, i2⟩
      by_cases q : i = k
      · right; rw [← i2, q, hk]
      · left; exact ⟨i, i0, by omega, by rw [← hh i i0 (by omega)]; exact i2⟩
    · rintro (⟨i, i0, i1, i2⟩ | e)
      · exact ⟨i, i0, by omega, by rw [hh i i0 i1]; exact i2⟩
      · exact ⟨k, k0, by omega, by rw [hk, e]⟩
  have g4 : ∀ d, rfC S r c d → cyS S r d ∨ D d ∨ oDn h k d := fun d hd9 => by
    apply Classical.byContradiction
    intro hn
    exact o5 d ⟨hd9.1.1.b.2, hd9.1, hd9.2.2, hd9.2.1.1.b.2⟩ ⟨⟨⟨hd9.2.1, fun z => hn (Or.inr (Or.inl z))⟩, fun z => hn (Or.inl z)⟩, fun z => hn (Or.inr (Or.inr z))⟩
  refine ⟨?_, fun x hx => ?_⟩
  · exact q1.add hf o1 o3 (fun z => z.elim o2 o4) g4 (fun x hx _ d hd9 => (q2 x hx).2.2.2 d hd9) (fun x => by rw [dn x]; exact or_assoc.symm) hV hE (fun x hx => (hd x hx).1) (fun x hx => (hd x hx).2)
  · have up : ∀ d, (cyS S r d ∨ D d ∨ oDn h k d) → cyS S r d ∨ D d ∨ oDn h' (k + 1) d := fun d z => z.imp (fun z => z) (fun z => z.imp (fun z => z) (fun z => (dn d).mpr (Or.inl z)))
    rcases hx with z | z
    · have := q2 x (Or.inl z)
      exact ⟨this.1, this.2.1, this.2.2.1, fun d hd9 => up d (this.2.2.2 d hd9)⟩
    · rcases (dn x).mp z with z | z
      · have := q2 x (Or.inr z)
        exact ⟨this.1, this.2.1, this.2.2.1, fun d hd9 => up d (this.2.2.2 d hd9)⟩
      · rw [z]
        exact ⟨o1, o3, knS.mk o1 o3 (fun d hd9 => (g4 d hd9).imp (fun z => z) (fun z => (q2 d z).2.2.1)), fun d hd9 => up d (g4 d hd9)⟩
/-- a calculation that is up to date -/
def CaR (I : gI) (J : gJ) (ca : Nat) (S : Int → Int) (r : Int) : Prop := EnF S r 144 (I (ca + 3)) (I ca 4) ∧ wkS S r (vV I ca) (I (ca + 2)) ∧ Ord S r (I (ca + 5)) (I ca 6) ∧ I ca 7 = ncS S r ∧ (∃ W, CsIs (J (ca + 6 + 1)) (Rw S r W)) ∧ CsIs (J (ca + 8 + 1)) (rdR S r (isFm S r))
theorem Q2_e {S : Int → Int} {r k : Int} {D : Int → Prop} {h : Int → Int} {V : Int → Int64} {E : Int → Int} (hq : Q2 S r D h k V E) (hn : ∀ c, ¬ rdW S r (Wk (fun c => (isFm S r c ∧ ¬ D c) ∧ ¬ cyS S r c) h k) c) : wkS S r V E := by
  obtain ⟨q1, q2⟩ := hq
  refine q1.c (fun c hc hy => ⟨fun z => (q2 c z).2.2.1, fun z => ?_⟩)
  refine z (fun c => D c ∨ oDn h k c) (fun g g1 g2 g3 => ?_)
  apply Classical.byContradiction
  intro hng
  refine hn g ⟨⟨⟨⟨g1, fun z => hng (Or.inl z)⟩, g2⟩, fun z => hng (Or.inr z)⟩, fun d hd hw => ?_⟩
  rcases g3 d ⟨g1, hw.1.1.1, hd.2.2.1⟩ with z | z | z
  · exact hw.1.2 z
  · exact hw.1.1.2 z
  · exact hw.2 z
theorem CaR.c {I I' : gI} {J J' : gJ} {ca : Nat} {S : Int → Int} {r : Int} (h : CaR I J ca S r) (e1 : ∀ b j, ca ≤ b → b ≤ ca + 9 → (b ≠ ca ∨ (j ≠ 11 ∧ j ≠ 10)) → I' b j = I b j) (e2 : ∀ b j, ca ≤ b → b ≤ ca + 9 → J' b j = J b j) : CaR I' J' ca S r := by
  obtain ⟨h1, h2, h3, h4, h5, h6⟩ := h
  have f3 : I' (ca + 3) = I (ca + 3) := funext fun j => e1 _ j (by omega) (by omega) (by omega)
  have f2 : I' (ca + 2) = I (ca + 2) := funext fun j => e1 _ j (by omega) (by omega) (by omega)
  have f5 : I' (ca + 5) = I (ca + 5) := funext fun j => e1 _ j (by omega) (by omega) (by omega)
  have f1 : vV I' ca = vV I ca := funext fun j => by unfold vV; rw [e1 _ j (by omega) (by omega) (by omega)]
  have g7 : J' (ca + 6 + 1) = J (ca + 6 + 1) := funext fun j => e2 _ j (by omega) (by omega)
  have g9 : J' (ca + 8 + 1) = J (ca + 8 + 1) := funext fun j => e2 _ j (by omega) (by omega)
  unfold CaR
  rw [f3, f2, f5, f1, g7, g9, e1 ca 4 (by omega) (by omega) (by omega), e1 ca 6 (by omega) (by omega) (by omega), e1 ca 7 (by omega) (by omega) (by omega)]
  exact ⟨h1, h2, h3, h4, h5, h6⟩
def utP (T : gT) (I : gI) (J : gJ) (O : gO) (ca : Nat) (S : Int → Int) (r : Int) : gP := fun v T' I' J' O' => v = some (va_rf (some ca)) ∧ T' = T ∧ (∀ b j, (b < ca ∨ ca + 9 < b) → I' b j = I b j) ∧ (∀ b j, (b < ca ∨ ca + 9 < b) → J' b j = J b j) ∧ (∀ b j, b ≠ ca + 4 → O' b j = O b j) ∧ CaR I' J' ca S r ∧ I' ca 11 = 1
set_option maxHeartbeats 8000000 in
set_option maxRecDepth 20000 in
theorem ct_X0_upToDate {T : gT} {I : gI} {J : gJ} {O : gO} {B p ca : Nat} {S : Int → Int} {r : Int} (hP : RpAt T O p) (hca : ca = p + 15) (hB : p + 28 ≤ B) (hR : RpR B T I O p S r) (hW : clW S r) (hf : fmOk S r) (r0 : 0 ≤ r) (r1 : r ≤ 2) (hnf : ∀ c, inC S r c → ¬ far (valS S r c)) (hup : I ca 11 = 0 ∨ (I ca 11 = 1 ∧ CaR I J ca S r)) : Ct yX0_upToDate cX0_upToDate 2 (some (.object "SharedSheet$Calculation")) [va_rf (some ca), va_rf (some p)] 5 129 0 0 T I J O (utP T I J O ca S r) := by
  refine Ct.of (by decide) [some (va_rf (some ca)), some (va_rf (some p))] (gEn1 (List.forall_mem_cons.mpr ⟨cat_VR _, List.forall_mem_cons.mpr ⟨cat_VR _, fun _ h => nomatch h⟩⟩) rfl (Nat.le_of_ble_eq_true rfl) rfl) ?_
  intro X x en rm ini hr hz
  have hr0 := hr
  have hM : CaAt T O ca := by rw [hca]; exact hP.s_calculation
  rcases hup with hup | ⟨hup, hC⟩
  · have cR1 := ct_X0_readCells (J := J) hP hca hB hR hW hf r0 r1
    have go : ∀ I1 O1, crF I I1 O O1 ca → cr1 B T I1 O1 ca S r 144 → G X 12 [some (va_rf (some ca)), some (va_rf (some p))] [] T I1 J O1 0 0 := by
      intro I1 O1 k1 k2
      have hP1 : RpAt T O1 p := hP.mv (fun _ _ _ => rfl) (fun b j b1 b2 b3 => k1.2 b j (by omega))
      have hM1 : CaAt T O1 ca := by rw [hca]; exact hP1.s_calculation
      have hL1 : LkR I1 p S r := hR.L.c (fun b j b1 b2 => k1.1 b j (by omega) (by omega) (by omega) (by omega))
      have hE := k2.1
      have n9 := hE.n hf
      have n8 := hE.1
      have cR2 := fun J2 : gJ => ct_X0_findReferences (J := J2) hP1 hca hL1 k2 hf
      -- behind the references
      have go2 : ∀ J2, (∀ b j, b ≠ ca + 6 + 1 → J2 b j = J b j) → CsIs (J2 (ca + 6 + 1)) (rfR S r) → G X 17 [some (va_rf (some ca)), some (va_rf (some p))] [] T I1 J2 O1 0 0 := by
        intro J2 m1 m2
        have cR3 := ct_X0_findCycles (T := T) (I := I1) (J := J2) (O := O1) hM1 hE n9 m2
        have go3 : ∀ J3, (∀ b j, b ≠ ca + 8 + 1 → J3 b j = J2 b j) → CsIs (J3 (ca + 8 + 1)) (rdR S r (isFm S r)) → G X 26 [some (va_rf (some ca)), some (va_rf (some p))] [] T (uI I1 ca 6 0) J3 O1 0 0 := by
          intro J3 w1 w2
          have g4 : (uI I1 ca 6 0) ca 4 = I1 ca 4 := uI_k (by omega)
          have g3 : (uI I1 ca 6 0) (ca + 3) = I1 (ca + 3) := uI_f (by omega)
          have g1 : vV (uI I1 ca 6 0) ca = vV I1 ca := funext fun j => by unfold vV; rw [uI_a (by omega)]
          have g2 : (uI I1 ca 6 0) (ca + 2) = I1 (ca + 2) := uI_f (by omega)
          have hFs : ∀ f, 0 ≤ f → f < I1 ca 4 → ∃ fa fl, O1 (ca + 4) f = some fa ∧ fmH B T (uI I1 ca 6 0) O1 fa fl ∧ fmlAt S (idS S r (I1 (ca + 3) f)) fl := fun f f0 f1 => by
            obtain ⟨fa, fl, a1, a2, a3⟩ := k2.2.1 f f0 f1
            exact ⟨fa, fl, a1, a2.mv ⟨Nat.le_refl _, fun b b1 b2 => ⟨rfl, fun j => uI_a (by omega) j, fun _ => rfl⟩⟩, a3⟩
          have v0 : ∀ c, inC S r c → vV I1 ca c = valS S r c ∧ I1 (ca + 2) c = 0 := fun c hc => k2.2.2 c hc hc.b.2
          have fm0 : ∀ c, isFm S r c → valS S r c = 0 := fun c hc => by unfold valS; rw [if_neg (fun z => by have := hc.2.2; omega)]
          have q10 : ∀ h, Q1 S r h 0 (vV (uI I1 ca 6 0) ca) ((uI I1 ca 6 0) (ca + 2)) := fun h => by
            rw [g1, g2]
            have no : ∀ x, ¬ oDn h 0 x := fun x ⟨i, i0, i1, _⟩ => by omega
            refine ⟨fun i a b => by omega, fun c hc => ⟨fun hn => ⟨(v0 c hc).1, by rw [eC_f (fun z => hn z.1)]; exact (v0 c hc).2⟩, fun hfm => ⟨fun hy => ⟨(v0 c hc).1.trans (fm0 c hfm), eC_t hfm hy⟩, fun hy => ⟨fun z => absurd z (no c), fun _ => ⟨(v0 c hc).1.trans (fm0 c hfm), by rw [eC_f (fun z => hy z.2)]; exact (v0 c hc).2⟩⟩⟩⟩, fun x hx => absurd hx (no x), fun c hfm _ => (v0 c hfm.1).1.trans (fm0 c hfm)⟩
          have cR4 := ct_X0_calculateWaiting (T := T) (I := uI I1 ca 6 0) (J := J3) (O := O1) (o := 1) (W0 := isFm S r) (Q := Q1 S r) hP1 hca hB (hL1.c (fun b j b1 b2 => uI_a (by omega) j)) (by rw [g3, g4]; exact hE) (by rw [g3, g4]; exact hFs) (by rw [g4]; exact n9) (by rw [show J3 (ca + 6 + 1) = J2 (ca + 6 + 1) from funext fun j => w1 _ j (by omega)]; exact m2.iff (fun s c _ _ _ _ => or_congr ⟨fun z => ⟨z.1, z⟩, fun z => z.2⟩ Iff.rfl)) (fun c hc => hc) (Or.inl ⟨rfl, uI_s⟩) (by rw [g1]; exact fun c hc => by rw [(v0 c hc).1]; exact hnf c hc) q10 (Q1_s hf)
          have go4 : ∀ I4 J4 h1 k1', (0 ≤ k1' ∧ k1' ≤ (uI I1 ca 6 0) ca 4) → cwS9 (uI I1 ca 6 0) I4 J3 J4 ca S r 1 (isFm S r) (Q1 S r) h1 k1' → (∀ c, ¬ rdW S r (Wk (isFm S r) h1 k1') c) → G X 32 [some (va_rf (some ca)), some (va_rf (some p))] [] T I4 J4 O1 0 0 := by
            intro I4 J4 h1 kk1 hk hcw hno
            obtain ⟨c1, c2, c3, c4, c5, c6, c7⟩ := hcw
            have x4 : I4 ca 4 = I1 ca 4 := (c1 _ _ (by omega) (by omega) (by omega) (by omega)).trans g4
            have x3 : I4 (ca + 3) = I1 (ca + 3) := (funext fun j => c1 _ j (by omega) (by omega) (by omega) (by omega)).trans g3
            have hE4 : EnF S r 144 (I4 (ca + 3)) (I4 ca 4) := by rw [x3, x4]; exact hE
            have hD4 : CsIs (J4 (ca + 8 + 1)) (rdR S r (isFm S r)) := by rw [show J4 (ca + 8 + 1) = J3 (ca + 8 + 1) from funext fun j => c2 _ j (by omega)]; exact w2
            have cR5 := ct_X0_endWaitOfCycles (T := T) (I := I4) (J := J4) (O := O1) (W := Wk (isFm S r) h1 kk1) hM1 hE4 (by omega) c4 (fun c hc => hc.1) hD4
            have ord : Ord S r h1 kk1 := ⟨⟨hk.1, fun i i0 i1 => ⟨(rd_o (fun j j0 j1 => (c3 j j0 (by omega)).1) (h1 i)).mp (c3 i i0 i1).1, fun c hc => (c3 i i0 i1).2 c ((rd_o (fun j j0 j1 => (c3 j j0 (by omega)).1) c).mpr hc)⟩⟩, fun c hc => hno c ((rd_o (fun j j0 j1 => (c3 j j0 j1).1) c).mpr hc)⟩
            have c7 := c7.resolve_right (fun z => by have := z.1; omega)
            have go5 : ∀ I5 J5, ewP T I4 J4 O1 ca S r (Wk (isFm S r) h1 kk1) none T I5 J5 O1 → G X 36 [some (va_rf (some ca)), some (va_rf (some p))] [] T I5 J5 O1 0 0 := by
              rintro I5 J5 ⟨-, -, -, e1, e2, e3, e4, e5, e6⟩
              have y4 : I5 ca 4 = I1 ca 4 := (e1 _ _ (by omega) (by omega)).trans x4
              have y3 : I5 (ca + 3) = I1 (ca + 3) := (funext fun j => e1 _ j (by omega) (by omega)).trans x3
              have yV : vV I5 ca = vV I4 ca := funext fun j => by unfold vV; rw [e1 _ j (by omega) (by omega)]
              have yE : I5 (ca + 2) = eC S r (I4 (ca + 2)) := funext fun c => by
                by_cases q : isFm S r c ∧ cyS S r c
                · rw [eC_t q.1 q.2]; exact e4 c q.1 q.2
                · rw [eC_f q]; exact e5 c q
              have hi5 : hiK B T T I1 I5 O1 O1 := ⟨Nat.le_refl _, fun b b1 b2 => ⟨rfl, fun j => by rw [e1 b j (by omega) (by omega), c1 b j (by omega) (by omega) (by omega) (by omega), uI_a (by omega)], fun _ => rfl⟩⟩
              have hFs5 : ∀ f, 0 ≤ f → f < I1 ca 4 → ∃ fa fl, O1 (ca + 4) f = some fa ∧ fmH B T I5 O1 fa fl ∧ fmlAt S (idS S r (I1 (ca + 3) f)) fl := fun f f0 f1 => by
                obtain ⟨fa, fl, a1, a2, a3⟩ := k2.2.1 f f0 f1
                exact ⟨fa, fl, a1, a2.mv hi5, a3⟩
              have hL5 : LkR I5 p S r := hL1.c (fun b j b1 b2 => by rw [e1 b j (by omega) (by omega), c1 b j (by omega) (by omega) (by omega) (by omega), uI_a (by omega)])
              have q20 : ∀ h, Q2 S r (oDn h1 kk1) h 0 (vV I5 ca) (I5 (ca + 2)) := fun h => by
                have no : ∀ x, ¬ oDn h 0 x := fun x ⟨i, i0, i1, _⟩ => by omega
                rw [yV, yE]
                exact ⟨c5.2.1.c (fun c _ _ => ⟨Or.inl, fun z => z.elim (fun z => z) (fun z => absurd z (no c))⟩), fun x hx => by
                  have hx := hx.resolve_right (no x)
                  have rc := rd_c (fun j j0 j1 => (c3 j j0 j1).1) x hx
                  exact ⟨rc.1, (c5.2.2.1 x hx).1, (c5.2.2.1 x hx).2, fun d hd => Or.inr (Or.inl (rc.2 d hd))⟩⟩
              have cR6 := ct_X0_calculateWaiting (T := T) (I := I5) (J := J5) (O := O1) (o := 0) (W0 := fun c => (isFm S r c ∧ ¬ oDn h1 kk1 c) ∧ ¬ cyS S r c) (Q := Q2 S r (oDn h1 kk1)) hP1 hca hB hL5 (by rw [y3, y4]; exact hE) (by rw [y3, y4]; exact hFs5) (by rw [y4]; exact n9) e6 (fun c hc => hc.1.1) (Or.inr rfl) (by rw [yV]; exact c6) q20 (Q2_s hf)
              have go6 : ∀ I6 J6 h2 kk2, cwS9 I5 I6 J5 J6 ca S r 0 (fun c => (isFm S r c ∧ ¬ oDn h1 kk1 c) ∧ ¬ cyS S r c) (Q2 S r (oDn h1 kk1)) h2 kk2 → (∀ c, ¬ rdW S r (Wk (fun c => (isFm S r c ∧ ¬ oDn h1 kk1 c) ∧ ¬ cyS S r c) h2 kk2) c) → G X 42 [some (va_rf (some ca)), some (va_rf (some p))] [] T I6 J6 O1 0 0 := by
                intro I6 J6 h2 kk2 hcw2 hno2
                obtain ⟨d1, d2, d3, d4, d5, d6, d7⟩ := hcw2
                have d7 := d7.resolve_left (fun z => by have := z.1; omega)
                have z4 : I6 ca 4 = I1 ca 4 := (d1 _ _ (by omega) (by omega) (by omega) (by omega)).trans y4
                have z3 : I6 (ca + 3) = I1 (ca + 3) := (funext fun j => d1 _ j (by omega) (by omega) (by omega) (by omega)).trans y3
                have z6 : I6 ca 6 = kk1 := by rw [d7.2.1, e1 _ _ (by omega) (by omega)]; exact c7.2.1
                have z5 : ∀ i, 0 ≤ i → i < kk1 → I6 (ca + 5) i = h1 i := fun i i0 i1 => by rw [d7.2.2 i, e1 _ _ (by omega) (by omega)]; exact c7.2.2 i i0 i1
                have z7 : I6 ca 7 = ncS S r := by
                  rw [d1 _ _ (by omega) (by omega) (by omega) (by omega), e3, x3, x4]
                  have fe := fm_eq hE
                  unfold ncS
                  rw [← fe.1]
                  exact sm_c _ (fun i i0 i1 => by rw [fe.2 i i0 (by omega)])
                have hC : CaR (uI I6 ca 11 1) J6 ca S r := by
                  have hC6 : CaR I6 J6 ca S r := by
                    refine ⟨by rw [z3, z4]; exact hE, Q2_e d5 hno2, ?_, z7, ⟨_, d4⟩, by rw [show J6 (ca + 8 + 1) = J4 (ca + 8 + 1) from funext fun j => by rw [d2 _ j (by omega), e2 _ j (by omega)]]; exact hD4⟩
                    rw [z6]
                    obtain ⟨⟨oa, ob⟩, oc⟩ := ord
                    refine ⟨⟨oa, fun i i0 i1 => ?_⟩, fun c hc => oc c ((oRd_c (fun j j0 j1 => z5 j j0 j1)).mp hc)⟩
                    rw [z5 i i0 i1]
                    exact ⟨(oRd_c (fun j j0 j1 => z5 j j0 (by omega))).mpr (ob i i0 i1).1, fun c hc => (ob i i0 i1).2 c ((oRd_c (fun j j0 j1 => z5 j j0 (by omega))).mp hc)⟩
                  exact hC6.c (fun b j b1 b2 b3 => uI_o (by omega)) (fun _ _ _ _ => rfl)
                have fI : ∀ b j, (b < ca ∨ ca + 9 < b) → (uI I6 ca 11 1) b j = I b j := fun b j hb => by
                  rw [uI_a (by omega), d1 b j (by omega) (by omega) (by omega) (by omega), e1 b j (by omega) (by omega), c1 b j (by omega) (by omega) (by omega) (by omega), uI_a (by omega)]
                  exact k1.1 b j (by omega) (by omega) (by omega) (by omega)
                have fJ : ∀ b j, (b < ca ∨ ca + 9 < b) → J6 b j = J b j := fun b j hb => by rw [d2 b j (by omega), e2 b j (by omega), c2 b j (by omega), w1 b j (by omega), m1 b j (by omega)]
                refine G_rg (fun hr => ?_)
                refine G_aload0 x eX0_upToDate_42 ?_
                refine G_push x eX0_upToDate_43 ?_
                refine G_putz x eX0_upToDate_44 fX0_40 rfl (Or.inl rfl) rfl hM1.m (by omega) ?_
                refine G_rg (fun hr => ?_)
                refine G_aload0 x eX0_upToDate_47 ?_
                refine G_areturn x en (by first | exact Or.inl ⟨_, rfl⟩ | exact Or.inr ⟨_, rfl⟩) eX0_upToDate_48 (by omega) (by omega) ?_
                exact ⟨rfl, rfl, fI, fJ, k1.2, hC, uI_s⟩
              refine G_aload0 x eX0_upToDate_36 ?_
              refine G_aload1 x eX0_upToDate_37 ?_
              refine G_push x eX0_upToDate_38 ?_
              refine G_cVg x eX0_upToDate_39 kX0_58 im_yX0_calculateWaiting se_yX0_calculateWaiting rm hM1.m cR6 rfl (fun v39 T39 I39 J39 O39 p39 => ?_)
              refine G_rg (fun hr => ?_)
              obtain ⟨rfl, rfl, rfl, h2, kk2, -, hcw2, hno2⟩ := p39
              exact go6 _ _ h2 kk2 hcw2 hno2
            refine G_aload0 x eX0_upToDate_32 ?_
            refine G_cVg x eX0_upToDate_33 kX0_62 im_yX0_endWaitOfCycles se_yX0_endWaitOfCycles rm hM1.m cR5 rfl (fun v33 T33 I33 J33 O33 p33 => ?_)
            refine G_rg (fun hr => ?_)
            have p33' := p33
            obtain ⟨rfl, rfl, rfl, -⟩ := p33
            exact go5 _ _ p33'
          refine G_aload0 x eX0_upToDate_26 ?_
          refine G_aload1 x eX0_upToDate_27 ?_
          refine G_push x eX0_upToDate_28 ?_
          refine G_cVg x eX0_upToDate_29 kX0_58 im_yX0_calculateWaiting se_yX0_calculateWaiting rm hM1.m cR4 rfl (fun v29 T29 I29 J29 O29 p29 => ?_)
          refine G_rg (fun hr => ?_)
          obtain ⟨rfl, rfl, rfl, h1, kk1, hk, hcw, hno⟩ := p29
          exact go4 _ _ h1 kk1 hk hcw hno
        refine G_aload0 x eX0_upToDate_17 ?_
        refine G_cVg x eX0_upToDate_18 kX0_51 im_yX0_findCycles se_yX0_findCycles rm hM1.m cR3 rfl (fun v18 T18 I18 J18 O18 p18 => ?_)
        refine G_rg (fun hr => ?_)
        obtain ⟨rfl, rfl, rfl, rfl, w1, w2⟩ := p18
        refine G_aload0 x eX0_upToDate_21 ?_
        refine G_push x eX0_upToDate_22 ?_
        refine G_puti x eX0_upToDate_23 fX0_54 rfl (Or.inl rfl) rfl hM1.m (by first | omega | exact hr _ _ | exact hr0 _ _ | exact hrS _) ?_
        refine G_rg (fun hr => ?_)
        exact go3 _ w1 w2
      refine G_aload0 x eX0_upToDate_12 ?_
      refine G_aload1 x eX0_upToDate_13 ?_
      refine G_cVg x eX0_upToDate_14 kX0_48 im_yX0_findReferences se_yX0_findReferences rm hM1.m (cR2 J) rfl (fun v14 T14 I14 J14 O14 p14 => ?_)
      refine G_rg (fun hr => ?_)
      obtain ⟨rfl, rfl, rfl, rfl, m1, m2⟩ := p14
      exact go2 _ m1 m2
    refine G_aload0 x eX0_upToDate_0 ?_
    refine G_geti x eX0_upToDate_1 fX0_40 rfl rfl hM.m (fun h1 => ?_)
    rw [hup]
    refine G_if_ne x eX0_upToDate_4 (by omega) (fun c4 => ?_) (fun c4 => ?_)
    · omega
    · refine G_aload0 x eX0_upToDate_7 ?_
      refine G_aload1 x eX0_upToDate_8 ?_
      refine G_cVg x eX0_upToDate_9 kX0_44 im_yX0_readCells se_yX0_readCells rm hM.m cR1 rfl (fun v9 T9 I9 J9 O9 p9 => ?_)
      refine G_rg (fun hr => ?_)
      obtain ⟨rfl, rfl, rfl, k1, k2⟩ := p9
      exact go _ _ k1 k2
  · refine G_aload0 x eX0_upToDate_0 ?_
    refine G_geti x eX0_upToDate_1 fX0_40 rfl rfl hM.m (fun h1 => ?_)
    rw [hup]
    refine G_if_ne x eX0_upToDate_4 (by omega) (fun c4 => ?_) (fun c4 => ?_)
    · refine G_rg (fun hr => ?_)
      refine G_aload0 x eX0_upToDate_47 ?_
      refine G_areturn x en (by first | exact Or.inl ⟨_, rfl⟩ | exact Or.inr ⟨_, rfl⟩) eX0_upToDate_48 (by omega) (by omega) ?_
      exact ⟨rfl, rfl, fun _ _ _ => rfl, fun _ _ _ => rfl, fun _ _ _ => rfl, hC, hup⟩
    · omega
