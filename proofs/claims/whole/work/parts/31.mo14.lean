theorem getK_out {S : Int → Int} {r f : Int} (h0 : 0 ≤ r) (h1 : r < 3) (f0 : 0 ≤ f) (f1 : f < 3) (hv : ∀ k, 0 ≤ k → k < S f → opV S (40 * f + k)) (hs : S f ≤ 40) (hc : clOk S r) (hq : 0 ≤ S (3843 + 270 * r + (1 + f))) (k : Nat) (hk : S (3843 + 270 * r + (1 + f)) + k ≤ S f) (j : Int) (hj : j < 3843 + 270 * r + 6 ∨ 3843 + 270 * r + 270 ≤ j) (hj1 : j ≠ 3843 + 270 * r + (1 + f)) (hj2 : j ≠ 3843 + 270 * r + 0) : getK S r f k j = S j := by
  induction k with
  | zero => rfl
  | succ k ih =>
    obtain ⟨a1, a2, a3⟩ := getK_inv h0 h1 f0 f1 hv hs hc hq k (by omega)
    have hid : opV (get0 (getK S r f k) r f) (40 * f + getK S r f k (3843 + 270 * r + (1 + f))) := by
      rw [a3]
      refine opV_c (S := S) (by omega) (by omega) (fun j j0 j1 => ?_) (hv _ (by omega) (by omega))
      rw [get0_o (by omega) (by omega)]
      exact a1 j j1
    show carS _ _ _ j = _
    rw [carS_out hid hj, get0_o hj1 hj2]
    exact ih (by omega)
def rcAll (S : Int → Int) : Prop := ∀ r f, 0 ≤ r → r ≤ 2 → 0 ≤ f → f ≤ 2 → r ≠ f → rcOk S r f
theorem gtN_b {S : Int → Int} {r f n : Int} (h : rcOk S r f) (h1 : 1 ≤ n) : 0 ≤ gtN S r f n ∧ gtN S r f n ≤ n ∧ gtN S r f n ≤ 40 ∧ S (3843 + 270 * r + (1 + f)) + gtN S r f n ≤ S f := by
  obtain ⟨a1, a2, a3, a4, a5⟩ := h
  unfold gtN
  omega
theorem rcAll.get {S : Int → Int} {r f n : Int} (h : rcAll S) (h0 : 0 ≤ r) (h1 : r ≤ 2) (f0 : 0 ≤ f) (f1 : f ≤ 2) (hne : r ≠ f) (hn : 1 ≤ n) : rcAll (gtS S r f n) := by
  have hrf := h r f h0 h1 f0 f1 hne
  have hb := gtN_b hrf hn
  obtain ⟨a1, a2, a3, a4, a5⟩ := hrf
  have hk : S (3843 + 270 * r + (1 + f)) + ((gtN S r f n).toNat : Int) ≤ S f := by omega
  obtain ⟨i1, i2, i3⟩ := getK_inv h0 (by omega) f0 (by omega) a1 a2 a3 a4 _ hk
  have io := getK_out h0 (by omega) f0 (by omega) a1 a2 a3 a4 _ hk
  intro r2 f2 q0 q1 p0 p1 hne2
  obtain ⟨b1, b2, b3, b4, b5⟩ := h r2 f2 q0 q1 p0 p1 hne2
  have hf2 : gtS S r f n f2 = S f2 := i1 _ (by omega)
  refine ⟨fun k k0 k1 => ?_, by rw [hf2]; exact b2, ?_, ?_, ?_⟩
  · rw [hf2] at k1
    exact opV_c (by omega) (by omega) (fun j j0 j1 => i1 j j1) (b1 k k0 k1)
  · by_cases e : r2 = r
    · subst e; exact i2
    · intro c c0 c1
      have e2 : gtS S r f n (3843 + 270 * r2 + (126 + c)) = S (3843 + 270 * r2 + (126 + c)) := io _ (by omega) (by omega) (by omega)
      rw [e2]
      exact b3 c c0 c1
  · by_cases e : r2 = r
    · subst e
      by_cases e2 : f2 = f
      · subst e2
        show 0 ≤ getK _ _ _ _ _
        rw [i3]; omega
      · have e3 : gtS S r2 f n (3843 + 270 * r2 + (1 + f2)) = S (3843 + 270 * r2 + (1 + f2)) := io _ (by omega) (by omega) (by omega)
        rw [e3]; exact b4
    · have e3 : gtS S r f n (3843 + 270 * r2 + (1 + f2)) = S (3843 + 270 * r2 + (1 + f2)) := io _ (by omega) (by omega) (by omega)
      rw [e3]; exact b4
  · rw [hf2]
    by_cases e : r2 = r
    · subst e
      by_cases e2 : f2 = f
      · subst e2
        show getK _ _ _ _ _ ≤ _
        rw [i3]; omega
      · have e3 : gtS S r2 f n (3843 + 270 * r2 + (1 + f2)) = S (3843 + 270 * r2 + (1 + f2)) := io _ (by omega) (by omega) (by omega)
        rw [e3]; exact b5
    · have e3 : gtS S r f n (3843 + 270 * r2 + (1 + f2)) = S (3843 + 270 * r2 + (1 + f2)) := io _ (by omega) (by omega) (by omega)
      rw [e3]; exact b5
/-- all that is missing comes in: by pairs of replicas -/
def stK (S : Int → Int) : Nat → (Int → Int) × Int
  | 0 => (S, 0)
  | q + 1 => if q / 3 = q % 3 then stK S q else (gtS (stK S q).1 (q / 3 : Nat) (q % 3 : Nat) 40, (stK S q).2 + gtN (stK S q).1 (q / 3 : Nat) (q % 3 : Nat) 40)
theorem stK_inv {S : Int → Int} (h : rcAll S) (q : Nat) (hq : q ≤ 9) : rcAll (stK S q).1 ∧ 0 ≤ (stK S q).2 ∧ (stK S q).2 ≤ 40 * q := by
  induction q with
  | zero => exact ⟨h, by show (0 : Int) ≤ 0; omega, by show (0 : Int) ≤ _; omega⟩
  | succ q ih =>
    obtain ⟨a, b, c⟩ := ih (by omega)
    unfold stK
    split
    · exact ⟨a, b, by omega⟩
    · next e =>
      have hr := a (q / 3 : Nat) (q % 3 : Nat) (by omega) (by omega) (by omega) (by omega) (by omega)
      have hb := gtN_b (n := 40) hr (by omega)
      exact ⟨a.get (by omega) (by omega) (by omega) (by omega) (by omega) (by omega), by show 0 ≤ _ + _; omega, by show _ + _ ≤ _; omega⟩
set_option maxHeartbeats 2000000 in
set_option maxRecDepth 20000 in
theorem ct_X11_settle {T : gT} {I : gI} {J : gJ} {O : gO} {mo : Nat} (hM : MoAt T O mo) (h3 : 0 ≤ I mo 3 ∧ I mo 3 ≤ 4) (h4 : rcAll (I (mo + 1))) : Ct yX11_settle cX11_settle 4 (some .int) [va_rf (some mo)] 3 75 0 0 T I J O (mDo T I J O mo (stK (I (mo + 1)) 9).2 (stK (I (mo + 1)) 9).1) := by
  refine Ct.of (by decide) [some (va_rf (some mo)), none, none, none] (gEn1 (List.forall_mem_cons.mpr ⟨cat_VR _, fun _ h => nomatch h⟩) rfl (Nat.le_of_ble_eq_true rfl) rfl) ?_
  intro X x en rm ini hr hz
  have hr0 := hr
  have e0 := holdS (I := I) (I1 := I) (mo := mo) (fun _ => rfl)
  refine G_aload0 x eX11_settle_0 ?_
  refine G_cVv x eX11_settle_1 kX11_141 im_yX11_hold se_yX11_hold rm hM.m (ct_X11_hold hM) rfl ?_
  refine G_rg (fun hr => ?_)
  generalize hH : cpI I (mo + 3) (mo + 1) 0 0 4653 = H1 at *
  have loop : ∀ (d : Nat) (q : Nat) (r f : Int), d = 2 * (9 - q) + (if f = 3 then 1 else 0) → q ≤ 9 → 0 ≤ r → r ≤ 2 → 0 ≤ f → f ≤ 3 → 3 * r + f = q → G X 15 [some (va_rf (some mo)), some (VI (stK (I (mo + 1)) q).2), some (VI r), some (VI f)] [] T (rowI H1 (mo + 1) (stK (I (mo + 1)) q).1) J O 0 0 := by
    intro d
    induction d using Nat.strongRecOn with
    | ind d ih =>
    intro q r f hd hq r0 r1 f0 f1 hrf
    obtain ⟨b1, b2, b3⟩ := stK_inv h4 q hq
    have g0 : rowI H1 (mo + 1) (stK (I (mo + 1)) q).1 (mo + 1) = (stK (I (mo + 1)) q).1 := rowI_s
    refine G_iload3 x eX11_settle_15 ?_
    refine G_push x eX11_settle_16 ?_
    refine G_icmp_ge x eX11_settle_17 (by first | omega | exact hr _ _ | exact hr0 _ _) (by first | omega | exact hr _ _ | exact hr0 _ _) (fun c17 => ?_) (fun c17 => ?_)
    · rw [if_pos (by omega)] at hd
      have hend : ¬ r < 2 → G X 52 [some (va_rf (some mo)), some (VI (stK (I (mo + 1)) q).2), some (VI (r + 1)), some (VI f)] [] T (rowI H1 (mo + 1) (stK (I (mo + 1)) q).1) J O 0 0 := by
        intro hr2
        have hq9 : q = 9 := by omega
        subst hq9
        have e5 : rowI H1 (mo + 1) (stK (I (mo + 1)) 9).1 mo 3 = I mo 3 := by rw [rowI_o (by omega), ← hH, cpI_b (by omega)]
        refine G_aload0 x eX11_settle_52 ?_
        refine G_iload1 x eX11_settle_53 ?_
        refine G_cV x eX11_settle_54 kX11_148 im_yX11_ends se_yX11_ends rm hM.m (ct_X11_ends hM (by omega) (by rw [e5]; omega) (by rw [e5]; omega)) rfl ?_
        refine G_rg (fun hr => ?_)
        refine G_ireturn x en eX11_settle_57 (by omega) (by omega) ?_
        exact mDo_i (I1 := I) (fun b hb j => rfl) (fun _ => rfl) (fun _ => rfl) (fun _ => rfl) rfl rfl (fun b9 q1 q2 j q3 => by rw [rowI_o q1, hH]) (fun j q1 q2 => by rw [rowI_s])
      refine G_rg (fun hr => ?_)
      refine G_iinc2 x eX11_settle_46 ?_
      refine G_goto x eX11_settle_49 ?_
      refine G_iload2 x eX11_settle_8 ?_
      refine G_push x eX11_settle_9 ?_
      refine G_icmp_ge x eX11_settle_10 (by first | omega | exact hr _ _ | exact hr0 _ _) (by first | omega | exact hr _ _ | exact hr0 _ _) (fun c10 => ?_) (fun c10 => ?_)
      · exact hend (by omega)
      · refine G_push x eX11_settle_13 ?_
        refine G_istore3 x eX11_settle_14 ?_
        exact ih _ (by rw [if_neg (by omega)]; omega) q _ 0 rfl hq (by omega) (by omega) (by omega) (by omega) (by omega)
    · rw [if_neg (by omega)] at hd
      have hdv : q / 3 = r.toNat ∧ q % 3 = f.toNat := by omega
      have hnext : ∀ x S', (x, S') = ((stK (I (mo + 1)) (q + 1)).2, (stK (I (mo + 1)) (q + 1)).1) → G X 39 [some (va_rf (some mo)), some (VI (stK (I (mo + 1)) q).2), some (VI r), some (VI f)] [VI x] T (rowI H1 (mo + 1) S') J O 0 0 := by
        intro x S' he
        obtain ⟨rfl, rfl⟩ := Prod.mk.inj he
        refine G_rg (fun hr => ?_)
        refine G_istore1 x eX11_settle_39 ?_
        refine G_iinc3 x eX11_settle_40 ?_
        refine G_goto x eX11_settle_43 ?_
        exact ih _ (by split <;> omega) (q + 1) r (f + 1) rfl (by omega) r0 r1 (by omega) (by omega) (by omega)
      refine G_iload1 x eX11_settle_20 ?_
      refine G_iload3 x eX11_settle_21 ?_
      refine G_iload2 x eX11_settle_22 ?_
      refine G_icmp_ne x eX11_settle_23 (by first | omega | exact hr _ _ | exact hr0 _ _) (by first | omega | exact hr _ _ | exact hr0 _ _) (fun c23 => ?_) (fun c23 => ?_)
      · have hrc := b1 r f r0 r1 f0 (by omega) (by omega)
        obtain ⟨q1, q2, q3, q4, q5⟩ : rcOk (rowI H1 (mo + 1) (stK (I (mo + 1)) q).1 (mo + 1)) r f := by rw [g0]; exact hrc
        refine G_aload0 x eX11_settle_30 ?_
        refine G_iload2 x eX11_settle_31 ?_
        refine G_iload3 x eX11_settle_32 ?_
        refine G_push x eX11_settle_33 ?_
        refine G_cV x eX11_settle_35 kX11_287 im_yX11_gets se_yX11_gets rm hM.m (ct_X11_gets hM (by omega) (by omega) (by omega) (by omega) (by omega) (by omega) q1 q2 q3 q4 q5) rfl ?_
        refine G_iadd x eX11_settle_38 ?_
        rw [g0, rowI_rowI]
        refine hnext _ _ ?_
        have e9 : stK (I (mo + 1)) (q + 1) = (gtS (stK (I (mo + 1)) q).1 r f 40, (stK (I (mo + 1)) q).2 + gtN (stK (I (mo + 1)) q).1 r f 40) := by
          show (if q / 3 = q % 3 then _ else _) = _
          rw [if_neg (by omega), hdv.1, hdv.2, Int.toNat_of_nonneg r0, Int.toNat_of_nonneg f0]
        rw [e9]
        rfl
      · refine G_push x eX11_settle_26 ?_
        refine G_goto x eX11_settle_27 ?_
        refine G_iadd0 x eX11_settle_38 ?_
        refine hnext _ _ ?_
        have e9 : stK (I (mo + 1)) (q + 1) = stK (I (mo + 1)) q := by
          show (if q / 3 = q % 3 then _ else _) = _
          rw [if_pos (by omega)]
        rw [e9]
  refine G_rg (fun hr => ?_)
  refine G_push x eX11_settle_4 ?_
  refine G_istore1 x eX11_settle_5 ?_
  refine G_push x eX11_settle_6 ?_
  refine G_istore2 x eX11_settle_7 ?_
  refine G_iload2 x eX11_settle_8 ?_
  refine G_push x eX11_settle_9 ?_
  refine G_icmp_ge x eX11_settle_10 (by first | omega | exact hr _ _ | exact hr0 _ _) (by first | omega | exact hr _ _ | exact hr0 _ _) (fun c10 => ?_) (fun c10 => ?_)
  · exfalso; omega
  · refine G_push x eX11_settle_13 ?_
    refine G_istore3 x eX11_settle_14 ?_
    rw [← rowI_id (I := H1) (a := mo + 1), e0]; exact loop _ 0 0 0 rfl (by omega) (by omega) (by omega) (by omega) (by omega) (by omega)
