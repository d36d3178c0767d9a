section GT
variable {X : gX} {cc : ByteArray} {own : String} {pc q : Nat} {Ls : List (Option Value)} {st : List Value} {T : gT} {I : gI} {J : gJ} {O : gO} {k n : Nat}
theorem i32_ti {a : Int} (h : in32 a) : (Int32.ofInt a).toInt = a := Int32.toInt_ofInt_of_le h.1 (by have := h.2; omega)
theorem G_tin {a dflt lo hi off : Int} {offs : Array Int} {len tgt : Nat} (x : Ok X cc own) (d : decode cc pc = .ok (.tableswitch dflt lo hi offs, len)) (ha : in32 a) (h1 : lo ≤ a) (h2 : a ≤ hi) (ho : offs[(a - lo).toNat]? = some off) (ht : (pc : Int) + off = (tgt : Int)) (h : G X tgt Ls st T I J O k n) : G X pc Ls (VI a :: st) T I J O k n := by
  obtain ⟨p, l, e, R, s, m, args, below, meth, c, E, Q⟩ := X
  intro H locs ls hW hS hL
  have e := i32_ti ha
  exact lv_tableIn x.1 x.2.1 d (by rw [e]; omega) (by rw [e]; omega) (by rw [e]; exact ho) ht (h H locs ls hW hS hL)
theorem G_tout {a dflt lo hi : Int} {offs : Array Int} {len tgt : Nat} (x : Ok X cc own) (d : decode cc pc = .ok (.tableswitch dflt lo hi offs, len)) (ha : in32 a) (h1 : a < lo ∨ hi < a) (ht : (pc : Int) + dflt = (tgt : Int)) (h : G X tgt Ls st T I J O k n) : G X pc Ls (VI a :: st) T I J O k n := by
  obtain ⟨p, l, e, R, s, m, args, below, meth, c, E, Q⟩ := X
  intro H locs ls hW hS hL
  have e := i32_ti ha
  exact lv_tableOut x.1 x.2.1 d (by rw [e]; exact h1) ht (h H locs ls hW hS hL)
theorem G_look {a dflt off : Int} {ps : Array (Int × Int)} {len tgt : Nat} (x : Ok X cc own) (d : decode cc pc = .ok (.lookupswitch dflt ps, len)) (ha : in32 a) (hp : (ps.toList.zip (ps.toList.drop 1)).all (fun (a, next) => a.1 < next.1) = true) (ho : Op.lookupswitch.offset ps.toList dflt a = off) (ht : (pc : Int) + off = (tgt : Int)) (h : G X tgt Ls st T I J O k n) : G X pc Ls (VI a :: st) T I J O k n := by
  obtain ⟨p, l, e, R, s, m, args, below, meth, c, E, Q⟩ := X
  intro H locs ls hW hS hL
  have e := i32_ti ha
  exact lv_lookup x.1 x.2.1 d hp (by rw [e]; exact ho) ht (h H locs ls hW hS hL)
end GT
/-- the formulas of a replica, in the order of their positions -/
noncomputable def fmF (S : Int → Int) (r : Int) : Int → Int := Classical.choose (En.ex (fun x => x) (isFm S r) 144)
noncomputable def fmN (S : Int → Int) (r : Int) : Int := Classical.choose (Classical.choose_spec (En.ex (fun x => x) (isFm S r) 144))
theorem fmE (S : Int → Int) (r : Int) : EnF S r 144 (fmF S r) (fmN S r) := Classical.choose_spec (Classical.choose_spec (En.ex (fun x => x) (isFm S r) 144))
theorem fm_eq {S : Int → Int} {r n : Int} {f : Int → Int} (h : EnF S r 144 f n) : n = fmN S r ∧ ∀ i, 0 ≤ i → i < n → f i = fmF S r i := by
  have := En.uniq2 (fmE S r) h
  exact ⟨this.1, fun i h1 h2 => this.2 i h1 (by omega)⟩
/-- the values and errors of a replica -/
noncomputable def vlP (S : Int → Int) (r : Int) : (Int → Int64) × (Int → Int) := Classical.epsilon (fun p => wkS S r p.1 p.2)
theorem vl_eq {S : Int → Int} {r : Int} {V : Int → Int64} {E : Int → Int} (hf : fmOk S r) (h : wkS S r V E) : ∀ c, inC S r c → V c = (vlP S r).1 c ∧ E c = (vlP S r).2 c := wkS.u hf h (Classical.epsilon_spec (p := fun p : (Int → Int64) × (Int → Int) => wkS S r p.1 p.2) ⟨(V, E), h⟩)
theorem sm_z {m : Int → Int} (a b : Nat) (h : a ≤ b) (hz : ∀ i, (a : Int) ≤ i → i < (b : Int) → m i = 0) : sm m b = sm m a := by
  induction b with
  | zero => rw [show a = 0 by omega]
  | succ b ih =>
    by_cases e : a = b + 1
    · rw [e]
    · show sm m b + m b = _
      rw [ih (by omega) (fun i x y => hz i x (by omega)), hz b (by omega) (by omega), Int.add_zero]
/-- how many cells a formula refers to -/
noncomputable def nrS (S : Int → Int) (r c : Int) : Int := sm (fun d => b01 (rfS S r (idS S r c) d)) 144
set_option maxRecDepth 20000 in
theorem ct_X11_referred {T : gT} {I : gI} {J : gJ} {O : gO} {mo : Nat} {S : Int → Int} {r f : Int} (hM : MoAt T O mo) (hA : gvA I mo S r) (hn : I mo 16 ≤ 120) (f0 : 0 ≤ f) (f1 : f < I mo 16) : Ct yX11_referred cX11_referred 5 (some .int) [va_rf (some mo), VI f] 0 0 0 0 T I J O (pv (some (VI (nrS S r (I (mo + 9) f)))) T I J O) := by
  refine Ct.of (by decide) [some (va_rf (some mo)), some (VI f), none, none, none] (gEn1 (List.forall_mem_cons.mpr ⟨cat_VR _, List.forall_mem_cons.mpr ⟨cat_VI _, fun _ h => nomatch h⟩⟩) rfl (Nat.le_of_ble_eq_true rfl) rfl) ?_
  intro X x en rm ini hr hz
  have hr0 := hr
  have b1 := rwB S r 0 (-1)
  have b2 := rwB S r 1 (-1)
  have e9 := hA.1.2.1
  have e10 := hA.1.2.2.1
  have hv := fun d d0 d1 => hA.2.2.2.1 f d f0 f1 d0 d1
  have hz : ∀ d, 0 ≤ d → ¬ inC S r d → b01 (rfS S r (idS S r (I (mo + 9) f)) d) = 0 := fun d d0 h => b01_f (fun z => h (rfS_in d0 z))
  have hb := fun n : Nat => sm_b (m := fun d => b01 (rfS S r (idS S r (I (mo + 9) f)) d)) n (fun _ _ _ => b01_b)
  have inner : ∀ (d : Nat) (row : Nat) (col : Nat), d = (rwN S r 1 (-1) - col).toNat → (row : Int) < rwN S r 0 (-1) → (col : Int) ≤ rwN S r 1 (-1) →
      (∀ o4, G X 4 [some (va_rf (some mo)), some (VI f), some (VI (sm (fun d => b01 (rfS S r (idS S r (I (mo + 9) f)) d)) (12 * (row + 1)))), some (VI ((row + 1 : Nat) : Int)), o4] [] T I J O 0 0) →
      G X 15 [some (va_rf (some mo)), some (VI f), some (VI (sm (fun d => b01 (rfS S r (idS S r (I (mo + 9) f)) d)) (12 * row + col))), some (VI (row : Int)), some (VI (col : Int))] [] T I J O 0 0 := by
    intro d
    induction d using Nat.strongRecOn with
    | ind d ih =>
    intro row col hd r1 q1 kk
    have hbn := hb (12 * row + col)
    refine G_iload4 x eX11_referred_15 ?_
    refine G_aload0 x eX11_referred_17 ?_
    refine G_geti x eX11_referred_18 fX11_102 rfl rfl hM.m (fun h18 => ?_)
    rw [e10]
    refine G_icmp_ge x eX11_referred_21 (by first | omega | exact hr _ _ | exact hr0 _ _ | exact hrS _) (by first | omega | exact hr _ _ | exact hr0 _ _ | exact hrS _) (fun c21 => ?_) (fun c21 => ?_)
    · have h9 := sm_z (m := fun d => b01 (rfS S r (idS S r (I (mo + 9) f)) d)) (12 * row + col) (12 * (row + 1)) (by omega) (fun i a b => hz i (by omega) (fun z => by have := z.2.1; have := z.2.2; omega))
      refine G_rg (fun hr => ?_)
      refine G_iinc3 x eX11_referred_59 ?_
      refine G_goto x eX11_referred_62 ?_
      rw [← h9]; exact kk _
    · have hvv := hv (12 * row + col) (by omega) (by omega)
      have nx : ∀ z, z = b01 (rfS S r (idS S r (I (mo + 9) f)) (12 * (row : Int) + col)) → G X 15 [some (va_rf (some mo)), some (VI f), some (VI (sm (fun d => b01 (rfS S r (idS S r (I (mo + 9) f)) d)) (12 * row + col) + z)), some (VI (row : Int)), some (VI ((col : Int) + 1))] [] T I J O 0 0 := fun z hz9 => by
        have h9 := ih _ (by omega) row (col + 1) rfl r1 (by omega) kk
        have e : sm (fun d => b01 (rfS S r (idS S r (I (mo + 9) f)) d)) (12 * row + (col + 1)) = sm (fun d => b01 (rfS S r (idS S r (I (mo + 9) f)) d)) (12 * row + col) + z := by
          rw [hz9]
          show sm _ (12 * row + col + 1) = _
          rw [sm, show ((12 * row + col : Nat) : Int) = 12 * (row : Int) + col by omega]
        rw [e] at h9
        exact h9
      refine G_iload2 x eX11_referred_24 ?_
      refine G_aload0 x eX11_referred_25 ?_
      refine G_getq x eX11_referred_26 fX11_47 rfl rfl hM.m hM.o_refers ?_
      refine G_push x eX11_referred_29 ?_
      refine G_iload1 x eX11_referred_32 ?_
      refine G_imul x eX11_referred_33 ?_
      refine G_push x eX11_referred_34 ?_
      refine G_iload3 x eX11_referred_36 ?_
      refine G_imul x eX11_referred_37 ?_
      refine G_iadd x eX11_referred_38 ?_
      refine G_iload4 x eX11_referred_39 ?_
      refine G_iadd x eX11_referred_41 ?_
      refine G_zald x eX11_referred_42 rfl hM.t_refers (by omega) (by omega) (by omega) (fun h42 => ?_)
      rw [show 144 * f + 12 * (row : Int) + (col : Int) = 144 * f + (12 * (row : Int) + col) by omega, hvv]
      refine G_if_eq x eX11_referred_43 (by have := b01_b (p := rfS S r (idS S r (I (mo + 9) f)) (12 * (row : Int) + col)); omega) (fun c43 => ?_) (fun c43 => ?_)
      · refine G_rg (fun hr => ?_)
        refine G_push x eX11_referred_50 ?_
        refine G_iadd0 x eX11_referred_51 ?_
        refine G_istore2 x eX11_referred_52 ?_
        refine G_iinc4 x eX11_referred_53 ?_
        refine G_goto x eX11_referred_56 ?_
        have h8 := nx 0 c43.symm; rw [Int.add_zero] at h8; exact h8
      · refine G_rg (fun hr => ?_)
        refine G_push x eX11_referred_46 ?_
        refine G_goto x eX11_referred_47 ?_
        refine G_iadd x eX11_referred_51 ?_
        refine G_istore2 x eX11_referred_52 ?_
        refine G_iinc4 x eX11_referred_53 ?_
        refine G_goto x eX11_referred_56 ?_
        exact nx 1 (by have := b01_b (p := rfS S r (idS S r (I (mo + 9) f)) (12 * (row : Int) + col)); omega)
  have outer : ∀ (d : Nat) (row : Nat) (o4 : Option Value), d = (rwN S r 0 (-1) - row).toNat → (row : Int) ≤ rwN S r 0 (-1) → G X 4 [some (va_rf (some mo)), some (VI f), some (VI (sm (fun d => b01 (rfS S r (idS S r (I (mo + 9) f)) d)) (12 * row))), some (VI (row : Int)), o4] [] T I J O 0 0 := by
    intro d
    induction d using Nat.strongRecOn with
    | ind d ih =>
    intro row o4 hd r1
    have hbn := hb (12 * row)
    refine G_iload3 x eX11_referred_4 ?_
    refine G_aload0 x eX11_referred_5 ?_
    refine G_geti x eX11_referred_6 fX11_99 rfl rfl hM.m (fun h6 => ?_)
    rw [e9]
    refine G_icmp_ge x eX11_referred_9 (by first | omega | exact hr _ _ | exact hr0 _ _ | exact hrS _) (by first | omega | exact hr _ _ | exact hr0 _ _ | exact hrS _) (fun c9 => ?_) (fun c9 => ?_)
    · have h9 := sm_z (m := fun d => b01 (rfS S r (idS S r (I (mo + 9) f)) d)) (12 * row) 144 (by omega) (fun i a b => hz i (by omega) (fun z => by have := z.2.1; omega))
      refine G_rg (fun hr => ?_)
      refine G_iload2 x eX11_referred_65 ?_
      refine G_ireturn x en eX11_referred_66 (by omega) (by omega) ?_
      rw [← h9]; exact pv_i
    · refine G_rg (fun hr => ?_)
      refine G_push x eX11_referred_12 ?_
      refine G_istore4 x eX11_referred_13 ?_
      exact inner _ row 0 rfl (by omega) (by omega) (fun o4 => ih _ (by omega) _ _ rfl (by omega))
  refine G_rg (fun hr => ?_)
  refine G_push x eX11_referred_0 ?_
  refine G_istore2 x eX11_referred_1 ?_
  refine G_push x eX11_referred_2 ?_
  refine G_istore3 x eX11_referred_3 ?_
  exact outer _ 0 _ rfl (by omega)
/-- how many formulas refer to a cell; how many are on cycles -/
noncomputable def ngS (S : Int → Int) (r c : Int) : Int := sm (fun f => b01 (rfS S r (idS S r (fmF S r f)) c)) (fmN S r).toNat
noncomputable def ncS (S : Int → Int) (r : Int) : Int := sm (fun f => b01 (cyS S r (fmF S r f))) (fmN S r).toNat
set_option maxRecDepth 20000 in
theorem ct_X11_referring {T : gT} {I : gI} {J : gJ} {O : gO} {mo : Nat} {S : Int → Int} {r c : Int} (hM : MoAt T O mo) (hA : gvA I mo S r) (hn : I mo 16 ≤ 120) (c0 : 0 ≤ c) (c1 : c < 144) : Ct yX11_referring cX11_referring 4 (some .int) [va_rf (some mo), VI c] 0 0 0 0 T I J O (pv (some (VI (ngS S r c))) T I J O) := by
  refine Ct.of (by decide) [some (va_rf (some mo)), some (VI c), none, none] (gEn1 (List.forall_mem_cons.mpr ⟨cat_VR _, List.forall_mem_cons.mpr ⟨cat_VI _, fun _ h => nomatch h⟩⟩) rfl (Nat.le_of_ble_eq_true rfl) rfl) ?_
  intro X x en rm ini hr hz
  have hr0 := hr
  have hu := fm_eq hA.2.1
  have hn0 := hA.2.1.1
  have hb := fun n : Nat => sm_b (m := fun f => b01 (rfS S r (idS S r (fmF S r f)) c)) n (fun _ _ _ => b01_b)
  have loop : ∀ (d : Nat) (k : Nat), d = (I mo 16 - k).toNat → (k : Int) ≤ I mo 16 → G X 4 [some (va_rf (some mo)), some (VI c), some (VI (sm (fun f => b01 (rfS S r (idS S r (fmF S r f)) c)) k)), some (VI (k : Int))] [] T I J O 0 0 := by
    intro d
    induction d using Nat.strongRecOn with
    | ind d ih =>
    intro k hd k1
    have hbn := hb k
    refine G_iload3 x eX11_referring_4 ?_
    refine G_aload0 x eX11_referring_5 ?_
    refine G_geti x eX11_referring_6 fX11_211 rfl rfl hM.m (fun h6 => ?_)
    refine G_icmp_ge x eX11_referring_9 (by first | omega | exact hr _ _ | exact hr0 _ _ | exact hrS _) (by first | omega | exact hr _ _ | exact hr0 _ _ | exact hrS _) (fun c9 => ?_) (fun c9 => ?_)
    · refine G_rg (fun hr => ?_)
      refine G_iload2 x eX11_referring_41 ?_
      refine G_ireturn x en eX11_referring_42 (by omega) (by omega) ?_
      unfold ngS; rw [← hu.1, show (I mo 16).toNat = k by omega]; exact pv_i
    · have hvv := hA.2.2.2.1 k c (by omega) (by omega) c0 c1
      rw [hu.2 k (by omega) (by omega)] at hvv
      have nx : ∀ z, z = b01 (rfS S r (idS S r (fmF S r k)) c) → G X 4 [some (va_rf (some mo)), some (VI c), some (VI (sm (fun f => b01 (rfS S r (idS S r (fmF S r f)) c)) k + z)), some (VI ((k : Int) + 1))] [] T I J O 0 0 := fun z hz => by
        rw [hz]
        exact ih _ (by omega) (k + 1) rfl (by omega)
      refine G_iload2 x eX11_referring_12 ?_
      refine G_aload0 x eX11_referring_13 ?_
      refine G_getq x eX11_referring_14 fX11_47 rfl rfl hM.m hM.o_refers ?_
      refine G_push x eX11_referring_17 ?_
      refine G_iload3 x eX11_referring_20 ?_
      refine G_imul x eX11_referring_21 ?_
      refine G_iload1 x eX11_referring_22 ?_
      refine G_iadd x eX11_referring_23 ?_
      refine G_zald x eX11_referring_24 rfl hM.t_refers (by omega) (by omega) (by omega) (fun h24 => ?_)
      rw [hvv]
      refine G_if_eq x eX11_referring_25 (by have := b01_b (p := rfS S r (idS S r (fmF S r k)) c); omega) (fun c25 => ?_) (fun c25 => ?_)
      · refine G_rg (fun hr => ?_)
        refine G_push x eX11_referring_32 ?_
        refine G_iadd0 x eX11_referring_33 ?_
        refine G_istore2 x eX11_referring_34 ?_
        refine G_iinc3 x eX11_referring_35 ?_
        refine G_goto x eX11_referring_38 ?_
        have h8 := nx 0 c25.symm; rw [Int.add_zero] at h8; exact h8
      · refine G_rg (fun hr => ?_)
        refine G_push x eX11_referring_28 ?_
        refine G_goto x eX11_referring_29 ?_
        refine G_iadd x eX11_referring_33 ?_
        refine G_istore2 x eX11_referring_34 ?_
        refine G_iinc3 x eX11_referring_35 ?_
        refine G_goto x eX11_referring_38 ?_
        exact nx 1 (by have := b01_b (p := rfS S r (idS S r (fmF S r k)) c); omega)
  refine G_rg (fun hr => ?_)
  refine G_push x eX11_referring_0 ?_
  refine G_istore2 x eX11_referring_1 ?_
  refine G_push x eX11_referring_2 ?_
  refine G_istore3 x eX11_referring_3 ?_
  exact loop _ 0 rfl (by omega)
set_option maxRecDepth 20000 in
theorem ct_X11_cycleMany {T : gT} {I : gI} {J : gJ} {O : gO} {mo : Nat} {S : Int → Int} {r : Int} (hM : MoAt T O mo) (hA : gvA I mo S r) (hn : I mo 16 ≤ 120) : Ct yX11_cycleMany cX11_cycleMany 3 (some .int) [va_rf (some mo)] 0 0 0 0 T I J O (pv (some (VI (ncS S r))) T I J O) := by
  refine Ct.of (by decide) [some (va_rf (some mo)), none, none] (gEn1 (List.forall_mem_cons.mpr ⟨cat_VR _, fun _ h => nomatch h⟩) rfl (Nat.le_of_ble_eq_true rfl) rfl) ?_
  intro X x en rm ini hr hz
  have hr0 := hr
  have hu := fm_eq hA.2.1
  have hn0 := hA.2.1.1
  have hb := fun n : Nat => sm_b (m := fun f => b01 (cyS S r (fmF S r f))) n (fun _ _ _ => b01_b)
  have loop : ∀ (d : Nat) (k : Nat), d = (I mo 16 - k).toNat → (k : Int) ≤ I mo 16 → G X 4 [some (va_rf (some mo)), some (VI (sm (fun f => b01 (cyS S r (fmF S r f))) k)), some (VI (k : Int))] [] T I J O 0 0 := by
    intro d
    induction d using Nat.strongRecOn with
    | ind d ih =>
    intro k hd k1
    have hbn := hb k
    refine G_iload2 x eX11_cycleMany_4 ?_
    refine G_aload0 x eX11_cycleMany_5 ?_
    refine G_geti x eX11_cycleMany_6 fX11_211 rfl rfl hM.m (fun h6 => ?_)
    refine G_icmp_ge x eX11_cycleMany_9 (by first | omega | exact hr _ _ | exact hr0 _ _ | exact hrS _) (by first | omega | exact hr _ _ | exact hr0 _ _ | exact hrS _) (fun c9 => ?_) (fun c9 => ?_)
    · refine G_rg (fun hr => ?_)
      refine G_iload1 x eX11_cycleMany_35 ?_
      refine G_ireturn x en eX11_cycleMany_36 (by omega) (by omega) ?_
      unfold ncS; rw [← hu.1, show (I mo 16).toNat = k by omega]; exact pv_i
    · have hvv := hA.2.2.2.2 k (by omega) (by omega)
      rw [hu.2 k (by omega) (by omega)] at hvv
      have nx : ∀ z, z = b01 (cyS S r (fmF S r k)) → G X 4 [some (va_rf (some mo)), some (VI (sm (fun f => b01 (cyS S r (fmF S r f))) k + z)), some (VI ((k : Int) + 1))] [] T I J O 0 0 := fun z hz => by
        rw [hz]
        exact ih _ (by omega) (k + 1) rfl (by omega)
      refine G_iload1 x eX11_cycleMany_12 ?_
      refine G_aload0 x eX11_cycleMany_13 ?_
      refine G_getq x eX11_cycleMany_14 fX11_51 rfl rfl hM.m hM.o_cyclic ?_
      refine G_iload2 x eX11_cycleMany_17 ?_
      refine G_zald x eX11_cycleMany_18 rfl hM.t_cyclic (by omega) (by omega) (by omega) (fun h18 => ?_)
      rw [hvv]
      refine G_if_eq x eX11_cycleMany_19 (by have := b01_b (p := cyS S r (fmF S r k)); omega) (fun c19 => ?_) (fun c19 => ?_)
      · refine G_rg (fun hr => ?_)
        refine G_push x eX11_cycleMany_26 ?_
        refine G_iadd0 x eX11_cycleMany_27 ?_
        refine G_istore1 x eX11_cycleMany_28 ?_
        refine G_iinc2 x eX11_cycleMany_29 ?_
        refine G_goto x eX11_cycleMany_32 ?_
        have h8 := nx 0 c19.symm; rw [Int.add_zero] at h8; exact h8
      · refine G_rg (fun hr => ?_)
        refine G_push x eX11_cycleMany_22 ?_
        refine G_goto x eX11_cycleMany_23 ?_
        refine G_iadd x eX11_cycleMany_27 ?_
        refine G_istore1 x eX11_cycleMany_28 ?_
        refine G_iinc2 x eX11_cycleMany_29 ?_
        refine G_goto x eX11_cycleMany_32 ?_
        exact nx 1 (by have := b01_b (p := cyS S r (fmF S r k)); omega)
  refine G_rg (fun hr => ?_)
  refine G_push x eX11_cycleMany_0 ?_
  refine G_istore1 x eX11_cycleMany_1 ?_
  refine G_push x eX11_cycleMany_2 ?_
  refine G_istore2 x eX11_cycleMany_3 ?_
  exact loop _ 0 rfl (by omega)
/-- something about a cell -/
noncomputable def tlS (S : Int → Int) (r c w : Int) : Int :=
  if w = 0 then (if idS S r c = -1 then 0 else S (3 + 32 * idS S r c + 5))
  else if w = 1 then (if idS S r c = -1 then -1 else S (3 + 32 * idS S r c + 1))
  else if w = 2 then (if idS S r c = -1 then -1 else idS S r c / 40)
  else if w = 3 then (if idS S r c = -1 ∨ S (3 + 32 * idS S r c + 5) ≠ 1 then 0 else S (3 + 32 * idS S r c + 6))
  else if w = 4 then (if b01 (isFm S r c) = 1 then nrS S r c else 0)
  else if w = 5 then ngS S r c
  else b01 (isFm S r c ∧ cyS S r c)
set_option maxHeartbeats 4000000 in
set_option maxRecDepth 20000 in
theorem ct_X11_told {T : gT} {I : gI} {J : gJ} {O : gO} {mo : Nat} {S : Int → Int} {r c w : Int} (hM : MoAt T O mo) (hA : gvA I mo S r) (hf : fmOk S r) (h0 : 0 ≤ r) (h1 : r ≤ 2) (hc : inC S r c) (w0 : 0 ≤ w) (w1 : w ≤ 6) : Ct yX11_told cX11_told 6 (some .int) [va_rf (some mo), VI r, VI c, VI w] 2 44 0 0 T I J O (pv (some (VI (tlS S r c w))) T I J O) := by
  refine Ct.of (by decide) [some (va_rf (some mo)), some (VI r), some (VI c), some (VI w), none, none] (gEn1 (List.forall_mem_cons.mpr ⟨cat_VR _, List.forall_mem_cons.mpr ⟨cat_VI _, List.forall_mem_cons.mpr ⟨cat_VI _, List.forall_mem_cons.mpr ⟨cat_VI _, fun _ h => nomatch h⟩⟩⟩⟩) rfl (Nat.le_of_ble_eq_true rfl) rfl) ?_
  intro X x en rm ini hr hz
  have hr0 := hr
  have hn := hA.2.1.n hf
  have hcb := hc.b
  have hrS : ∀ (j : Int), in32 (S j) := fun j => by rw [← hA.1.1]; exact hr _ _
  have hid := hf.2.2 c hc
  have hfa := hA.2.2.1 c hc
  have hfb := hA.2.2.2.2
  have hfm : isFm S r c → 0 ≤ I (mo + 10) c ∧ I (mo + 10) c < I mo 16 ∧ I (mo + 9) (I (mo + 10) c) = c := hfa.1
  have e1 := hA.1.1
  refine G_aload0 x eX11_told_0 ?_
  refine G_iload1 x eX11_told_1 ?_
  refine G_iload2 x eX11_told_2 ?_
  refine G_cV x eX11_told_3 kX11_214 im_yX11_opAt se_yX11_opAt rm hM.m (ct_X11_opAt hM hA.1 h0 h1 hc) rfl ?_
  refine G_istore4 x eX11_told_6 ?_
  refine G_aload0 x eX11_told_8 ?_
  refine G_getq x eX11_told_9 fX11_37 rfl rfl hM.m hM.o_formulaAt ?_
  refine G_iload2 x eX11_told_12 ?_
  refine G_iald x eX11_told_13 rfl hM.t_formulaAt (by omega) (by omega) (by omega) (fun h13 => ?_)
  refine G_istore5 x eX11_told_14 ?_
  refine G_iload3 x eX11_told_16 ?_
  unfold tlS at en
  generalize hig : idS S r c = id at *
  rcases (by omega : w = 0 ∨ w = 1 ∨ w = 2 ∨ w = 3 ∨ w = 4 ∨ w = 5 ∨ w = 6) with e | e | e | e | e | e | e
  · subst e
    rw [if_pos rfl] at en
    refine G_tin x eX11_told_17 (by omega) (by omega) (by omega) (off := 39) rfl rfl (tgt := 56) ?_
    refine G_rg (fun hr => ?_)
    refine G_iload4 x eX11_told_56 ?_
    refine G_push x eX11_told_58 ?_
    refine G_icmp_ne x eX11_told_59 (by first | omega | exact hr _ _ | exact hr0 _ _ | exact hrS _) (by first | omega | exact hr _ _ | exact hr0 _ _ | exact hrS _) (fun c59 => ?_) (fun c59 => ?_)
    · refine G_aload0 x eX11_told_66 ?_
      refine G_iload4 x eX11_told_67 ?_
      refine G_push x eX11_told_69 ?_
      refine G_cV x eX11_told_70 kX11_105 im_yX11_op se_yX11_op rm hM.m (ct_X11_op hM (by omega) (by omega)) rfl ?_
      first | rw [e1] | skip
      refine G_ireturn x en eX11_told_73 (by omega) (by omega) ?_
      refine ⟨?_, rfl, rfl, rfl, rfl⟩; split <;> first | rfl | omega
    · refine G_push x eX11_told_62 ?_
      refine G_goto x eX11_told_63 ?_
      first | rw [e1] | skip
      refine G_ireturn x en eX11_told_73 (by omega) (by omega) ?_
      refine ⟨?_, rfl, rfl, rfl, rfl⟩; split <;> first | rfl | omega
  · subst e
    rw [if_neg (by decide), if_pos rfl] at en
    refine G_tin x eX11_told_17 (by omega) (by omega) (by omega) (off := 57) rfl rfl (tgt := 74) ?_
    refine G_rg (fun hr => ?_)
    refine G_iload4 x eX11_told_74 ?_
    refine G_push x eX11_told_76 ?_
    refine G_icmp_ne x eX11_told_77 (by first | omega | exact hr _ _ | exact hr0 _ _ | exact hrS _) (by first | omega | exact hr _ _ | exact hr0 _ _ | exact hrS _) (fun c77 => ?_) (fun c77 => ?_)
    · refine G_aload0 x eX11_told_84 ?_
      refine G_iload4 x eX11_told_85 ?_
      refine G_push x eX11_told_87 ?_
      refine G_cV x eX11_told_88 kX11_105 im_yX11_op se_yX11_op rm hM.m (ct_X11_op hM (by omega) (by omega)) rfl ?_
      first | rw [e1] | skip
      refine G_ireturn x en eX11_told_91 (by omega) (by omega) ?_
      refine ⟨?_, rfl, rfl, rfl, rfl⟩; split <;> first | rfl | omega
    · refine G_push x eX11_told_80 ?_
      refine G_goto x eX11_told_81 ?_
      first | rw [e1] | skip
      refine G_ireturn x en eX11_told_91 (by omega) (by omega) ?_
      refine ⟨?_, rfl, rfl, rfl, rfl⟩; split <;> first | rfl | omega
  · subst e
    rw [if_neg (by decide), if_neg (by decide), if_pos rfl] at en
    refine G_tin x eX11_told_17 (by omega) (by omega) (by omega) (off := 75) rfl rfl (tgt := 92) ?_
    refine G_rg (fun hr => ?_)
    refine G_iload4 x eX11_told_92 ?_
    refine G_push x eX11_told_94 ?_
    refine G_icmp_ne x eX11_told_95 (by first | omega | exact hr _ _ | exact hr0 _ _ | exact hrS _) (by first | omega | exact hr _ _ | exact hr0 _ _ | exact hrS _) (fun c95 => ?_) (fun c95 => ?_)
    · refine G_iload4 x eX11_told_102 ?_
      refine G_push x eX11_told_104 ?_
      refine G_idivn x eX11_told_106 (by omega) (by omega) (by omega) (by omega) ?_
      refine G_ireturn x en eX11_told_107 (by omega) (by omega) ?_
      refine ⟨?_, rfl, rfl, rfl, rfl⟩; split <;> first | rfl | omega
    · refine G_push x eX11_told_98 ?_
      refine G_goto x eX11_told_99 ?_
      refine G_ireturn x en eX11_told_107 (by omega) (by omega) ?_
      refine ⟨?_, rfl, rfl, rfl, rfl⟩; split <;> first | rfl | omega
  · subst e
    rw [if_neg (by decide), if_neg (by decide), if_neg (by decide), if_pos rfl] at en
    refine G_tin x eX11_told_17 (by omega) (by omega) (by omega) (off := 91) rfl rfl (tgt := 108) ?_
    refine G_rg (fun hr => ?_)
    refine G_iload4 x eX11_told_108 ?_
    refine G_push x eX11_told_110 ?_
    refine G_icmp_eq x eX11_told_111 (by first | omega | exact hr _ _ | exact hr0 _ _ | exact hrS _) (by first | omega | exact hr _ _ | exact hr0 _ _ | exact hrS _) (fun c111 => ?_) (fun c111 => ?_)
    · refine G_push x eX11_told_125 ?_
      refine G_goto x eX11_told_126 ?_
      first | rw [e1] | skip
      refine G_ireturn x en eX11_told_137 (by omega) (by omega) ?_
      refine ⟨?_, rfl, rfl, rfl, rfl⟩; split <;> first | rfl | omega
    · refine G_aload0 x eX11_told_114 ?_
      refine G_iload4 x eX11_told_115 ?_
      refine G_push x eX11_told_117 ?_
      refine G_cV x eX11_told_118 kX11_105 im_yX11_op se_yX11_op rm hM.m (ct_X11_op hM (by omega) (by omega)) rfl ?_
      rw [e1]
      refine G_push x eX11_told_121 ?_
      refine G_icmp_eq x eX11_told_122 (by first | omega | exact hr _ _ | exact hr0 _ _ | exact hrS _) (by first | omega | exact hr _ _ | exact hr0 _ _ | exact hrS _) (fun c122 => ?_) (fun c122 => ?_)
      · refine G_aload0 x eX11_told_129 ?_
        refine G_iload4 x eX11_told_130 ?_
        refine G_push x eX11_told_132 ?_
        refine G_cV x eX11_told_134 kX11_105 im_yX11_op se_yX11_op rm hM.m (ct_X11_op hM (by omega) (by omega)) rfl ?_
        first | rw [e1] | skip
        refine G_ireturn x en eX11_told_137 (by omega) (by omega) ?_
        refine ⟨?_, rfl, rfl, rfl, rfl⟩; split <;> first | rfl | omega
      · refine G_push x eX11_told_125 ?_
        refine G_goto x eX11_told_126 ?_
        first | rw [e1] | skip
        refine G_ireturn x en eX11_told_137 (by omega) (by omega) ?_
        refine ⟨?_, rfl, rfl, rfl, rfl⟩; split <;> first | rfl | omega
  · subst e
    rw [if_neg (by decide), if_neg (by decide), if_neg (by decide), if_neg (by decide), if_pos rfl] at en
    refine G_tin x eX11_told_17 (by omega) (by omega) (by omega) (off := 121) rfl rfl (tgt := 138) ?_
    by_cases hy : isFm S r c
    · have hfm := hfm hy
      rw [b01_t hy, if_pos rfl] at en
      refine G_rg (fun hr => ?_)
      refine G_iload5 x eX11_told_138 ?_
      refine G_push x eX11_told_140 ?_
      refine G_icmp_ne x eX11_told_141 (by first | omega | exact hr _ _ | exact hr0 _ _ | exact hrS _) (by first | omega | exact hr _ _ | exact hr0 _ _ | exact hrS _) (fun c141 => ?_) (fun c141 => ?_)
      · refine G_aload0 x eX11_told_148 ?_
        refine G_iload5 x eX11_told_149 ?_
        refine G_cV x eX11_told_151 kX11_257 im_yX11_referred se_yX11_referred rm hM.m (ct_X11_referred hM hA hn (by omega) (by omega)) rfl ?_
        refine G_ireturn x en eX11_told_154 (by omega) (by omega) ?_
        rw [hfm.2.2]; exact pv_i
      · omega
    · have hfn := hfa.2 hy
      rw [b01_f hy, if_neg (by decide)] at en
      refine G_rg (fun hr => ?_)
      refine G_iload5 x eX11_told_138 ?_
      refine G_push x eX11_told_140 ?_
      refine G_icmp_ne x eX11_told_141 (by first | omega | exact hr _ _ | exact hr0 _ _ | exact hrS _) (by first | omega | exact hr _ _ | exact hr0 _ _ | exact hrS _) (fun c141 => ?_) (fun c141 => ?_)
      · omega
      · refine G_push x eX11_told_144 ?_
        refine G_goto x eX11_told_145 ?_
        refine G_ireturn x en eX11_told_154 (by omega) (by omega) ?_
        exact pv_i
  · subst e
    rw [if_neg (by decide), if_neg (by decide), if_neg (by decide), if_neg (by decide), if_neg (by decide), if_pos rfl] at en
    refine G_tin x eX11_told_17 (by omega) (by omega) (by omega) (off := 138) rfl rfl (tgt := 155) ?_
    refine G_rg (fun hr => ?_)
    refine G_aload0 x eX11_told_155 ?_
    refine G_iload2 x eX11_told_156 ?_
    refine G_cV x eX11_told_157 kX11_260 im_yX11_referring se_yX11_referring rm hM.m (ct_X11_referring hM hA hn (by omega) (by omega)) rfl ?_
    refine G_ireturn x en eX11_told_160 (by omega) (by omega) ?_
    exact pv_i
  · subst e
    rw [if_neg (by decide), if_neg (by decide), if_neg (by decide), if_neg (by decide), if_neg (by decide), if_neg (by decide)] at en
    refine G_tout x eX11_told_17 (by omega) (by omega) rfl (tgt := 161) ?_
    by_cases hy : isFm S r c
    · have hfm := hfm hy
      have hcv := hfb (I (mo + 10) c) (by omega) (by omega)
      rw [hfm.2.2] at hcv
      rw [b01_e (show isFm S r c ∧ cyS S r c ↔ cyS S r c from ⟨And.right, fun z => ⟨hy, z⟩⟩), ← hcv] at en
      have hcb := hcv ▸ b01_b (p := cyS S r c)
      refine G_rg (fun hr => ?_)
      refine G_iload5 x eX11_told_161 ?_
      refine G_push x eX11_told_163 ?_
      refine G_icmp_eq x eX11_told_164 (by first | omega | exact hr _ _ | exact hr0 _ _ | exact hrS _) (by first | omega | exact hr _ _ | exact hr0 _ _ | exact hrS _) (fun c164 => ?_) (fun c164 => ?_)
      · refine G_push x eX11_told_181 ?_
        refine G_ireturn x en eX11_told_182 (by omega) (by omega) ?_
        refine ⟨?_, rfl, rfl, rfl, rfl⟩; congr 2; omega
      · refine G_aload0 x eX11_told_167 ?_
        refine G_getq x eX11_told_168 fX11_51 rfl rfl hM.m hM.o_cyclic ?_
        refine G_iload5 x eX11_told_171 ?_
        refine G_zald x eX11_told_173 rfl hM.t_cyclic (by omega) (by omega) (by omega) (fun h173 => ?_)
        refine G_if_eq x eX11_told_174 (by first | omega | exact hr _ _ | exact hr0 _ _ | exact hrS _) (fun c174 => ?_) (fun c174 => ?_)
        · refine G_push x eX11_told_181 ?_
          refine G_ireturn x en eX11_told_182 (by omega) (by omega) ?_
          refine ⟨?_, rfl, rfl, rfl, rfl⟩; congr 2; omega
        · refine G_push x eX11_told_177 ?_
          refine G_goto x eX11_told_178 ?_
          refine G_ireturn x en eX11_told_182 (by omega) (by omega) ?_
          refine ⟨?_, rfl, rfl, rfl, rfl⟩; congr 2; omega
    · have hfn := hfa.2 hy
      rw [b01_f (fun z => hy z.1)] at en
      refine G_rg (fun hr => ?_)
      refine G_iload5 x eX11_told_161 ?_
      refine G_push x eX11_told_163 ?_
      refine G_icmp_eq x eX11_told_164 (by first | omega | exact hr _ _ | exact hr0 _ _ | exact hrS _) (by first | omega | exact hr _ _ | exact hr0 _ _ | exact hrS _) (fun c164 => ?_) (fun c164 => ?_)
      · refine G_push x eX11_told_181 ?_
        refine G_ireturn x en eX11_told_182 (by omega) (by omega) ?_
        first | omega | exact pv_i
      · refine G_aload0 x eX11_told_167 ?_
        refine G_getq x eX11_told_168 fX11_51 rfl rfl hM.m hM.o_cyclic ?_
        refine G_iload5 x eX11_told_171 ?_
        refine G_zald x eX11_told_173 rfl hM.t_cyclic (by omega) (by omega) (by omega) (fun h173 => ?_)
        refine G_if_eq x eX11_told_174 (by first | omega | exact hr _ _ | exact hr0 _ _ | exact hrS _) (fun c174 => ?_) (fun c174 => ?_)
        · refine G_push x eX11_told_181 ?_
          refine G_ireturn x en eX11_told_182 (by omega) (by omega) ?_
          first | omega | exact pv_i
        · refine G_push x eX11_told_177 ?_
          refine G_goto x eX11_told_178 ?_
          refine G_ireturn x en eX11_told_182 (by omega) (by omega) ?_
          first | omega | exact pv_i
