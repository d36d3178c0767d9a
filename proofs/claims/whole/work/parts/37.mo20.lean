/-! finding lines, the cells that a formula names -/
def ixR (f : Int → Int) (l : Int) : Nat → Int → Int
  | 0, _ => -1
  | d + 1, k => if f k = l then k else ixR f l d (k + 1)
/-- the first place of a line among n -/
def ix (f : Int → Int) (n l : Int) : Int := ixR f l n.toNat 0
theorem ixR_c {f g : Int → Int} {l : Int} (d : Nat) : ∀ k : Int, (∀ i, k ≤ i → i < k + d → f i = g i) → ixR f l d k = ixR g l d k := by
  induction d with
  | zero => intro k _; rfl
  | succ d ih =>
    intro k h
    unfold ixR
    rw [h k (by omega) (by omega), ih (k + 1) (fun i a b => h i (by omega) (by omega))]
theorem ix_c {f g : Int → Int} {n l : Int} (h : ∀ i, 0 ≤ i → i < n → f i = g i) : ix f n l = ix g n l := ixR_c _ _ (fun i a b => h i a (by omega))
theorem ixR_b {f : Int → Int} {l : Int} (d : Nat) : ∀ k : Int, 0 ≤ k → ixR f l d k = -1 ∨ (k ≤ ixR f l d k ∧ ixR f l d k < k + d ∧ f (ixR f l d k) = l) := by
  induction d with
  | zero => intro k _; exact Or.inl rfl
  | succ d ih =>
    intro k hk
    unfold ixR
    split
    · next e => exact Or.inr ⟨by omega, by omega, e⟩
    · rcases ih (k + 1) (by omega) with e | ⟨a, b, c⟩
      · exact Or.inl e
      · exact Or.inr ⟨by omega, by omega, c⟩
theorem ix_b {f : Int → Int} {n l : Int} : ix f n l = -1 ∨ (0 ≤ ix f n l ∧ ix f n l < n ∧ f (ix f n l) = l) := by
  rcases ixR_b (f := f) (l := l) n.toNat 0 (by omega) with e | ⟨a, b, c⟩
  · exact Or.inl e
  · exact Or.inr ⟨a, by show ixR f l n.toNat 0 < n; omega, c⟩
set_option maxRecDepth 20000 in
theorem ct_X11_find {T : gT} {I : gI} {J : gJ} {O : gO} {p m : Nat} {n l : Int} (hp : T.2 p = some (.inr (0, m))) (hm : m ≤ 100000) (h0 : 0 ≤ n) (h1 : n ≤ m) (h2 : in32 l) : Ct yX11_find cX11_find 4 (some .int) [va_rf (some p), VI n, VI l] 0 0 0 0 T I J O (pv (some (VI (ix (I p) n l))) T I J O) := by
  refine Ct.of (by decide) [some (va_rf (some p)), some (VI n), some (VI l), none] (gEn1 (List.forall_mem_cons.mpr ⟨cat_VR _, List.forall_mem_cons.mpr ⟨cat_VI _, List.forall_mem_cons.mpr ⟨cat_VI _, fun _ h => nomatch h⟩⟩⟩) rfl (Nat.le_of_ble_eq_true rfl) rfl) ?_
  intro X x en rm ini hr hz
  have hr0 := hr
  have loop : ∀ (d : Nat) (k : Int), d = (n - k).toNat → 0 ≤ k → k ≤ n → ix (I p) n l = ixR (I p) l d k → G X 2 [some (va_rf (some p)), some (VI n), some (VI l), some (VI k)] [] T I J O 0 0 := by
    intro d
    induction d with
    | zero =>
      intro k hd hk0 hkn he
      refine G_rg (fun hr => ?_)
      refine G_iload3 x eX11_find_2 ?_
      refine G_iload1 x eX11_find_3 ?_
      refine G_icmp_ge x eX11_find_4 (by first | omega | exact hr _ _ | exact hr0 _ _ | exact hrS _) (by first | omega | exact hr _ _ | exact hr0 _ _ | exact hrS _) (fun c4 => ?_) (fun c4 => ?_)
      · refine G_push x eX11_find_22 ?_
        refine G_ireturn x en eX11_find_23 (by omega) (by omega) ?_
        first | omega | (rw [he]; exact pv_i)
      · refine G_aload0 x eX11_find_7 ?_
        refine G_iload3 x eX11_find_8 ?_
        refine G_iald x eX11_find_9 rfl hp (by omega) (by omega) (by omega) (fun h9 => ?_)
        refine G_iload2 x eX11_find_10 ?_
        refine G_icmp_ne x eX11_find_11 (by first | omega | exact hr _ _ | exact hr0 _ _ | exact hrS _) (by first | omega | exact hr _ _ | exact hr0 _ _ | exact hrS _) (fun c11 => ?_) (fun c11 => ?_)
        · refine G_iinc3 x eX11_find_16 ?_
          refine G_goto x eX11_find_19 ?_
          omega
        · refine G_iload3 x eX11_find_14 ?_
          refine G_ireturn x en eX11_find_15 (by omega) (by omega) ?_
          first | omega | (rw [he]; exact pv_i)
    | succ d ih =>
      intro k hd hk0 hkn he
      unfold ixR at he
      refine G_rg (fun hr => ?_)
      refine G_iload3 x eX11_find_2 ?_
      refine G_iload1 x eX11_find_3 ?_
      refine G_icmp_ge x eX11_find_4 (by first | omega | exact hr _ _ | exact hr0 _ _ | exact hrS _) (by first | omega | exact hr _ _ | exact hr0 _ _ | exact hrS _) (fun c4 => ?_) (fun c4 => ?_)
      · refine G_push x eX11_find_22 ?_
        refine G_ireturn x en eX11_find_23 (by omega) (by omega) ?_
        first | omega | (rw [he, if_pos c11]; exact pv_i)
      · refine G_aload0 x eX11_find_7 ?_
        refine G_iload3 x eX11_find_8 ?_
        refine G_iald x eX11_find_9 rfl hp (by omega) (by omega) (by omega) (fun h9 => ?_)
        refine G_iload2 x eX11_find_10 ?_
        refine G_icmp_ne x eX11_find_11 (by first | omega | exact hr _ _ | exact hr0 _ _ | exact hrS _) (by first | omega | exact hr _ _ | exact hr0 _ _ | exact hrS _) (fun c11 => ?_) (fun c11 => ?_)
        · refine G_iinc3 x eX11_find_16 ?_
          refine G_goto x eX11_find_19 ?_
          exact ih _ (by omega) (by omega) (by omega) (by rw [he, if_neg c11])
        · refine G_iload3 x eX11_find_14 ?_
          refine G_ireturn x en eX11_find_15 (by omega) (by omega) ?_
          first | omega | (rw [he, if_pos c11]; exact pv_i)
  refine G_rg (fun hr => ?_)
  refine G_push x eX11_find_0 ?_
  refine G_istore3 x eX11_find_1 ?_
  exact loop n.toNat 0 (by omega) (by omega) (by omega) rfl
/-- the lines stand in the model's rows -/
def lkO (I : gI) (mo : Nat) (S : Int → Int) (r : Int) : Prop := I (mo + 1) = S ∧ I mo 9 = rwN S r 0 (-1) ∧ I mo 10 = rwN S r 1 (-1) ∧ (∀ i, 0 ≤ i → i < rwN S r 0 (-1) → I (mo + 5) i = rwF S r 0 (-1) i) ∧ ∀ i, 0 ≤ i → i < rwN S r 1 (-1) → I (mo + 6) i = rwF S r 1 (-1) i
theorem lkI.o {I I' : gI} {mo : Nat} {r : Int} (h : lkI I I' mo r) : lkO I' mo (I (mo + 1)) r := ⟨funext fun j => h.1 _ (by omega) (by omega) (by omega) j, h.2.2.1, h.2.2.2.1, h.2.2.2.2.1, h.2.2.2.2.2⟩
theorem lkO.c {I I' : gI} {mo : Nat} {S : Int → Int} {r : Int} (h : lkO I mo S r) (e1 : ∀ j, I' (mo + 1) j = I (mo + 1) j) (e5 : ∀ j, I' (mo + 5) j = I (mo + 5) j) (e6 : ∀ j, I' (mo + 6) j = I (mo + 6) j) (e9 : I' mo 9 = I mo 9) (e10 : I' mo 10 = I mo 10) : lkO I' mo S r :=
  ⟨(funext e1).trans h.1, e9.trans h.2.1, e10.trans h.2.2.1, fun i a b => (e5 i).trans (h.2.2.2.1 i a b), fun i a b => (e6 i).trans (h.2.2.2.2 i a b)⟩
/-- the cell, of the first that are shown, that a sign names -/
noncomputable def snS (S : Int → Int) (r g : Int) : Int := if ix (rwF S r 0 (-1)) (rwN S r 0 (-1)) ((g - 10000) / 12) = -1 ∨ ix (rwF S r 1 (-1)) (rwN S r 1 (-1)) ((g - 10000) % 12) = -1 then -1 else 12 * ix (rwF S r 0 (-1)) (rwN S r 0 (-1)) ((g - 10000) / 12) + ix (rwF S r 1 (-1)) (rwN S r 1 (-1)) ((g - 10000) % 12)
def inC (S : Int → Int) (r c : Int) : Prop := 0 ≤ c ∧ c / 12 < rwN S r 0 (-1) ∧ c % 12 < rwN S r 1 (-1)
theorem inC.b {S : Int → Int} {r c : Int} (h : inC S r c) : 0 ≤ c ∧ c < 144 := by
  have := (rwB S r 0 (-1)).2
  exact ⟨h.1, by have := h.2.1; omega⟩
theorem snS_b {S : Int → Int} {r g : Int} : snS S r g = -1 ∨ inC S r (snS S r g) := by
  unfold snS
  split
  · exact Or.inl rfl
  · have b1 := (rwB S r 0 (-1)).2
    have b2 := (rwB S r 1 (-1)).2
    rcases ix_b (f := rwF S r 0 (-1)) (n := rwN S r 0 (-1)) (l := (g - 10000) / 12) with e | ⟨a, b, -⟩ <;> rcases ix_b (f := rwF S r 1 (-1)) (n := rwN S r 1 (-1)) (l := (g - 10000) % 12) with e2 | ⟨a2, b2, -⟩
    · omega
    · omega
    · omega
    · exact Or.inr ⟨by omega, by omega, by omega⟩
set_option maxRecDepth 20000 in
theorem ct_X11_seen {T : gT} {I : gI} {J : gJ} {O : gO} {mo : Nat} {S : Int → Int} {r g : Int} (hM : MoAt T O mo) (hL : lkO I mo S r) (h0 : 10000 ≤ g) (h1 : in32 g) : Ct yX11_seen cX11_seen 4 (some .int) [va_rf (some mo), VI g] 1 23 0 0 T I J O (pv (some (VI (snS S r g))) T I J O) := by
  refine Ct.of (by decide) [some (va_rf (some mo)), some (VI g), none, none] (gEn1 (List.forall_mem_cons.mpr ⟨cat_VR _, List.forall_mem_cons.mpr ⟨cat_VI _, fun _ h => nomatch h⟩⟩) rfl (Nat.le_of_ble_eq_true rfl) rfl) ?_
  intro X x en rm ini hr hz
  have hr0 := hr
  have b1 := rwB S r 0 (-1)
  have b2 := rwB S r 1 (-1)
  have e9 := hL.2.1
  have e10 := hL.2.2.1
  refine G_aload0 x eX11_seen_0 ?_
  refine G_getq x eX11_seen_1 fX11_22 rfl rfl hM.m hM.o_rows ?_
  refine G_aload0 x eX11_seen_4 ?_
  refine G_geti x eX11_seen_5 fX11_99 rfl rfl hM.m (fun h5 => ?_)
  refine G_iload1 x eX11_seen_8 ?_
  refine G_push x eX11_seen_9 ?_
  refine G_isub x eX11_seen_12 ?_
  refine G_push x eX11_seen_13 ?_
  refine G_idivn x eX11_seen_15 (by omega) (by omega) (by omega) (by omega) ?_
  refine G_cS x eX11_seen_16 kX11_195 sm_yX11_find rm (ct_X11_find hM.t_rows (by omega) (by omega) (by omega) (by omega)) rfl ?_
  rw [e9, ix_c hL.2.2.2.1]
  refine G_istore2 x eX11_seen_19 ?_
  refine G_aload0 x eX11_seen_20 ?_
  refine G_getq x eX11_seen_21 fX11_25 rfl rfl hM.m hM.o_columns ?_
  refine G_aload0 x eX11_seen_24 ?_
  refine G_geti x eX11_seen_25 fX11_102 rfl rfl hM.m (fun h25 => ?_)
  refine G_iload1 x eX11_seen_28 ?_
  refine G_push x eX11_seen_29 ?_
  refine G_isub x eX11_seen_32 ?_
  refine G_push x eX11_seen_33 ?_
  refine G_iremn x eX11_seen_35 (by omega) (by omega) (by omega) (by omega) ?_
  refine G_cS x eX11_seen_36 kX11_195 sm_yX11_find rm (ct_X11_find hM.t_columns (by omega) (by omega) (by omega) (by omega)) rfl ?_
  rw [e10, ix_c hL.2.2.2.2]
  have q1 := ix_b (f := rwF S r 0 (-1)) (n := rwN S r 0 (-1)) (l := (g - 10000) / 12)
  have q2 := ix_b (f := rwF S r 1 (-1)) (n := rwN S r 1 (-1)) (l := (g - 10000) % 12)
  unfold snS at en
  generalize ix (rwF S r 0 (-1)) (rwN S r 0 (-1)) ((g - 10000) / 12) = z1 at *
  generalize ix (rwF S r 1 (-1)) (rwN S r 1 (-1)) ((g - 10000) % 12) = z2 at *
  refine G_rg (fun hr => ?_)
  refine G_istore3 x eX11_seen_39 ?_
  refine G_iload2 x eX11_seen_40 ?_
  refine G_push x eX11_seen_41 ?_
  refine G_icmp_eq x eX11_seen_42 (by first | omega | exact hr _ _ | exact hr0 _ _ | exact hrS _) (by first | omega | exact hr _ _ | exact hr0 _ _ | exact hrS _) (fun c42 => ?_) (fun c42 => ?_)
  · refine G_push x eX11_seen_50 ?_
    refine G_goto x eX11_seen_51 ?_
    refine G_ireturn x en eX11_seen_60 (by omega) (by omega) ?_
    first | exact pv_i | (refine ⟨?_, rfl, rfl, rfl, rfl⟩; split <;> first | rfl | omega)
  · refine G_iload3 x eX11_seen_45 ?_
    refine G_push x eX11_seen_46 ?_
    refine G_icmp_ne x eX11_seen_47 (by first | omega | exact hr _ _ | exact hr0 _ _ | exact hrS _) (by first | omega | exact hr _ _ | exact hr0 _ _ | exact hrS _) (fun c47 => ?_) (fun c47 => ?_)
    · refine G_push x eX11_seen_54 ?_
      refine G_iload2 x eX11_seen_56 ?_
      refine G_imul x eX11_seen_57 ?_
      refine G_iload3 x eX11_seen_58 ?_
      refine G_iadd x eX11_seen_59 ?_
      refine G_ireturn x en eX11_seen_60 (by omega) (by omega) ?_
      first | exact pv_i | (refine ⟨?_, rfl, rfl, rfl, rfl⟩; split <;> first | rfl | omega)
    · refine G_push x eX11_seen_50 ?_
      refine G_goto x eX11_seen_51 ?_
      refine G_ireturn x en eX11_seen_60 (by omega) (by omega) ?_
      first | exact pv_i | (refine ⟨?_, rfl, rfl, rfl, rfl⟩; split <;> first | rfl | omega)
/-- which operation wrote a cell -/
noncomputable def idS (S : Int → Int) (r c : Int) : Int := S (3843 + 270 * r + (126 + 12 * rwF S r 0 (-1) (c / 12) + rwF S r 1 (-1) (c % 12)))
set_option maxRecDepth 20000 in
theorem ct_X11_opAt {T : gT} {I : gI} {J : gJ} {O : gO} {mo : Nat} {S : Int → Int} {r c : Int} (hM : MoAt T O mo) (hL : lkO I mo S r) (h0 : 0 ≤ r) (h1 : r ≤ 2) (hc : inC S r c) : Ct yX11_opAt cX11_opAt 3 (some .int) [va_rf (some mo), VI r, VI c] 1 22 0 0 T I J O (pv (some (VI (idS S r c))) T I J O) := by
  refine Ct.of (by decide) [some (va_rf (some mo)), some (VI r), some (VI c)] (gEn1 (List.forall_mem_cons.mpr ⟨cat_VR _, List.forall_mem_cons.mpr ⟨cat_VI _, List.forall_mem_cons.mpr ⟨cat_VI _, fun _ h => nomatch h⟩⟩⟩) rfl (Nat.le_of_ble_eq_true rfl) rfl) ?_
  intro X x en rm ini hr hz
  have hr0 := hr
  have hb := hc.b
  obtain ⟨c1, c2, c3⟩ := hc
  have i1 := rwI S (r := r) (kd := 0) (w := -1) (i := c / 12) (by omega) c2
  have i2 := rwI S (r := r) (kd := 1) (w := -1) (i := c % 12) (by omega) c3
  refine G_aload0 x eX11_opAt_0 ?_
  refine G_iload1 x eX11_opAt_1 ?_
  refine G_push x eX11_opAt_2 ?_
  refine G_push x eX11_opAt_4 ?_
  refine G_aload0 x eX11_opAt_6 ?_
  refine G_getq x eX11_opAt_7 fX11_22 rfl rfl hM.m hM.o_rows ?_
  refine G_iload2 x eX11_opAt_10 ?_
  refine G_push x eX11_opAt_11 ?_
  refine G_idivn x eX11_opAt_13 (by omega) (by omega) (by omega) (by omega) ?_
  refine G_iald x eX11_opAt_14 rfl hM.t_rows (by omega) (by omega) (by omega) (fun h14 => ?_)
  rw [hL.2.2.2.1 _ (by omega) c2]
  refine G_imul x eX11_opAt_15 ?_
  refine G_iadd x eX11_opAt_16 ?_
  refine G_aload0 x eX11_opAt_17 ?_
  refine G_getq x eX11_opAt_18 fX11_25 rfl rfl hM.m hM.o_columns ?_
  refine G_iload2 x eX11_opAt_21 ?_
  refine G_push x eX11_opAt_22 ?_
  refine G_iremn x eX11_opAt_24 (by omega) (by omega) (by omega) (by omega) ?_
  refine G_iald x eX11_opAt_25 rfl hM.t_columns (by omega) (by omega) (by omega) (fun h25 => ?_)
  rw [hL.2.2.2.2 _ (by omega) c3]
  refine G_iadd x eX11_opAt_26 ?_
  refine G_cV x eX11_opAt_27 kX11_108 im_yX11_of se_yX11_of rm hM.m (ct_X11_of hM (by omega) (by omega)) rfl ?_
  rw [hL.1]
  refine G_ireturn x en eX11_opAt_30 (by omega) (by omega) ?_
  exact pv_i
noncomputable def b01 (p : Prop) : Int := @ite Int p (Classical.propDecidable p) 1 0
theorem b01_t {p : Prop} (h : p) : b01 p = 1 := by unfold b01; exact @if_pos _ (Classical.propDecidable p) h _ _ _
theorem b01_f {p : Prop} (h : ¬ p) : b01 p = 0 := by unfold b01; exact @if_neg _ (Classical.propDecidable p) h _ _ _
theorem b01_e {p q : Prop} (h : p ↔ q) : b01 p = b01 q := by rw [propext h]
theorem b01_1 {p : Prop} : b01 p = 1 ↔ p := by
  by_cases h : p
  · rw [b01_t h]; exact ⟨fun _ => h, fun _ => rfl⟩
  · rw [b01_f h]; exact ⟨fun e => by omega, fun e => absurd e h⟩
theorem b01_b {p : Prop} : b01 p = 0 ∨ b01 p = 1 := by
  by_cases h : p
  · exact Or.inr (b01_t h)
  · exact Or.inl (b01_f h)
def inR (a b d : Int) : Prop := (min (a / 12) (b / 12) ≤ d / 12 ∧ d / 12 ≤ max (a / 12) (b / 12)) ∧ min (a % 12) (b % 12) ≤ d % 12 ∧ d % 12 ≤ max (a % 12) (b % 12)
/-- some of what a formula refers to, marked -/
noncomputable def spI (I : gI) (mo : Nat) (f : Int) (P : Int → Prop) : gI := fun b j => @ite _ (b = mo + 13 ∧ 144 * f ≤ j ∧ j < 144 * f + 144 ∧ P (j - 144 * f)) (Classical.propDecidable _) 1 (I b j)
theorem spI_u {I : gI} {mo : Nat} {f c i : Int} {P P' : Int → Prop} (hi : i = 144 * f + c) (h0 : 0 ≤ c) (h1 : c < 144) (h : ∀ d, 0 ≤ d → d < 144 → (P' d ↔ P d ∨ d = c)) : uI (spI I mo f P) (mo + 13) i 1 = spI I mo f P' := by
  subst hi
  funext b j
  unfold uI spI
  by_cases e : b = mo + 13 ∧ j = 144 * f + c
  · rw [if_pos e, @if_pos _ (Classical.propDecidable _) ⟨e.1, by omega, by omega, (h _ (by omega) (by omega)).mpr (Or.inr (by omega))⟩]
  · rw [if_neg e]
    by_cases e2 : b = mo + 13 ∧ 144 * f ≤ j ∧ j < 144 * f + 144 ∧ P (j - 144 * f)
    · rw [@if_pos _ (Classical.propDecidable _) e2, @if_pos _ (Classical.propDecidable _) ⟨e2.1, e2.2.1, e2.2.2.1, (h _ (by omega) (by omega)).mpr (Or.inl e2.2.2.2)⟩]
    · rw [@if_neg _ (Classical.propDecidable _) e2, @if_neg _ (Classical.propDecidable _)]
      intro h3
      rcases (h _ (by omega) (by omega)).mp h3.2.2.2 with h4 | h4
      · exact e2 ⟨h3.1, h3.2.1, h3.2.2.1, h4⟩
      · exact e ⟨h3.1, by omega⟩
theorem spI_c {I : gI} {mo : Nat} {f : Int} {P P' : Int → Prop} (h : ∀ d, 0 ≤ d → d < 144 → (P d ↔ P' d)) : spI I mo f P = spI I mo f P' := by
  funext b j
  unfold spI
  by_cases e : b = mo + 13 ∧ 144 * f ≤ j ∧ j < 144 * f + 144 ∧ P (j - 144 * f)
  · rw [@if_pos _ (Classical.propDecidable _) e, @if_pos _ (Classical.propDecidable _) ⟨e.1, e.2.1, e.2.2.1, (h _ (by omega) (by omega)).mp e.2.2.2⟩]
  · rw [@if_neg _ (Classical.propDecidable _) e, @if_neg _ (Classical.propDecidable _) (fun h3 => e ⟨h3.1, h3.2.1, h3.2.2.1, (h _ (by omega) (by omega)).mpr h3.2.2.2⟩)]
theorem spI_0 {I : gI} {mo : Nat} {f : Int} {P : Int → Prop} (h : ∀ d, 0 ≤ d → d < 144 → ¬ P d) : spI I mo f P = I := by
  funext b j
  unfold spI
  rw [@if_neg _ (Classical.propDecidable _) (fun h3 => h _ (by omega) (by omega) h3.2.2.2)]
theorem spI_spI {I : gI} {mo : Nat} {f : Int} {P Q R : Int → Prop} (h : ∀ d, 0 ≤ d → d < 144 → (R d ↔ P d ∨ Q d)) : spI (spI I mo f P) mo f Q = spI I mo f R := by
  funext b j
  unfold spI
  by_cases e : b = mo + 13 ∧ 144 * f ≤ j ∧ j < 144 * f + 144 ∧ Q (j - 144 * f)
  · rw [@if_pos _ (Classical.propDecidable _) e, @if_pos _ (Classical.propDecidable _) ⟨e.1, e.2.1, e.2.2.1, (h _ (by omega) (by omega)).mpr (Or.inr e.2.2.2)⟩]
  · rw [@if_neg _ (Classical.propDecidable _) e]
    by_cases e2 : b = mo + 13 ∧ 144 * f ≤ j ∧ j < 144 * f + 144 ∧ P (j - 144 * f)
    · rw [@if_pos _ (Classical.propDecidable _) e2, @if_pos _ (Classical.propDecidable _) ⟨e2.1, e2.2.1, e2.2.2.1, (h _ (by omega) (by omega)).mpr (Or.inl e2.2.2.2)⟩]
    · rw [@if_neg _ (Classical.propDecidable _) e2, @if_neg _ (Classical.propDecidable _)]
      intro h3
      rcases (h _ (by omega) (by omega)).mp h3.2.2.2 with h4 | h4
      · exact e2 ⟨h3.1, h3.2.1, h3.2.2.1, h4⟩
      · exact e ⟨h3.1, h3.2.1, h3.2.2.1, h4⟩
theorem spI_a {I : gI} {mo b : Nat} {f j : Int} {P : Int → Prop} (h : b ≠ mo + 13) : spI I mo f P b j = I b j := by
  unfold spI
  rw [@if_neg _ (Classical.propDecidable _) (fun h3 => h h3.1)]
set_option maxRecDepth 20000 in
theorem ct_X11_spans {T : gT} {I : gI} {J : gJ} {O : gO} {mo : Nat} {f a b : Int} (hM : MoAt T O mo) (h0 : 0 ≤ f) (h1 : f < 120) (h2 : 0 ≤ a ∧ a < 144) (h3 : 0 ≤ b ∧ b < 144) : Ct yX11_spans cX11_spans 6 none [va_rf (some mo), VI f, VI a, VI b] 1 21 0 0 T I J O (pv none T (spI I mo f (inR a b)) J O) := by
  refine Ct.of (by decide) [some (va_rf (some mo)), some (VI f), some (VI a), some (VI b), none, none] (gEn1 (List.forall_mem_cons.mpr ⟨cat_VR _, List.forall_mem_cons.mpr ⟨cat_VI _, List.forall_mem_cons.mpr ⟨cat_VI _, List.forall_mem_cons.mpr ⟨cat_VI _, fun _ h => nomatch h⟩⟩⟩⟩) rfl (Nat.le_of_ble_eq_true rfl) rfl) ?_
  intro X x en rm ini hr hz
  have hr0 := hr
  have inner : ∀ (d : Nat) (row col : Int), d = (12 - col).toNat → min (a / 12) (b / 12) ≤ row → row ≤ max (a / 12) (b / 12) → min (a % 12) (b % 12) ≤ col → col ≤ max (a % 12) (b % 12) + 1 →
      (∀ o5, G X 13 [some (va_rf (some mo)), some (VI f), some (VI a), some (VI b), some (VI (row + 1)), o5] [] T (spI I mo f (fun d => inR a b d ∧ d / 12 < row + 1)) J O 0 0) →
      G X 42 [some (va_rf (some mo)), some (VI f), some (VI a), some (VI b), some (VI row), some (VI col)] [] T (spI I mo f (fun d => inR a b d ∧ (d / 12 < row ∨ (d / 12 = row ∧ d % 12 < col)))) J O 0 0 := by
    intro d
    induction d using Nat.strongRecOn with
    | ind d ih =>
    intro row col hd r0 r1 q0 q1 kk
    refine G_rg (fun hr => ?_)
    refine G_iload5 x eX11_spans_42 ?_
    refine G_iload2 x eX11_spans_44 ?_
    refine G_push x eX11_spans_45 ?_
    refine G_iremn x eX11_spans_47 (by omega) (by omega) (by omega) (by omega) ?_
    refine G_iload3 x eX11_spans_48 ?_
    refine G_push x eX11_spans_49 ?_
    refine G_iremn x eX11_spans_51 (by omega) (by omega) (by omega) (by omega) ?_
    refine G_cS x eX11_spans_52 kX11_208 sm_yX11_greatest rm (ct_X11_greatest (by first | omega | exact hr _ _ | exact hr0 _ _) (by first | omega | exact hr _ _ | exact hr0 _ _)) rfl ?_
    refine G_icmp_gt x eX11_spans_55 (by first | omega | exact hr _ _ | exact hr0 _ _ | exact hrS _) (by first | omega | exact hr _ _ | exact hr0 _ _ | exact hrS _) (fun c55 => ?_) (fun c55 => ?_)
    · refine G_iinc4 x eX11_spans_84 ?_
      refine G_goto x eX11_spans_87 ?_
      rw [spI_c (P' := fun d => inR a b d ∧ d / 12 < row + 1) (fun d d0 d1 => by unfold inR; omega)]; exact kk _
    · refine G_aload0 x eX11_spans_58 ?_
      refine G_getq x eX11_spans_59 fX11_47 rfl rfl hM.m hM.o_refers ?_
      refine G_push x eX11_spans_62 ?_
      refine G_iload1 x eX11_spans_65 ?_
      refine G_imul x eX11_spans_66 ?_
      refine G_push x eX11_spans_67 ?_
      refine G_iload4 x eX11_spans_69 ?_
      refine G_imul x eX11_spans_71 ?_
      refine G_iadd x eX11_spans_72 ?_
      refine G_iload5 x eX11_spans_73 ?_
      refine G_iadd x eX11_spans_75 ?_
      refine G_push x eX11_spans_76 ?_
      refine G_zast x eX11_spans_77 rfl hM.t_refers (by omega) (by omega) (by omega) (by first | omega | exact hr _ _ | exact hr0 _ _ | exact hrS _) ?_
      refine G_rg (fun hr => ?_)
      refine G_iinc5 x eX11_spans_78 ?_
      refine G_goto x eX11_spans_81 ?_
      rw [spI_u (c := 12 * row + col) (P' := fun d => inR a b d ∧ (d / 12 < row ∨ (d / 12 = row ∧ d % 12 < col + 1))) (by omega) (by omega) (by omega) (fun d d0 d1 => by unfold inR; omega)]; exact ih _ (by omega) _ _ rfl r0 r1 (by omega) (by omega) kk
  have outer : ∀ (d : Nat) (row : Int) (o5 : Option Value), d = (12 - row).toNat → min (a / 12) (b / 12) ≤ row → row ≤ max (a / 12) (b / 12) + 1 → G X 13 [some (va_rf (some mo)), some (VI f), some (VI a), some (VI b), some (VI row), o5] [] T (spI I mo f (fun d => inR a b d ∧ d / 12 < row)) J O 0 0 := by
    intro d
    induction d using Nat.strongRecOn with
    | ind d ih =>
    intro row o5 hd r0 r1
    refine G_rg (fun hr => ?_)
    refine G_iload4 x eX11_spans_13 ?_
    refine G_iload2 x eX11_spans_15 ?_
    refine G_push x eX11_spans_16 ?_
    refine G_idivn x eX11_spans_18 (by omega) (by omega) (by omega) (by omega) ?_
    refine G_iload3 x eX11_spans_19 ?_
    refine G_push x eX11_spans_20 ?_
    refine G_idivn x eX11_spans_22 (by omega) (by omega) (by omega) (by omega) ?_
    refine G_cS x eX11_spans_23 kX11_208 sm_yX11_greatest rm (ct_X11_greatest (by first | omega | exact hr _ _ | exact hr0 _ _) (by first | omega | exact hr _ _ | exact hr0 _ _)) rfl ?_
    refine G_icmp_gt x eX11_spans_26 (by first | omega | exact hr _ _ | exact hr0 _ _ | exact hrS _) (by first | omega | exact hr _ _ | exact hr0 _ _ | exact hrS _) (fun c26 => ?_) (fun c26 => ?_)
    · refine G_return x en eX11_spans_90 (by omega) (by omega) ?_
      rw [spI_c (P := fun d => inR a b d ∧ d / 12 < row) (P' := inR a b) (fun d d0 d1 => by unfold inR; omega)]; exact pv_i
    · refine G_iload2 x eX11_spans_29 ?_
      refine G_push x eX11_spans_30 ?_
      refine G_iremn x eX11_spans_32 (by omega) (by omega) (by omega) (by omega) ?_
      refine G_iload3 x eX11_spans_33 ?_
      refine G_push x eX11_spans_34 ?_
      refine G_iremn x eX11_spans_36 (by omega) (by omega) (by omega) (by omega) ?_
      refine G_cS x eX11_spans_37 kX11_205 sm_yX11_least rm (ct_X11_least (by first | omega | exact hr _ _ | exact hr0 _ _) (by first | omega | exact hr _ _ | exact hr0 _ _)) rfl ?_
      refine G_istore5 x eX11_spans_40 ?_
      rw [spI_c (P' := fun d => inR a b d ∧ (d / 12 < row ∨ (d / 12 = row ∧ d % 12 < min (a % 12) (b % 12)))) (fun d d0 d1 => by unfold inR; omega)]; exact inner _ _ _ rfl r0 (by omega) (by omega) (by omega) (fun o5 => ih _ (by omega) _ _ rfl (by omega) (by omega))
  refine G_rg (fun hr => ?_)
  refine G_iload2 x eX11_spans_0 ?_
  refine G_push x eX11_spans_1 ?_
  refine G_idivn x eX11_spans_3 (by omega) (by omega) (by omega) (by omega) ?_
  refine G_iload3 x eX11_spans_4 ?_
  refine G_push x eX11_spans_5 ?_
  refine G_idivn x eX11_spans_7 (by omega) (by omega) (by omega) (by omega) ?_
  refine G_cS x eX11_spans_8 kX11_205 sm_yX11_least rm (ct_X11_least (by first | omega | exact hr _ _ | exact hr0 _ _) (by first | omega | exact hr _ _ | exact hr0 _ _)) rfl ?_
  refine G_istore4 x eX11_spans_11 ?_
  have h9 := outer _ (min (a / 12) (b / 12)) none rfl (by omega) (by omega); rw [spI_0 (fun d d0 d1 => by unfold inR; omega)] at h9; exact h9
def clI (I : gI) (mo : Nat) (f n : Int) : gI := fun b j => if b = mo + 13 ∧ 144 * f ≤ j ∧ j < 144 * f + n then 0 else I b j
theorem clI_u {I : gI} {mo : Nat} {f n i : Int} (h0 : 0 ≤ n) (hi : i = 144 * f + n) : uI (clI I mo f n) (mo + 13) i 0 = clI I mo f (n + 1) := by
  subst hi
  funext b j
  unfold uI clI
  by_cases e : b = mo + 13 ∧ j = 144 * f + n
  · rw [if_pos e, if_pos ⟨e.1, by omega, by omega⟩]
  · rw [if_neg e]
    by_cases e2 : b = mo + 13 ∧ 144 * f ≤ j ∧ j < 144 * f + n
    · rw [if_pos e2, if_pos ⟨e2.1, e2.2.1, by omega⟩]
    · rw [if_neg e2, if_neg (by omega)]
theorem clI_0 {I : gI} {mo : Nat} {f : Int} : clI I mo f 0 = I := by
  funext b j
  unfold clI
  rw [if_neg (by omega)]
/-- what one sign of a formula refers to -/
def rfK (S : Int → Int) (r id k d : Int) : Prop := (10000 ≤ S (3 + 32 * id + (8 + k)) ∧ snS S r (S (3 + 32 * id + (8 + k))) = d) ∨ (S (3 + 32 * id + (8 + k)) = -4 ∧ snS S r (S (3 + 32 * id + (8 + k + 1))) ≠ -1 ∧ snS S r (S (3 + 32 * id + (8 + k + 2))) ≠ -1 ∧ inR (snS S r (S (3 + 32 * id + (8 + k + 1)))) (snS S r (S (3 + 32 * id + (8 + k + 2)))) d)
def rfU (S : Int → Int) (r id n d : Int) : Prop := ∃ k, 0 ≤ k ∧ k < n ∧ rfK S r id k d
/-- .. and the whole -/
def rfS (S : Int → Int) (r id d : Int) : Prop := rfU S r id (S (3 + 32 * id + 7)) d
theorem rfU_s {S : Int → Int} {r id n d : Int} (h : 0 ≤ n) : rfU S r id (n + 1) d ↔ rfU S r id n d ∨ rfK S r id n d := by
  constructor
  · rintro ⟨k, a, b, c⟩
    by_cases e : k = n
    · exact Or.inr (e ▸ c)
    · exact Or.inl ⟨k, a, by omega, c⟩
  · rintro (⟨k, a, b, c⟩ | c)
    · exact ⟨k, a, by omega, c⟩
    · exact ⟨n, h, by omega, c⟩
/-- the signs of a formula stand well -/
def sgOk (S : Int → Int) (id : Int) : Prop := 0 ≤ S (3 + 32 * id + 7) ∧ S (3 + 32 * id + 7) ≤ 24 ∧ ∀ k, 0 ≤ k → k < S (3 + 32 * id + 7) → S (3 + 32 * id + (8 + k)) = -4 → 10000 ≤ S (3 + 32 * id + (8 + k + 1)) ∧ 10000 ≤ S (3 + 32 * id + (8 + k + 2)) ∧ k + 3 ≤ S (3 + 32 * id + 7)
noncomputable def rfI (I : gI) (mo : Nat) (f : Int) (P : Int → Prop) : gI := spI (clI I mo f 144) mo f P
theorem lkO.sp {I : gI} {mo : Nat} {S : Int → Int} {r f n : Int} {P : Int → Prop} (h : lkO I mo S r) : lkO (spI (clI I mo f n) mo f P) mo S r := by
  refine h.c ?_ ?_ ?_ ?_ ?_ <;> intros <;> rw [spI_a (by omega)] <;> exact if_neg (by omega)
theorem rfI_o {I : gI} {mo b : Nat} {f j : Int} {P : Int → Prop} (h : b ≠ mo + 13 ∨ j < 144 * f ∨ 144 * f + 144 ≤ j) : rfI I mo f P b j = I b j := by
  unfold rfI spI clI
  rw [@if_neg _ (Classical.propDecidable _) (fun h3 => by omega), if_neg (by omega)]
theorem rfI_i {I : gI} {mo : Nat} {f d : Int} {P : Int → Prop} (h0 : 0 ≤ d) (h1 : d < 144) : rfI I mo f P (mo + 13) (144 * f + d) = b01 (P d) := by
  unfold rfI spI clI
  by_cases e : P d
  · exact (@if_pos _ (Classical.propDecidable _) ⟨rfl, by omega, by omega, by rw [show 144 * f + d - 144 * f = d by omega]; exact e⟩ _ _ _).trans (b01_t e).symm
  · exact ((@if_neg _ (Classical.propDecidable _) (fun h3 => e (by rw [show 144 * f + d - 144 * f = d by omega] at h3; exact h3.2.2.2)) _ _ _).trans (if_pos ⟨rfl, by omega, by omega⟩)).trans (b01_f e).symm
set_option maxHeartbeats 4000000 in
set_option maxRecDepth 20000 in
theorem ct_X11_refersTo {T : gT} {I : gI} {J : gJ} {O : gO} {mo : Nat} {S : Int → Int} {r f id : Int} (hM : MoAt T O mo) (hL : lkO I mo S r) (h0 : 0 ≤ f) (h1 : f < 120) (h2 : 0 ≤ id) (h3 : id < 120) (hs : sgOk S id) : Ct yX11_refersTo cX11_refersTo 8 none [va_rf (some mo), VI f, VI id] 2 46 0 0 T I J O (pv none T (rfI I mo f (rfS S r id)) J O) := by
  refine Ct.of (by decide) [some (va_rf (some mo)), some (VI f), some (VI id), none, none, none, none, none] (gEn1 (List.forall_mem_cons.mpr ⟨cat_VR _, List.forall_mem_cons.mpr ⟨cat_VI _, List.forall_mem_cons.mpr ⟨cat_VI _, fun _ h => nomatch h⟩⟩⟩) rfl (Nat.le_of_ble_eq_true rfl) rfl) ?_
  intro X x en rm ini hr hz
  have hr0 := hr
  have hrS : ∀ (j : Int), in32 (S j) := fun j => by rw [← hL.1]; exact hr _ _
  obtain ⟨s0, s1, s2⟩ := hs
  have loop : ∀ (d : Nat) (k : Int) (I1 : gI) (o4 o5 o6 o7 : Option Value), d = (S (3 + 32 * id + 7) - k).toNat → 0 ≤ k → k ≤ S (3 + 32 * id + 7) → I1 = spI (clI I mo f 144) mo f (rfU S r id k) → G X 30 [some (va_rf (some mo)), some (VI f), some (VI id), some (VI k), o4, o5, o6, o7] [] T I1 J O 0 0 := by
    intro d
    induction d using Nat.strongRecOn with
    | ind d ih =>
    intro k I1 o4 o5 o6 o7 hd k0 k1 hI
    have hL1 : lkO I1 mo S r := by rw [hI]; exact hL.sp
    have hg := fun h => s2 k k0 h
    have nb : ∀ g, snS S r g = -1 ∨ (0 ≤ snS S r g ∧ snS S r g < 144) := fun g => by
      rcases snS_b (S := S) (r := r) (g := g) with e | e
      · exact Or.inl e
      · exact Or.inr e.b
    have fin : ∀ (o4 o5 o6 o7 : Option Value) (I2 : gI), k < S (3 + 32 * id + 7) → I2 = spI (clI I mo f 144) mo f (rfU S r id (k + 1)) → G X 30 [some (va_rf (some mo)), some (VI f), some (VI id), some (VI (k + 1)), o4, o5, o6, o7] [] T I2 J O 0 0 := fun o4 o5 o6 o7 I2 hk h => ih _ (by omega) _ _ _ _ _ _ rfl (by omega) (by omega) h
    refine G_iload3 x eX11_refersTo_30 ?_
    refine G_aload0 x eX11_refersTo_31 ?_
    refine G_iload2 x eX11_refersTo_32 ?_
    refine G_push x eX11_refersTo_33 ?_
    refine G_cV x eX11_refersTo_35 kX11_105 im_yX11_op se_yX11_op rm hM.m (ct_X11_op hM (by omega) (by omega)) rfl ?_
    rw [hL1.1]
    refine G_icmp_ge x eX11_refersTo_38 (by first | omega | exact hr _ _ | exact hr0 _ _ | exact hrS _) (by first | omega | exact hr _ _ | exact hr0 _ _ | exact hrS _) (fun c38 => ?_) (fun c38 => ?_)
    · rw [hI, show k = S (3 + 32 * id + 7) by omega]
      refine G_return x en eX11_refersTo_175 (by omega) (by omega) ?_
      exact pv_i
    · have hg := hg (by omega)
      have nothing : ¬ 10000 ≤ S (3 + 32 * id + (8 + k)) → S (3 + 32 * id + (8 + k)) ≠ -4 ∨ snS S r (S (3 + 32 * id + (8 + k + 1))) = -1 ∨ snS S r (S (3 + 32 * id + (8 + k + 2))) = -1 → I1 = spI (clI I mo f 144) mo f (rfU S r id (k + 1)) := fun z1 z2 => by
        rw [hI]
        refine spI_c (fun d d0 d1 => ?_)
        rw [rfU_s k0]
        refine ⟨Or.inl, fun z => z.elim (fun q => q) (fun z => ?_)⟩
        rcases z with ⟨a, -⟩ | ⟨a, b, c, -⟩
        · exact absurd a z1
        · rcases z2 with z2 | z2 | z2
          · exact absurd a z2
          · exact absurd z2 b
          · exact absurd z2 c
      refine G_aload0 x eX11_refersTo_41 ?_
      refine G_iload2 x eX11_refersTo_42 ?_
      refine G_push x eX11_refersTo_43 ?_
      refine G_iload3 x eX11_refersTo_45 ?_
      refine G_iadd x eX11_refersTo_46 ?_
      refine G_cV x eX11_refersTo_47 kX11_105 im_yX11_op se_yX11_op rm hM.m (ct_X11_op hM (by omega) (by omega)) rfl ?_
      rw [hL1.1]
      have nb0 := nb (S (3 + 32 * id + (8 + k)))
      by_cases e : 10000 ≤ S (3 + 32 * id + (8 + k))
      · have hmk : snS S r (S (3 + 32 * id + (8 + k))) ≠ -1 → uI I1 (mo + 13) (144 * f + snS S r (S (3 + 32 * id + (8 + k)))) 1 = spI (clI I mo f 144) mo f (rfU S r id (k + 1)) := fun h9 => by
          rw [hI]
          refine spI_u (c := snS S r (S (3 + 32 * id + (8 + k)))) rfl (by omega) (by omega) (fun d d0 d1 => ?_)
          rw [rfU_s k0]
          unfold rfK
          constructor
          · rintro (z | ⟨-, z⟩ | ⟨z, -⟩)
            · exact Or.inl z
            · exact Or.inr z.symm
            · omega
          · rintro (z | z)
            · exact Or.inl z
            · exact Or.inr (Or.inl ⟨e, z.symm⟩)
        have hmk2 : snS S r (S (3 + 32 * id + (8 + k))) = -1 → I1 = spI (clI I mo f 144) mo f (rfU S r id (k + 1)) := fun h9 => by
          rw [hI]
          refine spI_c (fun d d0 d1 => ?_)
          rw [rfU_s k0]
          refine ⟨Or.inl, fun z => z.elim (fun q => q) (fun z => ?_)⟩
          rcases z with ⟨-, z⟩ | ⟨z, -⟩ <;> omega
        refine G_rg (fun hr => ?_)
        refine G_istore4 x eX11_refersTo_50 ?_
        refine G_iload4 x eX11_refersTo_52 ?_
        refine G_push x eX11_refersTo_54 ?_
        refine G_icmp_lt x eX11_refersTo_57 (by first | omega | exact hr _ _ | exact hr0 _ _ | exact hrS _) (by first | omega | exact hr _ _ | exact hr0 _ _ | exact hrS _) (fun c57 => ?_) (fun c57 => ?_)
        · omega
        · refine G_aload0 x eX11_refersTo_60 ?_
          refine G_iload4 x eX11_refersTo_61 ?_
          refine G_cV x eX11_refersTo_63 kX11_199 im_yX11_seen se_yX11_seen rm hM.m (ct_X11_seen hM hL1 (by omega) (by first | omega | exact hr _ _ | exact hr0 _ _ | exact hrS _)) rfl ?_
          refine G_goto x eX11_refersTo_66 ?_
          refine G_istore5 x eX11_refersTo_70 ?_
          refine G_iload5 x eX11_refersTo_72 ?_
          refine G_push x eX11_refersTo_74 ?_
          refine G_icmp_eq x eX11_refersTo_75 (by first | omega | exact hr _ _ | exact hr0 _ _ | exact hrS _) (by first | omega | exact hr _ _ | exact hr0 _ _ | exact hrS _) (fun c75 => ?_) (fun c75 => ?_)
          · refine G_iload4 x eX11_refersTo_92 ?_
            refine G_push x eX11_refersTo_94 ?_
            refine G_icmp_ne x eX11_refersTo_96 (by first | omega | exact hr _ _ | exact hr0 _ _ | exact hrS _) (by first | omega | exact hr _ _ | exact hr0 _ _ | exact hrS _) (fun c96 => ?_) (fun c96 => ?_)
            · refine G_push x eX11_refersTo_117 ?_
              refine G_istore6 x eX11_refersTo_118 ?_
              refine G_iload4 x eX11_refersTo_120 ?_
              refine G_push x eX11_refersTo_122 ?_
              refine G_icmp_ne x eX11_refersTo_124 (by first | omega | exact hr _ _ | exact hr0 _ _ | exact hrS _) (by first | omega | exact hr _ _ | exact hr0 _ _ | exact hrS _) (fun c124 => ?_) (fun c124 => ?_)
              · refine G_push x eX11_refersTo_145 ?_
                refine G_istore7 x eX11_refersTo_146 ?_
                refine G_iload6 x eX11_refersTo_148 ?_
                refine G_push x eX11_refersTo_150 ?_
                refine G_icmp_eq x eX11_refersTo_151 (by first | omega | exact hr _ _ | exact hr0 _ _ | exact hrS _) (by first | omega | exact hr _ _ | exact hr0 _ _ | exact hrS _) (fun c151 => ?_) (fun c151 => ?_)
                · refine G_iinc3 x eX11_refersTo_169 ?_
                  refine G_goto x eX11_refersTo_172 ?_
                  first | omega | exact fin _ _ _ _ _ (by omega) (hmk (by omega)) | exact fin _ _ _ _ _ (by omega) (hmk2 (by omega))
                · refine G_iload7 x eX11_refersTo_154 ?_
                  refine G_push x eX11_refersTo_156 ?_
                  refine G_icmp_eq x eX11_refersTo_157 (by first | omega | exact hr _ _ | exact hr0 _ _ | exact hrS _) (by first | omega | exact hr _ _ | exact hr0 _ _ | exact hrS _) (fun c157 => ?_) (fun c157 => ?_)
                  · refine G_iinc3 x eX11_refersTo_169 ?_
                    refine G_goto x eX11_refersTo_172 ?_
                    first | omega | exact fin _ _ _ _ _ (by omega) (hmk (by omega)) | exact fin _ _ _ _ _ (by omega) (hmk2 (by omega))
                  · omega
              · omega
            · omega
          · refine G_aload0 x eX11_refersTo_78 ?_
            refine G_getq x eX11_refersTo_79 fX11_47 rfl rfl hM.m hM.o_refers ?_
            refine G_push x eX11_refersTo_82 ?_
            refine G_iload1 x eX11_refersTo_85 ?_
            refine G_imul x eX11_refersTo_86 ?_
            refine G_iload5 x eX11_refersTo_87 ?_
            refine G_iadd x eX11_refersTo_89 ?_
            refine G_push x eX11_refersTo_90 ?_
            refine G_zast x eX11_refersTo_91 rfl hM.t_refers (by omega) (by omega) (by omega) (by first | omega | exact hr _ _ | exact hr0 _ _ | exact hrS _) ?_
            refine G_rg (fun hr => ?_)
            refine G_iload4 x eX11_refersTo_92 ?_
            refine G_push x eX11_refersTo_94 ?_
            refine G_icmp_ne x eX11_refersTo_96 (by first | omega | exact hr _ _ | exact hr0 _ _ | exact hrS _) (by first | omega | exact hr _ _ | exact hr0 _ _ | exact hrS _) (fun c96 => ?_) (fun c96 => ?_)
            · refine G_push x eX11_refersTo_117 ?_
              refine G_istore6 x eX11_refersTo_118 ?_
              refine G_iload4 x eX11_refersTo_120 ?_
              refine G_push x eX11_refersTo_122 ?_
              refine G_icmp_ne x eX11_refersTo_124 (by first | omega | exact hr _ _ | exact hr0 _ _ | exact hrS _) (by first | omega | exact hr _ _ | exact hr0 _ _ | exact hrS _) (fun c124 => ?_) (fun c124 => ?_)
              · refine G_push x eX11_refersTo_145 ?_
                refine G_istore7 x eX11_refersTo_146 ?_
                refine G_iload6 x eX11_refersTo_148 ?_
                refine G_push x eX11_refersTo_150 ?_
                refine G_icmp_eq x eX11_refersTo_151 (by first | omega | exact hr _ _ | exact hr0 _ _ | exact hrS _) (by first | omega | exact hr _ _ | exact hr0 _ _ | exact hrS _) (fun c151 => ?_) (fun c151 => ?_)
                · refine G_iinc3 x eX11_refersTo_169 ?_
                  refine G_goto x eX11_refersTo_172 ?_
                  first | omega | exact fin _ _ _ _ _ (by omega) (hmk (by omega)) | exact fin _ _ _ _ _ (by omega) (hmk2 (by omega))
                · refine G_iload7 x eX11_refersTo_154 ?_
                  refine G_push x eX11_refersTo_156 ?_
                  refine G_icmp_eq x eX11_refersTo_157 (by first | omega | exact hr _ _ | exact hr0 _ _ | exact hrS _) (by first | omega | exact hr _ _ | exact hr0 _ _ | exact hrS _) (fun c157 => ?_) (fun c157 => ?_)
                  · refine G_iinc3 x eX11_refersTo_169 ?_
                    refine G_goto x eX11_refersTo_172 ?_
                    first | omega | exact fin _ _ _ _ _ (by omega) (hmk (by omega)) | exact fin _ _ _ _ _ (by omega) (hmk2 (by omega))
                  · omega
              · omega
            · omega
      · have hnot := nothing e
        by_cases e4 : S (3 + 32 * id + (8 + k)) = -4
        · have hg := hg e4
          have nb1 := nb (S (3 + 32 * id + (8 + k + 1)))
          have nb2 := nb (S (3 + 32 * id + (8 + k + 2)))
          have hsp := fun (a1 : snS S r (S (3 + 32 * id + (8 + k + 1))) ≠ -1) (a2 : snS S r (S (3 + 32 * id + (8 + k + 2))) ≠ -1) => (show spI I1 mo f (inR (snS S r (S (3 + 32 * id + (8 + k + 1)))) (snS S r (S (3 + 32 * id + (8 + k + 2))))) = spI (clI I mo f 144) mo f (rfU S r id (k + 1)) from by
            rw [hI]
            refine spI_spI (fun d d0 d1 => ?_)
            rw [rfU_s k0]
            unfold rfK
            constructor
            · rintro (z | ⟨z, -⟩ | ⟨-, -, -, z⟩)
              · exact Or.inl z
              · exact absurd z e
              · exact Or.inr z
            · rintro (z | z)
              · exact Or.inl z
              · exact Or.inr (Or.inr ⟨e4, a1, a2, z⟩))
          refine G_rg (fun hr => ?_)
          refine G_istore4 x eX11_refersTo_50 ?_
          refine G_iload4 x eX11_refersTo_52 ?_
          refine G_push x eX11_refersTo_54 ?_
          refine G_icmp_lt x eX11_refersTo_57 (by first | omega | exact hr _ _ | exact hr0 _ _ | exact hrS _) (by first | omega | exact hr _ _ | exact hr0 _ _ | exact hrS _) (fun c57 => ?_) (fun c57 => ?_)
          · refine G_push x eX11_refersTo_69 ?_
            refine G_istore5 x eX11_refersTo_70 ?_
            refine G_iload5 x eX11_refersTo_72 ?_
            refine G_push x eX11_refersTo_74 ?_
            refine G_icmp_eq x eX11_refersTo_75 (by first | omega | exact hr _ _ | exact hr0 _ _ | exact hrS _) (by first | omega | exact hr _ _ | exact hr0 _ _ | exact hrS _) (fun c75 => ?_) (fun c75 => ?_)
            · refine G_iload4 x eX11_refersTo_92 ?_
              refine G_push x eX11_refersTo_94 ?_
              refine G_icmp_ne x eX11_refersTo_96 (by first | omega | exact hr _ _ | exact hr0 _ _ | exact hrS _) (by first | omega | exact hr _ _ | exact hr0 _ _ | exact hrS _) (fun c96 => ?_) (fun c96 => ?_)
              · omega
              · refine G_aload0 x eX11_refersTo_99 ?_
                refine G_aload0 x eX11_refersTo_100 ?_
                refine G_iload2 x eX11_refersTo_101 ?_
                refine G_push x eX11_refersTo_102 ?_
                refine G_iload3 x eX11_refersTo_104 ?_
                refine G_iadd x eX11_refersTo_105 ?_
                refine G_push x eX11_refersTo_106 ?_
                refine G_iadd x eX11_refersTo_107 ?_
                refine G_cV x eX11_refersTo_108 kX11_105 im_yX11_op se_yX11_op rm hM.m (ct_X11_op hM (by omega) (by omega)) rfl ?_
                rw [hL1.1]
                refine G_cV x eX11_refersTo_111 kX11_199 im_yX11_seen se_yX11_seen rm hM.m (ct_X11_seen hM hL1 (by omega) (by first | omega | exact hr _ _ | exact hr0 _ _ | exact hrS _)) rfl ?_
                refine G_goto x eX11_refersTo_114 ?_
                refine G_istore6 x eX11_refersTo_118 ?_
                refine G_iload4 x eX11_refersTo_120 ?_
                refine G_push x eX11_refersTo_122 ?_
                refine G_icmp_ne x eX11_refersTo_124 (by first | omega | exact hr _ _ | exact hr0 _ _ | exact hrS _) (by first | omega | exact hr _ _ | exact hr0 _ _ | exact hrS _) (fun c124 => ?_) (fun c124 => ?_)
                · omega
                · refine G_aload0 x eX11_refersTo_127 ?_
                  refine G_aload0 x eX11_refersTo_128 ?_
                  refine G_iload2 x eX11_refersTo_129 ?_
                  refine G_push x eX11_refersTo_130 ?_
                  refine G_iload3 x eX11_refersTo_132 ?_
                  refine G_iadd x eX11_refersTo_133 ?_
                  refine G_push x eX11_refersTo_134 ?_
                  refine G_iadd x eX11_refersTo_135 ?_
                  refine G_cV x eX11_refersTo_136 kX11_105 im_yX11_op se_yX11_op rm hM.m (ct_X11_op hM (by omega) (by omega)) rfl ?_
                  rw [hL1.1]
                  refine G_cV x eX11_refersTo_139 kX11_199 im_yX11_seen se_yX11_seen rm hM.m (ct_X11_seen hM hL1 (by omega) (by first | omega | exact hr _ _ | exact hr0 _ _ | exact hrS _)) rfl ?_
                  refine G_goto x eX11_refersTo_142 ?_
                  refine G_istore7 x eX11_refersTo_146 ?_
                  refine G_iload6 x eX11_refersTo_148 ?_
                  refine G_push x eX11_refersTo_150 ?_
                  refine G_icmp_eq x eX11_refersTo_151 (by first | omega | exact hr _ _ | exact hr0 _ _ | exact hrS _) (by first | omega | exact hr _ _ | exact hr0 _ _ | exact hrS _) (fun c151 => ?_) (fun c151 => ?_)
                  · refine G_iinc3 x eX11_refersTo_169 ?_
                    refine G_goto x eX11_refersTo_172 ?_
                    refine fin _ _ _ _ _ (by omega) ?_; first | exact hsp (by omega) (by omega) | exact hnot (by omega)
                  · refine G_iload7 x eX11_refersTo_154 ?_
                    refine G_push x eX11_refersTo_156 ?_
                    refine G_icmp_eq x eX11_refersTo_157 (by first | omega | exact hr _ _ | exact hr0 _ _ | exact hrS _) (by first | omega | exact hr _ _ | exact hr0 _ _ | exact hrS _) (fun c157 => ?_) (fun c157 => ?_)
                    · refine G_iinc3 x eX11_refersTo_169 ?_
                      refine G_goto x eX11_refersTo_172 ?_
                      refine fin _ _ _ _ _ (by omega) ?_; first | exact hsp (by omega) (by omega) | exact hnot (by omega)
                    · refine G_aload0 x eX11_refersTo_160 ?_
                      refine G_iload1 x eX11_refersTo_161 ?_
                      refine G_iload6 x eX11_refersTo_162 ?_
                      refine G_iload7 x eX11_refersTo_164 ?_
                      refine G_cVv x eX11_refersTo_166 kX11_202 im_yX11_spans se_yX11_spans rm hM.m (ct_X11_spans hM (by omega) (by omega) (by omega) (by omega)) rfl ?_
                      refine G_iinc3 x eX11_refersTo_169 ?_
                      refine G_goto x eX11_refersTo_172 ?_
                      refine fin _ _ _ _ _ (by omega) ?_; first | exact hsp (by omega) (by omega) | exact hnot (by omega)
            · omega
          · omega
        · refine G_rg (fun hr => ?_)
          refine G_istore4 x eX11_refersTo_50 ?_
          refine G_iload4 x eX11_refersTo_52 ?_
          refine G_push x eX11_refersTo_54 ?_
          refine G_icmp_lt x eX11_refersTo_57 (by first | omega | exact hr _ _ | exact hr0 _ _ | exact hrS _) (by first | omega | exact hr _ _ | exact hr0 _ _ | exact hrS _) (fun c57 => ?_) (fun c57 => ?_)
          · refine G_push x eX11_refersTo_69 ?_
            refine G_istore5 x eX11_refersTo_70 ?_
            refine G_iload5 x eX11_refersTo_72 ?_
            refine G_push x eX11_refersTo_74 ?_
            refine G_icmp_eq x eX11_refersTo_75 (by first | omega | exact hr _ _ | exact hr0 _ _ | exact hrS _) (by first | omega | exact hr _ _ | exact hr0 _ _ | exact hrS _) (fun c75 => ?_) (fun c75 => ?_)
            · refine G_iload4 x eX11_refersTo_92 ?_
              refine G_push x eX11_refersTo_94 ?_
              refine G_icmp_ne x eX11_refersTo_96 (by first | omega | exact hr _ _ | exact hr0 _ _ | exact hrS _) (by first | omega | exact hr _ _ | exact hr0 _ _ | exact hrS _) (fun c96 => ?_) (fun c96 => ?_)
              · refine G_push x eX11_refersTo_117 ?_
                refine G_istore6 x eX11_refersTo_118 ?_
                refine G_iload4 x eX11_refersTo_120 ?_
                refine G_push x eX11_refersTo_122 ?_
                refine G_icmp_ne x eX11_refersTo_124 (by first | omega | exact hr _ _ | exact hr0 _ _ | exact hrS _) (by first | omega | exact hr _ _ | exact hr0 _ _ | exact hrS _) (fun c124 => ?_) (fun c124 => ?_)
                · refine G_push x eX11_refersTo_145 ?_
                  refine G_istore7 x eX11_refersTo_146 ?_
                  refine G_iload6 x eX11_refersTo_148 ?_
                  refine G_push x eX11_refersTo_150 ?_
                  refine G_icmp_eq x eX11_refersTo_151 (by first | omega | exact hr _ _ | exact hr0 _ _ | exact hrS _) (by first | omega | exact hr _ _ | exact hr0 _ _ | exact hrS _) (fun c151 => ?_) (fun c151 => ?_)
                  · refine G_iinc3 x eX11_refersTo_169 ?_
                    refine G_goto x eX11_refersTo_172 ?_
                    exact fin _ _ _ _ _ (by omega) (hnot (Or.inl e4))
                  · refine G_iload7 x eX11_refersTo_154 ?_
                    refine G_push x eX11_refersTo_156 ?_
                    refine G_icmp_eq x eX11_refersTo_157 (by first | omega | exact hr _ _ | exact hr0 _ _ | exact hrS _) (by first | omega | exact hr _ _ | exact hr0 _ _ | exact hrS _) (fun c157 => ?_) (fun c157 => ?_)
                    · refine G_iinc3 x eX11_refersTo_169 ?_
                      refine G_goto x eX11_refersTo_172 ?_
                      exact fin _ _ _ _ _ (by omega) (hnot (Or.inl e4))
                    · omega
                · omega
              · omega
            · omega
          · omega
  have first : ∀ (d : Nat) (k : Int), d = (144 - k).toNat → 0 ≤ k → k ≤ 144 → G X 2 [some (va_rf (some mo)), some (VI f), some (VI id), some (VI k), none, none, none, none] [] T (clI I mo f k) J O 0 0 := by
    intro d
    induction d using Nat.strongRecOn with
    | ind d ih =>
    intro k hd k0 k1
    refine G_rg (fun hr => ?_)
    refine G_iload3 x eX11_refersTo_2 ?_
    refine G_push x eX11_refersTo_3 ?_
    refine G_icmp_ge x eX11_refersTo_6 (by first | omega | exact hr _ _ | exact hr0 _ _ | exact hrS _) (by first | omega | exact hr _ _ | exact hr0 _ _ | exact hrS _) (fun c6 => ?_) (fun c6 => ?_)
    · refine G_push x eX11_refersTo_28 ?_
      refine G_istore3 x eX11_refersTo_29 ?_
      have e9 : k = 144 := (by omega); subst e9; exact loop _ _ _ _ _ _ _ rfl (by omega) (by omega) (spI_0 (fun d d0 d1 => by rintro ⟨k, a, b, c⟩; omega)).symm
    · refine G_aload0 x eX11_refersTo_9 ?_
      refine G_getq x eX11_refersTo_10 fX11_47 rfl rfl hM.m hM.o_refers ?_
      refine G_push x eX11_refersTo_13 ?_
      refine G_iload1 x eX11_refersTo_16 ?_
      refine G_imul x eX11_refersTo_17 ?_
      refine G_iload3 x eX11_refersTo_18 ?_
      refine G_iadd x eX11_refersTo_19 ?_
      refine G_push x eX11_refersTo_20 ?_
      refine G_zast x eX11_refersTo_21 rfl hM.t_refers (by omega) (by omega) (by omega) (by first | omega | exact hr _ _ | exact hr0 _ _ | exact hrS _) ?_
      refine G_rg (fun hr => ?_)
      refine G_iinc3 x eX11_refersTo_22 ?_
      refine G_goto x eX11_refersTo_25 ?_
      rw [clI_u (by omega) (by omega)]; exact ih _ (by omega) _ rfl (by omega) (by omega)
  refine G_rg (fun hr => ?_)
  refine G_push x eX11_refersTo_0 ?_
  refine G_istore3 x eX11_refersTo_1 ?_
  have h9 := first _ 0 rfl (by omega) (by omega); rw [clI_0] at h9; exact h9
