/-! a formula as a text -/
def sh1 (I : gI) (mo : Nat) (c : Int) : gI := uI (uI I (mo + 4) (I mo 5) c) mo 5 (I mo 5 + 1)
def txI (I : gI) (mo : Nat) : List Int → gI
  | [] => I
  | v :: l => txI (sh1 I mo v) mo l
def txA (X : Int → Int) (n : Int) : List Int → Int → Int
  | [] => X
  | v :: l => txA (sU X n v) (n + 1) l
theorem txI_app {I : gI} {mo : Nat} {a b : List Int} : txI I mo (a ++ b) = txI (txI I mo a) mo b := by
  induction a generalizing I with
  | nil => rfl
  | cons v l ih => exact ih
theorem sh1_o {I : gI} {mo b : Nat} {c j : Int} (h : b ≠ mo + 4) (h2 : b ≠ mo ∨ j ≠ 5) : sh1 I mo c b j = I b j := by
  unfold sh1
  rw [uI_o h2, uI_a h]
theorem sh1_5 {I : gI} {mo : Nat} {c : Int} : sh1 I mo c mo 5 = I mo 5 + 1 := uI_s
theorem sh1_4 {I : gI} {mo : Nat} {c : Int} : sh1 I mo c (mo + 4) = sU (I (mo + 4)) (I mo 5) c := by
  funext j
  unfold sh1 sU
  rw [uI_a (by omega)]
  by_cases e : j = I mo 5
  · rw [if_pos e, e, uI_s]
  · rw [if_neg e, uI_k e]
theorem txI_o {I : gI} {mo b : Nat} {j : Int} {l : List Int} (h : b ≠ mo + 4) (h2 : b ≠ mo ∨ j ≠ 5) : txI I mo l b j = I b j := by
  induction l generalizing I with
  | nil => rfl
  | cons v l ih => show txI (sh1 I mo v) mo l b j = _; rw [ih, sh1_o h h2]
theorem txI_5 {I : gI} {mo : Nat} {l : List Int} : txI I mo l mo 5 = I mo 5 + l.length := by
  induction l generalizing I with
  | nil => show I mo 5 = I mo 5 + 0; omega
  | cons v l ih => show txI (sh1 I mo v) mo l mo 5 = _; rw [ih, sh1_5, List.length_cons]; omega
theorem txI_4 {I : gI} {mo : Nat} {l : List Int} : txI I mo l (mo + 4) = txA (I (mo + 4)) (I mo 5) l := by
  induction l generalizing I with
  | nil => rfl
  | cons v l ih => show txI (sh1 I mo v) mo l (mo + 4) = _; rw [ih, sh1_5, sh1_4]; rfl
/-- a number's digits; a cell's name; a factor; a formula -/
def dgT (v : Int) : List Int := (if 1000 ≤ v then [48 + v / 1000 % 10] else []) ++ ((if 100 ≤ v then [48 + v / 100 % 10] else []) ++ ((if 10 ≤ v then [48 + v / 10 % 10] else []) ++ [48 + v % 10]))
noncomputable def cnT (S : Int → Int) (r f : Int) : List Int := if snS S r (10000 + f) = -1 ∨ 8 < snS S r (10000 + f) / 12 then [35] else [65 + snS S r (10000 + f) % 12, 49 + snS S r (10000 + f) / 12]
noncomputable def faT (S : Int → Int) (r k f s : Int) : List Int := if k = 0 then dgT f else if k = 1 then cnT S r f else 83 :: 40 :: (cnT S r f ++ 58 :: (cnT S r s ++ [41]))
noncomputable def wtT (S : Int → Int) (r : Int) : List (Int × Int × Int × Int) → List Int
  | [] => []
  | [x] => faT S r x.2.1 x.2.2.1 x.2.2.2
  | x :: y :: l => faT S r x.2.1 x.2.2.1 x.2.2.2 ++ y.1 :: wtT S r (y :: l)
def faW (k f : Int) : Int := if k = 0 then (dgT f).length else if k = 1 then 2 else 8
def flW : List (Int × Int × Int × Int) → Int
  | [] => 0
  | [x] => faW x.2.1 x.2.2.1
  | x :: y :: l => faW x.2.1 x.2.2.1 + 1 + flW (y :: l)
def faOk (x : Int × Int × Int × Int) : Prop := isOp x.1 ∧ ((x.2.1 = 0 ∧ (0 ≤ x.2.2.1 ∧ x.2.2.1 ≤ 9999) ∧ x.2.2.2 = 0) ∨ (x.2.1 = 1 ∧ (0 ≤ x.2.2.1 ∧ x.2.2.1 < 144) ∧ x.2.2.2 = x.2.2.1) ∨ (x.2.1 = 2 ∧ (0 ≤ x.2.2.1 ∧ x.2.2.1 < 144) ∧ 0 ≤ x.2.2.2 ∧ x.2.2.2 < 144))
def flOk (fl : List (Int × Int × Int × Int)) : Prop := fl ≠ [] ∧ (∀ x ∈ fl, faOk x) ∧ flW fl ≤ 24
/-- an operation's signs are those of a formula -/
def fmlAt (S : Int → Int) (id : Int) (fl : List (Int × Int × Int × Int)) : Prop := S (3 + 32 * id + 7) = (tks fl).length ∧ (∀ (i : Nat) (v : Int), (tks fl)[i]? = some v → S (3 + 32 * id + (8 + i)) = v) ∧ flOk fl
theorem dgT_l {v : Int} : 1 ≤ ((dgT v).length : Int) ∧ ((dgT v).length : Int) ≤ 4 := by
  unfold dgT
  simp only [List.length_append]
  constructor <;> (repeat' split) <;> simp only [List.length_cons, List.length_nil] <;> omega
theorem cnT_l {S : Int → Int} {r f : Int} : 1 ≤ ((cnT S r f).length : Int) ∧ ((cnT S r f).length : Int) ≤ 2 := by
  unfold cnT
  split <;> simp
theorem faT_l {S : Int → Int} {r k f s : Int} : ((faT S r k f s).length : Int) ≤ faW k f := by
  unfold faT faW
  split
  · omega
  · split
    · exact cnT_l.2
    · have := cnT_l (S := S) (r := r) (f := f)
      have := cnT_l (S := S) (r := r) (f := s)
      simp only [List.length_cons, List.length_append, List.length_nil]
      omega
set_option maxRecDepth 20000 in
theorem ct_X11_showsNamed {T : gT} {I : gI} {J : gJ} {O : gO} {mo : Nat} {S : Int → Int} {r f : Int} (hM : MoAt T O mo) (hL : lkO I mo S r) (h0 : 0 ≤ f) (h1 : f < 144) (h2 : 0 ≤ I mo 5) (h3 : I mo 5 + 2 ≤ 64) : Ct yX11_showsNamed cX11_showsNamed 3 none [va_rf (some mo), VI (10000 + f)] 2 46 0 0 T I J O (pv none T (txI I mo (cnT S r f)) J O) := by
  refine Ct.of (by decide) [some (va_rf (some mo)), some (VI (10000 + f)), none] (gEn1 (List.forall_mem_cons.mpr ⟨cat_VR _, List.forall_mem_cons.mpr ⟨cat_VI _, fun _ h => nomatch h⟩⟩) rfl (Nat.le_of_ble_eq_true rfl) rfl) ?_
  intro X x en rm ini hr hz
  have hr0 := hr
  refine G_aload0 x eX11_showsNamed_0 ?_
  refine G_iload1 x eX11_showsNamed_1 ?_
  refine G_cV x eX11_showsNamed_2 kX11_199 im_yX11_seen se_yX11_seen rm hM.m (ct_X11_seen hM hL (by omega) (by omega)) rfl ?_
  have nb := snS_b (S := S) (r := r) (g := 10000 + f)
  have nb2 : snS S r (10000 + f) = -1 ∨ (0 ≤ snS S r (10000 + f) ∧ snS S r (10000 + f) < 144) := nb.imp (fun z => z) (fun z => z.b)
  clear nb
  unfold cnT at en
  generalize snS S r (10000 + f) = c at *
  by_cases e : c = -1 ∨ 8 < c / 12
  · rw [if_pos e] at en
    refine G_rg (fun hr => ?_)
    refine G_istore2 x eX11_showsNamed_5 ?_
    refine G_iload2 x eX11_showsNamed_6 ?_
    refine G_push x eX11_showsNamed_7 ?_
    refine G_icmp_eq x eX11_showsNamed_8 (by first | omega | exact hr _ _ | exact hr0 _ _ | exact hrS _) (by first | omega | exact hr _ _ | exact hr0 _ _ | exact hrS _) (fun c8 => ?_) (fun c8 => ?_)
    · refine G_aload0 x eX11_showsNamed_20 ?_
      refine G_push x eX11_showsNamed_21 ?_
      refine G_cVv x eX11_showsNamed_23 kX11_269 im_yX11_shows se_yX11_shows rm hM.m (ct_X11_shows hM (by omega) (by omega) (by omega)) rfl ?_
      refine G_rg (fun hr => ?_)
      refine G_goto x eX11_showsNamed_26 ?_
      refine G_return x en eX11_showsNamed_51 (by omega) (by omega) ?_
      exact pv_i
    · refine G_iload2 x eX11_showsNamed_11 ?_
      refine G_push x eX11_showsNamed_12 ?_
      refine G_idivn x eX11_showsNamed_14 (by omega) (by omega) (by omega) (by omega) ?_
      refine G_push x eX11_showsNamed_15 ?_
      refine G_icmp_le x eX11_showsNamed_17 (by first | omega | exact hr _ _ | exact hr0 _ _ | exact hrS _) (by first | omega | exact hr _ _ | exact hr0 _ _ | exact hrS _) (fun c17 => ?_) (fun c17 => ?_)
      · omega
      · refine G_aload0 x eX11_showsNamed_20 ?_
        refine G_push x eX11_showsNamed_21 ?_
        refine G_cVv x eX11_showsNamed_23 kX11_269 im_yX11_shows se_yX11_shows rm hM.m (ct_X11_shows hM (by omega) (by omega) (by omega)) rfl ?_
        refine G_rg (fun hr => ?_)
        refine G_goto x eX11_showsNamed_26 ?_
        refine G_return x en eX11_showsNamed_51 (by omega) (by omega) ?_
        exact pv_i
  · rw [if_neg e] at en
    have e5 : (sh1 I mo (65 + c % 12)) mo 5 = I mo 5 + 1 := sh1_5
    refine G_rg (fun hr => ?_)
    refine G_istore2 x eX11_showsNamed_5 ?_
    refine G_iload2 x eX11_showsNamed_6 ?_
    refine G_push x eX11_showsNamed_7 ?_
    refine G_icmp_eq x eX11_showsNamed_8 (by first | omega | exact hr _ _ | exact hr0 _ _ | exact hrS _) (by first | omega | exact hr _ _ | exact hr0 _ _ | exact hrS _) (fun c8 => ?_) (fun c8 => ?_)
    · omega
    · refine G_iload2 x eX11_showsNamed_11 ?_
      refine G_push x eX11_showsNamed_12 ?_
      refine G_idivn x eX11_showsNamed_14 (by omega) (by omega) (by omega) (by omega) ?_
      refine G_push x eX11_showsNamed_15 ?_
      refine G_icmp_le x eX11_showsNamed_17 (by first | omega | exact hr _ _ | exact hr0 _ _ | exact hrS _) (by first | omega | exact hr _ _ | exact hr0 _ _ | exact hrS _) (fun c17 => ?_) (fun c17 => ?_)
      · refine G_aload0 x eX11_showsNamed_29 ?_
        refine G_push x eX11_showsNamed_30 ?_
        refine G_iload2 x eX11_showsNamed_32 ?_
        refine G_push x eX11_showsNamed_33 ?_
        refine G_iremn x eX11_showsNamed_35 (by omega) (by omega) (by omega) (by omega) ?_
        refine G_iadd x eX11_showsNamed_36 ?_
        refine G_cVv x eX11_showsNamed_37 kX11_269 im_yX11_shows se_yX11_shows rm hM.m (ct_X11_shows hM (by omega) (by omega) (by omega)) rfl ?_
        refine G_rg (fun hr => ?_)
        refine G_aload0 x eX11_showsNamed_40 ?_
        refine G_push x eX11_showsNamed_41 ?_
        refine G_iload2 x eX11_showsNamed_43 ?_
        refine G_push x eX11_showsNamed_44 ?_
        refine G_idivn x eX11_showsNamed_46 (by omega) (by omega) (by omega) (by omega) ?_
        refine G_iadd x eX11_showsNamed_47 ?_
        refine G_cVv x eX11_showsNamed_48 kX11_269 im_yX11_shows se_yX11_shows rm hM.m (ct_X11_shows (I := sh1 I mo (65 + c % 12)) hM (by omega) (by omega) (by omega)) rfl ?_
        refine G_rg (fun hr => ?_)
        refine G_return x en eX11_showsNamed_51 (by omega) (by omega) ?_
        exact pv_i
      · omega
set_option maxRecDepth 20000 in
theorem ct_X11_showsNumber {T : gT} {I : gI} {J : gJ} {O : gO} {mo : Nat} {v : Int} (hM : MoAt T O mo) (h0 : 0 ≤ v) (h1 : v ≤ 9999) (h2 : 0 ≤ I mo 5) (h3 : I mo 5 + 4 ≤ 64) : Ct yX11_showsNumber cX11_showsNumber 4 none [va_rf (some mo), VI v] 1 21 0 0 T I J O (pv none T (txI I mo (dgT v)) J O) := by
  refine Ct.of (by decide) [some (va_rf (some mo)), some (VI v), none, none] (gEn1 (List.forall_mem_cons.mpr ⟨cat_VR _, List.forall_mem_cons.mpr ⟨cat_VI _, fun _ h => nomatch h⟩⟩) rfl (Nat.le_of_ble_eq_true rfl) rfl) ?_
  intro X x en rm ini hr hz
  have hr0 := hr
  have s0 : ∀ (I1 : gI) (b : Int), I1 = txI I mo (dgT v) → G X 6 [some (va_rf (some mo)), some (VI v), some (VI b), some (VI 0)] [] T I1 J O 0 0 := by
    intro I1 b hI
    refine G_rg (fun hr => ?_)
    refine G_iload3 x eX11_showsNumber_6 ?_
    refine G_if_le x eX11_showsNumber_7 (by first | omega | exact hr _ _ | exact hr0 _ _ | exact hrS _) (fun c7 => ?_) (fun c7 => ?_)
    · refine G_return x en eX11_showsNumber_55 (by omega) (by omega) ?_
      rw [hI]; exact pv_i
    · omega
  have s1 : ∀ (I1 : gI) (b : Int), (b = 0 ∨ b = 1) → 0 ≤ I1 mo 5 → I1 mo 5 < 64 → txI I1 mo [48 + v % 10] = txI I mo (dgT v) → G X 6 [some (va_rf (some mo)), some (VI v), some (VI b), some (VI 1)] [] T I1 J O 0 0 := by
    intro I1 b hb n0 n1 hI
    refine G_rg (fun hr => ?_)
    refine G_iload3 x eX11_showsNumber_6 ?_
    refine G_if_le x eX11_showsNumber_7 (by first | omega | exact hr _ _ | exact hr0 _ _ | exact hrS _) (fun c7 => ?_) (fun c7 => ?_)
    · omega
    · refine G_iload2 x eX11_showsNumber_10 ?_
      refine G_if_ne x eX11_showsNumber_11 (by first | omega | exact hr _ _ | exact hr0 _ _ | exact hrS _) (fun c11 => ?_) (fun c11 => ?_)
      · refine G_push x eX11_showsNumber_24 ?_
        refine G_goto x eX11_showsNumber_25 ?_
        refine G_istore2 x eX11_showsNumber_29 ?_
        refine G_iload2 x eX11_showsNumber_30 ?_
        refine G_if_eq x eX11_showsNumber_31 (by first | omega | exact hr _ _ | exact hr0 _ _ | exact hrS _) (fun c31 => ?_) (fun c31 => ?_)
        · refine G_iload3 x eX11_showsNumber_47 ?_
          refine G_push x eX11_showsNumber_48 ?_
          refine G_idivn x eX11_showsNumber_50 (by omega) (by omega) (by omega) (by omega) ?_
          refine G_istore3 x eX11_showsNumber_51 ?_
          refine G_goto x eX11_showsNumber_52 ?_
          first | omega | (refine s0 _ _ ?_; rw [← hI, Int.ediv_one]; rfl)
        · refine G_aload0 x eX11_showsNumber_34 ?_
          refine G_push x eX11_showsNumber_35 ?_
          refine G_iload1 x eX11_showsNumber_37 ?_
          refine G_iload3 x eX11_showsNumber_38 ?_
          skip
          refine G_idivn x eX11_showsNumber_39 (by omega) (by omega) (by omega) (by omega) ?_
          refine G_push x eX11_showsNumber_40 ?_
          refine G_iremn x eX11_showsNumber_42 (by omega) (by omega) (by omega) (by omega) ?_
          refine G_iadd x eX11_showsNumber_43 ?_
          refine G_cVv x eX11_showsNumber_44 kX11_269 im_yX11_shows se_yX11_shows rm hM.m (ct_X11_shows hM (by omega) (by omega) (by omega)) rfl ?_
          refine G_rg (fun hr => ?_)
          refine G_iload3 x eX11_showsNumber_47 ?_
          refine G_push x eX11_showsNumber_48 ?_
          refine G_idivn x eX11_showsNumber_50 (by omega) (by omega) (by omega) (by omega) ?_
          refine G_istore3 x eX11_showsNumber_51 ?_
          refine G_goto x eX11_showsNumber_52 ?_
          first | omega | (refine s0 _ _ ?_; rw [← hI, Int.ediv_one]; rfl)
      · refine G_iload1 x eX11_showsNumber_14 ?_
        refine G_iload3 x eX11_showsNumber_15 ?_
        refine G_icmp_ge x eX11_showsNumber_16 (by first | omega | exact hr _ _ | exact hr0 _ _ | exact hrS _) (by first | omega | exact hr _ _ | exact hr0 _ _ | exact hrS _) (fun c16 => ?_) (fun c16 => ?_)
        · refine G_push x eX11_showsNumber_24 ?_
          refine G_goto x eX11_showsNumber_25 ?_
          refine G_istore2 x eX11_showsNumber_29 ?_
          refine G_iload2 x eX11_showsNumber_30 ?_
          refine G_if_eq x eX11_showsNumber_31 (by first | omega | exact hr _ _ | exact hr0 _ _ | exact hrS _) (fun c31 => ?_) (fun c31 => ?_)
          · refine G_iload3 x eX11_showsNumber_47 ?_
            refine G_push x eX11_showsNumber_48 ?_
            refine G_idivn x eX11_showsNumber_50 (by omega) (by omega) (by omega) (by omega) ?_
            refine G_istore3 x eX11_showsNumber_51 ?_
            refine G_goto x eX11_showsNumber_52 ?_
            first | omega | (refine s0 _ _ ?_; rw [← hI, Int.ediv_one]; rfl)
          · refine G_aload0 x eX11_showsNumber_34 ?_
            refine G_push x eX11_showsNumber_35 ?_
            refine G_iload1 x eX11_showsNumber_37 ?_
            refine G_iload3 x eX11_showsNumber_38 ?_
            skip
            refine G_idivn x eX11_showsNumber_39 (by omega) (by omega) (by omega) (by omega) ?_
            refine G_push x eX11_showsNumber_40 ?_
            refine G_iremn x eX11_showsNumber_42 (by omega) (by omega) (by omega) (by omega) ?_
            refine G_iadd x eX11_showsNumber_43 ?_
            refine G_cVv x eX11_showsNumber_44 kX11_269 im_yX11_shows se_yX11_shows rm hM.m (ct_X11_shows hM (by omega) (by omega) (by omega)) rfl ?_
            refine G_rg (fun hr => ?_)
            refine G_iload3 x eX11_showsNumber_47 ?_
            refine G_push x eX11_showsNumber_48 ?_
            refine G_idivn x eX11_showsNumber_50 (by omega) (by omega) (by omega) (by omega) ?_
            refine G_istore3 x eX11_showsNumber_51 ?_
            refine G_goto x eX11_showsNumber_52 ?_
            first | omega | (refine s0 _ _ ?_; rw [← hI, Int.ediv_one]; rfl)
        · refine G_iload3 x eX11_showsNumber_19 ?_
          refine G_push x eX11_showsNumber_20 ?_
          refine G_icmp_ne x eX11_showsNumber_21 (by first | omega | exact hr _ _ | exact hr0 _ _ | exact hrS _) (by first | omega | exact hr _ _ | exact hr0 _ _ | exact hrS _) (fun c21 => ?_) (fun c21 => ?_)
          · omega
          · refine G_push x eX11_showsNumber_24 ?_
            refine G_goto x eX11_showsNumber_25 ?_
            refine G_istore2 x eX11_showsNumber_29 ?_
            refine G_iload2 x eX11_showsNumber_30 ?_
            refine G_if_eq x eX11_showsNumber_31 (by first | omega | exact hr _ _ | exact hr0 _ _ | exact hrS _) (fun c31 => ?_) (fun c31 => ?_)
            · refine G_iload3 x eX11_showsNumber_47 ?_
              refine G_push x eX11_showsNumber_48 ?_
              refine G_idivn x eX11_showsNumber_50 (by omega) (by omega) (by omega) (by omega) ?_
              refine G_istore3 x eX11_showsNumber_51 ?_
              refine G_goto x eX11_showsNumber_52 ?_
              first | omega | (refine s0 _ _ ?_; rw [← hI, Int.ediv_one]; rfl)
            · refine G_aload0 x eX11_showsNumber_34 ?_
              refine G_push x eX11_showsNumber_35 ?_
              refine G_iload1 x eX11_showsNumber_37 ?_
              refine G_iload3 x eX11_showsNumber_38 ?_
              skip
              refine G_idivn x eX11_showsNumber_39 (by omega) (by omega) (by omega) (by omega) ?_
              refine G_push x eX11_showsNumber_40 ?_
              refine G_iremn x eX11_showsNumber_42 (by omega) (by omega) (by omega) (by omega) ?_
              refine G_iadd x eX11_showsNumber_43 ?_
              refine G_cVv x eX11_showsNumber_44 kX11_269 im_yX11_shows se_yX11_shows rm hM.m (ct_X11_shows hM (by omega) (by omega) (by omega)) rfl ?_
              refine G_rg (fun hr => ?_)
              refine G_iload3 x eX11_showsNumber_47 ?_
              refine G_push x eX11_showsNumber_48 ?_
              refine G_idivn x eX11_showsNumber_50 (by omega) (by omega) (by omega) (by omega) ?_
              refine G_istore3 x eX11_showsNumber_51 ?_
              refine G_goto x eX11_showsNumber_52 ?_
              first | omega | (refine s0 _ _ ?_; rw [← hI, Int.ediv_one]; rfl)
  have st : ∀ (by9 nx m : Int) (rest : List Int), (by9 = 1000 ∨ by9 = 100 ∨ by9 = 10) → nx = by9 / 10 → m ≤ 62 → (∀ (I1 : gI) (b : Int), (b = 0 ∨ (b = 1 ∧ nx ≤ v)) → 0 ≤ I1 mo 5 → I1 mo 5 ≤ m + 1 → txI I1 mo rest = txI I mo (dgT v) → G X 6 [some (va_rf (some mo)), some (VI v), some (VI b), some (VI nx)] [] T I1 J O 0 0) →
      ∀ (I1 : gI) (b : Int), (b = 0 ∨ (b = 1 ∧ by9 ≤ v)) → 0 ≤ I1 mo 5 → I1 mo 5 ≤ m → txI I1 mo ((if by9 ≤ v then [48 + v / by9 % 10] else []) ++ rest) = txI I mo (dgT v) → G X 6 [some (va_rf (some mo)), some (VI v), some (VI b), some (VI by9)] [] T I1 J O 0 0 := by
    intro by9 nx m rest hby hnx hm kk I1 b hb n0 n1 hI
    have hq : 0 ≤ v / by9 ∧ v / by9 ≤ 9999 := by rcases hby with e | e | e <;> subst e <;> omega
    have hb2 : b = 0 ∨ b = 1 := by omega
    have hby2 : 10 ≤ by9 ∧ by9 ≤ 1000 := by omega
    have hm5 : ∀ c, (sh1 I1 mo c) mo 5 = I1 mo 5 + 1 := fun c => sh1_5
    by_cases e : by9 ≤ v
    · rw [if_pos e] at hI
      have k9 := kk (sh1 I1 mo (48 + v / by9 % 10)) 1 (Or.inr ⟨rfl, by omega⟩) (by rw [hm5]; omega) (by rw [hm5]; omega) hI
      rw [hnx] at k9
      clear kk hby hI
      refine G_rg (fun hr => ?_)
      refine G_iload3 x eX11_showsNumber_6 ?_
      refine G_if_le x eX11_showsNumber_7 (by first | omega | exact hr _ _ | exact hr0 _ _ | exact hrS _) (fun c7 => ?_) (fun c7 => ?_)
      · omega
      · refine G_iload2 x eX11_showsNumber_10 ?_
        refine G_if_ne x eX11_showsNumber_11 (by first | omega | exact hr _ _ | exact hr0 _ _ | exact hrS _) (fun c11 => ?_) (fun c11 => ?_)
        · refine G_push x eX11_showsNumber_24 ?_
          refine G_goto x eX11_showsNumber_25 ?_
          refine G_istore2 x eX11_showsNumber_29 ?_
          refine G_iload2 x eX11_showsNumber_30 ?_
          refine G_if_eq x eX11_showsNumber_31 (by first | omega | exact hr _ _ | exact hr0 _ _ | exact hrS _) (fun c31 => ?_) (fun c31 => ?_)
          · refine G_iload3 x eX11_showsNumber_47 ?_
            refine G_push x eX11_showsNumber_48 ?_
            refine G_idivn x eX11_showsNumber_50 (by omega) (by omega) (by omega) (by omega) ?_
            refine G_istore3 x eX11_showsNumber_51 ?_
            refine G_goto x eX11_showsNumber_52 ?_
            first | exact k9 | (exfalso; omega)
          · refine G_aload0 x eX11_showsNumber_34 ?_
            refine G_push x eX11_showsNumber_35 ?_
            refine G_iload1 x eX11_showsNumber_37 ?_
            refine G_iload3 x eX11_showsNumber_38 ?_
            refine G_idivn x eX11_showsNumber_39 (by omega) (by omega) (by omega) (by omega) ?_
            refine G_push x eX11_showsNumber_40 ?_
            refine G_iremn x eX11_showsNumber_42 (by omega) (by omega) (by omega) (by omega) ?_
            refine G_iadd x eX11_showsNumber_43 ?_
            refine G_cVv x eX11_showsNumber_44 kX11_269 im_yX11_shows se_yX11_shows rm hM.m (ct_X11_shows hM (by omega) (by omega) (by omega)) rfl ?_
            refine G_rg (fun hr => ?_)
            refine G_iload3 x eX11_showsNumber_47 ?_
            refine G_push x eX11_showsNumber_48 ?_
            refine G_idivn x eX11_showsNumber_50 (by omega) (by omega) (by omega) (by omega) ?_
            refine G_istore3 x eX11_showsNumber_51 ?_
            refine G_goto x eX11_showsNumber_52 ?_
            first | exact k9 | (exfalso; omega)
        · refine G_iload1 x eX11_showsNumber_14 ?_
          refine G_iload3 x eX11_showsNumber_15 ?_
          refine G_icmp_ge x eX11_showsNumber_16 (by first | omega | exact hr _ _ | exact hr0 _ _ | exact hrS _) (by first | omega | exact hr _ _ | exact hr0 _ _ | exact hrS _) (fun c16 => ?_) (fun c16 => ?_)
          · refine G_push x eX11_showsNumber_24 ?_
            refine G_goto x eX11_showsNumber_25 ?_
            refine G_istore2 x eX11_showsNumber_29 ?_
            refine G_iload2 x eX11_showsNumber_30 ?_
            refine G_if_eq x eX11_showsNumber_31 (by first | omega | exact hr _ _ | exact hr0 _ _ | exact hrS _) (fun c31 => ?_) (fun c31 => ?_)
            · refine G_iload3 x eX11_showsNumber_47 ?_
              refine G_push x eX11_showsNumber_48 ?_
              refine G_idivn x eX11_showsNumber_50 (by omega) (by omega) (by omega) (by omega) ?_
              refine G_istore3 x eX11_showsNumber_51 ?_
              refine G_goto x eX11_showsNumber_52 ?_
              first | exact k9 | (exfalso; omega)
            · refine G_aload0 x eX11_showsNumber_34 ?_
              refine G_push x eX11_showsNumber_35 ?_
              refine G_iload1 x eX11_showsNumber_37 ?_
              refine G_iload3 x eX11_showsNumber_38 ?_
              refine G_idivn x eX11_showsNumber_39 (by omega) (by omega) (by omega) (by omega) ?_
              refine G_push x eX11_showsNumber_40 ?_
              refine G_iremn x eX11_showsNumber_42 (by omega) (by omega) (by omega) (by omega) ?_
              refine G_iadd x eX11_showsNumber_43 ?_
              refine G_cVv x eX11_showsNumber_44 kX11_269 im_yX11_shows se_yX11_shows rm hM.m (ct_X11_shows hM (by omega) (by omega) (by omega)) rfl ?_
              refine G_rg (fun hr => ?_)
              refine G_iload3 x eX11_showsNumber_47 ?_
              refine G_push x eX11_showsNumber_48 ?_
              refine G_idivn x eX11_showsNumber_50 (by omega) (by omega) (by omega) (by omega) ?_
              refine G_istore3 x eX11_showsNumber_51 ?_
              refine G_goto x eX11_showsNumber_52 ?_
              first | exact k9 | (exfalso; omega)
          · omega
    · rw [if_neg e] at hI
      have k9 := kk I1 0 (Or.inl rfl) n0 (by omega) hI
      rw [hnx] at k9
      clear kk hby hI
      refine G_rg (fun hr => ?_)
      refine G_iload3 x eX11_showsNumber_6 ?_
      refine G_if_le x eX11_showsNumber_7 (by first | omega | exact hr _ _ | exact hr0 _ _ | exact hrS _) (fun c7 => ?_) (fun c7 => ?_)
      · omega
      · refine G_iload2 x eX11_showsNumber_10 ?_
        refine G_if_ne x eX11_showsNumber_11 (by first | omega | exact hr _ _ | exact hr0 _ _ | exact hrS _) (fun c11 => ?_) (fun c11 => ?_)
        · omega
        · refine G_iload1 x eX11_showsNumber_14 ?_
          refine G_iload3 x eX11_showsNumber_15 ?_
          refine G_icmp_ge x eX11_showsNumber_16 (by first | omega | exact hr _ _ | exact hr0 _ _ | exact hrS _) (by first | omega | exact hr _ _ | exact hr0 _ _ | exact hrS _) (fun c16 => ?_) (fun c16 => ?_)
          · omega
          · refine G_iload3 x eX11_showsNumber_19 ?_
            refine G_push x eX11_showsNumber_20 ?_
            refine G_icmp_ne x eX11_showsNumber_21 (by first | omega | exact hr _ _ | exact hr0 _ _ | exact hrS _) (by first | omega | exact hr _ _ | exact hr0 _ _ | exact hrS _) (fun c21 => ?_) (fun c21 => ?_)
            · refine G_push x eX11_showsNumber_28 ?_
              refine G_istore2 x eX11_showsNumber_29 ?_
              refine G_iload2 x eX11_showsNumber_30 ?_
              refine G_if_eq x eX11_showsNumber_31 (by first | omega | exact hr _ _ | exact hr0 _ _ | exact hrS _) (fun c31 => ?_) (fun c31 => ?_)
              · refine G_iload3 x eX11_showsNumber_47 ?_
                refine G_push x eX11_showsNumber_48 ?_
                refine G_idivn x eX11_showsNumber_50 (by omega) (by omega) (by omega) (by omega) ?_
                refine G_istore3 x eX11_showsNumber_51 ?_
                refine G_goto x eX11_showsNumber_52 ?_
                first | exact k9 | (exfalso; omega)
              · omega
            · omega
  have h9 := st 1000 100 60 _ (Or.inl rfl) rfl (by omega) (st 100 10 61 _ (Or.inr (Or.inl rfl)) rfl (by omega) (st 10 1 62 _ (Or.inr (Or.inr rfl)) rfl (by omega) (fun I1 b hb n0 n1 hI => s1 I1 b (by omega) n0 (by omega) hI))) I 0 (Or.inl rfl) h2 (by omega) rfl
  refine G_rg (fun hr => ?_)
  refine G_push x eX11_showsNumber_0 ?_
  refine G_istore2 x eX11_showsNumber_1 ?_
  refine G_push x eX11_showsNumber_2 ?_
  refine G_istore3 x eX11_showsNumber_5 ?_
  exact h9
