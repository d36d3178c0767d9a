/-! the law: the script, and what holds between two steps -/
def sx (xs : Nat → Int32) (z : Int) : Int := (xs z.toNat).toInt
theorem sx_b {xs : Nat → Int32} {z : Int} : in32 (sx xs z) := i32_in _
def bo (z : Int) : Int := if z = 0 then 0 else 1
theorem bo_b {z : Int} : bo z = 0 ∨ bo z = 1 := by unfold bo; split <;> omega
def gScr (X : gX) (b L : Nat) (xs : Nat → Int32) : Prop :=
  match X with
  | (_, _, _, _, s, _, _, _, _, _, E, _) => va_X b L xs s s.heap ∧ b < s.heap.size ∧ ¬ E.2.2 ≤ b
theorem and31 (a : Int32) : 0 ≤ (a &&& Int32.ofInt 31).toInt ∧ (a &&& Int32.ofInt 31).toInt ≤ 31 := by
  have h4 : (a &&& Int32.ofInt 31).toInt = (a &&& Int32.ofInt 31).toBitVec.toInt := rfl
  have h5 : (Int32.ofInt 31).toBitVec.toNat = 31 := by decide
  rw [h4, Int32.toBitVec_and, BitVec.toInt_eq_toNat_cond, BitVec.toNat_and, h5]
  have := Nat.and_le_right (n := a.toBitVec.toNat) (m := 31)
  generalize a.toBitVec.toNat &&& 31 = n at *
  split <;> omega
section G9M
variable {X : gX} {cc : ByteArray} {own : String} {pc q : Nat} {Ls : List (Option Value)} {st : List Value} {T : gT} {I : gI} {J : gJ} {O : gO} {k n : Nat}
theorem G_sld {b L : Nat} {xs : Nat → Int32} {i : Int} (x : Ok X cc own) (hs : gScr X b L xs) (d : Dc cc pc .iaload 1 q) (h0 : 0 ≤ i) (h1 : i < L) (hi : in32 i) (h : G X q Ls (VI (sx xs i) :: st) T I J O k n) : G X pc Ls (VI i :: va_rf (some b) :: st) T I J O k n := by
  obtain ⟨p, l, e, R, s, m, args, below, meth, c, E, Q⟩ := X
  intro H locs ls hW hS hL
  obtain ⟨d, rfl⟩ := d
  have h := h H locs ls hW hS hL
  rw [show VI (sx xs i) = Value.int (xs (Int32.ofInt i).toNatClampNeg) from by rw [i32_clamp h0 hi]; exact (VI_of _).symm] at h
  exact va_sld x.1 x.2.1 hs.1 hs.2.1 hs.2.2 hS (i32_vpin h0 h1 hi) d h
theorem G_slen {b L : Nat} {xs : Nat → Int32} (x : Ok X cc own) (hs : gScr X b L xs) (d : Dc cc pc .arraylength 1 q) (h : G X q Ls (VI (L : Int) :: st) T I J O k n) : G X pc Ls (va_rf (some b) :: st) T I J O k n := by
  obtain ⟨p, l, e, R, s, m, args, below, meth, c, E, Q⟩ := X
  intro H locs ls hW hS hL
  obtain ⟨d, rfl⟩ := d
  have h := h H locs ls hW hS hL
  rw [show VI (L : Int) = Value.int (Int32.ofNat L) from congrArg Value.int Int32.ofInt_eq_ofNat] at h
  exact va_slen x.1 x.2.1 hs.1 hs.2.1 hs.2.2 hS d h
theorem G_iand31 {a : Int} (x : Ok X cc own) (d : Dc cc pc .iand 1 q) (h : ∀ c, 0 ≤ c → c ≤ 31 → G X q Ls (VI c :: st) T I J O k n) : G X pc Ls (VI 31 :: VI a :: st) T I J O k n := by
  have h := h _ (and31 (Int32.ofInt a)).1 (and31 (Int32.ofInt a)).2
  obtain ⟨p, l, e, R, s, m, args, below, meth, c, E, Q⟩ := X
  intro H locs ls hW hS hL
  obtain ⟨d, rfl⟩ := d
  have h := h H locs ls hW hS hL
  rw [← VI_of] at h
  exact lv_iand x.1 x.2.1 d h
theorem G_tb {q1 q2 q3 t0 t1 : Nat} {z : Int} (x : Ok X cc own) (hz : in32 z) (d1 : Db cc pc (.ifCond .eq) t0 q1) (d2 : Dk cc q1 1 q2) (d3 : Db cc q2 .goto t1 q3) (d4 : Dk cc t0 0 t1) (h : G X t1 Ls (VI (bo z) :: st) T I J O k n) : G X pc Ls (VI z :: st) T I J O k n := by
  refine G_if_eq x d1 hz (fun e => ?_) (fun e => ?_)
  · refine G_push x d4 ?_
    rw [show bo z = 0 from if_pos e] at h
    exact h
  · refine G_push x d2 ?_
    refine G_goto x d3 ?_
    rw [show bo z = 1 from if_neg e] at h
    exact h
theorem G_arg {b L : Nat} {xs : Nat → Int32} {i z : Int} {a1 a2 a3 : Option Value} {r : List (Option Value)} {q0 q1 q2 q3 : Nat} (x : Ok X cc own) (hs : gScr X b L xs) (d0 : Daload cc pc 0 q0) (d1 : Diload cc q0 4 q1) (d2 : Dk cc q1 z q2) (d3 : Dc cc q2 .iadd 1 q3) (d4 : Dc cc q3 .iaload 1 q) (h0 : 0 ≤ i + z) (h1 : i + z < L) (hL : L ≤ 2560)
    (h : G X q (some (va_rf (some b)) :: a1 :: a2 :: a3 :: some (VI i) :: r) (VI (sx xs (i + z)) :: st) T I J O k n) : G X pc (some (va_rf (some b)) :: a1 :: a2 :: a3 :: some (VI i) :: r) st T I J O k n := by
  refine G_aload0 x d0 ?_
  refine G_iload4 x d1 ?_
  refine G_push x d2 ?_
  refine G_iadd x d3 ?_
  exact G_sld x hs d4 h0 h1 ⟨by omega, by omega⟩ h
end G9M
/-- the layout of the model, elsewhere -/
theorem MoAt.mv {T T' : gT} {O O' : gO} {a : Nat} (h : MoAt T O a) (eT : ∀ b, a ≤ b → b ≤ a + 20 → T'.2 b = T.2 b) (eO : ∀ j, O' a j = O a j) : MoAt T' O' a := by
  unfold MoAt at h ⊢
  simp only [eO]
  rw [eT a (by omega) (by omega)]
  repeat rw [eT (a + _) (by omega) (by omega)]
  exact h
/-- what a public method of the model leaves, its answer aside -/
def mCore (T : gT) (I : gI) (J : gJ) (O : gO) (mo : Nat) (thr : Int) (S P : Int → Int) (np : Int) (X : Int → Int) (nt : Int) : gT → gI → gJ → gO → Prop := fun T' I' J' O' =>
  T' = T ∧ O' = O ∧ (∀ b, b < mo ∨ mo + 20 < b → ∀ j, I' b j = I b j ∧ J' b j = J b j) ∧ I' mo 6 = thr ∧ (∀ j, 0 ≤ j → j < 4653 → I' (mo + 1) j = S j) ∧ (∀ j, 0 ≤ j → j < 18612 → I' (mo + 2) j = P j) ∧ I' mo 3 = np ∧ (∀ j, I' (mo + 4) j = X j) ∧ I' mo 5 = nt
def LI (ss mo oa : Nat) (T : gT) (I : gI) (J : gJ) (O : gO) : Prop :=
  (mo = ss + 95 ∧ oa = ss + 116) ∧ MoAt T O mo ∧ T.2 oa = some (.inr (3, 1)) ∧ WW oa ss T I J O (I (mo + 1)) (I mo 3) (RcP (I (mo + 2))) (I (mo + 4)) (I mo 5) ∧ Inv (I (mo + 1)) ∧ (0 ≤ I mo 3 ∧ I mo 3 ≤ 4) ∧ txW (I (mo + 4)) (I mo 5) ∧ RI (I (mo + 2)) (I mo 3) (I (mo + 1))
section LIS
variable {ss mo oa : Nat} {T T1 T2 : gT} {I I1 I2 : gI} {J J1 J2 : gJ} {O O1 O2 : gO}
theorem LI.hoa (h : LI ss mo oa T I J O) : ss + 94 < oa ∧ oa ≤ oa := by have := h.1; omega
/-- the model and the answer's array behind a call of the class -/
def MD (mo oa : Nat) (T1 : gT) (I I1 : gI) (O1 : gO) : Prop := MoAt T1 O1 mo ∧ T1.2 oa = some (.inr (3, 1)) ∧ I1 mo = I mo ∧ I1 (mo + 1) = I (mo + 1) ∧ I1 (mo + 2) = I (mo + 2) ∧ I1 (mo + 4) = I (mo + 4) ∧ I1 (mo + 8) = I (mo + 8)
theorem LI.md (h : LI ss mo oa T I J O) (hF : FrO ss oa T T1 I I1 J J1 O O1) : MD mo oa T1 I I1 O1 := by
  obtain ⟨⟨rfl, rfl⟩, h2, h3, h4, -⟩ := h
  have hT : ss + 116 < T.1 := h4.1.2.2
  have e : ∀ b, ss + 94 < b → b ≤ ss + 116 → T1.2 b = T.2 b ∧ (∀ j, I1 b j = I b j) ∧ ∀ j, O1 b j = O b j := fun b b1 b2 => ⟨(hF.2 b (by omega) (Or.inr b1)).1, (hF.2 b (by omega) (Or.inr b1)).2.1, (hF.2 b (by omega) (Or.inr b1)).2.2.2⟩
  exact ⟨h2.mv (fun b b1 b2 => (e b (by omega) (by omega)).1) (fun j => (e _ (by omega) (by omega)).2.2 j), by rw [(e _ (by omega) (by omega)).1]; exact h3, funext (e _ (by omega) (by omega)).2.1, funext (e _ (by omega) (by omega)).2.1, funext (e _ (by omega) (by omega)).2.1, funext (e _ (by omega) (by omega)).2.1, funext (e _ (by omega) (by omega)).2.1⟩
theorem LI.fin {S9 P9 X9 Rc9 : Int → Int} {n9 L9 thr : Int} (h : LI ss mo oa T I J O) (hM : MD mo oa T1 I I1 O1) (hw : WW oa ss T1 I1 J1 O1 S9 n9 Rc9 X9 L9) (hm : mCore T1 I1 J1 O1 mo thr S9 P9 n9 X9 L9 T2 I2 J2 O2) (i9 : Inv S9) (hn : 0 ≤ n9 ∧ n9 ≤ 4) (hx : txW X9 L9) (ri : RI P9 n9 S9) (rc : ∀ j, 0 ≤ j → j < 9 * n9 → RcP P9 j = Rc9 j) :
    LI ss mo oa T2 I2 J2 O2 ∧ I2 mo 6 = thr ∧ J2 oa 0 = J1 oa 0 := by
  obtain ⟨⟨rfl, rfl⟩, -⟩ := h
  obtain ⟨m1, m2, -⟩ := hM
  obtain ⟨rfl, rfl, k1, k2, k3, k4, k5, k6, k7⟩ := hm
  have e6 : I2 (ss + 95 + 4) = X9 := funext k6
  refine ⟨⟨⟨rfl, rfl⟩, m1, m2, ?_, i9.c k3, by rw [k5]; exact hn, by rw [e6, k7]; exact hx, by rw [k5]; exact ri.c hn.2 k4 k3⟩, k2, (k1 _ (by omega) 0).2⟩
  rw [e6, k5, k7]
  refine ((hw.mv (Nat.le_refl _) (fun b b1 b2 => ⟨rfl, fun j => (k1 b (by omega) j).1, fun j => (k1 b (by omega) j).2, fun _ => rfl⟩)).c i9 k3).r (fun j j0 j1 => ?_) (fun _ _ _ => rfl)
  rw [Rc_c hn.2 k4 j0 j1]
  exact rc j j0 j1
theorem mOut_c {ans thr np nt : Int} {S P X : Int → Int} {v : Option Value} (h : mOut T I J O mo ans thr S P np X nt v T1 I1 J1 O1) : v = some (VI ans) ∧ mCore T I J O mo thr S P np X nt T1 I1 J1 O1 := ⟨h.1, h.2⟩
theorem mSum_c {v9 : Value} {v : Option Value} (h : mSum T I J O mo v9 v T1 I1 J1 O1) : v = some v9 ∧ mCore T I J O mo 0 (I (mo + 1)) (I (mo + 2)) (I mo 3) (I (mo + 4)) (I mo 5) T1 I1 J1 O1 := ⟨h.1, h.2⟩
/-- a step that changes nothing -/
theorem LI.say {thr : Int} (h : LI ss mo oa T I J O) (hM : MD mo oa T1 I I1 O1) (hw : WW oa ss T1 I1 J1 O1 (I (mo + 1)) (I mo 3) (RcP (I (mo + 2))) (I (mo + 4)) (I mo 5)) (hm : mCore T1 I1 J1 O1 mo thr (I1 (mo + 1)) (I1 (mo + 2)) (I1 mo 3) (I1 (mo + 4)) (I1 mo 5) T2 I2 J2 O2) : LI ss mo oa T2 I2 J2 O2 ∧ I2 mo 6 = thr ∧ J2 oa 0 = J1 oa 0 := by
  have hM' := hM
  obtain ⟨-, -, m0, m1, m2, m4, -⟩ := hM
  rw [m0, m1, m2, m4] at hm
  exact h.fin hM' hw hm h.2.2.2.2.1 h.2.2.2.2.2.1 h.2.2.2.2.2.2.1 h.2.2.2.2.2.2.2 (fun _ _ _ => rfl)
/-- a step that changes the row s and keeps a record -/
theorem LI.do {S9 : Int → Int} (h : LI ss mo oa T I J O) (hM : MD mo oa T1 I I1 O1) (hw : WW oa ss T1 I1 J1 O1 S9 (nEnd (I mo 3)) (rKeep (RcP (I (mo + 2))) (I mo 3) (ctS (I (mo + 1)))) (I (mo + 4)) (I mo 5)) (hm : mCore T1 I1 J1 O1 mo 0 S9 (pEnd (I1 (mo + 2)) (I1 mo 3) (I1 (mo + 1))) (nEnd (I1 mo 3)) (I1 (mo + 4)) (I1 mo 5) T2 I2 J2 O2) (i9 : Inv S9 ∧ snL (I (mo + 1)) S9) : LI ss mo oa T2 I2 J2 O2 ∧ I2 mo 6 = 0 ∧ J2 oa 0 = J1 oa 0 := by
  have hM' := hM
  obtain ⟨-, -, m0, m1, m2, m4, -⟩ := hM
  rw [m0, m1, m2, m4] at hm
  obtain ⟨n0, n1⟩ := h.2.2.2.2.2.1
  exact h.fin hM' hw hm i9.1 ⟨by have := (nEnd_b n0 n1).1; omega, (nEnd_b n0 n1).2⟩ h.2.2.2.2.2.2.1 (h.2.2.2.2.2.2.2.kp h.2.2.2.2.1 n0 n1 i9.2) (fun j j0 j1 => Rc_kp n0 n1 j0 j1)
end LIS
def LawC (X : gX) (b L : Nat) (xs : Nat → Int32) : Prop := Ok X cL_law RL ∧ gRm X 12 452 601024 7293034 ∧ ncX X ∧ gScr X b L xs
abbrev lwL (b ss mo oa : Nat) (i : Int) (o5 o6 : Option Value) : List (Option Value) := [some (va_rf (some b)), some (va_rf (some ss)), some (va_rf (some mo)), some (va_rf (some oa)), some (VI i), o5, o6]
/-- the comparison behind a step -/
theorem G_tail {X : gX} {b L ss mo oa : Nat} {xs : Nat → Int32} {T : gT} {I : gI} {J : gJ} {O : gO} {i thr ans : Int} {o6 : Option Value} {kc nc p0 p1 p2 p3 p4 p5 t1 t2 t3 t4 t5 t6 t7 t8 t9 t10 e1 e2 : Nat} (Q : LawC X b L xs)
    (d0 : Distore cL_law p0 6 p1) (d1 : Daload cL_law p1 2 p2) (d2 : Dc cL_law p2 (.invokevirtual 109) 3 p3) (d3 : Diload cL_law p3 5 p4) (d4 : Db cL_law p4 (.if_icmp .eq) t1 p5) (d5 : Diload cL_law t1 5 t2) (d6 : Db cL_law t2 (.ifCond .ne) e1 t3) (d7 : Daload cL_law t3 3 t4) (d8 : Dk cL_law t4 0 t5) (d9 : Dc cL_law t5 .laload 1 t6) (d10 : Diload cL_law t6 6 t7) (d11 : Dc cL_law t7 .i2l 1 t8) (d12 : Dc cL_law t8 .lcmp 1 t9) (d13 : Db cL_law t9 (.ifCond .eq) e1 t10) (d14 : Db cL_law e1 .goto 2196 e2)
    (h : LI ss mo oa T I J O) (ht : I mo 6 = thr) (hj : thr = 0 → J oa 0 = i2L ans) (hk : kc ≤ 601024) (hn : nc ≤ 7293034) (kk : G X 2196 (lwL b ss mo oa i (some (VI thr)) (some (VI ans))) [] T I J O kc nc) : G X p0 (lwL b ss mo oa i (some (VI thr)) o6) [VI ans] T I J O kc nc := by
  obtain ⟨x, rm, hnc, hs⟩ := Q
  refine G_rg (fun hr => ?_)
  have hb : in32 thr := by rw [← ht]; exact hr _ _
  refine G_istore6 x d0 ?_
  refine G_aload2 x d1 ?_
  refine G_cV x d2 kL_109 im_yX11_thrown se_yX11_thrown rm h.2.1.m (ct_X11_thrown (T := T) (I := I) (J := J) (O := O) h.2.1) rfl ?_
  rw [ht]
  refine G_iload5 x d3 ?_
  refine G_icmp_eq x d4 hb hb (fun _ => ?_) (fun e => absurd rfl e)
  refine G_iload5 x d5 ?_
  refine G_if_ne x d6 hb (fun e => ?_) (fun e => ?_)
  · exact G_goto x d14 kk
  · refine G_aload3 x d7 ?_
    refine G_push x d8 ?_
    refine G_lald x d9 rfl h.2.2.1 (by omega) (by omega) ⟨by omega, by omega⟩ ?_
    refine G_iload6 x d10 ?_
    refine G_i2lg x d11 ?_
    refine G_lcmp x d12 ?_
    refine G_if_eq x d13 lcm_b (fun _ => ?_) (fun e' => absurd (lcm_0.mpr (hj e)) e')
    exact G_goto x d14 kk
