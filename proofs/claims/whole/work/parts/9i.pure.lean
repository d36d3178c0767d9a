/-! the records of both -/
abbrev rwK (P : Int → Int) (k : Int) : Int → Int := fun j => P (4653 * k + j)
def RI (P : Int → Int) (n : Int) (S : Int → Int) : Prop := ∀ k, 0 ≤ k → k < n → Inv (rwK P k) ∧ snL (rwK P k) S ∧ ∀ k', k < k' → k' < n → snL (rwK P k) (rwK P k')
def RcP (P : Int → Int) : Int → Int := fun j => P (4653 * (j / 9) + cIx (j % 9 / 3) (j % 3))
theorem RI.c {P P' S S' : Int → Int} {n : Int} (h : RI P n S) (n1 : n ≤ 4) (eP : ∀ j, 0 ≤ j → j < 18612 → P' j = P j) (eS : ∀ j, 0 ≤ j → j < 4653 → S' j = S j) : RI P' n S' := fun k k0 k1 => by
  have q := h k k0 k1
  have e : ∀ k, 0 ≤ k → k < n → ∀ j, 0 ≤ j → j < 4653 → rwK P' k j = rwK P k j := fun k a b j c d => eP _ (by omega) (by omega)
  exact ⟨q.1.c (e k k0 k1), q.2.1.c (e k k0 k1) eS, fun k' a b => (q.2.2 k' a b).c (e k k0 k1) (e k' (by omega) b)⟩
theorem RI.mn {P S S' : Int → Int} {n : Int} (h : RI P n S) (hs : snL S S') : RI P n S' := fun k k0 k1 => by
  have q := h k k0 k1
  exact ⟨q.1, q.2.1.tr hs, q.2.2⟩
/-- the record that is made -/
theorem pEnd_k {P S : Int → Int} {n k : Int} (n0 : 0 ≤ n) (n1 : n ≤ 4) (k0 : 0 ≤ k) (k1 : k < nEnd n) : ∀ j, 0 ≤ j → j < 4653 → rwK (pEnd P n S) k j = if k = nEnd n - 1 then S j else if n = 4 then rwK P (k + 1) j else rwK P k j := fun j j0 j1 => by
  unfold nEnd at k1 ⊢
  show pEnd P n S (4653 * k + j) = _
  unfold pEnd
  by_cases c : n = 4
  · rw [if_pos c] at k1 ⊢
    rw [if_pos c, if_pos c]
    by_cases d : k = 4 - 1
    · rw [if_pos d, if_pos (by omega)]
      congr 1
      omega
    · rw [if_neg d, if_neg (by omega), if_pos (by omega)]
      show P (4653 * k + j + 4653) = P (4653 * (k + 1) + j)
      congr 1
      omega
  · rw [if_neg c] at k1 ⊢
    rw [if_neg c, if_neg c]
    by_cases d : k = n + 1 - 1
    · rw [if_pos d, if_pos (by omega)]
      congr 1
      omega
    · rw [if_neg d, if_neg (by omega)]
theorem RI.kp {P S S' : Int → Int} {n : Int} (h : RI P n S) (hI : Inv S) (n0 : 0 ≤ n) (n1 : n ≤ 4) (hs : snL S S') : RI (pEnd P n S) (nEnd n) S' := fun k k0 k1 => by
  have e := pEnd_k (P := P) (S := S) n0 n1 k0 k1
  have nb := nEnd_b n0 n1
  by_cases d : k = nEnd n - 1
  · have e1 : ∀ j, 0 ≤ j → j < 4653 → rwK (pEnd P n S) k j = S j := fun j a b => by rw [e j a b, if_pos d]
    exact ⟨hI.c e1, hs.c e1 (fun _ _ _ => rfl), fun k' a b => by omega⟩
  · by_cases c : n = 4
    · have hn : nEnd n = 4 := by unfold nEnd; rw [if_pos c]
      have e1 : ∀ j, 0 ≤ j → j < 4653 → rwK (pEnd P n S) k j = rwK P (k + 1) j := fun j a b => by rw [e j a b, if_neg d, if_pos c]
      have q := h (k + 1) (by omega) (by omega)
      refine ⟨q.1.c e1, (q.2.1.tr hs).c e1 (fun _ _ _ => rfl), fun k' a b => ?_⟩
      have e' := pEnd_k (P := P) (S := S) (k := k') n0 n1 (by omega) b
      by_cases d' : k' = nEnd n - 1
      · exact q.2.1.c e1 (fun j x y => by rw [e' j x y, if_pos d'])
      · exact (q.2.2 (k' + 1) (by omega) (by omega)).c e1 (fun j x y => by rw [e' j x y, if_neg d', if_pos c])
    · have hn : nEnd n = n + 1 := by unfold nEnd; rw [if_neg c]
      have e1 : ∀ j, 0 ≤ j → j < 4653 → rwK (pEnd P n S) k j = rwK P k j := fun j a b => by rw [e j a b, if_neg d, if_neg c]
      have q := h k (by omega) (by omega)
      refine ⟨q.1.c e1, (q.2.1.tr hs).c e1 (fun _ _ _ => rfl), fun k' a b => ?_⟩
      have e' := pEnd_k (P := P) (S := S) (k := k') n0 n1 (by omega) b
      by_cases d' : k' = nEnd n - 1
      · exact q.2.1.c e1 (fun j x y => by rw [e' j x y, if_pos d'])
      · exact (q.2.2 k' (by omega) (by omega)).c e1 (fun j x y => by rw [e' j x y, if_neg d', if_neg c])
theorem Rc_kp {P S : Int → Int} {n j : Int} (n0 : 0 ≤ n) (n1 : n ≤ 4) (j0 : 0 ≤ j) (j1 : j < 9 * nEnd n) : RcP (pEnd P n S) j = rKeep (RcP P) n (ctS S) j := by
  have nb := nEnd_b n0 n1
  have hc := cIx_b (r := j % 9 / 3) (f := j % 3) (by omega) (by omega) (by omega) (by omega)
  have e := pEnd_k (P := P) (S := S) (k := j / 9) n0 n1 (by omega) (by omega) (cIx (j % 9 / 3) (j % 3)) (by omega) (by omega)
  show rwK (pEnd P n S) (j / 9) (cIx (j % 9 / 3) (j % 3)) = _
  rw [e]
  unfold rKeep nEnd
  unfold nEnd at j1
  by_cases c : n = 4
  · rw [if_pos c] at j1 ⊢
    rw [if_pos c, if_pos c]
    by_cases d : j / 9 = 4 - 1
    · rw [if_pos d, if_pos (by omega)]
      show S (cIx (j % 9 / 3) (j % 3)) = S (cIx ((j - 27) / 3) ((j - 27) % 3))
      rw [show (j - 27) / 3 = j % 9 / 3 by omega, show (j - 27) % 3 = j % 3 by omega]
    · rw [if_neg d, if_neg (by omega)]
      show P (4653 * (j / 9 + 1) + cIx (j % 9 / 3) (j % 3)) = P (4653 * ((j + 9) / 9) + cIx ((j + 9) % 9 / 3) ((j + 9) % 3))
      rw [show (j + 9) / 9 = j / 9 + 1 by omega, show (j + 9) % 9 = j % 9 by omega, show (j + 9) % 3 = j % 3 by omega]
  · rw [if_neg c] at j1 ⊢
    rw [if_neg c, if_neg c]
    by_cases d : j / 9 = n + 1 - 1
    · rw [if_pos d, if_pos (by omega)]
      show S (cIx (j % 9 / 3) (j % 3)) = S (cIx ((j - 9 * n) / 3) ((j - 9 * n) % 3))
      rw [show (j - 9 * n) / 3 = j % 9 / 3 by omega, show (j - 9 * n) % 3 = j % 3 by omega]
    · rw [if_neg d, if_neg (by omega)]
      rfl
theorem Rc_c {P P' : Int → Int} {n j : Int} (n1 : n ≤ 4) (eP : ∀ j, 0 ≤ j → j < 18612 → P' j = P j) (j0 : 0 ≤ j) (j1 : j < 9 * n) : RcP P' j = RcP P j := by
  have hc0 := cIx_b (r := j % 9 / 3) (f := j % 3) (by omega) (by omega) (by omega) (by omega)
  have hc : 0 ≤ cIx (j % 9 / 3) (j % 3) ∧ cIx (j % 9 / 3) (j % 3) < 4653 := by omega
  clear hc0
  unfold RcP
  have h1 : 0 ≤ j / 9 := by omega
  have h2 : j / 9 ≤ 3 := by omega
  generalize j / 9 = b at *
  generalize cIx (j % 9 / 3) (j % 3) = c at *
  show P' (4653 * b + c) = P (4653 * b + c)
  exact eP _ (by omega) (by omega)
theorem Rc_u {P : Int → Int} {n r f : Int} (n0 : 1 ≤ n) (r0 : 0 ≤ r) (r1 : r ≤ 2) (f0 : 0 ≤ f) (f1 : f ≤ 2) : RcP P (9 * (n - 1) + 3 * r + f) = rwK P (n - 1) (cIx r f) := by
  unfold RcP
  rw [show (9 * (n - 1) + 3 * r + f) / 9 = n - 1 by omega, show (9 * (n - 1) + 3 * r + f) % 9 / 3 = r by omega, show (9 * (n - 1) + 3 * r + f) % 3 = f by omega]
/-! the invariant under each kind of operation -/
theorem I_make {S : Int → Int} {r b p : Int} (h : Inv S) (hb : b = 0 ∨ b = 1) (ht : mkThr S r b p = 0) : Inv (mkS S r b p) ∧ snL S (mkS S r b p) := by
  unfold mkThr at ht
  by_cases c1 : 0 ≤ r ∧ r ≤ 2
  · rw [if_pos c1] at ht
    by_cases c2 : 0 ≤ p ∧ p ≤ rwN S r b (-1)
    · rw [if_pos c2] at ht
      by_cases c3 : S (3843 + 270 * r + (4 + b)) = 3 ∨ mkPl S r b (-1) p = -1 ∨ S r = 40
      · rw [if_pos c3] at ht; omega
      · have hf := h.f c1.1 c1.2
        have hn := (h.2.2.2.2 r b c1.1 c1.2 (by omega) (by omega)).1
        have hp := mkPl_b h c1.1 c1.2 (show 0 ≤ b by omega) (by omega) c2.1 c2.2 (by omega)
        have es : sU S (3843 + 270 * r + (4 + b)) (S (3843 + 270 * r + (4 + b)) + 1) (3843 + 270 * r + (4 + b)) = S (3843 + 270 * r + (4 + b)) + 1 := sU_s
        have := opW_I (S := S) (S1 := sU S (3843 + 270 * r + (4 + b)) (S (3843 + 270 * r + (4 + b)) + 1)) (r := r) (num := 1) (col := b) (l := 3 + 3 * r + S (3843 + 270 * r + (4 + b))) (pl := mkPl S r b (-1) p) h c1.1 c1.2 (by omega) (fun j _ _ _ j3 j4 => sU_o (by omega))
          (fun kd a d => by
            by_cases e : kd = b
            · rw [e, es]; omega
            · rw [sU_o (by omega)]
              have := (h.2.2.2.2 r kd c1.1 c1.2 a d).1
              omega) (by omega) (by omega) (by omega) (by omega) (fun _ => hp) (fun _ => by rw [es]; omega) (fun z => by omega)
          (fun kd k a d e g => by
            by_cases w : kd = b
            · rw [w, es] at g
              rw [w] at e
              exact ⟨rfl, w.symm, by omega⟩
            · rw [sU_o (by omega)] at g
              omega)
        exact ⟨this.1, this.2.1⟩
    · rw [if_neg c2] at ht; omega
  · rw [if_neg c1] at ht; omega
theorem I_line {S : Int → Int} {r num b l pl : Int} (h : Inv S) (r0 : 0 ≤ r) (r1 : r ≤ 2) (hn : S r < 40) (hk : num = 2 ∨ num = 3) (hb : b = 0 ∨ b = 1) (hl : 0 ≤ l ∧ l < 12) (hp : num = 2 → 0 ≤ pl ∧ pl ≤ 3000 + 1000 * (S (3843 + 270 * r) + 1)) : Inv (mksS S r num b l pl) ∧ snL S (mksS S r num b l pl) := by
  have := opW_I (S := S) (S1 := S) (r := r) (num := num) (col := b) (l := l) (pl := pl) h r0 r1 hn (fun j _ _ _ _ _ => rfl) (fun kd a d => by have := (h.2.2.2.2 r kd r0 r1 a d).1; omega) (by omega) hl (by omega) (by omega) (fun z => hp (by omega)) (by omega) (by omega) (fun kd k a d e g => by omega)
  exact ⟨this.1, this.2.1⟩
theorem I_move {S : Int → Int} {r b p t : Int} (h : Inv S) (hb : b = 0 ∨ b = 1) (ht : mvThr S r b p t = 0) : Inv (mvS S r b p t) ∧ snL S (mvS S r b p t) := by
  unfold mvThr at ht
  by_cases c1 : 0 ≤ r ∧ r ≤ 2
  · rw [if_pos c1] at ht
    by_cases c2 : (0 ≤ p ∧ p < rwN S r b (-1)) ∧ 0 ≤ t ∧ t < rwN S r b (-1)
    · rw [if_pos c2] at ht
      by_cases c3 : mkPl S r b (rwF S r b (-1) p) t = -1 ∨ S r = 40
      · rw [if_pos c3] at ht; omega
      · have hf := h.f c1.1 c1.2
        have hd := (rw_drop c2.1.1 c2.1.2).1
        have hp := mkPl_b h c1.1 c1.2 (show 0 ≤ b by omega) (by omega) c2.2.1 (show t ≤ rwN S r b (rwF S r b (-1) p) by omega) (by omega)
        exact I_line h c1.1 c1.2 (by omega) (Or.inl rfl) hb (rwF_b c2.1.1 c2.1.2) (fun _ => hp)
    · rw [if_neg c2] at ht; omega
  · rw [if_neg c1] at ht; omega
theorem I_remove {S : Int → Int} {r b p : Int} (h : Inv S) (hb : b = 0 ∨ b = 1) (ht : rmThr S r b p = 0) : Inv (rmS S r b p) ∧ snL S (rmS S r b p) := by
  unfold rmThr at ht
  by_cases c1 : 0 ≤ r ∧ r ≤ 2
  · rw [if_pos c1] at ht
    by_cases c2 : 0 ≤ p ∧ p < rwN S r b (-1)
    · rw [if_pos c2] at ht
      have hf := h.f c1.1 c1.2
      by_cases c3 : S r = 40
      · rw [if_pos c3] at ht; omega
      · exact I_line h c1.1 c1.2 (by omega) (Or.inr rfl) hb (rwF_b c2.1 c2.2) (fun z => by omega)
    · rw [if_neg c2] at ht; omega
  · rw [if_neg c1] at ht; omega
/-- contents written -/
theorem I_write {S : Int → Int} {r row col kind num signs : Int} {f : Int → Int} (h : Inv S) (hc : cellIn S r row col) (hn : S r < 40) (ht : ctI (opW (wrS S r kind num signs f) r 4 (-1) (rwF S r 0 (-1) row) (rwF S r 1 (-1) col)) (40 * r + S r)) : Inv (wtS S r row col kind num signs f) ∧ snL S (wtS S r row col kind num signs f) := by
  have hr := rwF_b hc.2.1.1 hc.2.1.2
  have hcl := rwF_b hc.2.2.1 hc.2.2.2
  have hf := h.f hc.1.1 hc.1.2
  have := opW_I (S := S) (S1 := wrS S r kind num signs f) (r := r) (num := 4) (col := -1) (l := rwF S r 0 (-1) row) (pl := rwF S r 1 (-1) col) h hc.1.1 hc.1.2 hn (fun j _ _ j2 _ _ => wr_o j2) (fun kd a d => by rw [wr_o (by omega)]; have := (h.2.2.2.2 r kd hc.1.1 hc.1.2 a d).1; omega) (by omega) hr (by omega) (fun _ => hcl) (by omega) (by omega) (fun _ => ht) (fun kd k a d e g => by rw [wr_o (by omega)] at g; omega)
  exact ⟨this.1, this.2.1⟩
theorem ct_n {S : Int → Int} {r kind num lr lc : Int} {f : Int → Int} (r0 : 0 ≤ r) (r1 : r ≤ 2) (s0 : 0 ≤ S r) (hk : kind = 0 ∨ kind = 1 ∧ -9999 ≤ num ∧ num ≤ 9999) : ctI (opW (wrS S r kind num 0 f) r 4 (-1) lr lc) (40 * r + S r) := by
  have er : wrS S r kind num 0 f r = S r := wr_o (by omega)
  have oo : ∀ j, 3 + 32 * (40 * r + S r) + 4 < j → opW (wrS S r kind num 0 f) r 4 (-1) lr lc j = wrS S r kind num 0 f j := fun j hj => opW_o (by rw [er]; omega)
  have w := @wr_f S r kind num 0 f
  have e5 : opS (opW (wrS S r kind num 0 f) r 4 (-1) lr lc) (40 * r + S r) 5 = kind := (oo _ (by omega)).trans w.1
  have e6 : opS (opW (wrS S r kind num 0 f) r 4 (-1) lr lc) (40 * r + S r) 6 = num := (oo _ (by omega)).trans w.2.1
  unfold ctI
  rw [e5, e6]
  exact ⟨by omega, by omega, fun z => by omega⟩
theorem ct_f {S : Int → Int} {r lr lc : Int} {fl : List (Int × Int × Int × Int)} (r0 : 0 ≤ r) (r1 : r ≤ 2) (s0 : 0 ≤ S r) (hok : flOk fl) : ctI (opW (wrS S r 2 0 ((tks fl).length : Nat) (fun i => (tks fl).getD i.toNat 0)) r 4 (-1) lr lc) (40 * r + S r) := by
  have er : wrS S r 2 0 ((tks fl).length : Nat) (fun i => (tks fl).getD i.toNat 0) r = S r := wr_o (by omega)
  have oo : ∀ j, 3 + 32 * (40 * r + S r) + 4 < j → opW (wrS S r 2 0 ((tks fl).length : Nat) (fun i => (tks fl).getD i.toNat 0)) r 4 (-1) lr lc j = wrS S r 2 0 ((tks fl).length : Nat) (fun i => (tks fl).getD i.toNat 0) j := fun j hj => opW_o (by rw [er]; omega)
  have w := @wr_f S r 2 0 ((tks fl).length : Nat) (fun i => (tks fl).getD i.toNat 0)
  have e5 : opS (opW (wrS S r 2 0 ((tks fl).length : Nat) (fun i => (tks fl).getD i.toNat 0)) r 4 (-1) lr lc) (40 * r + S r) 5 = 2 := (oo _ (by omega)).trans w.1
  have htl := @tks_w fl
  have hl24 := hok.2.2
  unfold ctI
  rw [e5]
  refine ⟨by omega, fun z => by omega, fun _ => ⟨fl, ?_, fun i v hv => ?_, hok⟩⟩
  · rw [oo _ (by omega), w.2.2.1]
  · have hi : i < (tks fl).length := (List.getElem?_eq_some_iff.mp hv).1
    rw [oo _ (by omega), w.2.2.2 i (by omega) (by omega) (by omega)]
    show (tks fl).getD ((i : Int)).toNat 0 = v
    rw [show ((i : Int)).toNat = i by omega, List.getD_eq_getElem?_getD, hv]
    rfl
theorem I_number {S : Int → Int} {r row col num : Int} {f : Int → Int} (h : Inv S) (ht : nmThr S r row col num = 0) : Inv (wtS S r row col 1 num 0 f) ∧ snL S (wtS S r row col 1 num 0 f) := by
  unfold nmThr at ht
  by_cases c1 : cellIn S r row col
  · rw [if_pos c1] at ht
    by_cases c2 : -9999 ≤ num ∧ num ≤ 9999
    · rw [if_pos c2] at ht
      have hf := h.f c1.1.1 c1.1.2
      by_cases c3 : S r = 40
      · rw [if_pos c3] at ht; omega
      · exact I_write h c1 (by omega) (ct_n c1.1.1 c1.1.2 hf.1 (Or.inr ⟨rfl, c2⟩))
    · rw [if_neg c2] at ht; omega
  · rw [if_neg c1] at ht; omega
theorem I_clear {S : Int → Int} {r row col : Int} {f : Int → Int} (h : Inv S) (ht : clThr S r row col = 0) : Inv (wtS S r row col 0 0 0 f) ∧ snL S (wtS S r row col 0 0 0 f) := by
  unfold clThr at ht
  by_cases c1 : cellIn S r row col
  · rw [if_pos c1] at ht
    have hf := h.f c1.1.1 c1.1.2
    by_cases c3 : S r = 40
    · rw [if_pos c3] at ht; omega
    · exact I_write h c1 (by omega) (ct_n c1.1.1 c1.1.2 hf.1 (Or.inl rfl))
  · rw [if_neg c1] at ht; omega
theorem I_formula {S X : Int → Int} {L r row col : Int} (h : Inv S) (hX : txW X L) (ht : fmThr X L S r row col = 0) : Inv (wfS S r row col (tks (flS X L S r).2)) ∧ snL S (wfS S r row col (tks (flS X L S r).2)) := by
  unfold fmThr at ht
  by_cases c1 : cellIn S r row col
  · rw [if_pos c1] at ht
    by_cases c2 : (flS X L S r).1 = -1
    · rw [if_pos c2] at ht
      have hf := h.f c1.1.1 c1.1.2
      by_cases c3 : S r = 40
      · rw [if_pos c3] at ht; omega
      · exact I_write h c1 (by omega) (ct_f c1.1.1 c1.1.2 hf.1 (fl_ok hX c2).1)
    · rw [if_neg c2] at ht; omega
  · rw [if_neg c1] at ht; omega
theorem I_receive {S : Int → Int} {r f m : Int} (h : Inv S) (ht : rcThr r f m = 0) : Inv (gtS S r f m) ∧ snL S (gtS S r f m) := by
  unfold rcThr at ht
  by_cases c1 : (0 ≤ r ∧ r ≤ 2) ∧ 0 ≤ f ∧ f ≤ 2
  · rw [if_pos c1] at ht
    by_cases c2 : r ≠ f ∧ 1 ≤ m ∧ m ≤ 40
    · exact h.gt c1.1.1 c1.1.2 c1.2.1 c1.2.2 c2.1 c2.2.1
    · rw [if_neg c2] at ht; omega
  · rw [if_neg c1] at ht; omega
