/-! a replica's calculation depends on its own tables alone -/
def sEq (S S' : Int → Int) (r : Int) : Prop := (∀ j, 3843 + 270 * r ≤ j → j < 3843 + 270 * r + 270 → j ≠ 3843 + 270 * r + 4 → j ≠ 3843 + 270 * r + 5 → S' j = S j) ∧ ∀ c, 0 ≤ c → c < 144 → S (cA r c) ≠ -1 → ∀ w, 0 ≤ w → w < 32 → opS S' (S (cA r c)) w = opS S (S (cA r c)) w
section SEQ
variable {S S' : Int → Int} {r : Int}
theorem sEq.rw9 (h : sEq S S' r) {kd : Int} (k0 : 0 ≤ kd) (k1 : kd ≤ 1) : rwN S' r kd (-1) = rwN S r kd (-1) ∧ ∀ i, 0 ≤ i → i < rwN S r kd (-1) → rwF S' r kd (-1) i = rwF S r kd (-1) i := by
  have e := rw_eq (S := S') (r := r) (kd := kd) (w := -1) ((rwE S r kd (-1)).congr (fun x a b => h.1 _ (by omega) (by omega) (by omega) (by omega)) (fun x a b => by
    simp only [shS]
    rw [h.1 (3843 + 270 * r + 6 + 5 * (12 * kd + x) + 3) (by omega) (by omega) (by omega) (by omega), h.1 (3843 + 270 * r + 6 + 5 * (12 * kd + x) + 4) (by omega) (by omega) (by omega) (by omega)]))
  exact ⟨e.1.symm, fun i a b => (e.2 i a b).symm⟩
theorem sEq.ix9 (h : sEq S S' r) {kd l : Int} (k0 : 0 ≤ kd) (k1 : kd ≤ 1) : ix (rwF S' r kd (-1)) (rwN S' r kd (-1)) l = ix (rwF S r kd (-1)) (rwN S r kd (-1)) l := by
  rw [(h.rw9 k0 k1).1]
  exact ix_c (fun i a b => (h.rw9 k0 k1).2 i a b)
theorem sEq.sn (h : sEq S S' r) : snS S' r = snS S r := by
  funext g
  unfold snS
  rw [h.ix9 (kd := 0) (by omega) (by omega), h.ix9 (kd := 1) (by omega) (by omega)]
theorem sEq.in9 (h : sEq S S' r) : inC S' r = inC S r := by
  funext c
  unfold inC
  rw [(h.rw9 (kd := 0) (by omega) (by omega)).1, (h.rw9 (kd := 1) (by omega) (by omega)).1]
theorem sEq.nm (h : sEq S S' r) {c : Int} (hc : inC S r c) : nmS S' r c = nmS S r c := by
  have q := hc.1
  unfold nmS
  rw [(h.rw9 (kd := 0) (by omega) (by omega)).2 _ (by omega) hc.2.1, (h.rw9 (kd := 1) (by omega) (by omega)).2 _ (by omega) hc.2.2]
theorem sEq.id (h : sEq S S' r) {c : Int} (hc : inC S r c) : idS S' r c = idS S r c := by
  have b := nmS_b hc
  rw [idS_nm, idS_nm, h.nm hc]
  exact h.1 _ (by simp only [cA]; omega) (by simp only [cA]; omega) (by simp only [cA]; omega) (by simp only [cA]; omega)
theorem sEq.op (h : sEq S S' r) {c : Int} (hc : inC S r c) (hn : idS S r c ≠ -1) (w : Int) (w0 : 0 ≤ w) (w1 : w < 32) : S' (3 + 32 * idS S r c + w) = S (3 + 32 * idS S r c + w) := by
  have b := nmS_b hc
  rw [idS_nm] at hn ⊢
  exact h.2 _ b.1 b.2 hn w w0 w1
theorem sEq.fm9 (h : sEq S S' r) : isFm S' r = isFm S r := by
  funext c
  apply propext
  unfold isFm
  rw [h.in9]
  constructor
  · rintro ⟨a, b, d⟩
    rw [h.id a] at b d
    exact ⟨a, b, (h.op a b 5 (by omega) (by omega)).symm.trans d⟩
  · rintro ⟨a, b, d⟩
    rw [h.id a]
    exact ⟨a, b, (h.op a b 5 (by omega) (by omega)).trans d⟩
theorem sEq.val (h : sEq S S' r) {c : Int} (hc : inC S r c) : valS S' r c = valS S r c := by
  unfold valS
  rw [h.id hc]
  by_cases hn : idS S r c = -1
  · rw [if_neg (fun z => z.1 hn), if_neg (fun z => z.1 hn)]
  · rw [h.op hc hn 5 (by omega) (by omega), h.op hc hn 6 (by omega) (by omega)]
theorem rfS_e {i : Int} (hsn : snS S' r = snS S r) (o : ∀ w, 0 ≤ w → w < 32 → S' (3 + 32 * i + w) = S (3 + 32 * i + w)) (sg : sgOk S i) (d : Int) : rfS S' r i d ↔ rfS S r i d := by
  have hk : ∀ k, 0 ≤ k → k < S (3 + 32 * i + 7) → (rfK S' r i k d ↔ rfK S r i k d) := fun k k0 k1 => by
    have := sg.2.1
    unfold rfK
    rw [hsn, o (8 + k) (by omega) (by omega)]
    by_cases e : S (3 + 32 * i + (8 + k)) = -4
    · have := sg.2.2 k k0 k1 e
      rw [o (8 + k + 1) (by omega) (by omega), o (8 + k + 2) (by omega) (by omega)]
    · constructor
      · rintro (z | z)
        · exact Or.inl z
        · exact absurd z.1 e
      · rintro (z | z)
        · exact Or.inl z
        · exact absurd z.1 e
  unfold rfS rfU
  rw [o 7 (by omega) (by omega)]
  exact ⟨fun ⟨k, a, b, c⟩ => ⟨k, a, b, (hk k a b).mp c⟩, fun ⟨k, a, b, c⟩ => ⟨k, a, b, (hk k a b).mpr c⟩⟩
theorem rkF_e {i k : Int} {V : Int → Int64} {E : Int → Int} {w : Int64} (hsn : snS S' r = snS S r) (o : ∀ w, 0 ≤ w → w < 32 → S' (3 + 32 * i + w) = S (3 + 32 * i + w)) (sg : sgOk S i) (k0 : 0 ≤ k) (k1 : k < S (3 + 32 * i + 7)) : rkF S' r i V E k w = rkF S r i V E k w := by
  have := sg.2.1
  unfold rkF
  rw [hsn, o (8 + k) (by omega) (by omega)]
  by_cases e : S (3 + 32 * i + (8 + k)) = -4
  · have := sg.2.2 k k0 k1 e
    rw [if_pos e, if_pos e, o (8 + k + 1) (by omega) (by omega), o (8 + k + 2) (by omega) (by omega)]
  · rw [if_neg e, if_neg e]
theorem clc_e {i : Int} {V : Int → Int64} {E : Int → Int} (hsn : snS S' r = snS S r) (o : ∀ w, 0 ≤ w → w < 32 → S' (3 + 32 * i + w) = S (3 + 32 * i + w)) (sg : sgOk S i) (n : Nat) : ∀ (k fi : Int) (su pr : Int64) (bf : Int), 0 ≤ k → clc S' r i V E n k fi su pr bf = clc S r i V E n k fi su pr bf := by
  induction n with
  | zero => intros; rfl
  | succ n ih =>
    intro k fi su pr bf k0
    have o7 := o 7 (by omega) (by omega)
    by_cases hk : k < S (3 + 32 * i + 7)
    · obtain ⟨q, er, v, hrk⟩ : ∃ q er v, rkF S r i V E k 0 = (q, er, v) := ⟨_, _, _, rfl⟩
      have hq := rkF_k (r := r) (V := V) (E := E) (w := 0) sg k0 hk
      rw [hrk] at hq
      have hq2 : k + 1 ≤ q ∧ q ≤ S (3 + 32 * i + 7) := hq
      have hs := sg.2.1
      have hrk' : rkF S' r i V E k 0 = (q, er, v) := (rkF_e hsn o sg k0 hk).trans hrk
      have hsg : (if q < S' (3 + 32 * i + 7) then S' (3 + 32 * i + (8 + q)) else -1) = (if q < S (3 + 32 * i + 7) then S (3 + 32 * i + (8 + q)) else -1) := by
        rw [o7]
        by_cases z : q < S (3 + 32 * i + 7)
        · rw [if_pos z, if_pos z, o (8 + q) (by omega) (by omega)]
        · rw [if_neg z, if_neg z]
      have ih' : ∀ fi su pr bf, clc S' r i V E n (q + 1) fi su pr bf = clc S r i V E n (q + 1) fi su pr bf := fun fi su pr bf => ih _ _ _ _ _ (by omega)
      rw [clc_s (S := S') (by rw [o7]; exact hk) hrk' rfl rfl rfl, clc_s (S := S) hk hrk rfl rfl rfl, hsg]
      simp only [ih']
    · rw [clc_end (by rw [o7]; exact hk), clc_end hk]
theorem sEq.rfc9 (h : sEq S S' r) (hf : fmOk S r) : rfC S' r = rfC S r := by
  funext a b
  apply propext
  unfold rfC
  rw [h.fm9]
  constructor
  · rintro ⟨x, y, z⟩
    rw [h.id x.1] at z
    exact ⟨x, y, (rfS_e h.sn (h.op x.1 x.2.1) (hf.1 a x) b).mp z⟩
  · rintro ⟨x, y, z⟩
    rw [h.id x.1]
    exact ⟨x, y, (rfS_e h.sn (h.op x.1 x.2.1) (hf.1 a x) b).mpr z⟩
theorem sEq.cy (h : sEq S S' r) (hf : fmOk S r) : cyS S' r = cyS S r := by
  funext c
  unfold cyS
  rw [h.rfc9 hf]
theorem sEq.kn (h : sEq S S' r) (hf : fmOk S r) : knS S' r = knS S r := by
  funext c
  unfold knS
  rw [h.fm9, h.cy hf, h.rfc9 hf]
theorem sEq.cF (h : sEq S S' r) (hf : fmOk S r) {c : Int} (hc : isFm S r c) {V : Int → Int64} {E : Int → Int} : clcF S' r (idS S' r c) V E = clcF S r (idS S r c) V E := by
  rw [h.id hc.1]
  exact clc_e h.sn (h.op hc.1 hc.2.1) (hf.1 c hc) 25 _ _ _ _ _ (by omega)
theorem sEq.wk (h : sEq S S' r) (hf : fmOk S r) {V : Int → Int64} {E : Int → Int} (H : wkS S r V E) : wkS S' r V E := by
  intro c hc'
  have hc : inC S r c := by rw [h.in9] at hc'; exact hc'
  have w := H c hc
  rw [h.fm9, h.cy hf, h.kn hf, h.val hc]
  refine ⟨w.1, fun z => ⟨(w.2 z).1, fun y => ⟨fun k => ?_, ((w.2 z).2 y).2⟩⟩⟩
  have u := ((w.2 z).2 y).1 k
  unfold clV clE at u ⊢
  rw [h.cF hf z]
  exact u
theorem sEq.oR (h : sEq S S' r) (hf : fmOk S r) : oRd S' r = oRd S r := by
  funext g k c
  unfold oRd
  rw [h.fm9, h.cy hf, h.rfc9 hf]
theorem fmF_c {p q : Int → Prop} (e : p = q) : Classical.choose (En.ex (fun x => x) p 144) = Classical.choose (En.ex (fun x => x) q 144) := by subst e; rfl
theorem fmN_c {p q : Int → Prop} (e : p = q) : Classical.choose (Classical.choose_spec (En.ex (fun x => x) p 144)) = Classical.choose (Classical.choose_spec (En.ex (fun x => x) q 144)) := by subst e; rfl
theorem sEq.nc (h : sEq S S' r) (hf : fmOk S r) : ncS S' r = ncS S r := by
  have e1 : fmF S' r = fmF S r := fmF_c h.fm9
  have e2 : fmN S' r = fmN S r := fmN_c h.fm9
  unfold ncS
  rw [e1, e2, h.cy hf]
theorem sEq.r0 (h : sEq S S' r) (hf : fmOk S r) : rf0 S' r = rf0 S r := by
  funext a b
  apply propext
  unfold rf0
  rw [h.fm9]
  constructor
  · rintro ⟨w, x, z, y⟩
    rw [h.id x.1] at z
    exact ⟨w, x, (rfS_e h.sn (h.op x.1 x.2.1) (hf.1 a x) b).mp z, y⟩
  · rintro ⟨w, x, z, y⟩
    rw [h.id x.1]
    exact ⟨w, x, (rfS_e h.sn (h.op x.1 x.2.1) (hf.1 a x) b).mpr z, y⟩
end SEQ
theorem CaR.s {I : gI} {J : gJ} {ca : Nat} {S S' : Int → Int} {r : Int} (H : CaR I J ca S r) (h : sEq S S' r) (hf : fmOk S r) : CaR I J ca S' r := by
  obtain ⟨a, b, c, d, ⟨W, e⟩, g⟩ := H
  have q1 : Rw S' r W = Rw S r W := by
    funext s c
    unfold Rw
    rw [h.r0 hf]
  have q2 : rdR S' r (isFm S' r) = rdR S r (isFm S r) := by
    funext s c
    unfold rdR
    rw [h.r0 hf, h.fm9]
  refine ⟨?_, h.wk hf b, ?_, by rw [h.nc hf]; exact d, ⟨W, by rw [q1]; exact e⟩, by rw [q2]; exact g⟩
  · unfold EnF
    rw [h.fm9]
    exact a
  · unfold Ord OrP at c ⊢
    rw [h.oR hf]
    exact c
