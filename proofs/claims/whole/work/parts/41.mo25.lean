/-- no more than K different numbers below K -/
theorem pig {g : Int → Int} {K : Nat} : ∀ n : Nat, (∀ i, 0 ≤ i → i < (n : Int) → 0 ≤ g i ∧ g i < K) → (∀ i j, 0 ≤ i → i < j → j < (n : Int) → g i ≠ g j) → n ≤ K := by
  have key : ∀ n : Nat, (∀ i, 0 ≤ i → i < (n : Int) → 0 ≤ g i ∧ g i < K) → (∀ i j, 0 ≤ i → i < j → j < (n : Int) → g i ≠ g j) → sm (fun x => b01 (∃ i, 0 ≤ i ∧ i < (n : Int) ∧ g i = x)) K = n := by
    intro n
    induction n with
    | zero =>
      intro _ _
      exact sm_0 K (fun x _ _ => b01_f (fun ⟨i, a, b, _⟩ => by omega))
    | succ n ih =>
      intro hb hi
      have h1 := ih (fun i a b => hb i a (by omega)) (fun i j a b c => hi i j a b (by omega))
      have h2 := hb n (by omega) (by omega)
      have e : (fun x => b01 (∃ i, 0 ≤ i ∧ i < ((n + 1 : Nat) : Int) ∧ g i = x)) = fun x => if x = g n then 1 else (fun x => b01 (∃ i, 0 ≤ i ∧ i < (n : Int) ∧ g i = x)) x := by
        funext x
        by_cases ex : x = g n
        · rw [if_pos ex]
          exact b01_t ⟨n, by omega, by omega, ex.symm⟩
        · rw [if_neg ex]
          refine b01_e ⟨fun ⟨i, a, b, c⟩ => ⟨i, a, ?_, c⟩, fun ⟨i, a, b, c⟩ => ⟨i, a, by omega, c⟩⟩
          by_cases ei : i = n
          · subst ei; exact absurd c.symm ex
          · omega
      rw [e, sm_u K h2.1 h2.2, h1]
      have : b01 (∃ i, 0 ≤ i ∧ i < (n : Int) ∧ g i = g n) = 0 := b01_f (fun ⟨i, a, b, c⟩ => hi i n a b (by omega) c)
      show (n : Int) - b01 (∃ i, 0 ≤ i ∧ i < (n : Int) ∧ g i = g n) + 1 = _
      rw [this]
      omega
  intro n hb hi
  have h1 := key n hb hi
  have h2 := (sm_b (m := fun x => b01 (∃ i, 0 ≤ i ∧ i < (n : Int) ∧ g i = x)) K (fun _ _ _ => b01_b)).2
  omega
theorem En.skips {pl : Int → Int} {sh : Int → Prop} {m m' n : Int} {f : Int → Int} (h : En pl sh m f n) (hm : m ≤ m') (hs : ∀ x, m ≤ x → x < m' → ¬ sh x) : En pl sh m' f n := by
  obtain ⟨h1, h2, h3, h4, h5⟩ := h
  refine ⟨h1, by omega, h3, fun i hi hj => ?_, fun x hx hy hz => ?_⟩
  · have := h4 i hi hj
    exact ⟨this.1, by omega, this.2.2⟩
  · by_cases e : x < m
    · exact h5 x hx e hz
    · exact absurd hz (hs x (by omega) hy)
theorem En.fc {pl : Int → Int} {sh : Int → Prop} {m n : Int} {f g : Int → Int} (h : En pl sh m f n) (e : ∀ i, 0 ≤ i → i < n → g i = f i) : En pl sh m g n := by
  obtain ⟨h1, h2, h3, h4, h5⟩ := h
  refine ⟨h1, h2, fun i j a b c => ?_, fun i a b => ?_, fun x a b c => ?_⟩
  · rw [e i a (by omega), e j (by omega) c]; exact h3 i j a b c
  · rw [e i a b]; exact h4 i a b
  · obtain ⟨i, a, b, c⟩ := h5 x a b c
    exact ⟨i, a, b, by rw [e i a b]; exact c⟩
/-- a cell that is shown and has a formula -/
def isFm (S : Int → Int) (r c : Int) : Prop := inC S r c ∧ idS S r c ≠ -1 ∧ S (3 + 32 * idS S r c + 5) = 2
noncomputable def valS (S : Int → Int) (r c : Int) : Int64 := if idS S r c ≠ -1 ∧ S (3 + 32 * idS S r c + 5) = 1 then Int64.ofInt (S (3 + 32 * idS S r c + 6)) else 0
/-- what the cells of a replica hold stands well -/
def fmOk (S : Int → Int) (r : Int) : Prop := (∀ c, isFm S r c → sgOk S (idS S r c)) ∧ (∀ c c', isFm S r c → isFm S r c' → idS S r c = idS S r c' → c = c') ∧ ∀ c, inC S r c → -1 ≤ idS S r c ∧ idS S r c < 120
abbrev EnF (S : Int → Int) (r m : Int) (f : Int → Int) (n : Int) : Prop := En (fun x => x) (isFm S r) m f n
theorem EnF.lt {S : Int → Int} {r m n i j : Int} {f : Int → Int} (h : EnF S r m f n) (h0 : 0 ≤ i) (h1 : i < j) (h2 : j < n) : f i < f j := by
  have : f i < f j ∨ (f i = f j ∧ f i < f j) := h.2.2.1 i j h0 h1 h2
  omega
theorem EnF.n {S : Int → Int} {r m n : Int} {f : Int → Int} (h : EnF S r m f n) (hf : fmOk S r) : n ≤ 120 := by
  have h0 := h.1
  have := pig (g := fun i => idS S r (f i)) (K := 120) n.toNat (fun i a b => by
    have q := (h.2.2.2.1 i a (by omega)).2.2
    have := hf.2.2 _ q.1
    have := q.2.1
    show 0 ≤ idS S r (f i) ∧ idS S r (f i) < 120
    omega) (fun i j a b c => by
    intro e
    have q1 := (h.2.2.2.1 i a (by omega)).2.2
    have q2 := (h.2.2.2.1 j (by omega) (by omega)).2.2
    have := hf.2.1 _ _ q1 q2 e
    have := h.lt a b (by omega)
    omega)
  omega
def gFr (I I1 : gI) (mo : Nat) : Prop := ∀ b j, (b < mo ∨ mo + 20 < b ∨ b = mo + 1 ∨ b = mo + 2 ∨ b = mo + 3 ∨ b = mo + 4 ∨ b = mo + 7 ∨ b = mo + 8 ∨ (b = mo ∧ j ≠ 9 ∧ j ≠ 10 ∧ j ≠ 16 ∧ j ≠ 25)) → I1 b j = I b j
def gFj (J J1 : gJ) (mo : Nat) : Prop := ∀ b j, b ≠ mo + 11 → (b ≠ mo ∨ j ≠ 26) → J1 b j = J b j
/-- the cells gathered up to one -/
def gv1 (I1 : gI) (J1 : gJ) (mo : Nat) (S : Int → Int) (r m : Int) : Prop := lkO I1 mo S r ∧ EnF S r m (I1 (mo + 9)) (I1 mo 16) ∧ ∀ c, inC S r c → c < m → ((isFm S r c → 0 ≤ I1 (mo + 10) c ∧ I1 (mo + 10) c < I1 mo 16 ∧ I1 (mo + 9) (I1 (mo + 10) c) = c) ∧ (¬ isFm S r c → I1 (mo + 10) c = -1)) ∧ I1 (mo + 12) c = 0 ∧ J1 (mo + 11) c = valS S r c
theorem gv1.no {I1 : gI} {J1 : gJ} {mo : Nat} {S : Int → Int} {r m : Int} (h : gv1 I1 J1 mo S r m) (hn : ¬ isFm S r m) : gv1 (uI (uI I1 (mo + 10) m (-1)) (mo + 12) m 0) (uJ J1 (mo + 11) m (valS S r m)) mo S r (m + 1) := by
  obtain ⟨h1, h2, h3⟩ := h
  refine ⟨h1.c (fun j => by (repeat (first | rw [uI_s] | rw [uI_a (by omega)] | rw [uI_k (by omega)]))) (fun j => by (repeat (first | rw [uI_s] | rw [uI_a (by omega)] | rw [uI_k (by omega)]))) (fun j => by (repeat (first | rw [uI_s] | rw [uI_a (by omega)] | rw [uI_k (by omega)]))) (by (repeat (first | rw [uI_s] | rw [uI_a (by omega)] | rw [uI_k (by omega)]))) (by (repeat (first | rw [uI_s] | rw [uI_a (by omega)] | rw [uI_k (by omega)]))), ?_, fun c hc hm => ?_⟩
  · rw [show uI (uI I1 (mo + 10) m (-1)) (mo + 12) m 0 mo 16 = I1 mo 16 by (repeat (first | rw [uI_s] | rw [uI_a (by omega)] | rw [uI_k (by omega)]))]
    exact En.skip (En.fc h2 (fun i a b => by (repeat (first | rw [uI_s] | rw [uI_a (by omega)] | rw [uI_k (by omega)])))) hn
  · rw [show uI (uI I1 (mo + 10) m (-1)) (mo + 12) m 0 mo 16 = I1 mo 16 by (repeat (first | rw [uI_s] | rw [uI_a (by omega)] | rw [uI_k (by omega)]))]
    by_cases e : c = m
    · subst e
      refine ⟨⟨fun z => absurd z hn, fun _ => by (repeat (first | rw [uI_s] | rw [uI_a (by omega)] | rw [uI_k (by omega)]))⟩, uI_s, uJ_s⟩
    · have q := h3 c hc (by omega)
      have e10 : uI (uI I1 (mo + 10) m (-1)) (mo + 12) m 0 (mo + 10) c = I1 (mo + 10) c := by (repeat (first | rw [uI_s] | rw [uI_a (by omega)] | rw [uI_k (by omega)]))
      have e9 : ∀ j, uI (uI I1 (mo + 10) m (-1)) (mo + 12) m 0 (mo + 9) j = I1 (mo + 9) j := fun j => by (repeat (first | rw [uI_s] | rw [uI_a (by omega)] | rw [uI_k (by omega)]))
      rw [e10, e9, uI_k e, uI_a (by omega), uJ_k e]
      exact q
theorem gv1.yes {I1 : gI} {J1 : gJ} {mo : Nat} {S : Int → Int} {r m : Int} (h : gv1 I1 J1 mo S r m) (hn : isFm S r m) : gv1 (uI (uI (uI (uI (uI I1 (mo + 10) m (-1)) (mo + 12) m 0) (mo + 10) m (I1 mo 16)) (mo + 9) (I1 mo 16) m) mo 16 (I1 mo 16 + 1)) (uJ J1 (mo + 11) m (valS S r m)) mo S r (m + 1) := by
  obtain ⟨h1, h2, h3⟩ := h
  have n0 := h2.1
  generalize hn9 : I1 mo 16 = n at *
  have e16 : uI (uI (uI (uI (uI I1 (mo + 10) m (-1)) (mo + 12) m 0) (mo + 10) m n) (mo + 9) n m) mo 16 (n + 1) mo 16 = n + 1 := uI_s
  have e9 : ∀ j, j ≠ n → uI (uI (uI (uI (uI I1 (mo + 10) m (-1)) (mo + 12) m 0) (mo + 10) m n) (mo + 9) n m) mo 16 (n + 1) (mo + 9) j = I1 (mo + 9) j := fun j hj => by (repeat (first | rw [uI_s] | rw [uI_a (by omega)] | rw [uI_k (by omega)]))
  have e9n : uI (uI (uI (uI (uI I1 (mo + 10) m (-1)) (mo + 12) m 0) (mo + 10) m n) (mo + 9) n m) mo 16 (n + 1) (mo + 9) n = m := by (repeat (first | rw [uI_s] | rw [uI_a (by omega)] | rw [uI_k (by omega)]))
  have e10 : ∀ j, j ≠ m → uI (uI (uI (uI (uI I1 (mo + 10) m (-1)) (mo + 12) m 0) (mo + 10) m n) (mo + 9) n m) mo 16 (n + 1) (mo + 10) j = I1 (mo + 10) j := fun j hj => by (repeat (first | rw [uI_s] | rw [uI_a (by omega)] | rw [uI_k (by omega)]))
  have e10m : uI (uI (uI (uI (uI I1 (mo + 10) m (-1)) (mo + 12) m 0) (mo + 10) m n) (mo + 9) n m) mo 16 (n + 1) (mo + 10) m = n := by (repeat (first | rw [uI_s] | rw [uI_a (by omega)] | rw [uI_k (by omega)]))
  have e12 : ∀ j, j ≠ m → uI (uI (uI (uI (uI I1 (mo + 10) m (-1)) (mo + 12) m 0) (mo + 10) m n) (mo + 9) n m) mo 16 (n + 1) (mo + 12) j = I1 (mo + 12) j := fun j hj => by (repeat (first | rw [uI_s] | rw [uI_a (by omega)] | rw [uI_k (by omega)]))
  have e12m : uI (uI (uI (uI (uI I1 (mo + 10) m (-1)) (mo + 12) m 0) (mo + 10) m n) (mo + 9) n m) mo 16 (n + 1) (mo + 12) m = 0 := by (repeat (first | rw [uI_s] | rw [uI_a (by omega)] | rw [uI_k (by omega)]))
  refine ⟨h1.c (fun j => by (repeat (first | rw [uI_s] | rw [uI_a (by omega)] | rw [uI_k (by omega)]))) (fun j => by (repeat (first | rw [uI_s] | rw [uI_a (by omega)] | rw [uI_k (by omega)]))) (fun j => by (repeat (first | rw [uI_s] | rw [uI_a (by omega)] | rw [uI_k (by omega)]))) (by (repeat (first | rw [uI_s] | rw [uI_a (by omega)] | rw [uI_k (by omega)]))) (by (repeat (first | rw [uI_s] | rw [uI_a (by omega)] | rw [uI_k (by omega)]))), ?_, fun c hc hm => ?_⟩
  · rw [e16]
    refine En.ins h2 hn.1.1 hn n0 (Int.le_refl _) ?_ (fun j a b => by omega) (fun j a b => e9 j (by omega)) e9n (fun j a b => by omega)
    by_cases e : n = 0
    · exact Or.inl e
    · refine Or.inr ?_
      have := (h2.2.2.2.1 (n - 1) (by omega) (by omega)).2.1
      show I1 (mo + 9) (n - 1) ≤ m
      omega
  · rw [e16]
    by_cases e : c = m
    · subst e
      rw [e10m, e12m, uJ_s]
      exact ⟨⟨fun _ => ⟨n0, by omega, e9n⟩, fun z => absurd hn z⟩, rfl, rfl⟩
    · have q := h3 c hc (by omega)
      rw [e10 c e, e12 c e, uJ_k e]
      refine ⟨⟨fun z => ?_, q.1.2⟩, q.2⟩
      have q1 := q.1.1 z
      rw [e9 _ (by omega)]
      exact ⟨q1.1, by omega, q1.2.2⟩
theorem gv1.up {I1 : gI} {J1 : gJ} {mo : Nat} {S : Int → Int} {r m m' : Int} (h : gv1 I1 J1 mo S r m) (hm : m ≤ m') (hs : ∀ x, m ≤ x → x < m' → ¬ inC S r x) : gv1 I1 J1 mo S r m' := by
  obtain ⟨h1, h2, h3⟩ := h
  exact ⟨h1, En.skips h2 hm (fun x a b c => hs x a b c.1), fun c hc hm => h3 c hc (by by_cases e : c < m; exact e; exact absurd hc (hs c (by omega) hm))⟩
/-- from cell to cell over formulas -/
def rfC (S : Int → Int) (r a b : Int) : Prop := isFm S r a ∧ isFm S r b ∧ rfS S r (idS S r a) b
def rcC (R : Int → Int → Prop) (a b : Int) : Prop := ∀ P : Int → Prop, (∀ h, R a h → P h) → (∀ h k, P h → R h k → P k) → P b
/-- a formula on a cycle -/
def cyS (S : Int → Int) (r c : Int) : Prop := rcC (rfC S r) c c
/-- what is found by 'gathers' -/
def gv2 (I1 : gI) (mo : Nat) (S : Int → Int) (r k : Int) : Prop := ∀ f d, 0 ≤ f → f < k → 0 ≤ d → d < 144 → I1 (mo + 13) (144 * f + d) = b01 (rfS S r (idS S r (I1 (mo + 9) f)) d)
theorem gv2_A {I1 : gI} {mo : Nat} {S : Int → Int} {r f g : Int} (h : gv2 I1 mo S r (I1 mo 16)) (hE : EnF S r 144 (I1 (mo + 9)) (I1 mo 16)) (f0 : 0 ≤ f) (f1 : f < I1 mo 16) (g0 : 0 ≤ g) (g1 : g < I1 mo 16) : mA I1 mo f g ↔ rfC S r (I1 (mo + 9) f) (I1 (mo + 9) g) := by
  have q := hE.2.2.2.1 g g0 g1
  have q1 := hE.2.2.2.1 f f0 f1
  have e := h f (I1 (mo + 9) g) f0 f1 q.1 q.2.1
  show I1 (mo + 13) (144 * f + I1 (mo + 9) g) ≠ 0 ↔ _
  rw [e]
  constructor
  · intro z
    exact ⟨q1.2.2, q.2.2, Classical.byContradiction fun w => z (b01_f w)⟩
  · intro z
    rw [b01_t z.2.2]
    decide
theorem gv2_r {I1 : gI} {mo : Nat} {S : Int → Int} {r f g : Int} (h : gv2 I1 mo S r (I1 mo 16)) (hE : EnF S r 144 (I1 (mo + 9)) (I1 mo 16)) (f0 : 0 ≤ f) (f1 : f < I1 mo 16) (g0 : 0 ≤ g) (g1 : g < I1 mo 16) : rch (mA I1 mo) (I1 mo 16) f g ↔ rcC (rfC S r) (I1 (mo + 9) f) (I1 (mo + 9) g) := by
  have inj : ∀ i j, 0 ≤ i → i < I1 mo 16 → 0 ≤ j → j < I1 mo 16 → I1 (mo + 9) i = I1 (mo + 9) j → i = j := fun i j i0 i1 j0 j1 e => by
    rcases (by omega : i < j ∨ i = j ∨ j < i) with q | q | q
    · have := hE.lt i0 q j1; omega
    · exact q
    · have := hE.lt j0 q i1; omega
  constructor
  · intro z
    refine (z (fun g => 0 ≤ g ∧ g < I1 mo 16 ∧ rcC (rfC S r) (I1 (mo + 9) f) (I1 (mo + 9) g)) (fun k k0 k1 hA => ⟨k0, k1, fun P p1 p2 => p1 _ ((gv2_A h hE f0 f1 k0 k1).mp hA)⟩) (fun k l k0 k1 l0 l1 hP hA => ⟨l0, l1, fun P p1 p2 => p2 _ _ (hP.2.2 P p1 p2) ((gv2_A h hE k0 k1 l0 l1).mp hA)⟩)).2.2
  · intro z
    refine z (fun c => ∀ k, 0 ≤ k → k < I1 mo 16 → I1 (mo + 9) k = c → rch (mA I1 mo) (I1 mo 16) f k) (fun c hR k k0 k1 e => rch.one k0 k1 ((gv2_A h hE f0 f1 k0 k1).mpr (e ▸ hR))) (fun c c' hP hR k k0 k1 e => ?_) g g0 g1 rfl
    obtain ⟨i, i0, i1, i2⟩ := hE.2.2.2.2 c hR.1.1.1 hR.1.1.b.2 hR.1
    exact (hP i i0 i1 i2).step i0 i1 k0 k1 ((gv2_A h hE i0 i1 k0 k1).mpr (by rw [i2, e]; exact hR))
