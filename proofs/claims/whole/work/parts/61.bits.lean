/-! bits of longs -/
def cntB (x : Nat) : Nat → Nat
  | 0 => 0
  | n + 1 => cntB x n + x / 2 ^ n % 2
theorem cntB_s (x n : Nat) : cntB x (8 + n) = cntB (x % 256) 8 + cntB (x / 256) n := by
  induction n with
  | zero =>
    show cntB x 8 = cntB (x % 256) 8 + 0
    simp only [cntB]
    omega
  | succ n ih =>
    show cntB x (8 + n) + x / 2 ^ (8 + n) % 2 = cntB (x % 256) 8 + (cntB (x / 256) n + x / 256 / 2 ^ n % 2)
    rw [ih, Nat.pow_add, ← Nat.div_div_eq_div_mul]
    show _ + x / 256 / 2 ^ n % 2 = _
    omega
theorem and8 (x m : Nat) : x &&& m = (x % 256 &&& m % 256) + 256 * (x / 256 &&& m / 256) := by
  have h1 : (x &&& m) % 2 ^ 8 = (x % 2 ^ 8) &&& (m % 2 ^ 8) := Nat.and_mod_two_pow
  have h2 : (x &&& m) / 2 ^ 8 = (x / 2 ^ 8) &&& (m / 2 ^ 8) := Nat.and_div_two_pow ..
  have h3 := Nat.mod_add_div (x &&& m) 256
  show _ = (x % 2 ^ 8 &&& m % 2 ^ 8) + 256 * (x / 2 ^ 8 &&& m / 2 ^ 8)
  rw [← h1, ← h2]
  exact h3.symm
theorem and0 (x : Nat) : x &&& 0 = 0 := Nat.and_zero x
def q1 (b : Nat) : Nat := b - (b / 2 &&& 85)
def q2 (c : Nat) : Nat := (c &&& 51) + (c / 4 &&& 51)
theorem k1 : ∀ b, b < 256 → ∀ t, t < 2 → (b / 2 + 128 * t) &&& 85 = b / 2 &&& 85 := by decide +kernel
theorem k1b : ∀ b, b < 256 → b / 2 &&& 85 ≤ b := by decide +kernel
theorem k2 : ∀ c, c < 256 → ∀ t, t < 4 → (c / 4 + 64 * t) &&& 51 = c / 4 &&& 51 := by decide +kernel
theorem k3 : ∀ b, b < 256 → q2 (q1 b) % 16 ≤ 4 ∧ q2 (q1 b) / 16 ≤ 4 := by decide +kernel
theorem k4 : ∀ d, d < 69 → d % 16 ≤ 4 → d / 16 ≤ 4 → ∀ t, t < 5 → (d + d / 16 + 16 * t) &&& 15 = d % 16 + d / 16 := by decide +kernel
theorem k5 : ∀ b, b < 256 → q2 (q1 b) % 16 + q2 (q1 b) / 16 = cntB b 8 := by decide +kernel
/-- a byte, again and again -/
def R8 : Nat → Nat
  | 0 => 0
  | n + 1 => 1 + 256 * R8 n
def map8 (f : Nat → Nat) : Nat → Nat → Nat
  | 0, _ => 0
  | n + 1, x => f (x % 256) + 256 * map8 f n (x / 256)
def sum8 (f : Nat → Nat) : Nat → Nat → Nat
  | 0, _ => 0
  | n + 1, x => f (x % 256) + sum8 f n (x / 256)
theorem and8r (x m r : Nat) (hm : m < 256) : x &&& (m * (1 + 256 * r)) = (x % 256 &&& m) + 256 * (x / 256 &&& (m * r)) := by
  have e : m * (1 + 256 * r) = m + 256 * (m * r) := by rw [Nat.mul_add, Nat.mul_one, Nat.mul_left_comm]
  rw [and8, e, show (m + 256 * (m * r)) % 256 = m by omega, show (m + 256 * (m * r)) / 256 = m * r by omega]
theorem l1 (n : Nat) : ∀ x, x < 256 ^ n → (x / 2 &&& (85 * R8 n)) ≤ x ∧ x - (x / 2 &&& (85 * R8 n)) = map8 q1 n x := by
  induction n with
  | zero => intro x hx; have : x = 0 := by omega
            subst this; exact ⟨by decide, by decide⟩
  | succ n ih =>
    intro x hx
    have hq : x / 256 < 256 ^ n := by rw [Nat.pow_succ] at hx; omega
    obtain ⟨i1, i2⟩ := ih (x / 256) hq
    have e1 : x / 2 % 256 = x % 256 / 2 + 128 * (x / 256 % 2) := by omega
    have e2 : x / 2 / 256 = x / 256 / 2 := by omega
    have e3 := k1 (x % 256) (by omega) (x / 256 % 2) (by omega)
    have e4 := k1b (x % 256) (by omega)
    show (x / 2 &&& (85 * (1 + 256 * R8 n))) ≤ x ∧ x - (x / 2 &&& (85 * (1 + 256 * R8 n))) = q1 (x % 256) + 256 * map8 q1 n (x / 256)
    rw [and8r _ _ _ (by omega), e1, e2, e3, ← i2]
    unfold q1
    generalize x % 256 / 2 &&& 85 = c at *
    generalize x / 256 / 2 &&& 85 * R8 n = d at *
    omega
theorem q1_b {b : Nat} (h : b < 256) : q1 b < 256 := by unfold q1; omega
theorem l2 (n : Nat) : ∀ x, x < 256 ^ n → (x &&& (51 * R8 n)) + (x / 4 &&& (51 * R8 n)) = map8 q2 n x := by
  induction n with
  | zero => intro x hx; have : x = 0 := by omega
            subst this; decide
  | succ n ih =>
    intro x hx
    have hq : x / 256 < 256 ^ n := by rw [Nat.pow_succ] at hx; omega
    have i2 := ih (x / 256) hq
    have e1 : x / 4 % 256 = x % 256 / 4 + 64 * (x / 256 % 4) := by omega
    have e2 : x / 4 / 256 = x / 256 / 4 := by omega
    have e3 := k2 (x % 256) (by omega) (x / 256 % 4) (by omega)
    show (x &&& (51 * (1 + 256 * R8 n))) + (x / 4 &&& (51 * (1 + 256 * R8 n))) = q2 (x % 256) + 256 * map8 q2 n (x / 256)
    rw [and8r _ _ _ (by omega), and8r _ _ _ (by omega), e1, e2, e3, ← i2]
    unfold q2
    omega
theorem map8_c {f g : Nat → Nat} (hf : ∀ b, b < 256 → f b < 256) (n : Nat) : ∀ x, map8 g n (map8 f n x) = map8 (fun b => g (f b)) n x := by
  induction n with
  | zero => intro x; rfl
  | succ n ih =>
    intro x
    have h := hf (x % 256) (by omega)
    show g ((f (x % 256) + 256 * map8 f n (x / 256)) % 256) + 256 * map8 g n ((f (x % 256) + 256 * map8 f n (x / 256)) / 256) = _
    rw [show (f (x % 256) + 256 * map8 f n (x / 256)) % 256 = f (x % 256) by omega, show (f (x % 256) + 256 * map8 f n (x / 256)) / 256 = map8 f n (x / 256) by omega, ih]
    rfl
theorem map8_lt {f : Nat → Nat} (hf : ∀ b, b < 256 → f b < 256) (n : Nat) : ∀ x, map8 f n x < 256 ^ n := by
  induction n with
  | zero => intro x; show 0 < 1; omega
  | succ n ih =>
    intro x
    have h := hf (x % 256) (by omega)
    have := ih (x / 256)
    show f (x % 256) + 256 * map8 f n (x / 256) < _
    rw [Nat.pow_succ]
    omega
theorem map8_le {f : Nat → Nat} {c : Nat} (hf : ∀ b, b < 256 → f b ≤ c) (n : Nat) : ∀ x, map8 f n x ≤ c * R8 n := by
  induction n with
  | zero => intro x; show 0 ≤ _; omega
  | succ n ih =>
    intro x
    have h := hf (x % 256) (by omega)
    have := ih (x / 256)
    show f (x % 256) + 256 * map8 f n (x / 256) ≤ c * (1 + 256 * R8 n)
    rw [Nat.mul_add, Nat.mul_one, Nat.mul_left_comm]
    omega
def q3 (b : Nat) : Nat := q2 (q1 b)
def q4 (b : Nat) : Nat := q3 b % 16 + q3 b / 16
theorem k3q : ∀ b, b < 256 → q3 b % 16 ≤ 4 ∧ q3 b / 16 ≤ 4 := k3
theorem k5q : ∀ b, b < 256 → q4 b = cntB b 8 := k5
theorem l3 (n : Nat) : ∀ x, (map8 q3 n x + map8 q3 n x / 16) &&& (15 * R8 n) = map8 q4 n x := by
  induction n with
  | zero => intro x; show (0 + 0 / 16) &&& (15 * 0) = 0; decide
  | succ n ih =>
    intro x
    have i2 := ih (x / 256)
    have h := k3q (x % 256) (by omega)
    have hl : map8 q3 n (x / 256) % 16 ≤ 4 := by
      cases n with
      | zero => show 0 % 16 ≤ 4; omega
      | succ m =>
        have := k3q (x / 256 % 256) (by omega)
        show (q3 (x / 256 % 256) + 256 * map8 q3 m (x / 256 / 256)) % 16 ≤ 4
        omega
    have e4 := k4 (q3 (x % 256)) (by omega) h.1 h.2 (map8 q3 n (x / 256) % 16) (by omega)
    show ((q3 (x % 256) + 256 * map8 q3 n (x / 256)) + (q3 (x % 256) + 256 * map8 q3 n (x / 256)) / 16) &&& (15 * (1 + 256 * R8 n)) = q4 (x % 256) + 256 * map8 q4 n (x / 256)
    rw [and8r _ _ _ (by omega), ← i2]
    show _ = q3 (x % 256) % 16 + q3 (x % 256) / 16 + _
    rw [← e4]
    generalize q3 (x % 256) = c at *
    generalize map8 q3 n (x / 256) = d at *
    rw [show (c + 256 * d + (c + 256 * d) / 16) % 256 = c + c / 16 + 16 * (d % 16) by omega, show (c + 256 * d + (c + 256 * d) / 16) / 256 = d + d / 16 by omega]
theorem cnt8 (n : Nat) : ∀ x, cntB x (8 * n) = sum8 (fun b => cntB b 8) n x := by
  induction n with
  | zero => intro x; rfl
  | succ n ih =>
    intro x
    rw [show 8 * (n + 1) = 8 + 8 * n by omega, cntB_s, ih]
    rfl
theorem sum8_c {f g : Nat → Nat} (h : ∀ b, b < 256 → f b = g b) (n : Nat) : ∀ x, sum8 f n x = sum8 g n x := by
  induction n with
  | zero => intro x; rfl
  | succ n ih => intro x; show f _ + _ = g _ + _; rw [h _ (by omega), ih]
def pop1 (x : Nat) : Nat := x - (x / 2 &&& 6148914691236517205)
def pop2 (x : Nat) : Nat := (x &&& 3689348814741910323) + (x / 4 &&& 3689348814741910323)
def pop3 (x : Nat) : Nat := (x + x / 16) &&& 1085102592571150095
def pop4 (x : Nat) : Nat := x + x / 256
def pop5 (x : Nat) : Nat := x + x / 65536
def pop6 (x : Nat) : Nat := x + x / 4294967296
theorem dv {s r y m : Nat} (e : s = r + m * y) (h : r < m) : s / m = y := by
  subst e
  rw [Nat.add_mul_div_left _ _ (by omega), Nat.div_eq_of_lt h, Nat.zero_add]
theorem pop456 {X0 X1 X2 X3 X4 X5 X6 b0 b1 b2 b3 b4 b5 b6 b7 : Nat} (h0 : b0 ≤ 8) (h1 : b1 ≤ 8) (h2 : b2 ≤ 8) (h3 : b3 ≤ 8) (h4 : b4 ≤ 8) (h5 : b5 ≤ 8) (h6 : b6 ≤ 8) (h7 : b7 ≤ 8) (e0 : X0 = b0 + 256 * X1) (e1 : X1 = b1 + 256 * X2) (e2 : X2 = b2 + 256 * X3) (e3 : X3 = b3 + 256 * X4) (e4 : X4 = b4 + 256 * X5) (e5 : X5 = b5 + 256 * X6) (e6 : X6 = b6 + 256 * b7) : pop6 (pop5 (pop4 X0)) % 128 = b0 + b1 + b2 + b3 + b4 + b5 + b6 + b7 ∧ pop4 X0 < 2 ^ 64 ∧ pop5 (pop4 X0) < 2 ^ 64 ∧ pop6 (pop5 (pop4 X0)) < 2 ^ 64 := by
  have u6 : X6 ≤ 2056 := by omega
  have u5 : X5 ≤ 526344 := by omega
  have u4 : X4 ≤ 134744072 := by omega
  have u3 : X3 ≤ 34494482440 := by omega
  have u2 : X2 ≤ 8830587504648 := by omega
  have u1 : X1 ≤ 2260630401189896 := by omega
  have u0 : X0 ≤ 578721382704613384 := by omega
  have p4 : pop4 X0 = X0 + X1 := by
    unfold pop4
    rw [dv e0 (by omega)]
  have p5 : pop5 (pop4 X0) = X0 + X1 + X2 + X3 := by
    rw [p4]
    unfold pop5
    have : (X0 + X1) / 65536 = X2 + X3 := dv (r := b0 + b1 + 256 * b1 + 256 * b2) (by clear u0 u1 u2 u3 u4 u5 u6; omega) (by omega)
    rw [this]; omega
  have p6 : pop6 (pop5 (pop4 X0)) = X0 + X1 + X2 + X3 + (X4 + X5 + X6 + b7) := by
    rw [p5]
    unfold pop6
    have : (X0 + X1 + X2 + X3) / 4294967296 = X4 + X5 + X6 + b7 := dv (r := (b0 + 256 * b1 + 65536 * b2 + 16777216 * b3) + (b1 + 256 * b2 + 65536 * b3 + 16777216 * b4) + (b2 + 256 * b3 + 65536 * b4 + 16777216 * b5) + (b3 + 256 * b4 + 65536 * b5 + 16777216 * b6)) (by clear u0 u1 u2 u3 u4 u5 u6 p4 p5; omega) (by clear u0 u1 u2 u3 u4 u5 u6 p4 p5 e0 e1 e2 e3 e4 e5 e6; omega)
    rw [this]
  refine ⟨?_, ?_, ?_, ?_⟩
  · rw [p6]
    have : X0 + X1 + X2 + X3 + (X4 + X5 + X6 + b7) = (b0 + b1 + b2 + b3 + b4 + b5 + b6 + b7) + 128 * (2 * (X1 + X2 + X3 + X4 + X5 + X6 + b7)) := by clear u0 u1 u2 u3 u4 u5 u6 p4 p5 p6; omega
    rw [this, Nat.add_mul_mod_self_left, Nat.mod_eq_of_lt (by clear u0 u1 u2 u3 u4 u5 u6 p4 p5 p6 e0 e1 e2 e3 e4 e5 e6 this; omega)]
  · rw [p4]; clear p4 p5 p6 e0 e1 e2 e3 e4 e5 e6; omega
  · rw [p5]; clear p4 p5 p6 e0 e1 e2 e3 e4 e5 e6; omega
  · rw [p6]; clear p4 p5 p6 e0 e1 e2 e3 e4 e5 e6; omega
theorem pop_nat (x : Nat) (hx : x < 2 ^ 64) : pop6 (pop5 (pop4 (pop3 (pop2 (pop1 x))))) % 128 = cntB x 64 ∧ (x / 2 &&& 6148914691236517205) ≤ x ∧ pop2 (pop1 x) < 2 ^ 64 ∧ pop2 (pop1 x) + pop2 (pop1 x) / 16 < 2 ^ 64 ∧ pop4 (pop3 (pop2 (pop1 x))) < 2 ^ 64 ∧ pop5 (pop4 (pop3 (pop2 (pop1 x)))) < 2 ^ 64 ∧ pop6 (pop5 (pop4 (pop3 (pop2 (pop1 x))))) < 2 ^ 64 := by
  have p1 := l1 8 x hx
  have e1 : pop1 x = map8 q1 8 x := p1.2
  have e2 : pop2 (pop1 x) = map8 q3 8 x := by rw [e1]; exact (l2 8 _ (map8_lt (fun b hb => q1_b hb) 8 x)).trans (map8_c (fun b hb => q1_b hb) 8 x)
  have e3 : pop3 (pop2 (pop1 x)) = map8 q4 8 x := by rw [e2]; exact l3 8 x
  have hb : map8 q3 8 x ≤ 68 * R8 8 := map8_le (fun b hb => by have := k3q b hb; omega) 8 x
  have hR : R8 8 = 72340172838076673 := by decide
  have hs : cntB x 64 = sum8 q4 8 x := (cnt8 8 x).trans (sum8_c (fun b hb => (k5q b hb).symm) 8 x)
  have h4 : ∀ y, q4 (y % 256) ≤ 8 := fun y => by have := k3q (y % 256) (by omega); show q3 _ % 16 + q3 _ / 16 ≤ 8; omega
  have p4 := pop456 (h4 x) (h4 (x / 256)) (h4 (x / 256 / 256)) (h4 (x / 256 / 256 / 256)) (h4 (x / 256 / 256 / 256 / 256)) (h4 (x / 256 / 256 / 256 / 256 / 256)) (h4 (x / 256 / 256 / 256 / 256 / 256 / 256)) (h4 (x / 256 / 256 / 256 / 256 / 256 / 256 / 256)) (X0 := map8 q4 8 x) (X1 := map8 q4 7 (x / 256)) (X2 := map8 q4 6 (x / 256 / 256)) (X3 := map8 q4 5 (x / 256 / 256 / 256)) (X4 := map8 q4 4 (x / 256 / 256 / 256 / 256)) (X5 := map8 q4 3 (x / 256 / 256 / 256 / 256 / 256)) (X6 := map8 q4 2 (x / 256 / 256 / 256 / 256 / 256 / 256)) rfl rfl rfl rfl rfl rfl rfl
  rw [← e3] at p4
  refine ⟨?_, p1.1, by rw [e2]; omega, by rw [e2]; omega, p4.2.1, p4.2.2.1, p4.2.2.2⟩
  rw [p4.1, hs]
  show _ = q4 _ + (q4 _ + (q4 _ + (q4 _ + (q4 _ + (q4 _ + (q4 _ + (q4 _ + 0)))))))
  simp only [Nat.add_assoc, Nat.add_zero]
