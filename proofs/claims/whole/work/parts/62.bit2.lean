/-! longs as sets of bits -/
abbrev uN (v : Int64) : Nat := v.toBitVec.toNat
theorem uN_lt (v : Int64) : uN v < 2 ^ 64 := v.toBitVec.isLt
theorem uN_and (a b : Int64) : uN (a &&& b) = uN a &&& uN b := by unfold uN; rw [Int64.toBitVec_and, BitVec.toNat_and]
theorem uN_add {a b : Int64} (h : uN a + uN b < 2 ^ 64) : uN (a + b) = uN a + uN b := by unfold uN at *; rw [Int64.toBitVec_add, BitVec.toNat_add, Nat.mod_eq_of_lt h]
theorem uN_sub {a b : Int64} (h : uN b ≤ uN a) : uN (a - b) = uN a - uN b := by
  have := uN_lt a
  unfold uN at *
  rw [Int64.toBitVec_sub, BitVec.toNat_sub]
  omega
theorem uN_shr {a : Int64} {k : UInt64} : uN (a.toUInt64 >>> k).toInt64 = uN a / 2 ^ (k.toNat % 64) := by
  show (a.toUInt64 >>> k).toNat = _
  rw [UInt64.toNat_shiftRight, Nat.shiftRight_eq_div_pow]
  rfl
/-- as the JDK counts bits -/
theorem pop_l {v v1 v2 v3 v4 v5 v6 : Int64} (e1 : v1 = v - ((v.toUInt64 >>> ((Int32.ofInt 1).toInt64.toUInt64 &&& Int64.toUInt64 63)).toInt64 &&& 6148914691236517205))
    (e2 : v2 = (v1 &&& 3689348814741910323) + ((v1.toUInt64 >>> ((Int32.ofInt 2).toInt64.toUInt64 &&& Int64.toUInt64 63)).toInt64 &&& 3689348814741910323))
    (e3 : v3 = (v2 + (v2.toUInt64 >>> ((Int32.ofInt 4).toInt64.toUInt64 &&& Int64.toUInt64 63)).toInt64) &&& 1085102592571150095)
    (e4 : v4 = v3 + (v3.toUInt64 >>> ((Int32.ofInt 8).toInt64.toUInt64 &&& Int64.toUInt64 63)).toInt64)
    (e5 : v5 = v4 + (v4.toUInt64 >>> ((Int32.ofInt 16).toInt64.toUInt64 &&& Int64.toUInt64 63)).toInt64)
    (e6 : v6 = v5 + (v5.toUInt64 >>> ((Int32.ofInt 32).toInt64.toUInt64 &&& Int64.toUInt64 63)).toInt64) : uN v6 % 128 = cntB (uN v) 64 := by
  have s1 : ∀ a : Int64, uN (a.toUInt64 >>> ((Int32.ofInt 1).toInt64.toUInt64 &&& Int64.toUInt64 63)).toInt64 = uN a / 2 := fun a => uN_shr
  have s2 : ∀ a : Int64, uN (a.toUInt64 >>> ((Int32.ofInt 2).toInt64.toUInt64 &&& Int64.toUInt64 63)).toInt64 = uN a / 4 := fun a => uN_shr
  have s4 : ∀ a : Int64, uN (a.toUInt64 >>> ((Int32.ofInt 4).toInt64.toUInt64 &&& Int64.toUInt64 63)).toInt64 = uN a / 16 := fun a => uN_shr
  have s8 : ∀ a : Int64, uN (a.toUInt64 >>> ((Int32.ofInt 8).toInt64.toUInt64 &&& Int64.toUInt64 63)).toInt64 = uN a / 256 := fun a => uN_shr
  have s16 : ∀ a : Int64, uN (a.toUInt64 >>> ((Int32.ofInt 16).toInt64.toUInt64 &&& Int64.toUInt64 63)).toInt64 = uN a / 65536 := fun a => uN_shr
  have s32 : ∀ a : Int64, uN (a.toUInt64 >>> ((Int32.ofInt 32).toInt64.toUInt64 &&& Int64.toUInt64 63)).toInt64 = uN a / 4294967296 := fun a => uN_shr
  have c1 : uN 6148914691236517205 = 6148914691236517205 := rfl
  have c2 : uN 3689348814741910323 = 3689348814741910323 := rfl
  have c3 : uN 1085102592571150095 = 1085102592571150095 := rfl
  obtain ⟨p1, p2, p3, p4, p5, p6, p7⟩ := pop_nat (uN v) (uN_lt v)
  have n1 : uN v1 = pop1 (uN v) := by rw [e1, uN_sub (by rw [uN_and, s1, c1]; exact p2), uN_and, s1, c1]; rfl
  have n2 : uN v2 = pop2 (pop1 (uN v)) := by rw [e2, uN_add (by rw [uN_and, uN_and, s2, c2, n1]; exact p3), uN_and, uN_and, s2, c2, n1]; rfl
  have n3 : uN v3 = pop3 (pop2 (pop1 (uN v))) := by rw [e3, uN_and, uN_add (by rw [s4, n2]; exact p4), s4, c3, n2]; rfl
  have n4 : uN v4 = pop4 (pop3 (pop2 (pop1 (uN v)))) := by rw [e4, uN_add (by rw [s8, n3]; exact p5), s8, n3]; rfl
  have n5 : uN v5 = pop5 (pop4 (pop3 (pop2 (pop1 (uN v))))) := by rw [e5, uN_add (by rw [s16, n4]; exact p6), s16, n4]; rfl
  have n6 : uN v6 = pop6 (pop5 (pop4 (pop3 (pop2 (pop1 (uN v)))))) := by rw [e6, uN_add (by rw [s32, n5]; exact p7), s32, n5]; rfl
  rw [n6, p1]
theorem and127 (w : Int64) : Int32.ofInt w.toInt &&& Int32.ofInt 127 = Int32.ofInt ((uN w % 128 : Nat) : Int) := by
  apply Int32.toBitVec_inj.mp
  rw [Int32.toBitVec_and]
  apply BitVec.eq_of_toNat_eq
  rw [BitVec.toNat_and]
  have h1 : (Int32.ofInt 127).toBitVec.toNat = 2 ^ 7 - 1 := rfl
  rw [h1, Nat.and_two_pow_sub_one_eq_mod]
  have h2 : (Int32.ofInt w.toInt).toBitVec.toNat = (w.toInt % (2 : Int) ^ 32).toNat := by
    show (BitVec.ofInt 32 w.toInt).toNat = _
    rw [BitVec.toNat_ofInt]
    rfl
  have h3 : (Int32.ofInt ((uN w % 128 : Nat) : Int)).toBitVec.toNat = (((uN w % 128 : Nat) : Int) % (2 : Int) ^ 32).toNat := by
    show (BitVec.ofInt 32 _).toNat = _
    rw [BitVec.toNat_ofInt]
    rfl
  rw [h2, h3]
  have h4 : w.toInt = if 2 * uN w < 2 ^ 64 then (uN w : Int) else (uN w : Int) - ((2 ^ 64 : Nat) : Int) := BitVec.toInt_eq_toNat_cond _
  rw [h4]
  generalize uN w = n
  split <;> omega
section GIA
variable {X : gX} {cc : ByteArray} {own : String} {pc q : Nat} {Ls : List (Option Value)} {st : List Value} {T : gT} {I : gI} {J : gJ} {O : gO} {k n : Nat}
theorem G_iand127 {w : Int64} (x : Ok X cc own) (d : Dc cc pc .iand 1 q) (h : G X q Ls (VI ((uN w % 128 : Nat) : Int) :: st) T I J O k n) : G X pc Ls (VI 127 :: VI w.toInt :: st) T I J O k n := by
  obtain ⟨p, l, e, R, s, m, args, below, meth, c, E, Q⟩ := X
  intro H locs ls hW hS hL
  obtain ⟨d, rfl⟩ := d
  have h := h H locs ls hW hS hL
  rw [show VI ((uN w % 128 : Nat) : Int) = .int (Int32.ofInt w.toInt &&& Int32.ofInt 127) from congrArg Value.int (and127 w).symm] at h
  exact lv_iand x.1 x.2.1 d h
end GIA
set_option maxRecDepth 20000 in
theorem ct_J13_bitCount_95d88 {T : gT} {I : gI} {J : gJ} {O : gO} {w : Int64} : Ct yJ13_bitCount_95d88 cJ13_bitCount_95d88 2 (some .int) [Value.long w] 0 0 0 0 T I J O (pv (some (VI (cntB (uN w) 64 : Nat))) T I J O) := by
  refine Ct.ofF (by decide +kernel) [some (Value.long w), none] (gEnL rfl (Nat.le_of_ble_eq_true rfl) rfl) ?_
  intro X x en rm ini hr hz
  have hr0 := hr
  refine G_lload0 x eJ13_bitCount_95d88_0 ?_
  refine G_lload0 x eJ13_bitCount_95d88_1 ?_
  refine G_push x eJ13_bitCount_95d88_2 ?_
  refine G_lushr x eJ13_bitCount_95d88_3 ?_
  refine G_ldc2 x klJ13_314 eJ13_bitCount_95d88_4 ?_
  refine G_land x eJ13_bitCount_95d88_7 ?_
  refine G_lsub x eJ13_bitCount_95d88_8 ?_
  refine G_lstore0 x eJ13_bitCount_95d88_9 ?_
  refine G_lload0 x eJ13_bitCount_95d88_10 ?_
  refine G_ldc2 x klJ13_316 eJ13_bitCount_95d88_11 ?_
  refine G_land x eJ13_bitCount_95d88_14 ?_
  refine G_lload0 x eJ13_bitCount_95d88_15 ?_
  refine G_push x eJ13_bitCount_95d88_16 ?_
  refine G_lushr x eJ13_bitCount_95d88_17 ?_
  refine G_ldc2 x klJ13_316 eJ13_bitCount_95d88_18 ?_
  refine G_land x eJ13_bitCount_95d88_21 ?_
  refine G_ladd x eJ13_bitCount_95d88_22 ?_
  refine G_lstore0 x eJ13_bitCount_95d88_23 ?_
  refine G_lload0 x eJ13_bitCount_95d88_24 ?_
  refine G_lload0 x eJ13_bitCount_95d88_25 ?_
  refine G_push x eJ13_bitCount_95d88_26 ?_
  refine G_lushr x eJ13_bitCount_95d88_27 ?_
  refine G_ladd x eJ13_bitCount_95d88_28 ?_
  refine G_ldc2 x klJ13_318 eJ13_bitCount_95d88_29 ?_
  refine G_land x eJ13_bitCount_95d88_32 ?_
  refine G_lstore0 x eJ13_bitCount_95d88_33 ?_
  refine G_lload0 x eJ13_bitCount_95d88_34 ?_
  refine G_lload0 x eJ13_bitCount_95d88_35 ?_
  refine G_push x eJ13_bitCount_95d88_36 ?_
  refine G_lushr x eJ13_bitCount_95d88_38 ?_
  refine G_ladd x eJ13_bitCount_95d88_39 ?_
  refine G_lstore0 x eJ13_bitCount_95d88_40 ?_
  refine G_lload0 x eJ13_bitCount_95d88_41 ?_
  refine G_lload0 x eJ13_bitCount_95d88_42 ?_
  refine G_push x eJ13_bitCount_95d88_43 ?_
  refine G_lushr x eJ13_bitCount_95d88_45 ?_
  refine G_ladd x eJ13_bitCount_95d88_46 ?_
  refine G_lstore0 x eJ13_bitCount_95d88_47 ?_
  refine G_lload0 x eJ13_bitCount_95d88_48 ?_
  refine G_lload0 x eJ13_bitCount_95d88_49 ?_
  refine G_push x eJ13_bitCount_95d88_50 ?_
  refine G_lushr x eJ13_bitCount_95d88_52 ?_
  refine G_ladd x eJ13_bitCount_95d88_53 ?_
  refine G_lstore0 x eJ13_bitCount_95d88_54 ?_
  refine G_lload0 x eJ13_bitCount_95d88_55 ?_
  refine G_l2i x eJ13_bitCount_95d88_56 ?_
  refine G_push x eJ13_bitCount_95d88_57 ?_
  refine G_iand127 x eJ13_bitCount_95d88_59 ?_
  rw [pop_l rfl rfl rfl rfl rfl rfl]
  refine G_rg (fun hr => ?_)
  refine G_ireturn x en eJ13_bitCount_95d88_60 (by omega) (by omega) ?_
  first | exact pv_i | (refine ⟨?_, rfl, rfl, rfl, rfl⟩; split <;> first | rfl | omega)
/-- a bit of a set -/
def hasB (B : Int → Int64) (s c : Int) : Prop := (B (3 * s + c / 64)).toBitVec.getLsbD (c % 64).toNat = true
def CsIs (B : Int → Int64) (R : Int → Int → Prop) : Prop := ∀ s c, 0 ≤ s → s ≤ 144 → 0 ≤ c → c < 192 → (hasB B s c ↔ R s c)
abbrev msk (k : Int) : Int64 := (1 : Int64) <<< ((Int32.ofInt k).toInt64 &&& 63)
theorem msk_d : ∀ k : Fin 64, ∀ i : Fin 64, ((1 : Int64) <<< ((Int32.ofInt (k.1 : Int)).toInt64 &&& 63)).toBitVec.getLsbD i.1 = decide (i.1 = k.1) := by decide +kernel
theorem msk_b {k : Int} {i : Nat} (h0 : 0 ≤ k) (h1 : k < 64) (hi : i < 64) : (msk k).toBitVec.getLsbD i = decide ((i : Int) = k) := by
  have := msk_d ⟨k.toNat, by omega⟩ ⟨i, hi⟩
  simp only at this
  rw [show ((k.toNat : Nat) : Int) = k by omega] at this
  rw [this]
  congr 1
  exact propext ⟨fun h => by omega, fun h => by omega⟩
theorem l_ne0 {a : Int64} : a ≠ 0 ↔ ∃ i, i < 64 ∧ a.toBitVec.getLsbD i = true := by
  constructor
  · intro h
    by_cases q : ∃ i, i < 64 ∧ a.toBitVec.getLsbD i = true
    · exact q
    · exfalso
      apply h
      apply Int64.toBitVec_inj.mp
      apply BitVec.eq_of_getLsbD_eq
      intro i hi
      have : a.toBitVec.getLsbD i ≠ true := fun z => q ⟨i, hi, z⟩
      rw [Bool.eq_false_iff.mpr this]
      simp
  · rintro ⟨i, hi, h⟩ rfl
    simp at h
theorem cntB_sm (v : Int64) (n : Nat) : ((cntB (uN v) n : Nat) : Int) = sm (fun i => b01 (v.toBitVec.getLsbD i.toNat = true)) n := by
  induction n with
  | zero => rfl
  | succ n ih =>
    show ((cntB (uN v) n + uN v / 2 ^ n % 2 : Nat) : Int) = sm _ n + b01 _
    rw [← ih]
    have : v.toBitVec.getLsbD n = decide (uN v / 2 ^ n % 2 = 1) := by
      show Nat.testBit _ _ = _
      rw [Nat.testBit_eq_decide_div_mod_eq]
    by_cases q : uN v / 2 ^ n % 2 = 1
    · rw [b01_t (by rw [show ((n : Int)).toNat = n by omega, this]; exact decide_eq_true q)]; omega
    · rw [b01_f (by rw [show ((n : Int)).toNat = n by omega, this]; exact fun z => q (of_decide_eq_true z))]; omega
