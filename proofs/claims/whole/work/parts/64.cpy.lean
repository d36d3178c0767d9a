theorem ka_i : Cond.initialized "java/lang/System" ∈ gtb := mt1 (List.mem_of_getElem? (i := 21) (by decide +kernel)) rfl
theorem kaX1_21 : Cond.methodLink RX1 21 arraycopyName ∈ gtb := mt2 (List.mem_of_getElem? (i := 224) (by decide +kernel)) rfl
theorem ka_s : Cond.static arraycopyName ∈ gtb := mt2 (List.mem_of_getElem? (i := 225) (by decide +kernel)) rfl
theorem ka_n : Cond.native arraycopyName ∈ gtb := mt2 (List.mem_of_getElem? (i := 226) (by decide +kernel)) rfl
theorem kaJ7_150 : Cond.methodLink RJ7 150 arraycopyName ∈ gtb := mt4 (List.mem_of_getElem? (i := 169) (by decide +kernel)) rfl
/-- the first of one row laid over those of another -/
def cpZ {α : Type} (J : Nat → Int → α) (s d : Nat) (L : Nat) : Nat → Int → α := fun b j => if b = d ∧ 0 ≤ j ∧ j < L then J s j else J b j
theorem cpZ_a {α : Type} {J : Nat → Int → α} {s d b : Nat} {L : Nat} (h : b ≠ d) (j : Int) : cpZ J s d L b j = J b j := if_neg (fun z => h z.1)
theorem cpZ_i {α : Type} {J : Nat → Int → α} {s d : Nat} {L : Nat} {j : Int} (h : 0 ≤ j) (h2 : j < L) : cpZ J s d L d j = J s j := if_pos ⟨rfl, h, h2⟩
theorem nfw9 : nativeFrameWords "java/lang/System" "arraycopy" 5 = 7 := by decide
theorem nz32 {L : Nat} (h : L ≤ 100000) : ¬ Int32.ofInt (L : Int) < 0 ∧ (Int32.ofInt (L : Int)).toNatClampNeg = L ∧ (Int32.ofInt (L : Int)).toInt = (L : Int) := by
  have e : (Int32.ofInt (L : Int)).toInt = (L : Int) := Int32.toInt_ofInt_of_le (by omega) (by omega)
  refine ⟨fun z => ?_, ?_, e⟩
  · have := Int32.lt_iff_toInt_lt.mp z
    rw [e] at this
    simp at this
    omega
  · show (Int32.ofInt (L : Int)).toInt.toNat = L
    rw [e]; omega
section CPY
variable {X : gX} {cc : ByteArray} {own : String} {pc q : Nat} {Ls : List (Option Value)} {st : List Value} {T : gT} {I : gI} {J : gJ} {O : gO} {k n : Nat}
theorem G_acpI {idx a0 a N0 N1 L fr0 lo0 mc0 ms0 : Nat} {o0 o : Option Nat} (x : Ok X cc own) (d : Dc cc pc (.invokestatic idx) 3 q) (hl : Cond.methodLink own idx arraycopyName ∈ gtb) (rm : gRm X fr0 lo0 mc0 ms0) (ho0 : o0 = some a0) (ho : o = some a) (hT0 : T.2 a0 = some (.inr (0, N0))) (hT : T.2 a = some (.inr (0, N1))) (hne : a0 ≠ a) (h4 : L ≤ N0) (h5 : L ≤ N1) (hL1 : L ≤ 100000) (hst : st = []) (h : G X q Ls [] T (cpZ I a0 a L) J O k n) (hfr : 1 ≤ fr0 := by exact Nat.le_of_ble_eq_true rfl) (hlo : 18 ≤ lo0 := by exact Nat.le_of_ble_eq_true rfl) : G X pc Ls (VI (L : Int) :: VI 0 :: va_rf o :: VI 0 :: va_rf o0 :: st) T I J O k n := by
  obtain ⟨p, l, e, R, s, m, args, below, meth, c, E, Q⟩ := X
  intro H locs ls hW hS hL
  obtain ⟨d, rfl⟩ := d
  subst ho ho0 hst
  have hR : R = { frames := fr0, cells := mc0, slots := ms0, locals := lo0 } := rm
  obtain ⟨z1, z2, z3⟩ := nz32 hL1
  have c0 : (Int32.ofInt 0).toNatClampNeg = 0 := by decide
  have n0 : ¬ Int32.ofInt 0 < 0 := by decide
  have i0 : (Int32.ofInt 0).toInt = 0 := by decide
  intro T1 hT1 X1
  have hc0 := hW.arr hT0
  have hc1 := hW.arr hT
  obtain ⟨-, k0, hk0, cm0, hkk0⟩ := (x.2.2.2.2.1.1.2 0 _ rfl).1 N0 (fun j => .int (Int32.ofInt (I a0 j)))
  obtain ⟨-, k1, hk1, cm1, hkk1⟩ := (x.2.2.2.2.1.1.2 0 _ rfl).1 N1 (fun j => .int (Int32.ofInt (I a j)))
  obtain ⟨vm', X', step⟩ := X1.arraycopy x.1 x.2.2.1 (x.2.2.2.1 _ hl) (x.2.2.2.1 _ ka_n) (x.2.2.2.1 _ ka_s) (x.2.2.2.1 _ ka_i) (src := a0) (dst := a) (cs := (arrV (E.2.1 0) N0 (fun (j : Nat) => Value.int (Int32.ofInt (I a0 (j : Int)))))) (cd := (arrV (E.2.1 0) N1 (fun (j : Nat) => Value.int (Int32.ofInt (I a (j : Int)))))) (srcPos := Int32.ofInt 0) (destPos := Int32.ofInt 0) (n := Int32.ofInt (L : Int)) (by rw [hT1]; exact hc0) (by rw [hT1]; exact hc1)
    (fun _ h => by cases h) (fun _ h => by cases h) (fun h => by cases h) (fun h => by cases h) hk0 hk1 hkk0 hkk1 rfl n0 n0 z1
    (by rw [i0, z3]; show ¬ _ > ((arrV _ _ _).slots.size : Int); rw [arrV_size]; omega)
    (by rw [i0, z3]; show ¬ _ > ((arrV _ _ _).slots.size : Int); rw [arrV_size]; omega)
    (fun vm₁ _ i hi => by
      rw [z2] at hi
      have e9 : (arrV (E.2.1 0) N0 (fun (j : Nat) => Value.int (Int32.ofInt (I a0 (j : Int))))).slots.getD ((Int32.ofInt 0).toNatClampNeg + i) .null = Value.int (Int32.ofInt (I a0 (((Int32.ofInt 0).toNatClampNeg + i : Nat) : Int))) := by
        rw [Array.getD_eq_getD_getElem?, arrV_read _ _ (by rw [c0]; omega)]
        rfl
      exact ⟨(congrArg _ e9).trans rfl, by
        refine (congrArg (fun v => ((T1.setVm vm₁).takes _ v)) e9).mpr trivial⟩)
    (g := F0 m pc ls [VI (L : Int), VI 0, va_rf (some a), VI 0, va_rf (some a0)]) rfl (by have := hL.1; exact this) (rest := []) rfl (by rw [x.2.1]; exact d) (by rw [hR]; exact hfr) (by rw [hR]; show 2 * 0 + (0 + (nativeFrameWords "java/lang/System" "arraycopy" 5 + 11)) ≤ _; rw [nfw9]; omega)
  have e1 : copied (arrV (E.2.1 0) N0 (fun (j : Nat) => Value.int (Int32.ofInt (I a0 (j : Int))))) (arrV (E.2.1 0) N1 (fun (j : Nat) => Value.int (Int32.ofInt (I a (j : Int))))) (Int32.ofInt 0) (Int32.ofInt 0) (Int32.ofInt (L : Int)) = (arrV (E.2.1 0) N1 (fun (j : Nat) => Value.int (Int32.ofInt (cpZ I a0 a L a (j : Int))))) := by
    have e5 := va_copied (n1 := N1) (dp := 0) (sp := 0) (n := L) (n0 := N0) (fun z => Value.int z) (E.2.1 0) (E.2.1 0) (fun (j : Nat) => Int32.ofInt (I a0 (j : Int))) (fun (j : Nat) => Int32.ofInt (I a (j : Int))) (by omega)
    unfold copied
    rw [c0, z2]
    refine e5.trans ?_
    refine congrArg (arrV (E.2.1 0) N1) (funext fun j => ?_)
    show Value.int (va_cpy _ _ 0 0 L j) = Value.int (Int32.ofInt (cpZ I a0 a L a (j : Int)))
    unfold va_cpy cpZ
    by_cases e : j < L
    · rw [if_pos ⟨by omega, by omega⟩, if_pos ⟨rfl, by omega, by omega⟩, show 0 + (j - 0) = j by omega]
    · rw [if_neg (by omega), if_neg (by omega)]
  rw [e1] at X' step
  have hl : a < H.size := (Array.getElem?_eq_some_iff.mp hc1).1
  have hheap : ((T1.setVm vm').setCell a (arrV (E.2.1 0) N1 (fun (j : Nat) => Value.int (Int32.ofInt (cpZ I a0 a L a (j : Int)))))).heap = H.setIfInBounds a (arrV (E.2.1 0) N1 (fun (j : Nat) => Value.int (Int32.ofInt (cpZ I a0 a L a (j : Int))))) := by rw [← hT1]; rfl
  have oq : ∀ q : Nat, q ≠ a → (H.setIfInBounds a (arrV (E.2.1 0) N1 (fun (j : Nat) => Value.int (Int32.ofInt (cpZ I a0 a L a (j : Int))))))[q]? = H[q]? := fun q hq => by simp [Array.getElem?_setIfInBounds, Ne.symm hq]
  have sz : (H.setIfInBounds a (arrV (E.2.1 0) N1 (fun (j : Nat) => Value.int (Int32.ofInt (cpZ I a0 a L a (j : Int)))))).size = H.size := by simp
  obtain ⟨t, a1, b1⟩ := h _ _ ls (hW.put hT sz oq (by show (H.setIfInBounds a _)[a]? = some _; simp [Array.getElem?_setIfInBounds, hl]; rfl) (fun b hb j => cpZ_a hb j) (fun _ _ _ => rfl) (fun _ _ _ => rfl) (fun b j => by unfold cpZ; split <;> exact hW.2.2.1 _ _)) (show va_S _ _ _ _ from ⟨by rw [sz]; exact hS.1, fun q g1 g2 => by
      rw [oq q (fun e => g2 (by rw [e]; exact hW.le hT))]
      exact hS.2.1 q g1 g2, fun q hq => by
      rcases List.mem_append.mp hq with h | h
      · exact hS.2.2 q h
      · obtain ⟨z, -, hz⟩ := List.mem_map.mp h
        rw [← hz]
        exact hW.le hT⟩) hL _ hheap X'
  exact ⟨t, step t a1, b1⟩
theorem G_acpL {idx a0 a N0 N1 L fr0 lo0 mc0 ms0 : Nat} {o0 o : Option Nat} (x : Ok X cc own) (d : Dc cc pc (.invokestatic idx) 3 q) (hl : Cond.methodLink own idx arraycopyName ∈ gtb) (rm : gRm X fr0 lo0 mc0 ms0) (ho0 : o0 = some a0) (ho : o = some a) (hT0 : T.2 a0 = some (.inr (3, N0))) (hT : T.2 a = some (.inr (3, N1))) (hne : a0 ≠ a) (h4 : L ≤ N0) (h5 : L ≤ N1) (hL1 : L ≤ 100000) (hst : st = []) (h : G X q Ls [] T I (cpZ J a0 a L) O k n) (hfr : 1 ≤ fr0 := by exact Nat.le_of_ble_eq_true rfl) (hlo : 18 ≤ lo0 := by exact Nat.le_of_ble_eq_true rfl) : G X pc Ls (VI (L : Int) :: VI 0 :: va_rf o :: VI 0 :: va_rf o0 :: st) T I J O k n := by
  obtain ⟨p, l, e, R, s, m, args, below, meth, c, E, Q⟩ := X
  intro H locs ls hW hS hL
  obtain ⟨d, rfl⟩ := d
  subst ho ho0 hst
  have hR : R = { frames := fr0, cells := mc0, slots := ms0, locals := lo0 } := rm
  obtain ⟨z1, z2, z3⟩ := nz32 hL1
  have c0 : (Int32.ofInt 0).toNatClampNeg = 0 := by decide
  have n0 : ¬ Int32.ofInt 0 < 0 := by decide
  have i0 : (Int32.ofInt 0).toInt = 0 := by decide
  intro T1 hT1 X1
  have hc0 := hW.arr hT0
  have hc1 := hW.arr hT
  obtain ⟨-, k0, hk0, cm0, hkk0⟩ := (x.2.2.2.2.1.1.2 3 _ rfl).1 N0 (fun j => .long (J a0 j))
  obtain ⟨-, k1, hk1, cm1, hkk1⟩ := (x.2.2.2.2.1.1.2 3 _ rfl).1 N1 (fun j => .long (J a j))
  obtain ⟨vm', X', step⟩ := X1.arraycopy x.1 x.2.2.1 (x.2.2.2.1 _ hl) (x.2.2.2.1 _ ka_n) (x.2.2.2.1 _ ka_s) (x.2.2.2.1 _ ka_i) (src := a0) (dst := a) (cs := (arrV (E.2.1 3) N0 (fun (j : Nat) => Value.long (J a0 (j : Int))))) (cd := (arrV (E.2.1 3) N1 (fun (j : Nat) => Value.long (J a (j : Int))))) (srcPos := Int32.ofInt 0) (destPos := Int32.ofInt 0) (n := Int32.ofInt (L : Int)) (by rw [hT1]; exact hc0) (by rw [hT1]; exact hc1)
    (fun _ h => by cases h) (fun _ h => by cases h) (fun h => by cases h) (fun h => by cases h) hk0 hk1 hkk0 hkk1 rfl n0 n0 z1
    (by rw [i0, z3]; show ¬ _ > ((arrV _ _ _).slots.size : Int); rw [arrV_size]; omega)
    (by rw [i0, z3]; show ¬ _ > ((arrV _ _ _).slots.size : Int); rw [arrV_size]; omega)
    (fun vm₁ _ i hi => by
      rw [z2] at hi
      have e9 : (arrV (E.2.1 3) N0 (fun (j : Nat) => Value.long (J a0 (j : Int)))).slots.getD ((Int32.ofInt 0).toNatClampNeg + i) .null = Value.long (J a0 (((Int32.ofInt 0).toNatClampNeg + i : Nat) : Int)) := by
        rw [Array.getD_eq_getD_getElem?, arrV_read _ _ (by rw [c0]; omega)]
        rfl
      exact ⟨(congrArg _ e9).trans rfl, by
        refine (congrArg (fun v => ((T1.setVm vm₁).takes _ v)) e9).mpr trivial⟩)
    (g := F0 m pc ls [VI (L : Int), VI 0, va_rf (some a), VI 0, va_rf (some a0)]) rfl (by have := hL.1; exact this) (rest := []) rfl (by rw [x.2.1]; exact d) (by rw [hR]; exact hfr) (by rw [hR]; show 2 * 0 + (0 + (nativeFrameWords "java/lang/System" "arraycopy" 5 + 11)) ≤ _; rw [nfw9]; omega)
  have e1 : copied (arrV (E.2.1 3) N0 (fun (j : Nat) => Value.long (J a0 (j : Int)))) (arrV (E.2.1 3) N1 (fun (j : Nat) => Value.long (J a (j : Int)))) (Int32.ofInt 0) (Int32.ofInt 0) (Int32.ofInt (L : Int)) = (arrV (E.2.1 3) N1 (fun (j : Nat) => Value.long (cpZ J a0 a L a (j : Int)))) := by
    have e5 := va_copied (n1 := N1) (dp := 0) (sp := 0) (n := L) (n0 := N0) (fun z => Value.long z) (E.2.1 3) (E.2.1 3) (fun (j : Nat) => J a0 (j : Int)) (fun (j : Nat) => J a (j : Int)) (by omega)
    unfold copied
    rw [c0, z2]
    refine e5.trans ?_
    refine congrArg (arrV (E.2.1 3) N1) (funext fun j => ?_)
    show Value.long (va_cpy _ _ 0 0 L j) = Value.long (cpZ J a0 a L a (j : Int))
    unfold va_cpy cpZ
    by_cases e : j < L
    · rw [if_pos ⟨by omega, by omega⟩, if_pos ⟨rfl, by omega, by omega⟩, show 0 + (j - 0) = j by omega]
    · rw [if_neg (by omega), if_neg (by omega)]
  rw [e1] at X' step
  have hl : a < H.size := (Array.getElem?_eq_some_iff.mp hc1).1
  have hheap : ((T1.setVm vm').setCell a (arrV (E.2.1 3) N1 (fun (j : Nat) => Value.long (cpZ J a0 a L a (j : Int))))).heap = H.setIfInBounds a (arrV (E.2.1 3) N1 (fun (j : Nat) => Value.long (cpZ J a0 a L a (j : Int)))) := by rw [← hT1]; rfl
  have oq : ∀ q : Nat, q ≠ a → (H.setIfInBounds a (arrV (E.2.1 3) N1 (fun (j : Nat) => Value.long (cpZ J a0 a L a (j : Int)))))[q]? = H[q]? := fun q hq => by simp [Array.getElem?_setIfInBounds, Ne.symm hq]
  have sz : (H.setIfInBounds a (arrV (E.2.1 3) N1 (fun (j : Nat) => Value.long (cpZ J a0 a L a (j : Int))))).size = H.size := by simp
  obtain ⟨t, a1, b1⟩ := h _ _ ls (hW.put hT sz oq (by show (H.setIfInBounds a _)[a]? = some _; simp [Array.getElem?_setIfInBounds, hl]; rfl) (fun _ _ _ => rfl) (fun b hb j => cpZ_a hb j) (fun _ _ _ => rfl) hW.2.2.1) (show va_S _ _ _ _ from ⟨by rw [sz]; exact hS.1, fun q g1 g2 => by
      rw [oq q (fun e => g2 (by rw [e]; exact hW.le hT))]
      exact hS.2.1 q g1 g2, fun q hq => by
      rcases List.mem_append.mp hq with h | h
      · exact hS.2.2 q h
      · obtain ⟨z, -, hz⟩ := List.mem_map.mp h
        rw [← hz]
        exact hW.le hT⟩) hL _ hheap X'
  exact ⟨t, step t a1, b1⟩
end CPY
