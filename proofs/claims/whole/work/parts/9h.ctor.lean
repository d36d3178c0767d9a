/-! constructors -/
section G9H
variable {X : gX} {cc : ByteArray} {own : String} {pc q : Nat} {Ls : List (Option Value)} {st : List Value} {T : gT} {I : gI} {J : gJ} {O : gO} {k n : Nat}
theorem G_anX8 {idx N fr0 lo0 mc0 ms0 : Nat} {z : Int} (x : Ok X cc own) (d : Dc cc pc (.anewarray idx) 3 q) (hl : Cond.classLink own idx (gRn 8) ∈ gtb) (hz : z = (N : Int)) (hN : N ≤ 100000) (rm : gRm X fr0 lo0 mc0 ms0) (hmc : k + 1 ≤ mc0) (hms : n + N ≤ ms0) (h : (∀ j, I T.1 j = 0) → (∀ j, J T.1 j = 0) → (∀ j, O T.1 j = none) → G X q Ls (va_rf (some T.1) :: st) (gpush T (.inr (4, N))) I J O (k + 1) (n + N)) : G X pc Ls (VI z :: st) T I J O k n := G_anew (t := 0) x d hl (fun p l e R s m args below meth c E Q hX => by subst hX; exact x.2.2.2.2.1.2.2.1.1) (fun _ => rfl) hz hN rm hmc hms h
theorem G_anX5 {idx N fr0 lo0 mc0 ms0 : Nat} {z : Int} (x : Ok X cc own) (d : Dc cc pc (.anewarray idx) 3 q) (hl : Cond.classLink own idx (gRn 5) ∈ gtb) (hz : z = (N : Int)) (hN : N ≤ 100000) (rm : gRm X fr0 lo0 mc0 ms0) (hmc : k + 1 ≤ mc0) (hms : n + N ≤ ms0) (h : (∀ j, I T.1 j = 0) → (∀ j, J T.1 j = 0) → (∀ j, O T.1 j = none) → G X q Ls (va_rf (some T.1) :: st) (gpush T (.inr (5, N))) I J O (k + 1) (n + N)) : G X pc Ls (VI z :: st) T I J O k n := G_anew (t := 1) x d hl (fun p l e R s m args below meth c E Q hX => by subst hX; exact x.2.2.2.2.1.2.2.1.2.2) (fun _ => rfl) hz hN rm hmc hms h
theorem G_anX3 {idx N fr0 lo0 mc0 ms0 : Nat} {z : Int} (x : Ok X cc own) (d : Dc cc pc (.anewarray idx) 3 q) (hl : Cond.classLink own idx (gRn 3) ∈ gtb) (hz : z = (N : Int)) (hN : N ≤ 100000) (rm : gRm X fr0 lo0 mc0 ms0) (hmc : k + 1 ≤ mc0) (hms : n + N ≤ ms0) (h : (∀ j, I T.1 j = 0) → (∀ j, J T.1 j = 0) → (∀ j, O T.1 j = none) → G X q Ls (va_rf (some T.1) :: st) (gpush T (.inr (6, N))) I J O (k + 1) (n + N)) : G X pc Ls (VI z :: st) T I J O k n := G_anew (t := 2) x d hl (fun p l e R s m args below meth c E Q hX => by subst hX; exact x.2.2.2.2.1.2.2.1.2.1) (fun _ => rfl) hz hN rm hmc hms h
end G9H
/-- a new object with what is in it: n cells behind it -/
def nwP (At : gT → gO → Nat → Prop) (len : Nat) (T : gT) (I : gI) (J : gJ) (O : gO) (a : Nat) : gP := fun v T' I' J' O' => v = none ∧ T'.1 = a + len ∧ (∀ b, b ≤ a → T'.2 b = T.2 b) ∧ At T' O' a ∧ I' = I ∧ J' = J ∧ ∀ b j, (b < a ∨ a + len ≤ b) → O' b j = O b j
set_option maxRecDepth 20000 in
theorem ct_X1_init {T : gT} {I : gI} {J : gJ} {O : gO} {a : Nat} (hm : T.2 a = some (.inl 1)) (hT1 : T.1 = a + 1) : Ct yX1_init cX1_init 1 none [va_rf (some a)] 1 20 1 435 T I J O (nwP CsAt 2 T I J O a) := by
  refine Ct.of (by decide) [some (va_rf (some a))] (gEn1 (List.forall_mem_cons.mpr ⟨cat_VR _, fun _ h => nomatch h⟩) rfl (Nat.le_of_ble_eq_true rfl) rfl) ?_
  intro X x en rm ini hr hz
  have hr0 := hr
  refine G_rg (fun hr => ?_)
  refine G_aload0 x eX1_init_0 ?_
  refine G_oi x eX1_init_1 olX1 rm ?_
  refine G_aload0 x eX1_init_4 ?_
  refine G_push x eX1_init_5 ?_
  refine G_na_long (N := 435) x eX1_init_8 rfl (by omega) rm (by omega) (by omega) (fun i8 j8 o8 => ?_)
  refine G_putr x eX1_init_10 fX1_11 rfl (fun v => by cases v <;> exact ⟨rfl, rfl⟩) (Or.inr ⟨rfl, ini rfl, rfl⟩) rfl (by repeat' (first | exact hm | assumption | refine gpush_o ?_ (by first | (simp only [gpush]; omega) | omega))) ?_
  refine G_return x en eX1_init_13 (by omega) (by omega) ?_
  exact ⟨rfl, by simp only [gpush]; omega, fun b hb => gpush_k (by omega), ⟨gpush_o hm (by omega), by rw [uO_s, hT1], gpush_at (by omega)⟩, rfl, rfl, fun b j hb => uO_a (by omega) j⟩
set_option maxRecDepth 20000 in
theorem ct_X7_init {T : gT} {I : gI} {J : gJ} {O : gO} {a : Nat} (hm : T.2 a = some (.inl 7)) (hT1 : T.1 = a + 1) : Ct yX7_init cX7_init 1 none [va_rf (some a)] 1 20 1 36 T I J O (nwP RcAt 2 T I J O a) := by
  refine Ct.of (by decide) [some (va_rf (some a))] (gEn1 (List.forall_mem_cons.mpr ⟨cat_VR _, fun _ h => nomatch h⟩) rfl (Nat.le_of_ble_eq_true rfl) rfl) ?_
  intro X x en rm ini hr hz
  have hr0 := hr
  refine G_rg (fun hr => ?_)
  refine G_aload0 x eX7_init_0 ?_
  refine G_oi x eX7_init_1 olX7 rm ?_
  refine G_aload0 x eX7_init_4 ?_
  refine G_push x eX7_init_5 ?_
  refine G_na_int (N := 36) x eX7_init_7 rfl (by omega) rm (by omega) (by omega) (fun i7 j7 o7 => ?_)
  refine G_putr x eX7_init_9 fX7_11 rfl (fun v => by cases v <;> exact ⟨rfl, rfl⟩) (Or.inr ⟨rfl, ini rfl, rfl⟩) rfl (by repeat' (first | exact hm | assumption | refine gpush_o ?_ (by first | (simp only [gpush]; omega) | omega))) ?_
  refine G_return x en eX7_init_12 (by omega) (by omega) ?_
  exact ⟨rfl, by simp only [gpush]; omega, fun b hb => gpush_k (by omega), ⟨gpush_o hm (by omega), by rw [uO_s, hT1], gpush_at (by omega)⟩, rfl, rfl, fun b j hb => uO_a (by omega) j⟩
set_option maxRecDepth 20000 in
theorem ct_X9_init {T : gT} {I : gI} {J : gJ} {O : gO} {a : Nat} (hm : T.2 a = some (.inl 9)) (hT1 : T.1 = a + 1) : Ct yX9_init cX9_init 1 none [va_rf (some a)] 1 20 1 24 T I J O (nwP TxAt 2 T I J O a) := by
  refine Ct.of (by decide) [some (va_rf (some a))] (gEn1 (List.forall_mem_cons.mpr ⟨cat_VR _, fun _ h => nomatch h⟩) rfl (Nat.le_of_ble_eq_true rfl) rfl) ?_
  intro X x en rm ini hr hz
  have hr0 := hr
  refine G_rg (fun hr => ?_)
  refine G_aload0 x eX9_init_0 ?_
  refine G_oi x eX9_init_1 olX9 rm ?_
  refine G_aload0 x eX9_init_4 ?_
  refine G_push x eX9_init_5 ?_
  refine G_na_char (N := 24) x eX9_init_7 rfl (by omega) rm (by omega) (by omega) (fun i7 j7 o7 => ?_)
  refine G_putr x eX9_init_9 fX9_9 rfl (fun v => by cases v <;> exact ⟨rfl, rfl⟩) (Or.inr ⟨rfl, ini rfl, rfl⟩) rfl (by repeat' (first | exact hm | assumption | refine gpush_o ?_ (by first | (simp only [gpush]; omega) | omega))) ?_
  refine G_return x en eX9_init_12 (by omega) (by omega) ?_
  exact ⟨rfl, by simp only [gpush]; omega, fun b hb => gpush_k (by omega), ⟨gpush_o hm (by omega), by rw [uO_s, hT1], gpush_at (by omega)⟩, rfl, rfl, fun b j hb => uO_a (by omega) j⟩
set_option maxRecDepth 20000 in
theorem ct_X6_init {T : gT} {I : gI} {J : gJ} {O : gO} {a : Nat} (hm : T.2 a = some (.inl 6)) (hT1 : T.1 = a + 1) : Ct yX6_init cX6_init 1 none [va_rf (some a)] 1 20 1 52 T I J O (nwP RdAt 2 T I J O a) := by
  refine Ct.of (by decide) [some (va_rf (some a))] (gEn1 (List.forall_mem_cons.mpr ⟨cat_VR _, fun _ h => nomatch h⟩) rfl (Nat.le_of_ble_eq_true rfl) rfl) ?_
  intro X x en rm ini hr hz
  have hr0 := hr
  refine G_rg (fun hr => ?_)
  refine G_aload0 x eX6_init_0 ?_
  refine G_oi x eX6_init_1 olX6 rm ?_
  refine G_aload0 x eX6_init_4 ?_
  refine G_push x eX6_init_5 ?_
  refine G_na_int (N := 52) x eX6_init_7 rfl (by omega) rm (by omega) (by omega) (fun i7 j7 o7 => ?_)
  refine G_putr x eX6_init_9 fX6_13 rfl (fun v => by cases v <;> exact ⟨rfl, rfl⟩) (Or.inr ⟨rfl, ini rfl, rfl⟩) rfl (by repeat' (first | exact hm | assumption | refine gpush_o ?_ (by first | (simp only [gpush]; omega) | omega))) ?_
  refine G_return x en eX6_init_12 (by omega) (by omega) ?_
  exact ⟨rfl, by simp only [gpush]; omega, fun b hb => gpush_k (by omega), ⟨gpush_o hm (by omega), by rw [uO_s, hT1], gpush_at (by omega)⟩, rfl, rfl, fun b j hb => uO_a (by omega) j⟩
def nwL (T : gT) (I : gI) (J : gJ) (O : gO) (a : Nat) : gP := fun v T' I' J' O' => v = none ∧ T'.1 = a + 7 ∧ (∀ b, b ≤ a → T'.2 b = T.2 b) ∧ LnAt T' O' a ∧ J' = J ∧ (∀ b j, b ≠ a → O' b j = O b j) ∧ (∀ b j, (b < a ∨ a + 6 < b) → I' b j = I b j) ∧ LnOk I' a ∧ lnZ I' a 12
set_option maxRecDepth 20000 in
theorem ct_X4_init {T : gT} {I : gI} {J : gJ} {O : gO} {a : Nat} (hm : T.2 a = some (.inl 4)) (hT1 : T.1 = a + 1) : Ct yX4_init cX4_init 1 none [va_rf (some a)] 3 67 6 72 T I J O (nwL T I J O a) := by
  refine Ct.of (by decide) [some (va_rf (some a))] (gEn1 (List.forall_mem_cons.mpr ⟨cat_VR _, fun _ h => nomatch h⟩) rfl (Nat.le_of_ble_eq_true rfl) rfl) ?_
  intro X x en rm ini hr hz
  have hr0 := hr
  refine G_aload0 x eX4_init_0 ?_
  refine G_oi x eX4_init_1 olX4 rm ?_
  refine G_aload0 x eX4_init_4 ?_
  refine G_push x eX4_init_5 ?_
  refine G_na_int (N := 12) x eX4_init_7 rfl (by omega) rm (by omega) (by omega) (fun i7 j7 o7 => ?_)
  refine G_putr x eX4_init_9 fX4_9 rfl (fun v => by cases v <;> exact ⟨rfl, rfl⟩) (Or.inr ⟨rfl, ini rfl, rfl⟩) rfl (by repeat' (first | exact hm | assumption | refine gpush_o ?_ (by first | (simp only [gpush]; omega) | omega))) ?_
  refine G_aload0 x eX4_init_12 ?_
  refine G_push x eX4_init_13 ?_
  refine G_na_int (N := 12) x eX4_init_15 rfl (by omega) rm (by omega) (by omega) (fun i15 j15 o15 => ?_)
  refine G_putr x eX4_init_17 fX4_15 rfl (fun v => by cases v <;> exact ⟨rfl, rfl⟩) (Or.inr ⟨rfl, ini rfl, rfl⟩) rfl (by repeat' (first | exact hm | assumption | refine gpush_o ?_ (by first | (simp only [gpush]; omega) | omega))) ?_
  refine G_aload0 x eX4_init_20 ?_
  refine G_push x eX4_init_21 ?_
  refine G_na_int (N := 12) x eX4_init_23 rfl (by omega) rm (by omega) (by omega) (fun i23 j23 o23 => ?_)
  refine G_putr x eX4_init_25 fX4_18 rfl (fun v => by cases v <;> exact ⟨rfl, rfl⟩) (Or.inr ⟨rfl, ini rfl, rfl⟩) rfl (by repeat' (first | exact hm | assumption | refine gpush_o ?_ (by first | (simp only [gpush]; omega) | omega))) ?_
  refine G_aload0 x eX4_init_28 ?_
  refine G_push x eX4_init_29 ?_
  refine G_na_boolean (N := 12) x eX4_init_31 rfl (by omega) rm (by omega) (by omega) (fun i31 j31 o31 => ?_)
  refine G_putr x eX4_init_33 fX4_21 rfl (fun v => by cases v <;> exact ⟨rfl, rfl⟩) (Or.inr ⟨rfl, ini rfl, rfl⟩) rfl (by repeat' (first | exact hm | assumption | refine gpush_o ?_ (by first | (simp only [gpush]; omega) | omega))) ?_
  refine G_aload0 x eX4_init_36 ?_
  refine G_push x eX4_init_37 ?_
  refine G_na_boolean (N := 12) x eX4_init_39 rfl (by omega) rm (by omega) (by omega) (fun i39 j39 o39 => ?_)
  refine G_putr x eX4_init_41 fX4_25 rfl (fun v => by cases v <;> exact ⟨rfl, rfl⟩) (Or.inr ⟨rfl, ini rfl, rfl⟩) rfl (by repeat' (first | exact hm | assumption | refine gpush_o ?_ (by first | (simp only [gpush]; omega) | omega))) ?_
  refine G_aload0 x eX4_init_44 ?_
  refine G_push x eX4_init_45 ?_
  refine G_na_int (N := 12) x eX4_init_47 rfl (by omega) rm (by omega) (by omega) (fun i47 j47 o47 => ?_)
  refine G_putr x eX4_init_49 fX4_28 rfl (fun v => by cases v <;> exact ⟨rfl, rfl⟩) (Or.inr ⟨rfl, ini rfl, rfl⟩) rfl (by repeat' (first | exact hm | assumption | refine gpush_o ?_ (by first | (simp only [gpush]; omega) | omega))) ?_
  obtain ⟨T9, hT9⟩ : ∃ T9, T9 = gpush (gpush (gpush (gpush (gpush (gpush T (.inr (0, 12))) (.inr (0, 12))) (.inr (0, 12))) (.inr (1, 12))) (.inr (1, 12))) (.inr (0, 12)) := ⟨_, rfl⟩
  have t1 : T9.1 = a + 7 := by rw [hT9]; simp only [gpush]; omega
  have t2 : ∀ b, b ≤ a → T9.2 b = T.2 b := fun b hb => by
    rw [hT9]
    repeat (rw [gpush_k (by first | (simp only [gpush]; omega) | omega)])
  have tk : T9.2 (a + 1) = some (.inr (0, 12)) ∧ T9.2 (a + 2) = some (.inr (0, 12)) ∧ T9.2 (a + 3) = some (.inr (0, 12)) ∧ T9.2 (a + 4) = some (.inr (1, 12)) ∧ T9.2 (a + 5) = some (.inr (1, 12)) ∧ T9.2 (a + 6) = some (.inr (0, 12)) := by
    rw [hT9]
    refine ⟨?_, ?_, ?_, ?_, ?_, ?_⟩ <;> (repeat' (first | exact gpush_at (by first | (simp only [gpush]; omega) | omega) | refine gpush_o ?_ (by first | (simp only [gpush]; omega) | omega)))
  rw [← hT9]
  obtain ⟨O9, hO9⟩ : ∃ O9, O9 = uO (uO (uO (uO (uO (uO O a 0 (some (a + 1))) a 1 (some (a + 2))) a 2 (some (a + 3))) a 3 (some (a + 4))) a 4 (some (a + 5))) a 5 (some (a + 6)) := ⟨_, rfl⟩
  have hM : LnAt T9 O9 a := by
    rw [hO9]
    refine ⟨(t2 a (by omega)).trans hm, ?_, tk.1, ?_, tk.2.1, ?_, tk.2.2.1, ?_, tk.2.2.2.1, ?_, tk.2.2.2.2.1, ?_, tk.2.2.2.2.2⟩ <;> (repeat (first | rw [uO_s] | rw [uO_k (by decide)]))
  have oE : ∀ b j, b ≠ a → O9 b j = O b j := fun b j hb => by
    rw [hO9]
    repeat (rw [uO_a hb])
  simp only [gpush]
  rw [hT1]
  rw [← hO9]
  refine G_aload0 x eX4_init_52 ?_
  refine G_cVg x eX4_init_53 kX4_31 im_yX4_reset se_yX4_reset rm hM.m (ct_X4_reset hM) rfl (fun v53 T53 I53 J53 O53 p53 => ?_)
  refine G_rg (fun hr => ?_)
  obtain ⟨rfl, rfl, rfl, rfl, r5, r6, r7⟩ := p53
  refine G_rg (fun hr => ?_)
  refine G_return x en eX4_init_56 (by omega) (by omega) ?_
  exact ⟨rfl, t1, t2, hM, rfl, oE, fun b j hb => r5 b hb j, r6, r7⟩
set_option maxRecDepth 20000 in
theorem ct_X0_init {T : gT} {I : gI} {J : gJ} {O : gO} {a : Nat} (hm : T.2 a = some (.inl 0)) (hT1 : T.1 = a + 1) : Ct yX0_init cX0_init 1 none [va_rf (some a)] 2 40 9 1592 T I J O (nwP CaAt 10 T I J O a) := by
  refine Ct.of (by decide) [some (va_rf (some a))] (gEn1 (List.forall_mem_cons.mpr ⟨cat_VR _, fun _ h => nomatch h⟩) rfl (Nat.le_of_ble_eq_true rfl) rfl) ?_
  intro X x en rm ini hr hz
  have hr0 := hr
  have hg1 : gN 1 = 1 := rfl
  refine G_aload0 x eX0_init_0 ?_
  refine G_oi x eX0_init_1 olX0 rm ?_
  refine G_aload0 x eX0_init_4 ?_
  refine G_push x eX0_init_5 ?_
  refine G_na_int (N := 144) x eX0_init_8 rfl (by omega) rm (by omega) (by omega) (fun i8 j8 o8 => ?_)
  refine G_putr x eX0_init_10 fX0_9 rfl (fun v => by cases v <;> exact ⟨rfl, rfl⟩) (Or.inr ⟨rfl, ini rfl, rfl⟩) rfl (by repeat' (first | exact hm | assumption | refine gpush_o ?_ (by first | (simp only [gpush]; omega) | omega))) ?_
  refine G_aload0 x eX0_init_13 ?_
  refine G_push x eX0_init_14 ?_
  refine G_na_int (N := 144) x eX0_init_17 rfl (by omega) rm (by omega) (by omega) (fun i17 j17 o17 => ?_)
  refine G_putr x eX0_init_19 fX0_15 rfl (fun v => by cases v <;> exact ⟨rfl, rfl⟩) (Or.inr ⟨rfl, ini rfl, rfl⟩) rfl (by repeat' (first | exact hm | assumption | refine gpush_o ?_ (by first | (simp only [gpush]; omega) | omega))) ?_
  refine G_aload0 x eX0_init_22 ?_
  refine G_push x eX0_init_23 ?_
  refine G_na_int (N := 144) x eX0_init_26 rfl (by omega) rm (by omega) (by omega) (fun i26 j26 o26 => ?_)
  refine G_putr x eX0_init_28 fX0_18 rfl (fun v => by cases v <;> exact ⟨rfl, rfl⟩) (Or.inr ⟨rfl, ini rfl, rfl⟩) rfl (by repeat' (first | exact hm | assumption | refine gpush_o ?_ (by first | (simp only [gpush]; omega) | omega))) ?_
  refine G_aload0 x eX0_init_31 ?_
  refine G_push x eX0_init_32 ?_
  refine G_anX3 (N := 144) x eX0_init_35 clX0_21 rfl (by omega) rm (by omega) (by omega) (fun i35 j35 o35 => ?_)
  refine G_putr x eX0_init_38 fX0_23 rfl (fun v => by cases v <;> exact ⟨rfl, rfl⟩) (Or.inr ⟨rfl, ini rfl, rfl⟩) rfl (by repeat' (first | exact hm | assumption | refine gpush_o ?_ (by first | (simp only [gpush]; omega) | omega))) ?_
  refine G_aload0 x eX0_init_41 ?_
  refine G_push x eX0_init_42 ?_
  refine G_na_int (N := 144) x eX0_init_45 rfl (by omega) rm (by omega) (by omega) (fun i45 j45 o45 => ?_)
  refine G_putr x eX0_init_47 fX0_27 rfl (fun v => by cases v <;> exact ⟨rfl, rfl⟩) (Or.inr ⟨rfl, ini rfl, rfl⟩) rfl (by repeat' (first | exact hm | assumption | refine gpush_o ?_ (by first | (simp only [gpush]; omega) | omega))) ?_
  refine G_aload0 x eX0_init_50 ?_
  obtain ⟨T5, hT5⟩ : ∃ T5, T5 = gpush (gpush (gpush (gpush (gpush T (.inr (0, 144))) (.inr (0, 144))) (.inr (0, 144))) (.inr (6, 144))) (.inr (0, 144)) := ⟨_, rfl⟩
  have t1 : T5.1 = a + 6 := by rw [hT5]; simp only [gpush]; omega
  have t2 : ∀ b, b ≤ a → T5.2 b = T.2 b := fun b hb => by
    rw [hT5]
    repeat (rw [gpush_k (by first | (simp only [gpush]; omega) | omega)])
  have tk : T5.2 (a + 1) = some (.inr (0, 144)) ∧ T5.2 (a + 2) = some (.inr (0, 144)) ∧ T5.2 (a + 3) = some (.inr (0, 144)) ∧ T5.2 (a + 4) = some (.inr (6, 144)) ∧ T5.2 (a + 5) = some (.inr (0, 144)) := by
    rw [hT5]
    refine ⟨?_, ?_, ?_, ?_, ?_⟩ <;> (repeat' (first | exact gpush_at (by first | (simp only [gpush]; omega) | omega) | refine gpush_o ?_ (by first | (simp only [gpush]; omega) | omega)))
  rw [← hT5]
  simp only [gpush]
  rw [hT1]
  obtain ⟨O5, hO5⟩ : ∃ O5, O5 = uO (uO (uO (uO (uO O a 0 (some (a + 1))) a 1 (some (a + 2))) a 2 (some (a + 3))) a 3 (some (a + 4))) a 5 (some (a + 5)) := ⟨_, rfl⟩
  have ok : O5 a 0 = some (a + 1) ∧ O5 a 1 = some (a + 2) ∧ O5 a 2 = some (a + 3) ∧ O5 a 3 = some (a + 4) ∧ O5 a 5 = some (a + 5) := by
    rw [hO5]
    refine ⟨?_, ?_, ?_, ?_, ?_⟩ <;> (repeat (first | rw [uO_s] | rw [uO_k (by decide)]))
  have oE : ∀ b j, b ≠ a → O5 b j = O b j := fun b j hb => by
    rw [hO5]
    repeat (rw [uO_a hb])
  rw [← hO5]
  have m5 := (t2 a (by omega)).trans hm
  refine G_nw x eX0_init_51 clX0_30 itX1 ini_X1 rfl rm (by omega) (by show _ + gN 1 ≤ _; simp only [gN]; omega) (fun i51 j51 o51 => ?_) (hdf_X1)
  refine G_dup x eX0_init_54 (by first | rfl | exact cat_rf _) ?_
  rw [t1]
  refine G_cIN x eX0_init_55 knX0_32 im_yX1_init rm (ct_X1_init (a := a + 6) (gpush_at t1.symm) (by show T5.1 + 1 = a + 6 + 1; omega)) rfl (fun v55 T55 I55 J55 O55 p55 => ?_)
  refine G_rg (fun hr => ?_)
  obtain ⟨rfl, u1, u2, u3, u4, u5, u6⟩ := p55
  obtain rfl := u4.symm
  obtain rfl := u5.symm
  have m6 : T55.2 a = some (.inl 0) := by rw [u2 a (by omega), gpush_k (by omega)]; exact m5
  refine G_putr x eX0_init_58 fX0_33 rfl (fun v => by cases v <;> exact ⟨rfl, rfl⟩) (Or.inr ⟨rfl, ini rfl, rfl⟩) rfl m6 ?_
  refine G_aload0 x eX0_init_61 ?_
  refine G_nw x eX0_init_62 clX0_30 itX1 ini_X1 rfl rm (by omega) (by show _ + gN 1 ≤ _; simp only [gN]; omega) (fun i62 j62 o62 => ?_) (hdf_X1)
  refine G_dup x eX0_init_65 (by first | rfl | exact cat_rf _) ?_
  rw [u1]
  refine G_cIN x eX0_init_66 knX0_32 im_yX1_init rm (ct_X1_init (a := a + 8) (gpush_at (by rw [u1])) (by show T55.1 + 1 = a + 8 + 1; omega)) rfl (fun v66 T66 I66 J66 O66 p66 => ?_)
  refine G_rg (fun hr => ?_)
  obtain ⟨rfl, w1, w2, w3, w4, w5, w6⟩ := p66
  obtain rfl := w4.symm
  obtain rfl := w5.symm
  have m7 : T66.2 a = some (.inl 0) := by rw [w2 a (by omega), gpush_k (by omega)]; exact m6
  refine G_putr x eX0_init_69 fX0_37 rfl (fun v => by cases v <;> exact ⟨rfl, rfl⟩) (Or.inr ⟨rfl, ini rfl, rfl⟩) rfl m7 ?_
  have q1 : ∀ b, b ≤ a + 5 → T66.2 b = T5.2 b := fun b hb => by rw [w2 b (by omega), gpush_k (by omega), u2 b (by omega), gpush_k (by omega)]
  have o1 : ∀ j, O66 a j = (uO O55 a 8 (some (a + 6))) a j := fun j => w6 a j (by omega)
  have o2 : ∀ j, O55 a j = O5 a j := fun j => u6 a j (by omega)
  have hfin : nwP CaAt 10 T I J O a none T66 I J (uO O66 a 9 (some (a + 8))) := by
    refine ⟨rfl, by omega, fun b hb => by rw [q1 b (by omega), t2 b hb], ⟨m7, ?_, (q1 _ (by omega)).trans tk.1, ?_, (q1 _ (by omega)).trans tk.2.1, ?_, (q1 _ (by omega)).trans tk.2.2.1, ?_, (q1 _ (by omega)).trans tk.2.2.2.1, ?_, (q1 _ (by omega)).trans tk.2.2.2.2, ?_, ?_, uO_s, ?_⟩, rfl, rfl, fun b j hb => ?_⟩
    · rw [uO_k (by decide), o1, uO_k (by decide), o2]; exact ok.1
    · rw [uO_k (by decide), o1, uO_k (by decide), o2]; exact ok.2.1
    · rw [uO_k (by decide), o1, uO_k (by decide), o2]; exact ok.2.2.1
    · rw [uO_k (by decide), o1, uO_k (by decide), o2]; exact ok.2.2.2.1
    · rw [uO_k (by decide), o1, uO_k (by decide), o2]; exact ok.2.2.2.2
    · rw [uO_k (by decide), o1, uO_s]
    · exact u3.mv (fun b b1 b2 => by rw [w2 b (by omega), gpush_k (by omega)]) (fun j => by rw [uO_a (by omega), w6 _ _ (by omega), uO_a (by omega)])
    · exact w3.mv (fun b b1 b2 => rfl) (fun j => by rw [uO_a (by omega)])
    · rw [uO_a (by omega), w6 _ _ (by omega), uO_a (by omega), u6 _ _ (by omega), oE _ _ (by omega)]
  refine G_rg (fun hr => ?_)
  refine G_return x en eX0_init_72 (by omega) (by omega) ?_
  exact hfin
