def LnAt (T : gT) (O : gO) (a : Nat) : Prop := T.2 a = some (.inl 4) ∧ O a 0 = some (a + 1) ∧ T.2 (a + 1) = some (.inr (0, 12)) ∧ O a 1 = some (a + 2) ∧ T.2 (a + 2) = some (.inr (0, 12)) ∧ O a 2 = some (a + 3) ∧ T.2 (a + 3) = some (.inr (0, 12)) ∧ O a 3 = some (a + 4) ∧ T.2 (a + 4) = some (.inr (1, 12)) ∧ O a 4 = some (a + 5) ∧ T.2 (a + 5) = some (.inr (1, 12)) ∧ O a 5 = some (a + 6) ∧ T.2 (a + 6) = some (.inr (0, 12))
section LnAtS
variable {T : gT} {O : gO} {a : Nat}
theorem LnAt.m (h : LnAt T O a) : T.2 a = some (.inl 4) := h.1
theorem LnAt.o_places (h : LnAt T O a) : O a 0 = some (a + 1) := h.2.1
theorem LnAt.t_places (h : LnAt T O a) : T.2 (a + 1) = some (.inr (0, 12)) := h.2.2.1
theorem LnAt.o_clocks (h : LnAt T O a) : O a 1 = some (a + 2) := h.2.2.2.1
theorem LnAt.t_clocks (h : LnAt T O a) : T.2 (a + 2) = some (.inr (0, 12)) := h.2.2.2.2.1
theorem LnAt.o_stampers (h : LnAt T O a) : O a 2 = some (a + 3) := h.2.2.2.2.2.1
theorem LnAt.t_stampers (h : LnAt T O a) : T.2 (a + 3) = some (.inr (0, 12)) := h.2.2.2.2.2.2.1
theorem LnAt.o_made (h : LnAt T O a) : O a 3 = some (a + 4) := h.2.2.2.2.2.2.2.1
theorem LnAt.t_made (h : LnAt T O a) : T.2 (a + 4) = some (.inr (1, 12)) := h.2.2.2.2.2.2.2.2.1
theorem LnAt.o_removed (h : LnAt T O a) : O a 4 = some (a + 5) := h.2.2.2.2.2.2.2.2.2.1
theorem LnAt.t_removed (h : LnAt T O a) : T.2 (a + 5) = some (.inr (1, 12)) := h.2.2.2.2.2.2.2.2.2.2.1
theorem LnAt.o_arranged (h : LnAt T O a) : O a 5 = some (a + 6) := h.2.2.2.2.2.2.2.2.2.2.2.1
theorem LnAt.t_arranged (h : LnAt T O a) : T.2 (a + 6) = some (.inr (0, 12)) := h.2.2.2.2.2.2.2.2.2.2.2.2
end LnAtS
def TxAt (T : gT) (O : gO) (a : Nat) : Prop := T.2 a = some (.inl 9) ∧ O a 0 = some (a + 1) ∧ T.2 (a + 1) = some (.inr (2, 24))
section TxAtS
variable {T : gT} {O : gO} {a : Nat}
theorem TxAt.m (h : TxAt T O a) : T.2 a = some (.inl 9) := h.1
theorem TxAt.o_characters (h : TxAt T O a) : O a 0 = some (a + 1) := h.2.1
theorem TxAt.t_characters (h : TxAt T O a) : T.2 (a + 1) = some (.inr (2, 24)) := h.2.2
end TxAtS
def RcAt (T : gT) (O : gO) (a : Nat) : Prop := T.2 a = some (.inl 7) ∧ O a 0 = some (a + 1) ∧ T.2 (a + 1) = some (.inr (0, 36))
section RcAtS
variable {T : gT} {O : gO} {a : Nat}
theorem RcAt.m (h : RcAt T O a) : T.2 a = some (.inl 7) := h.1
theorem RcAt.o_carried (h : RcAt T O a) : O a 0 = some (a + 1) := h.2.1
theorem RcAt.t_carried (h : RcAt T O a) : T.2 (a + 1) = some (.inr (0, 36)) := h.2.2
end RcAtS
def RdAt (T : gT) (O : gO) (a : Nat) : Prop := T.2 a = some (.inl 6) ∧ O a 0 = some (a + 1) ∧ T.2 (a + 1) = some (.inr (0, 52))
section RdAtS
variable {T : gT} {O : gO} {a : Nat}
theorem RdAt.m (h : RdAt T O a) : T.2 a = some (.inl 6) := h.1
theorem RdAt.o_parts (h : RdAt T O a) : O a 0 = some (a + 1) := h.2.1
theorem RdAt.t_parts (h : RdAt T O a) : T.2 (a + 1) = some (.inr (0, 52)) := h.2.2
end RdAtS
def CsAt (T : gT) (O : gO) (a : Nat) : Prop := T.2 a = some (.inl 1) ∧ O a 0 = some (a + 1) ∧ T.2 (a + 1) = some (.inr (3, 435))
section CsAtS
variable {T : gT} {O : gO} {a : Nat}
theorem CsAt.m (h : CsAt T O a) : T.2 a = some (.inl 1) := h.1
theorem CsAt.o_bits (h : CsAt T O a) : O a 0 = some (a + 1) := h.2.1
theorem CsAt.t_bits (h : CsAt T O a) : T.2 (a + 1) = some (.inr (3, 435)) := h.2.2
end CsAtS
def CaAt (T : gT) (O : gO) (a : Nat) : Prop := T.2 a = some (.inl 0) ∧ O a 0 = some (a + 1) ∧ T.2 (a + 1) = some (.inr (0, 144)) ∧ O a 1 = some (a + 2) ∧ T.2 (a + 2) = some (.inr (0, 144)) ∧ O a 2 = some (a + 3) ∧ T.2 (a + 3) = some (.inr (0, 144)) ∧ O a 3 = some (a + 4) ∧ T.2 (a + 4) = some (.inr (6, 144)) ∧ O a 5 = some (a + 5) ∧ T.2 (a + 5) = some (.inr (0, 144)) ∧ O a 8 = some (a + 6) ∧ CsAt T O (a + 6) ∧ O a 9 = some (a + 8) ∧ CsAt T O (a + 8)
section CaAtS
variable {T : gT} {O : gO} {a : Nat}
theorem CaAt.m (h : CaAt T O a) : T.2 a = some (.inl 0) := h.1
theorem CaAt.o_values (h : CaAt T O a) : O a 0 = some (a + 1) := h.2.1
theorem CaAt.t_values (h : CaAt T O a) : T.2 (a + 1) = some (.inr (0, 144)) := h.2.2.1
theorem CaAt.o_errors (h : CaAt T O a) : O a 1 = some (a + 2) := h.2.2.2.1
theorem CaAt.t_errors (h : CaAt T O a) : T.2 (a + 2) = some (.inr (0, 144)) := h.2.2.2.2.1
theorem CaAt.o_formulaCells (h : CaAt T O a) : O a 2 = some (a + 3) := h.2.2.2.2.2.1
theorem CaAt.t_formulaCells (h : CaAt T O a) : T.2 (a + 3) = some (.inr (0, 144)) := h.2.2.2.2.2.2.1
theorem CaAt.o_formulas (h : CaAt T O a) : O a 3 = some (a + 4) := h.2.2.2.2.2.2.2.1
theorem CaAt.t_formulas (h : CaAt T O a) : T.2 (a + 4) = some (.inr (6, 144)) := h.2.2.2.2.2.2.2.2.1
theorem CaAt.o_ordered (h : CaAt T O a) : O a 5 = some (a + 5) := h.2.2.2.2.2.2.2.2.2.1
theorem CaAt.t_ordered (h : CaAt T O a) : T.2 (a + 5) = some (.inr (0, 144)) := h.2.2.2.2.2.2.2.2.2.2.1
theorem CaAt.o_references (h : CaAt T O a) : O a 8 = some (a + 6) := h.2.2.2.2.2.2.2.2.2.2.2.1
theorem CaAt.s_references (h : CaAt T O a) : CsAt T O (a + 6) := h.2.2.2.2.2.2.2.2.2.2.2.2.1
theorem CaAt.o_reached (h : CaAt T O a) : O a 9 = some (a + 8) := h.2.2.2.2.2.2.2.2.2.2.2.2.2.1
theorem CaAt.s_reached (h : CaAt T O a) : CsAt T O (a + 8) := h.2.2.2.2.2.2.2.2.2.2.2.2.2.2
end CaAtS
def RpAt (T : gT) (O : gO) (a : Nat) : Prop := T.2 a = some (.inl 8) ∧ O a 1 = some (a + 1) ∧ LnAt T O (a + 1) ∧ O a 2 = some (a + 8) ∧ LnAt T O (a + 8) ∧ O a 3 = some (a + 15) ∧ CaAt T O (a + 15) ∧ O a 5 = some (a + 25) ∧ T.2 (a + 25) = some (.inr (5, 40)) ∧ O a 6 = some (a + 26) ∧ T.2 (a + 26) = some (.inr (0, 3)) ∧ O a 7 = some (a + 27) ∧ T.2 (a + 27) = some (.inr (5, 144)) ∧ O a 8 = some (a + 28) ∧ T.2 (a + 28) = some (.inl 2)
section RpAtS
variable {T : gT} {O : gO} {a : Nat}
theorem RpAt.m (h : RpAt T O a) : T.2 a = some (.inl 8) := h.1
theorem RpAt.o_rows (h : RpAt T O a) : O a 1 = some (a + 1) := h.2.1
theorem RpAt.s_rows (h : RpAt T O a) : LnAt T O (a + 1) := h.2.2.1
theorem RpAt.o_columns (h : RpAt T O a) : O a 2 = some (a + 8) := h.2.2.2.1
theorem RpAt.s_columns (h : RpAt T O a) : LnAt T O (a + 8) := h.2.2.2.2.1
theorem RpAt.o_calculation (h : RpAt T O a) : O a 3 = some (a + 15) := h.2.2.2.2.2.1
theorem RpAt.s_calculation (h : RpAt T O a) : CaAt T O (a + 15) := h.2.2.2.2.2.2.1
theorem RpAt.o_log (h : RpAt T O a) : O a 5 = some (a + 25) := h.2.2.2.2.2.2.2.1
theorem RpAt.t_log (h : RpAt T O a) : T.2 (a + 25) = some (.inr (5, 40)) := h.2.2.2.2.2.2.2.2.1
theorem RpAt.o_carried (h : RpAt T O a) : O a 6 = some (a + 26) := h.2.2.2.2.2.2.2.2.2.1
theorem RpAt.t_carried (h : RpAt T O a) : T.2 (a + 26) = some (.inr (0, 3)) := h.2.2.2.2.2.2.2.2.2.2.1
theorem RpAt.o_writers (h : RpAt T O a) : O a 7 = some (a + 27) := h.2.2.2.2.2.2.2.2.2.2.2.1
theorem RpAt.t_writers (h : RpAt T O a) : T.2 (a + 27) = some (.inr (5, 144)) := h.2.2.2.2.2.2.2.2.2.2.2.2.1
theorem RpAt.o_nothing (h : RpAt T O a) : O a 8 = some (a + 28) := h.2.2.2.2.2.2.2.2.2.2.2.2.2.1
theorem RpAt.c_nothing (h : RpAt T O a) : T.2 (a + 28) = some (.inl 2) := h.2.2.2.2.2.2.2.2.2.2.2.2.2.2
end RpAtS
def SsAt0 (T : gT) (O : gO) (a : Nat) : Prop := T.2 a = some (.inl 10) ∧ O a 0 = some (a + 1) ∧ T.2 (a + 1) = some (.inr (4, 3)) ∧ O a 1 = some (a + 2) ∧ RcAt T O (a + 2) ∧ O a 2 = some (a + 4) ∧ TxAt T O (a + 4) ∧ O a 3 = some (a + 6) ∧ RdAt T O (a + 6)
section SsAt0S
variable {T : gT} {O : gO} {a : Nat}
theorem SsAt0.m (h : SsAt0 T O a) : T.2 a = some (.inl 10) := h.1
theorem SsAt0.o_replicas (h : SsAt0 T O a) : O a 0 = some (a + 1) := h.2.1
theorem SsAt0.t_replicas (h : SsAt0 T O a) : T.2 (a + 1) = some (.inr (4, 3)) := h.2.2.1
theorem SsAt0.o_records (h : SsAt0 T O a) : O a 1 = some (a + 2) := h.2.2.2.1
theorem SsAt0.s_records (h : SsAt0 T O a) : RcAt T O (a + 2) := h.2.2.2.2.1
theorem SsAt0.o_text (h : SsAt0 T O a) : O a 2 = some (a + 4) := h.2.2.2.2.2.1
theorem SsAt0.s_text (h : SsAt0 T O a) : TxAt T O (a + 4) := h.2.2.2.2.2.2.1
theorem SsAt0.o_reader (h : SsAt0 T O a) : O a 3 = some (a + 6) := h.2.2.2.2.2.2.2.1
theorem SsAt0.s_reader (h : SsAt0 T O a) : RdAt T O (a + 6) := h.2.2.2.2.2.2.2.2
end SsAt0S
/-- the class's object with its three replicas -/
def SsAt (T : gT) (O : gO) (a : Nat) : Prop := SsAt0 T O a ∧ (O (a + 1) 0 = some (a + 8) ∧ O (a + 1) 1 = some (a + 37) ∧ O (a + 1) 2 = some (a + 66)) ∧ RpAt T O (a + 8) ∧ RpAt T O (a + 37) ∧ RpAt T O (a + 66)
theorem SsAt.z {T : gT} {O : gO} {a : Nat} (h : SsAt T O a) : SsAt0 T O a := h.1
theorem LnAt.mv {T T' : gT} {O O' : gO} {a : Nat} (h : LnAt T O a) (hT : ∀ b, a ≤ b → b ≤ a + 6 → T'.2 b = T.2 b) (hO : ∀ j, O' a j = O a j) : LnAt T' O' a := by
  unfold LnAt at h ⊢
  simp only [hO]
  rw [hT a (by omega) (by omega), hT (a + 1) (by omega) (by omega), hT (a + 2) (by omega) (by omega), hT (a + 3) (by omega) (by omega), hT (a + 4) (by omega) (by omega), hT (a + 5) (by omega) (by omega), hT (a + 6) (by omega) (by omega)]
  exact h
theorem TxAt.mv {T T' : gT} {O O' : gO} {a : Nat} (h : TxAt T O a) (hT : ∀ b, a ≤ b → b ≤ a + 1 → T'.2 b = T.2 b) (hO : ∀ j, O' a j = O a j) : TxAt T' O' a := by
  unfold TxAt at h ⊢
  simp only [hO]
  rw [hT a (by omega) (by omega), hT (a + 1) (by omega) (by omega)]
  exact h
theorem RcAt.mv {T T' : gT} {O O' : gO} {a : Nat} (h : RcAt T O a) (hT : ∀ b, a ≤ b → b ≤ a + 1 → T'.2 b = T.2 b) (hO : ∀ j, O' a j = O a j) : RcAt T' O' a := by
  unfold RcAt at h ⊢
  simp only [hO]
  rw [hT a (by omega) (by omega), hT (a + 1) (by omega) (by omega)]
  exact h
theorem RdAt.mv {T T' : gT} {O O' : gO} {a : Nat} (h : RdAt T O a) (hT : ∀ b, a ≤ b → b ≤ a + 1 → T'.2 b = T.2 b) (hO : ∀ j, O' a j = O a j) : RdAt T' O' a := by
  unfold RdAt at h ⊢
  simp only [hO]
  rw [hT a (by omega) (by omega), hT (a + 1) (by omega) (by omega)]
  exact h
theorem CsAt.mv {T T' : gT} {O O' : gO} {a : Nat} (h : CsAt T O a) (hT : ∀ b, a ≤ b → b ≤ a + 1 → T'.2 b = T.2 b) (hO : ∀ j, O' a j = O a j) : CsAt T' O' a := by
  unfold CsAt at h ⊢
  simp only [hO]
  rw [hT a (by omega) (by omega), hT (a + 1) (by omega) (by omega)]
  exact h
theorem CaAt.mv {T T' : gT} {O O' : gO} {a : Nat} (h : CaAt T O a) (hT : ∀ b, a ≤ b → b ≤ a + 9 → T'.2 b = T.2 b) (hO : ∀ b j, b = a ∨ b = a + 6 ∨ b = a + 8 → O' b j = O b j) : CaAt T' O' a := by
  have h6 := h.s_references.mv (T' := T') (O' := O') (fun b h1 h2 => hT b (by omega) (by omega)) (fun j => hO _ j (by omega))
  have h8 := h.s_reached.mv (T' := T') (O' := O') (fun b h1 h2 => hT b (by omega) (by omega)) (fun j => hO _ j (by omega))
  unfold CaAt at h ⊢
  simp only [hO a _ (Or.inl rfl)]
  rw [hT a (by omega) (by omega), hT (a + 1) (by omega) (by omega), hT (a + 2) (by omega) (by omega), hT (a + 3) (by omega) (by omega), hT (a + 4) (by omega) (by omega), hT (a + 5) (by omega) (by omega)]
  obtain ⟨a1, a2, a3, a4, a5, a6, a7, a8, a9, a10, a11, a12, a13, a14, a15⟩ := h
  exact ⟨a1, a2, a3, a4, a5, a6, a7, a8, a9, a10, a11, a12, h6, a14, h8⟩
theorem RpAt.mv {T T' : gT} {O O' : gO} {a : Nat} (h : RpAt T O a) (hT : ∀ b, a ≤ b → b ≤ a + 28 → T'.2 b = T.2 b) (hO : ∀ b j, a ≤ b → b ≤ a + 23 → b ≠ a + 19 → O' b j = O b j) : RpAt T' O' a := by
  have h1 := h.s_rows.mv (T' := T') (O' := O') (fun b h1 h2 => hT b (by omega) (by omega)) (fun j => hO _ j (by omega) (by omega) (by omega))
  have h2 := h.s_columns.mv (T' := T') (O' := O') (fun b h1 h2 => hT b (by omega) (by omega)) (fun j => hO _ j (by omega) (by omega) (by omega))
  have h3 := h.s_calculation.mv (T' := T') (O' := O') (fun b h1 h2 => hT b (by omega) (by omega)) (fun b j hb => hO _ j (by omega) (by omega) (by omega))
  unfold RpAt at h ⊢
  simp only [hO a _ (by omega) (by omega) (by omega)]
  rw [hT a (by omega) (by omega), hT (a + 25) (by omega) (by omega), hT (a + 26) (by omega) (by omega), hT (a + 27) (by omega) (by omega), hT (a + 28) (by omega) (by omega)]
  obtain ⟨a1, a2, a3, a4, a5, a6, a7, a8, a9, a10, a11, a12, a13, a14, a15⟩ := h
  exact ⟨a1, a2, h1, a4, h2, a6, h3, a8, a9, a10, a11, a12, a13, a14, a15⟩
theorem SsAt.mv {T T' : gT} {O O' : gO} {a : Nat} (h : SsAt T O a) (hT : ∀ b, a ≤ b → b ≤ a + 94 → T'.2 b = T.2 b) (hO : ∀ b j, a ≤ b → b ≤ a + 94 → b ≠ a + 27 → b ≠ a + 56 → b ≠ a + 85 → b ≠ a + 33 → b ≠ a + 62 → b ≠ a + 91 → b ≠ a + 35 → b ≠ a + 64 → b ≠ a + 93 → O' b j = O b j) : SsAt T' O' a := by
  obtain ⟨h0, h1, h2, h3, h4⟩ := h
  refine ⟨?_, ?_, h2.mv (fun b p q => hT b (by omega) (by omega)) (fun b j p q z => hO b j (by omega) (by omega) (by omega) (by omega) (by omega) (by omega) (by omega) (by omega) (by omega) (by omega) (by omega)), h3.mv (fun b p q => hT b (by omega) (by omega)) (fun b j p q z => hO b j (by omega) (by omega) (by omega) (by omega) (by omega) (by omega) (by omega) (by omega) (by omega) (by omega) (by omega)), h4.mv (fun b p q => hT b (by omega) (by omega)) (fun b j p q z => hO b j (by omega) (by omega) (by omega) (by omega) (by omega) (by omega) (by omega) (by omega) (by omega) (by omega) (by omega))⟩
  · have k1 := h0.s_records.mv (T' := T') (O' := O') (fun b p q => hT b (by omega) (by omega)) (fun j => hO _ j (by omega) (by omega) (by omega) (by omega) (by omega) (by omega) (by omega) (by omega) (by omega) (by omega) (by omega))
    have k2 := h0.s_text.mv (T' := T') (O' := O') (fun b p q => hT b (by omega) (by omega)) (fun j => hO _ j (by omega) (by omega) (by omega) (by omega) (by omega) (by omega) (by omega) (by omega) (by omega) (by omega) (by omega))
    have k3 := h0.s_reader.mv (T' := T') (O' := O') (fun b p q => hT b (by omega) (by omega)) (fun j => hO _ j (by omega) (by omega) (by omega) (by omega) (by omega) (by omega) (by omega) (by omega) (by omega) (by omega) (by omega))
    have ha : ∀ j, O' a j = O a j := fun j => hO _ j (by omega) (by omega) (by omega) (by omega) (by omega) (by omega) (by omega) (by omega) (by omega) (by omega) (by omega)
    unfold SsAt0 at h0 ⊢
    simp only [ha]
    rw [hT a (by omega) (by omega), hT (a + 1) (by omega) (by omega)]
    obtain ⟨a1, a2, a3, a4, a5, a6, a7, a8, a9⟩ := h0
    exact ⟨a1, a2, a3, a4, k1, a6, k2, a8, k3⟩
  · have ha : ∀ j, O' (a + 1) j = O (a + 1) j := fun j => hO _ j (by omega) (by omega) (by omega) (by omega) (by omega) (by omega) (by omega) (by omega) (by omega) (by omega) (by omega)
    rw [ha, ha, ha]
    exact h1
/-- the address of a replica -/
def rpA (ss : Nat) (r : Int) : Nat := ss + 8 + 29 * r.toNat
theorem SsAt.rp {T : gT} {O : gO} {ss : Nat} {r : Int} (h : SsAt T O ss) (r0 : 0 ≤ r) (r1 : r ≤ 2) : RpAt T O (rpA ss r) ∧ O (ss + 1) r = some (rpA ss r) := by
  unfold rpA
  rcases (by omega : r = 0 ∨ r = 1 ∨ r = 2) with e | e | e
  · subst e; exact ⟨h.2.2.1, h.2.1.1⟩
  · subst e; exact ⟨h.2.2.2.1, h.2.1.2.1⟩
  · subst e; exact ⟨h.2.2.2.2, h.2.1.2.2⟩
