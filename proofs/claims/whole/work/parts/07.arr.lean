theorem uI_s {I : gI} {a : Nat} {k x : Int} : uI I a k x a k = x := by simp [uI]
theorem uJ_s {I : gJ} {a : Nat} {k : Int} {x : Int64} : uJ I a k x a k = x := by simp [uJ]
theorem uO_s {I : gO} {a : Nat} {k : Int} {x : Option Nat} : uO I a k x a k = x := by simp [uO]
theorem uI_a {I : gI} {a b : Nat} {k x : Int} (h : b ≠ a) (j : Int) : uI I a k x b j = I b j := by simp [uI, h]
theorem uJ_a {I : gJ} {a b : Nat} {k : Int} {x : Int64} (h : b ≠ a) (j : Int) : uJ I a k x b j = I b j := by simp [uJ, h]
theorem uO_a {I : gO} {a b : Nat} {k : Int} {x : Option Nat} (h : b ≠ a) (j : Int) : uO I a k x b j = I b j := by simp [uO, h]
theorem uI_k {I : gI} {a b : Nat} {k j x : Int} (h : j ≠ k) : uI I a k x b j = I b j := by simp [uI, h]
theorem uJ_k {I : gJ} {a b : Nat} {k j : Int} {x : Int64} (h : j ≠ k) : uJ I a k x b j = I b j := by simp [uJ, h]
theorem uO_k {I : gO} {a b : Nat} {k j : Int} {x : Option Nat} (h : j ≠ k) : uO I a k x b j = I b j := by simp [uO, h]
theorem uI_r {I : gI} {a : Nat} {k x : Int} (hx : in32 x) (h : ∀ a k, in32 (I a k)) : ∀ b j, in32 (uI I a k x b j) := fun b j => by
  unfold uI
  split
  · exact hx
  · exact h b j
section GA
variable {X : gX} {cc : ByteArray} {own : String} {pc q : Nat} {Ls : List (Option Value)} {st : List Value} {T : gT} {I : gI} {J : gJ} {O : gO} {k n : Nat}
theorem G_puti {idx ci kf a : Nat} {kz z : Int} {o : Option Nat} (x : Ok X cc own) (d : Dc cc pc (.putfield idx) 3 q) (L : Lf own idx ci kf kz) (hty : gty ci kf = .int) (hfin : (gTb ci kf).2.2.2 = false ∨ ((gTb ci kf).2.2.2 = true ∧ Ini X ∧ gRn ci = own)) (ho : o = some a) (hT : T.2 a = some (.inl ci)) (hz : in32 z) (h : G X q Ls st T (uI I a kz z) J O k n) : G X pc Ls (VI z :: va_rf o :: st) T I J O k n :=
  G_putV x d L hfin ho hT (by rw [hty]; rfl) (by rw [hty]; rfl) (by rw [hty, uI_s]; rfl) (fun j hj => ⟨uI_k hj, rfl, rfl⟩) (fun b hb j => uI_a hb j) (fun _ _ _ => rfl) (fun _ _ _ => rfl) (uI_r hz) h
theorem G_putz {idx ci kf a : Nat} {kz z : Int} {o : Option Nat} (x : Ok X cc own) (d : Dc cc pc (.putfield idx) 3 q) (L : Lf own idx ci kf kz) (hty : gty ci kf = .boolean) (hfin : (gTb ci kf).2.2.2 = false ∨ ((gTb ci kf).2.2.2 = true ∧ Ini X ∧ gRn ci = own)) (ho : o = some a) (hT : T.2 a = some (.inl ci)) (hz : z = 0 ∨ z = 1) (h : G X q Ls st T (uI I a kz z) J O k n) : G X pc Ls (VI z :: va_rf o :: st) T I J O k n :=
  G_putV x d L hfin ho hT (by rw [hty]; rcases hz with rfl | rfl <;> rfl) (by rw [hty]; rcases hz with rfl | rfl <;> rfl) (by rw [hty, uI_s]; rfl) (fun j hj => ⟨uI_k hj, rfl, rfl⟩) (fun b hb j => uI_a hb j) (fun _ _ _ => rfl) (fun _ _ _ => rfl) (uI_r (by rcases hz with rfl | rfl <;> exact ⟨by decide, by decide⟩)) h
theorem G_putl {idx ci kf a : Nat} {kz : Int} {z : Int64} {o : Option Nat} (x : Ok X cc own) (d : Dc cc pc (.putfield idx) 3 q) (L : Lf own idx ci kf kz) (hty : gty ci kf = .long) (hfin : (gTb ci kf).2.2.2 = false ∨ ((gTb ci kf).2.2.2 = true ∧ Ini X ∧ gRn ci = own)) (ho : o = some a) (hT : T.2 a = some (.inl ci)) (h : G X q Ls st T I (uJ J a kz z) O k n) : G X pc Ls (.long z :: va_rf o :: st) T I J O k n :=
  G_putV x d L hfin ho hT (by rw [hty]; rfl) (by rw [hty]; rfl) (by rw [hty, uJ_s]; rfl) (fun j hj => ⟨rfl, uJ_k hj, rfl⟩) (fun _ _ _ => rfl) (fun b hb j => uJ_a hb j) (fun _ _ _ => rfl) (fun h => h) h
theorem G_putr {idx ci kf a : Nat} {kz : Int} {z o : Option Nat} (x : Ok X cc own) (d : Dc cc pc (.putfield idx) 3 q) (L : Lf own idx ci kf kz) (hty : gK (gty ci kf) = 2) (hf : ∀ v : Option Nat, narrow (gty ci kf) (va_rf v) = va_rf v ∧ fits (gty ci kf) (va_rf v) = true) (hfin : (gTb ci kf).2.2.2 = false ∨ ((gTb ci kf).2.2.2 = true ∧ Ini X ∧ gRn ci = own)) (ho : o = some a) (hT : T.2 a = some (.inl ci)) (h : G X q Ls st T I J (uO O a kz z) k n) : G X pc Ls (va_rf z :: va_rf o :: st) T I J O k n :=
  G_putV x d L hfin ho hT (hf z).1 (hf z).2 (by rw [hty, uO_s]; rfl) (fun j hj => ⟨rfl, rfl, uO_k hj⟩) (fun _ _ _ => rfl) (fun _ _ _ => rfl) (fun b hb j => uO_a hb j) (fun h => h) h
/-- an array's cell -/
theorem gWd.arr {E : gD} {H : Heap} (h : gWd E T I J O H) {a t N : Nat} (hT : T.2 a = some (.inr (t, N))) : H[a]? = some (vp_cell (E.2.1 t) (N, garr t I J O a)) := (h.2.1 a _ hT).2
theorem gWd.le {E : gD} {H : Heap} (h : gWd E T I J O H) {a : Nat} {ty : gTy} (hT : T.2 a = some ty) : E.2.2 ≤ a := (h.2.1 a _ hT).1
theorem G_iald {a N : Nat} {i : Int} {o : Option Nat} (x : Ok X cc own) (d : Dc cc pc .iaload 1 q) (ho : o = some a) (hT : T.2 a = some (.inr (0, N))) (h0 : 0 ≤ i) (h1 : i < N) (hi : in32 i) (h : in32 (I a i) → G X q Ls (VI (I a i) :: st) T I J O k n) : G X pc Ls (VI i :: va_rf o :: st) T I J O k n := by
  obtain ⟨p, l, e, R, s, m, args, below, meth, c, E, Q⟩ := X
  intro H locs ls hW hS hL
  obtain ⟨d, rfl⟩ := d
  subst ho
  refine va_iald x.1 x.2.1 x.2.2.2.2.1.1 (va_P1 (hW.2.1 a _ hT).2) 0 0 rfl rfl (i32_vpin h0 h1 hi) d ?_
  have e1 : ((Int32.ofInt i).toNatClampNeg : Int) = i := by rw [i32_clamp h0 hi]; omega
  show W p l e R s m args below meth c H locs k n Q (F0 m (pc + 1) ls (.int (Int32.ofInt (I a ((Int32.ofInt i).toNatClampNeg : Int))) :: st))
  rw [e1]
  exact h (hW.2.2.1 a i) H locs ls hW hS hL
theorem G_zald {a N : Nat} {i : Int} {o : Option Nat} (x : Ok X cc own) (d : Dc cc pc .baload 1 q) (ho : o = some a) (hT : T.2 a = some (.inr (1, N))) (h0 : 0 ≤ i) (h1 : i < N) (hi : in32 i) (h : in32 (I a i) → G X q Ls (VI (I a i) :: st) T I J O k n) : G X pc Ls (VI i :: va_rf o :: st) T I J O k n := by
  obtain ⟨p, l, e, R, s, m, args, below, meth, c, E, Q⟩ := X
  intro H locs ls hW hS hL
  obtain ⟨d, rfl⟩ := d
  subst ho
  refine va_zald x.1 x.2.1 x.2.2.2.2.1.1 (va_P1 (hW.2.1 a _ hT).2) 0 1 rfl rfl (i32_vpin h0 h1 hi) d ?_
  have e1 : ((Int32.ofInt i).toNatClampNeg : Int) = i := by rw [i32_clamp h0 hi]; omega
  show W p l e R s m args below meth c H locs k n Q (F0 m (pc + 1) ls (.int (Int32.ofInt (I a ((Int32.ofInt i).toNatClampNeg : Int))) :: st))
  rw [e1]
  exact h (hW.2.2.1 a i) H locs ls hW hS hL
theorem G_cald {a N : Nat} {i : Int} {o : Option Nat} (x : Ok X cc own) (d : Dc cc pc .caload 1 q) (ho : o = some a) (hT : T.2 a = some (.inr (2, N))) (h0 : 0 ≤ i) (h1 : i < N) (hi : in32 i) (h : in32 (I a i) → G X q Ls (VI (I a i) :: st) T I J O k n) : G X pc Ls (VI i :: va_rf o :: st) T I J O k n := by
  obtain ⟨p, l, e, R, s, m, args, below, meth, c, E, Q⟩ := X
  intro H locs ls hW hS hL
  obtain ⟨d, rfl⟩ := d
  subst ho
  refine va_cald x.1 x.2.1 x.2.2.2.2.1.1 (va_P1 (hW.2.1 a _ hT).2) 0 2 rfl rfl (i32_vpin h0 h1 hi) d ?_
  have e1 : ((Int32.ofInt i).toNatClampNeg : Int) = i := by rw [i32_clamp h0 hi]; omega
  show W p l e R s m args below meth c H locs k n Q (F0 m (pc + 1) ls (.int (Int32.ofInt (I a ((Int32.ofInt i).toNatClampNeg : Int))) :: st))
  rw [e1]
  exact h (hW.2.2.1 a i) H locs ls hW hS hL
theorem G_lald {a N : Nat} {i : Int} {o : Option Nat} (x : Ok X cc own) (d : Dc cc pc .laload 1 q) (ho : o = some a) (hT : T.2 a = some (.inr (3, N))) (h0 : 0 ≤ i) (h1 : i < N) (hi : in32 i) (h : G X q Ls (.long (J a i) :: st) T I J O k n) : G X pc Ls (VI i :: va_rf o :: st) T I J O k n := by
  obtain ⟨p, l, e, R, s, m, args, below, meth, c, E, Q⟩ := X
  intro H locs ls hW hS hL
  obtain ⟨d, rfl⟩ := d
  subst ho
  refine va_lald x.1 x.2.1 x.2.2.2.2.1.1 (va_P1 (hW.2.1 a _ hT).2) 0 3 rfl rfl (i32_vpin h0 h1 hi) d ?_
  have e1 : ((Int32.ofInt i).toNatClampNeg : Int) = i := by rw [i32_clamp h0 hi]; omega
  show W p l e R s m args below meth c H locs k n Q (F0 m (pc + 1) ls (.long (J a ((Int32.ofInt i).toNatClampNeg : Int)) :: st))
  rw [e1]
  exact h H locs ls hW hS hL
theorem G_aald {a N t : Nat} {C : String} {i : Int} {o : Option Nat} (x : Ok X cc own) (d : Dc cc pc .aaload 1 q) (ho : o = some a) (hT : T.2 a = some (.inr (t + 4, N))) (ht : ∀ kA, (gtys kA)[t + 4]? = some (kA (t + 4), .object C)) (h0 : 0 ≤ i) (h1 : i < N) (hi : in32 i) (h : G X q Ls (va_rf (O a i) :: st) T I J O k n) : G X pc Ls (VI i :: va_rf o :: st) T I J O k n := by
  obtain ⟨p, l, e, R, s, m, args, below, meth, c, E, Q⟩ := X
  intro H locs ls hW hS hL
  obtain ⟨d, rfl⟩ := d
  subst ho
  refine va_aldq (C := C) x.1 x.2.1 x.2.2.2.2.1.1 (va_P1 (hW.2.1 a _ hT).2) 0 (t + 4) rfl (ht E.2.1) (i32_vpin h0 h1 hi) d ?_
  have e1 : ((Int32.ofInt i).toNatClampNeg : Int) = i := by rw [i32_clamp h0 hi]; omega
  show W p l e R s m args below meth c H locs k n Q (F0 m (pc + 1) ls (va_rf (O a ((Int32.ofInt i).toNatClampNeg : Int)) :: st))
  rw [e1]
  exact h H locs ls hW hS hL
theorem G_alen {a t N : Nat} {o : Option Nat} {ty : FieldType} (x : Ok X cc own) (d : Dc cc pc .arraylength 1 q) (ho : o = some a) (hT : T.2 a = some (.inr (t, N))) (ht : ∀ kA, (gtys kA)[t]? = some (kA t, ty)) (h : G X q Ls (VI (N : Int) :: st) T I J O k n) : G X pc Ls (va_rf o :: st) T I J O k n := by
  obtain ⟨p, l, e, R, s, m, args, below, meth, c, E, Q⟩ := X
  intro H locs ls hW hS hL
  obtain ⟨d, rfl⟩ := d
  subst ho
  exact va_alen (v := Int32.ofInt (N : Int)) x.1 x.2.1 x.2.2.2.2.1.1 (va_P1 (hW.2.1 a _ hT).2) 0 t rfl (ht E.2.1) (Int32.ofInt_eq_ofNat).symm d (h H locs ls hW hS hL)
/-- the cell of an array behind a store -/
theorem garr_st {cA : ClassId} {N j : Nat} {f : Nat → Value} {v : Value} {i : Int} (h0 : 0 ≤ i) (hj : j = i.toNat) {g : Nat → Value} (hg : ∀ q : Nat, g q = if (q : Int) = i then v else f q) : (arrV cA N f).setSlot j v = arrV cA N g := by
  rw [arrV_store]
  congr 1
  funext q
  rw [hg q]
  unfold updV
  by_cases e : q = j
  · rw [if_pos e, if_pos (by omega)]
  · rw [if_neg e, if_neg (by omega)]
theorem G_iast {a N : Nat} {i z : Int} {o : Option Nat} (x : Ok X cc own) (d : Dc cc pc .iastore 1 q) (ho : o = some a) (hT : T.2 a = some (.inr (0, N))) (h0 : 0 ≤ i) (h1 : i < N) (hi : in32 i) (hz : in32 z) (h : G X q Ls st T (uI I a i z) J O k n) : G X pc Ls (VI z :: VI i :: va_rf o :: st) T I J O k n := by
  obtain ⟨p, l, e, R, s, m, args, below, meth, c, E, Q⟩ := X
  intro H locs ls hW hS hL
  obtain ⟨d, rfl⟩ := d
  subst ho
  have hin : vp_in (Int32.ofInt i) N := i32_vpin h0 h1 hi
  refine W.iast x.1 x.2.1 (hW.arr hT) ((x.2.2.2.2.1.1.2 0 _ rfl).1 N (fun j => .int (Int32.ofInt (I a j)))) (fun q => by cases q) (by show ¬ (_ < 0 ∨ (arrV _ _ _).slots.size ≤ _); rw [arrV_size]; exact hin) rfl rfl d fun H1 e1 e2 e3 => ?_
  refine h H1 _ ls (hW.put hT e2 e3 ?_ (fun b hb j => uI_a hb j) (fun _ _ _ => rfl) (fun _ _ _ => rfl) (uI_r hz hW.2.2.1)) (hS.put e2 e3 (hW.le hT)) hL
  show H1[a]? = some (vp_cell _ _)
  exact e1.trans (congrArg some (garr_st (f := fun (j : Nat) => Value.int (Int32.ofInt (I a (j : Int)))) (g := fun (j : Nat) => Value.int (Int32.ofInt (uI I a i z a (j : Int)))) h0 (i32_clamp h0 hi) (fun q => by
    show Value.int (Int32.ofInt (uI I a i z a (q : Int))) = _
    by_cases e : (q : Int) = i
    · rw [if_pos e, e, uI_s]
    · rw [if_neg e, uI_k e])))
theorem G_zast {a N : Nat} {i z : Int} {o : Option Nat} (x : Ok X cc own) (d : Dc cc pc .bastore 1 q) (ho : o = some a) (hT : T.2 a = some (.inr (1, N))) (h0 : 0 ≤ i) (h1 : i < N) (hi : in32 i) (hz : z = 0 ∨ z = 1) (h : G X q Ls st T (uI I a i z) J O k n) : G X pc Ls (VI z :: VI i :: va_rf o :: st) T I J O k n := by
  obtain ⟨p, l, e, R, s, m, args, below, meth, c, E, Q⟩ := X
  intro H locs ls hW hS hL
  obtain ⟨d, rfl⟩ := d
  subst ho
  have hin : vp_in (Int32.ofInt i) N := i32_vpin h0 h1 hi
  have hnr : narrow .boolean (.int (Int32.ofInt z)) = .int (Int32.ofInt z) := by rcases hz with rfl | rfl <;> rfl
  refine W.zast x.1 x.2.1 (hW.arr hT) ((x.2.2.2.2.1.1.2 1 _ rfl).1 N (fun j => .int (Int32.ofInt (I a j)))) (fun q => by cases q) (by show ¬ (_ < 0 ∨ (arrV _ _ _).slots.size ≤ _); rw [arrV_size]; exact hin) rfl rfl d fun H1 e1 e2 e3 => ?_
  refine h H1 _ ls (hW.put hT e2 e3 ?_ (fun b hb j => uI_a hb j) (fun _ _ _ => rfl) (fun _ _ _ => rfl) (uI_r (by rcases hz with rfl | rfl <;> exact ⟨by decide, by decide⟩) hW.2.2.1)) (hS.put e2 e3 (hW.le hT)) hL
  rw [hnr] at e1
  show H1[a]? = some (vp_cell _ _)
  exact e1.trans (congrArg some (garr_st (f := fun (j : Nat) => Value.int (Int32.ofInt (I a (j : Int)))) (g := fun (j : Nat) => Value.int (Int32.ofInt (uI I a i z a (j : Int)))) h0 (i32_clamp h0 hi) (fun q => by
    show Value.int (Int32.ofInt (uI I a i z a (q : Int))) = _
    by_cases e : (q : Int) = i
    · rw [if_pos e, e, uI_s]
    · rw [if_neg e, uI_k e])))
theorem i32_char {z : Int} (h0 : 0 ≤ z) (h1 : z < 65536) : narrow .char (.int (Int32.ofInt z)) = .int (Int32.ofInt z) ∧ ((Int32.ofInt z).toUInt32 % 65536).toInt32 = Int32.ofInt z := by
  obtain ⟨w, hw⟩ : ∃ w : Nat, z = w := ⟨z.toNat, by omega⟩
  subst hw
  have hw2 : w < 65536 := by omega
  have e0 : Int32.ofInt (w : Int) = Int32.ofNat w := Int32.ofInt_eq_ofNat
  have e1 : ((Int32.ofInt (w : Int)).toUInt32 % 65536).toInt32 = Int32.ofInt (w : Int) := by
    rw [e0]
    have e2 : (Int32.ofNat w).toUInt32 = UInt32.ofNat w := rfl
    rw [e2]
    have e3 : UInt32.ofNat w % 65536 = UInt32.ofNat w := by
      apply UInt32.toNat_inj.mp
      rw [UInt32.toNat_mod]
      show (UInt32.ofNat w).toNat % 65536 = _
      rw [Nat.mod_eq_of_lt]
      rw [UInt32.toNat_ofNat']
      omega
    rw [e3]
    rfl
  refine ⟨?_, e1⟩
  have e4 := vp_nar_char (Int32.ofInt (w : Int))
  unfold vp_nar at e4
  have e5 : (Int32.ofInt (w : Int)).toUInt32.toUInt16.toUInt32.toInt32 = Int32.ofInt (w : Int) := by
    rw [e0]
    have e2 : (Int32.ofNat w).toUInt32 = UInt32.ofNat w := rfl
    rw [e2]
    have e3 : (UInt32.ofNat w).toUInt16.toUInt32 = UInt32.ofNat w := by
      apply UInt32.toNat_inj.mp
      rw [UInt16.toNat_toUInt32, UInt32.toNat_toUInt16, UInt32.toNat_ofNat']
      omega
    rw [e3]
    rfl
  rw [e5] at e4
  have e6 : ∃ y, narrow .char (.int (Int32.ofInt (w : Int))) = .int y := ⟨_, rfl⟩
  obtain ⟨y, hy⟩ := e6
  rw [hy] at e4 ⊢
  have e7 : y = Int32.ofInt (w : Int) := e4
  rw [e7]
theorem G_i2c {a : Int} (x : Ok X cc own) (d : Dc cc pc .i2c 1 q) (h0 : 0 ≤ a) (h1 : a < 65536) (h : G X q Ls (VI a :: st) T I J O k n) : G X pc Ls (VI a :: st) T I J O k n := by
  obtain ⟨p, l, e, R, s, m, args, below, meth, c, E, Q⟩ := X
  intro H locs ls hW hS hL
  obtain ⟨d, rfl⟩ := d
  exact lv_i2c x.1 x.2.1 d (i32_char h0 h1).2 (h H locs ls hW hS hL)
theorem G_cast {a N : Nat} {i z : Int} {o : Option Nat} (x : Ok X cc own) (d : Dc cc pc .castore 1 q) (ho : o = some a) (hT : T.2 a = some (.inr (2, N))) (h0 : 0 ≤ i) (h1 : i < N) (hi : in32 i) (hz0 : 0 ≤ z) (hz1 : z < 65536) (h : G X q Ls st T (uI I a i z) J O k n) : G X pc Ls (VI z :: VI i :: va_rf o :: st) T I J O k n := by
  obtain ⟨p, l, e, R, s, m, args, below, meth, c, E, Q⟩ := X
  intro H locs ls hW hS hL
  obtain ⟨d, rfl⟩ := d
  subst ho
  have hin : vp_in (Int32.ofInt i) N := i32_vpin h0 h1 hi
  refine W.cast x.1 x.2.1 (hW.arr hT) ((x.2.2.2.2.1.1.2 2 _ rfl).1 N (fun j => .int (Int32.ofInt (I a j)))) (fun q => by cases q) (by show ¬ (_ < 0 ∨ (arrV _ _ _).slots.size ≤ _); rw [arrV_size]; exact hin) rfl rfl d fun H1 e1 e2 e3 => ?_
  refine h H1 _ ls (hW.put hT e2 e3 ?_ (fun b hb j => uI_a hb j) (fun _ _ _ => rfl) (fun _ _ _ => rfl) (uI_r (by constructor <;> omega) hW.2.2.1)) (hS.put e2 e3 (hW.le hT)) hL
  rw [(i32_char hz0 hz1).1] at e1
  show H1[a]? = some (vp_cell _ _)
  exact e1.trans (congrArg some (garr_st (f := fun (j : Nat) => Value.int (Int32.ofInt (I a (j : Int)))) (g := fun (j : Nat) => Value.int (Int32.ofInt (uI I a i z a (j : Int)))) h0 (i32_clamp h0 hi) (fun q => by
    show Value.int (Int32.ofInt (uI I a i z a (q : Int))) = _
    by_cases e : (q : Int) = i
    · rw [if_pos e, e, uI_s]
    · rw [if_neg e, uI_k e])))
theorem G_last {a N : Nat} {i : Int} {z : Int64} {o : Option Nat} (x : Ok X cc own) (d : Dc cc pc .lastore 1 q) (ho : o = some a) (hT : T.2 a = some (.inr (3, N))) (h0 : 0 ≤ i) (h1 : i < N) (hi : in32 i) (h : G X q Ls st T I (uJ J a i z) O k n) : G X pc Ls (.long z :: VI i :: va_rf o :: st) T I J O k n := by
  obtain ⟨p, l, e, R, s, m, args, below, meth, c, E, Q⟩ := X
  intro H locs ls hW hS hL
  obtain ⟨d, rfl⟩ := d
  subst ho
  have hin : vp_in (Int32.ofInt i) N := i32_vpin h0 h1 hi
  refine W.last x.1 x.2.1 (hW.arr hT) ((x.2.2.2.2.1.1.2 3 _ rfl).1 N (fun j => .long (J a j))) (fun q => by cases q) (by show ¬ (_ < 0 ∨ (arrV _ _ _).slots.size ≤ _); rw [arrV_size]; exact hin) rfl rfl d fun H1 e1 e2 e3 => ?_
  refine h H1 _ ls (hW.put hT e2 e3 ?_ (fun _ _ _ => rfl) (fun b hb j => uJ_a hb j) (fun _ _ _ => rfl) hW.2.2.1) (hS.put e2 e3 (hW.le hT)) hL
  show H1[a]? = some (vp_cell _ _)
  exact e1.trans (congrArg some (garr_st (f := fun (j : Nat) => Value.long (J a (j : Int))) (g := fun (j : Nat) => Value.long (uJ J a i z a (j : Int))) h0 (i32_clamp h0 hi) (fun q => by
    show Value.long (uJ J a i z a (q : Int)) = _
    by_cases e : (q : Int) = i
    · rw [if_pos e, e, uJ_s]
    · rw [if_neg e, uJ_k e])))
theorem G_aast {a N t ci b : Nat} {i : Int} {o z : Option Nat} (x : Ok X cc own) (d : Dc cc pc .aastore 1 q) (ho : o = some a) (hT : T.2 a = some (.inr (t + 4, N))) (ht : ∀ kA, (gtys kA)[t + 4]? = some (kA (t + 4), .object (gRn ci))) (hc : vwCl[ci]? = some (gRn ci, gTb ci, gN ci)) (hz : z = some b) (hb : T.2 b = some (.inl ci)) (h0 : 0 ≤ i) (h1 : i < N) (hi : in32 i) (h : G X q Ls st T I J (uO O a i (some b)) k n) : G X pc Ls (va_rf z :: VI i :: va_rf o :: st) T I J O k n := by
  obtain ⟨p, l, e, R, s, m, args, below, meth, c, E, Q⟩ := X
  intro H locs ls hW hS hL
  obtain ⟨d, rfl⟩ := d
  subst ho
  subst hz
  have hin : vp_in (Int32.ofInt i) N := i32_vpin h0 h1 hi
  have hlt : (Int32.ofInt i).toNatClampNeg < N := Nat.not_le.mp fun q => hin (Or.inr q)
  have hn0 : ¬ Int32.ofInt i < 0 := fun q => hin (Or.inl q)
  have hK := x.2.2.2.2.1.1
  obtain ⟨r', hr', cellV, g1, g2, g3, -⟩ := (hW.2.1 b _ hb).2
  have hcls := (hK.1 ci _ hc).2
  obtain ⟨kA, comp, k1, k2, k3, -⟩ := (hK.2 (t + 4) _ (ht E.2.1)).2
  have hcomp : comp = E.1.1 ci := Option.some.inj (k3.symm.trans hcls.1)
  subst hcomp
  obtain ⟨kC, hkC, -⟩ := hcls.2
  refine W.aast x.1 x.2.1 (hW.arr hT) (fun q h => by cases h) (fun h => by cases h) k1 k2 rfl hkC ⟨hn0, by show _ < (arrV _ _ _).slots.size; rw [arrV_size]; exact hlt⟩ g1 (fun q h => by rw [g3] at h; cases h) (by rw [g2]; exact hkC) (by rw [g2]; exact va_assign hcls) rfl rfl d fun H1 e1 e2 e3 => ?_
  refine h H1 _ ls (hW.put hT e2 e3 ?_ (fun _ _ _ => rfl) (fun _ _ _ => rfl) (fun b hb j => uO_a hb j) hW.2.2.1) (hS.put e2 e3 (hW.le hT)) hL
  show H1[a]? = some (vp_cell _ _)
  exact e1.trans (congrArg some (garr_st (f := fun (j : Nat) => va_rf (O a (j : Int))) (g := fun (j : Nat) => va_rf (uO O a i (some b) a (j : Int))) h0 (i32_clamp h0 hi) (fun q => by
    show va_rf (uO O a i (some b) a (q : Int)) = _
    by_cases e : (q : Int) = i
    · rw [if_pos e, e, uO_s]; rfl
    · rw [if_neg e, uO_k e])))
theorem G_aastN {a N t : Nat} {C : String} {i : Int} {o z : Option Nat} (x : Ok X cc own) (d : Dc cc pc .aastore 1 q) (ho : o = some a) (hT : T.2 a = some (.inr (t + 4, N))) (ht : ∀ kA, (gtys kA)[t + 4]? = some (kA (t + 4), .object C)) (hz : z = none) (h0 : 0 ≤ i) (h1 : i < N) (hi : in32 i) (h : G X q Ls st T I J (uO O a i none) k n) : G X pc Ls (va_rf z :: VI i :: va_rf o :: st) T I J O k n := by
  obtain ⟨p, l, e, R, s, m, args, below, meth, c, E, Q⟩ := X
  intro H locs ls hW hS hL
  obtain ⟨d, rfl⟩ := d
  subst ho
  subst hz
  have hin : vp_in (Int32.ofInt i) N := i32_vpin h0 h1 hi
  refine va_WaastN (C := C) x.1 x.2.1 (hW.arr hT) ((x.2.2.2.2.1.1.2 (t + 4) _ (ht E.2.1)).1 N (fun j => va_rf (O a j))) (fun h => by cases h) (by show ¬ (_ < 0 ∨ (arrV _ _ _).slots.size ≤ _); rw [arrV_size]; exact hin) rfl rfl d fun H1 e1 e2 e3 => ?_
  refine h H1 _ ls (hW.put hT e2 e3 ?_ (fun _ _ _ => rfl) (fun _ _ _ => rfl) (fun b hb j => uO_a hb j) hW.2.2.1) (hS.put e2 e3 (hW.le hT)) hL
  show H1[a]? = some (vp_cell _ _)
  exact e1.trans (congrArg some (garr_st (f := fun (j : Nat) => va_rf (O a (j : Int))) (g := fun (j : Nat) => va_rf (uO O a i none a (j : Int))) h0 (i32_clamp h0 hi) (fun q => by
    show va_rf (uO O a i none a (q : Int)) = _
    by_cases e : (q : Int) = i
    · rw [if_pos e, e, uO_s]; rfl
    · rw [if_neg e, uO_k e])))
end GA
