def gpush (T : gT) (ty : gTy) : gT := (T.1 + 1, fun q => if q = T.1 then some ty else T.2 q)
theorem gpush_s {T : gT} {ty : gTy} : (gpush T ty).2 T.1 = some ty := by simp [gpush]
theorem gpush_o {T : gT} {ty : gTy} {a : Nat} {t : gTy} (h : T.2 a = some t) (ha : a < T.1) : (gpush T ty).2 a = some t := by
  simp only [gpush]
  rw [if_neg (by omega)]
  exact h
/-- what a method says that answers r and leaves these cells -/
def pv (r : Option Value) (T : gT) (I : gI) (J : gJ) (O : gO) : gP := fun v T' I' J' O' => v = r ∧ T' = T ∧ I' = I ∧ J' = J ∧ O' = O
theorem pv_i {r : Option Value} {T : gT} {I : gI} {J : gJ} {O : gO} : pv r T I J O r T I J O := ⟨rfl, rfl, rfl, rfl, rfl⟩
section GN
variable {X : gX} {cc : ByteArray} {own : String} {pc q : Nat} {Ls : List (Option Value)} {st : List Value} {T : gT} {I : gI} {J : gJ} {O : gO} {k n mc ms : Nat} {P : gP}
theorem G_callSp {idx np fr lo fr0 lo0 mc0 ms0 : Nat} {y : MethodName} {cy : ByteArray} {maxL : Nat} {ret : Option FieldType} {as rest : List Value} {r : Value} {T1 : gT} {I1 : gI} {J1 : gJ} {O1 : gO} (x : Ok X cc own) (d : Dc cc pc (.invokestatic idx) 3 q) (L : Lk own idx y cy maxL ret np) (hst : Cond.static y ∈ gtb) (rm : gRm X fr0 lo0 mc0 ms0)
    (C : Ct y cy maxL ret as fr lo mc ms T I J O (pv (some r) T1 I1 J1 O1)) (kk : G X q Ls (r :: rest) T1 I1 J1 O1 (k + mc) (n + ms)) (hr : rest.length ≤ 4 := by exact Nat.le_of_ble_eq_true rfl) (hstk : st = as.reverse ++ rest := by rfl) (hn : as.length = np := by rfl) (hfr : fr + 1 ≤ fr0 := by exact Nat.le_of_ble_eq_true rfl) (hlo : 8 + (maxL + 11) + lo ≤ lo0 := by exact Nat.le_of_ble_eq_true rfl) (hmc : k + mc ≤ mc0 := by omega) (hms : n + ms ≤ ms0 := by omega) : G X pc Ls st T I J O k n :=
  G_callS x d L hst rm hr hstk hn hfr hlo hmc hms C (fun v T' I' J' O' hp => by obtain ⟨rfl, rfl, rfl, rfl, rfl⟩ := hp; exact kk)
theorem G_callVp {idx np fr lo fr0 lo0 mc0 ms0 ci a : Nat} {y : MethodName} {cy : ByteArray} {maxL : Nat} {ret : Option FieldType} {o : Option Nat} {as rest : List Value} {r : Value} {T1 : gT} {I1 : gI} {J1 : gJ} {O1 : gO} (x : Ok X cc own) (d : Dc cc pc (.invokevirtual idx) 3 q) (L : Lk own idx y cy maxL ret np) (hin : Cond.instanceMethod y ∈ gtb ∧ Cond.selects y.cls y y ∈ gtb) (ho : o = some a) (hT : T.2 a = some (.inl ci)) (hc : vwCl[ci]? = some (y.cls, gTb ci, gN ci)) (rm : gRm X fr0 lo0 mc0 ms0)
    (C : Ct y cy maxL ret (va_rf o :: as) fr lo mc ms T I J O (pv (some r) T1 I1 J1 O1)) (kk : G X q Ls (r :: rest) T1 I1 J1 O1 (k + mc) (n + ms)) (hr : rest.length ≤ 4 := by exact Nat.le_of_ble_eq_true rfl) (hstk : st = as.reverse ++ va_rf o :: rest := by rfl) (hn : as.length = np := by rfl) (hfr : fr + 1 ≤ fr0 := by exact Nat.le_of_ble_eq_true rfl) (hlo : 8 + (maxL + 11) + lo ≤ lo0 := by exact Nat.le_of_ble_eq_true rfl) (hmc : k + mc ≤ mc0 := by omega) (hms : n + ms ≤ ms0 := by omega) : G X pc Ls st T I J O k n :=
  G_callV x d L hin ho hT hc rm hr hstk hn hfr hlo hmc hms C (fun v T' I' J' O' hp => by obtain ⟨rfl, rfl, rfl, rfl, rfl⟩ := hp; exact kk)
theorem G_callVv {idx np fr lo fr0 lo0 mc0 ms0 ci a : Nat} {y : MethodName} {cy : ByteArray} {maxL : Nat} {ret : Option FieldType} {o : Option Nat} {as rest : List Value} {T1 : gT} {I1 : gI} {J1 : gJ} {O1 : gO} (x : Ok X cc own) (d : Dc cc pc (.invokevirtual idx) 3 q) (L : Lk own idx y cy maxL ret np) (hin : Cond.instanceMethod y ∈ gtb ∧ Cond.selects y.cls y y ∈ gtb) (ho : o = some a) (hT : T.2 a = some (.inl ci)) (hc : vwCl[ci]? = some (y.cls, gTb ci, gN ci)) (rm : gRm X fr0 lo0 mc0 ms0)
    (C : Ct y cy maxL ret (va_rf o :: as) fr lo mc ms T I J O (pv none T1 I1 J1 O1)) (kk : G X q Ls rest T1 I1 J1 O1 (k + mc) (n + ms)) (hr : rest.length ≤ 4 := by exact Nat.le_of_ble_eq_true rfl) (hstk : st = as.reverse ++ va_rf o :: rest := by rfl) (hn : as.length = np := by rfl) (hfr : fr + 1 ≤ fr0 := by exact Nat.le_of_ble_eq_true rfl) (hlo : 8 + (maxL + 11) + lo ≤ lo0 := by exact Nat.le_of_ble_eq_true rfl) (hmc : k + mc ≤ mc0 := by omega) (hms : n + ms ≤ ms0 := by omega) : G X pc Ls st T I J O k n :=
  G_callV x d L hin ho hT hc rm hr hstk hn hfr hlo hmc hms C (fun v T' I' J' O' hp => by obtain ⟨rfl, rfl, rfl, rfl, rfl⟩ := hp; exact kk)
/-- a new object -/
theorem gWd.new {E : gD} {H H1 : Heap} {ty : gTy} (h : gWd E T I J O H) (hE : E.2.2 ≤ H.size) (hz : H1.size = H.size + 1) (hq : ∀ q : Nat, q < H.size → H1[q]? = H[q]?) (hc : va_at E.1 vwCl (T.1, gcel E.2.1 ty I J O T.1) H1) : gWd E (gpush T ty) I J O H1 := by
  refine ⟨by rw [hz, h.1]; rfl, fun a t ha => ?_, h.2.2.1, fun a k9 ha => h.2.2.2 a k9 (by simp only [gpush] at ha; omega)⟩
  simp only [gpush] at ha
  by_cases e : a = T.1
  · rw [if_pos e] at ha
    cases ha
    subst e
    exact ⟨by rw [← h.1]; exact hE, hc⟩
  · rw [if_neg e] at ha
    have h2 := h.2.1 a t ha
    exact ⟨h2.1, h2.2.kept (hq a h2.2.lt)⟩
theorem gK_def (t : FieldType) (ht : t = .int ∨ t = .boolean ∨ t = .long ∨ (∃ c, t = .object c) ∨ ∃ c, t = .array c) : defaultValue t = gVk (gK t) 0 0 none := by
  rcases ht with rfl | rfl | rfl | ⟨c, rfl⟩ | ⟨c, rfl⟩ <;> rfl
theorem G_new {idx ci fr0 lo0 mc0 ms0 : Nat} (x : Ok X cc own) (d : Dc cc pc (.new idx) 3 q) (hl : Cond.classLink own idx (gRn ci) ∈ gtb) (hi : Cond.instantiable (gRn ci) (gN ci) ∈ gtb) (hini : Cond.initialized (gRn ci) ∈ gtb) (hc : vwCl[ci]? = some (gRn ci, gTb ci, gN ci)) (hdf : ∀ j, j < gN ci → defaultValue (gty ci j) = gVk (gK (gty ci j)) 0 0 none) (rm : gRm X fr0 lo0 mc0 ms0) (hmc : k + 1 ≤ mc0) (hms : n + gN ci ≤ ms0)
    (h : (∀ j, I T.1 j = 0) → (∀ j, J T.1 j = 0) → (∀ j, O T.1 j = none) → G X q Ls (va_rf (some T.1) :: st) (gpush T (.inl ci)) I J O (k + 1) (n + gN ci)) : G X pc Ls st T I J O k n := by
  obtain ⟨p, l, e, R, s, m, args, below, meth, c, E, Q⟩ := X
  intro H locs ls hW hS hL
  obtain ⟨d, rfl⟩ := d
  have hR : R = { frames := fr0, cells := mc0, slots := ms0, locals := lo0 } := rm
  subst hR
  have hts := x.2.2.2.1
  have hKn := x.2.2.2.2.1.1.1 ci _ hc
  have hnE : E.2.2 ≤ H.size := Nat.le_trans x.2.2.2.2.2.1 hS.1
  have hz0 := hW.2.2.2
  refine W.newcK x.1 x.2.1 x.2.2.1 (hts _ hl) (hts _ hi) (hts _ hini) rfl d hmc hms hKn.2.1 hW.1 fun H1 kC hkC e1 z1 o1 => ?_
  have o2 : ∀ q : Nat, q < H.size → H1[q]? = H[q]? := fun q hq => o1 q (by rw [← hW.1]; exact hq)
  refine h (fun j => (hz0 _ j (Nat.le_refl _)).1) (fun j => (hz0 _ j (Nat.le_refl _)).2.1) (fun j => (hz0 _ j (Nat.le_refl _)).2.2) H1 locs ls (hW.new hnE (by rw [z1, hW.1]) o2 ?_) ⟨Nat.le_trans hS.1 (by rw [z1, hW.1]; omega), fun y h1 h2 => (o2 y (Nat.lt_of_lt_of_le h1 hS.1)).trans (hS.2.1 y h1 h2), hS.2.2⟩ hL
  refine ⟨_, hc, (u_born (gty ci) hts (gin ci) hKn hkC e1 (gtyOk ci)).to (fun j hj => ?_)⟩
  show defaultValue (gty ci j) = vp_V (gfs ci I J O T.1) j
  simp only [vp_V, List.getD_eq_getElem?_getD, gfs_at I J O T.1 hj, Option.getD_some]
  rw [(hz0 T.1 (j : Int) (Nat.le_refl _)).1, (hz0 T.1 (j : Int) (Nat.le_refl _)).2.1, (hz0 T.1 (j : Int) (Nat.le_refl _)).2.2, hdf j hj]
/-- a new array of numbers -/
theorem G_newa {t N fr0 lo0 mc0 ms0 : Nat} {atype : ArrayType} {z : Int} (x : Ok X cc own) (d : Dc cc pc (.newarray atype) 2 q) (ha : Cond.arrayClass (newarray.typeOf atype) ∈ gtb) (ht : ∀ kA, (gtys kA)[t]? = some (kA t, newarray.typeOf atype)) (hty : newarray.typeOf atype = .int ∨ newarray.typeOf atype = .boolean ∨ newarray.typeOf atype = .char ∨ newarray.typeOf atype = .long) (hcel : ∀ (kA : Nat → ClassId) (a : Nat), I a = (fun _ => 0) → J a = (fun _ => 0) → vp_cell (kA t) (N, garr t I J O a) = arrV (kA t) N (fun _ => defaultValue (newarray.typeOf atype)))
    (hz : z = (N : Int)) (hN : N ≤ 100000) (rm : gRm X fr0 lo0 mc0 ms0) (hmc : k + 1 ≤ mc0) (hms : n + N ≤ ms0)
    (h : (∀ j, I T.1 j = 0) → (∀ j, J T.1 j = 0) → (∀ j, O T.1 j = none) → G X q Ls (va_rf (some T.1) :: st) (gpush T (.inr (t, N))) I J O (k + 1) (n + N)) : G X pc Ls (VI z :: st) T I J O k n := by
  obtain ⟨p, l, e, R, s, m, args, below, meth, c, E, Q⟩ := X
  intro H locs ls hW hS hL
  obtain ⟨d, rfl⟩ := d
  have hR : R = { frames := fr0, cells := mc0, slots := ms0, locals := lo0 } := rm
  subst hR
  subst hz
  have hts := x.2.2.2.1
  have hnE : E.2.2 ≤ H.size := Nat.le_trans x.2.2.2.2.2.1 hS.1
  have hz0 := hW.2.2.2
  have hin : in32 (N : Int) := by constructor <;> omega
  refine va_newaK (n := Int32.ofInt (N : Int)) x.1 x.2.1 (hts _ ha) rfl d rfl (fun q => by have := (i32_lt (y := 0) hin ⟨by decide, by decide⟩).mp q; omega) (N := N) (by rw [i32_clamp (by omega) hin]; omega) ?_ hmc hms hW.1 fun H1 cA e1 z1 o1 hAr hNm => ?_
  · have hb : componentBytes (newarray.typeOf atype) ≤ 8 := by rcases hty with e | e | e | e <;> rw [e] <;> decide
    exact Nat.le_trans (Nat.mul_le_mul hN hb) (by decide)
  have hcA : cA = E.2.1 t := by
    have h1 := (x.2.2.2.2.1.1.2 t _ (ht E.2.1)).2
    have h2 : s.vm.findClass ("[" ++ (newarray.typeOf atype).toString) = some (E.2.1 t) := by
      revert h1
      rcases hty with e | e | e | e <;> rw [e] <;> exact fun h1 => h1
    exact Option.some.inj (hNm.symm.trans h2)
  have o2 : ∀ q : Nat, q < H.size → H1[q]? = H[q]? := fun q hq => o1 q (by rw [← hW.1]; exact hq)
  refine h (fun j => (hz0 _ j (Nat.le_refl _)).1) (fun j => (hz0 _ j (Nat.le_refl _)).2.1) (fun j => (hz0 _ j (Nat.le_refl _)).2.2) H1 locs ls (hW.new hnE (by rw [z1, hW.1]) o2 ?_) ⟨Nat.le_trans hS.1 (by rw [z1, hW.1]; omega), fun y h1 h2 => (o2 y (Nat.lt_of_lt_of_le h1 hS.1)).trans (hS.2.1 y h1 h2), hS.2.2⟩ hL
  show H1[T.1]? = some (vp_cell (E.2.1 t) (N, garr t I J O T.1))
  rw [hcel E.2.1 T.1 (funext fun j => (hz0 T.1 j (Nat.le_refl _)).1) (funext fun j => (hz0 T.1 j (Nat.le_refl _)).2.1), ← hcA]
  exact e1
/-- a new array of references -/
theorem G_anew {idx t N fr0 lo0 mc0 ms0 : Nat} {C : String} {z : Int} (x : Ok X cc own) (d : Dc cc pc (.anewarray idx) 3 q) (hl : Cond.classLink own idx C ∈ gtb) (ha : ∀ p l e R s m args below meth c E Q, X = (p, l, e, R, s, m, args, below, meth, c, E, Q) → va_AO C s) (ht : ∀ kA, (gtys kA)[t + 4]? = some (kA (t + 4), .object C))
    (hz : z = (N : Int)) (hN : N ≤ 100000) (rm : gRm X fr0 lo0 mc0 ms0) (hmc : k + 1 ≤ mc0) (hms : n + N ≤ ms0)
    (h : (∀ j, I T.1 j = 0) → (∀ j, J T.1 j = 0) → (∀ j, O T.1 j = none) → G X q Ls (va_rf (some T.1) :: st) (gpush T (.inr (t + 4, N))) I J O (k + 1) (n + N)) : G X pc Ls (VI z :: st) T I J O k n := by
  obtain ⟨p, l, e, R, s, m, args, below, meth, c, E, Q⟩ := X
  intro H locs ls hW hS hL
  obtain ⟨d, rfl⟩ := d
  have hR : R = { frames := fr0, cells := mc0, slots := ms0, locals := lo0 } := rm
  subst hR
  subst hz
  have hts := x.2.2.2.1
  have hnE : E.2.2 ≤ H.size := Nat.le_trans x.2.2.2.2.2.1 hS.1
  have hz0 := hW.2.2.2
  have hin : in32 (N : Int) := by constructor <;> omega
  have hcl : (Int32.ofInt (N : Int)).toNatClampNeg = N := by rw [i32_clamp (by omega) hin]; omega
  refine W.anew (n := Int32.ofInt (N : Int)) x.1 x.2.1 x.2.2.1 (hts _ hl) (va_AO.use (ha _ _ _ _ _ _ _ _ _ _ _ _ rfl)) rfl d rfl (fun q => by have := (i32_lt (y := 0) hin ⟨by decide, by decide⟩).mp q; omega) ?_ hmc (by rw [hcl]; exact hms) fun cA kA comp f1 f2 f3 f4 => ?_
  · rw [hcl]; omega
  have hcA : cA = E.2.1 (t + 4) := by
    obtain ⟨_, _, _, _, _, h1⟩ := (x.2.2.2.2.1.1.2 (t + 4) _ (ht E.2.1)).2
    exact Option.some.inj (f1.symm.trans h1)
  rw [hcl]
  obtain ⟨H1, hH1⟩ : ∃ H1, H1 = H.push ({ cls := cA, slots := Array.replicate N .null, vm := .none } : Cell) := ⟨_, rfl⟩
  rw [← hH1]
  have o2 : ∀ q : Nat, q < H.size → H1[q]? = H[q]? := fun q hq => by rw [hH1, Array.getElem?_push, if_neg (Nat.ne_of_lt hq)]
  have z1 : H1.size = H.size + 1 := by rw [hH1]; simp
  have e1 : H1[T.1]? = some (vp_cell (E.2.1 (t + 4)) (N, garr (t + 4) I J O T.1)) := by
    rw [hH1, ← hW.1, Array.getElem?_push, if_pos rfl, hcA]
    congr 1
    show _ = arrV (E.2.1 (t + 4)) N (fun j => va_rf (O H.size j))
    have e9 : (fun j : Nat => va_rf (O H.size j)) = fun _ => Value.null := funext fun j => by rw [hW.1, (hz0 T.1 (j : Int) (Nat.le_refl _)).2.2]; rfl
    rw [e9, ← arrV_new]
  have hg := h (fun j => (hz0 _ j (Nat.le_refl _)).1) (fun j => (hz0 _ j (Nat.le_refl _)).2.1) (fun j => (hz0 _ j (Nat.le_refl _)).2.2) H1 locs ls (hW.new hnE z1 o2 e1) ⟨Nat.le_trans hS.1 (by rw [z1]; omega), fun y h1 h2 => (o2 y (Nat.lt_of_lt_of_le h1 hS.1)).trans (hS.2.1 y h1 h2), hS.2.2⟩ hL
  rw [hW.1]
  exact hg
end GN
