/-! A small program logic over the kit's rows: numbers are integers, the cells are four maps (kinds, ints, longs, references) by address and place. -/
abbrev gTy : Type := Nat ⊕ (Nat × Nat)
abbrev gT : Type := Nat × (Nat → Option gTy)
abbrev gI : Type := Nat → Int → Int
abbrev gJ : Type := Nat → Int → Int64
abbrev gO : Type := Nat → Int → Option Nat
abbrev in32 (z : Int) : Prop := -2147483648 ≤ z ∧ z ≤ 2147483647
def VI (z : Int) : Value := .int (Int32.ofInt z)
theorem i32_toInt {z : Int} (h : in32 z) : (Int32.ofInt z).toInt = z := Int32.toInt_ofInt_of_le (by have := h.1; omega) (by have := h.2; omega)
theorem i32_lt {x y : Int} (hx : in32 x) (hy : in32 y) : Int32.ofInt x < Int32.ofInt y ↔ x < y := by rw [Int32.lt_iff_toInt_lt, i32_toInt hx, i32_toInt hy]
theorem i32_le {x y : Int} (hx : in32 x) (hy : in32 y) : Int32.ofInt x ≤ Int32.ofInt y ↔ x ≤ y := by rw [Int32.le_iff_toInt_le, i32_toInt hx, i32_toInt hy]
theorem i32_eq {x y : Int} (hx : in32 x) (hy : in32 y) : Int32.ofInt x = Int32.ofInt y ↔ x = y := by
  constructor
  · intro h
    rw [← i32_toInt hx, ← i32_toInt hy, h]
  · intro h
    rw [h]
theorem i32_zero : (0 : Int32) = Int32.ofInt 0 := rfl
theorem i32_self (v : Int32) : Int32.ofInt v.toInt = v := Int32.ofInt_toInt v
theorem i32_in (v : Int32) : in32 v.toInt := ⟨by have := Int32.le_toInt v; omega, by have := Int32.toInt_lt v; omega⟩
theorem VI_of (v : Int32) : Value.int v = VI v.toInt := by rw [VI, i32_self]
theorem i32_clamp {z : Int} (h0 : 0 ≤ z) (h : in32 z) : (Int32.ofInt z).toNatClampNeg = z.toNat := by
  rw [Int32.toNatClampNeg, i32_toInt h]
theorem i32_vpin {z : Int} {n : Nat} (h0 : 0 ≤ z) (h1 : z < n) (h : in32 z) : vp_in (Int32.ofInt z) n := vp_in_iff.mpr (by rw [i32_toInt h]; exact ⟨h0, h1⟩)
def gty (ci : Nat) : Nat → FieldType := match ci with
  | 0 => tyX0
  | 1 => tyX1
  | 2 => tyX2
  | 3 => tyX3
  | 4 => tyX4
  | 5 => tyX5
  | 6 => tyX6
  | 7 => tyX7
  | 8 => tyX8
  | 9 => tyX9
  | 10 => tyX10
  | _ => tyX11
def gTb (ci : Nat) : u_T := match ci with
  | 0 => TX0
  | 1 => TX1
  | 2 => TX2
  | 3 => TX3
  | 4 => TX4
  | 5 => TX5
  | 6 => TX6
  | 7 => TX7
  | 8 => TX8
  | 9 => TX9
  | 10 => TX10
  | _ => TX11
def gRn (ci : Nat) : String := match ci with
  | 0 => RX0
  | 1 => RX1
  | 2 => RX2
  | 3 => RX3
  | 4 => RX4
  | 5 => RX5
  | 6 => RX6
  | 7 => RX7
  | 8 => RX8
  | 9 => RX9
  | 10 => RX10
  | _ => RX11
def gN (ci : Nat) : Nat := match ci with
  | 0 => 12
  | 1 => 1
  | 2 => 3
  | 3 => 1
  | 4 => 7
  | 5 => 7
  | 6 => 3
  | 7 => 2
  | 8 => 9
  | 9 => 2
  | 10 => 4
  | _ => 31
def gK (t : FieldType) : Nat := match t with
  | .int => 0
  | .boolean => 0
  | .long => 1
  | _ => 2
def gVk (k : Nat) (i : Int) (j : Int64) (o : Option Nat) : Value := match k with
  | 0 => VI i
  | 1 => .long j
  | _ => va_rf o
def gfs (ci : Nat) (I : gI) (J : gJ) (O : gO) (a : Nat) : List Value := (List.range (gN ci)).map (fun (k : Nat) => gVk (gK (gty ci k)) (I a k) (J a k) (O a k))
def garr (t : Nat) (I : gI) (J : gJ) (O : gO) (a : Nat) : (Nat → Int32) ⊕ (Nat → Int64) ⊕ (Nat → UInt32) ⊕ (Nat → UInt64) ⊕ (Nat → Option Nat) := match t with
  | 0 => .inl (fun k => Int32.ofInt (I a k))
  | 1 => .inl (fun k => Int32.ofInt (I a k))
  | 2 => .inl (fun k => Int32.ofInt (I a k))
  | 3 => .inr (.inl (fun k => J a k))
  | _ => .inr (.inr (.inr (.inr (fun k => O a k))))
def gAt (t : Nat) : FieldType := match t with
  | 0 => .int
  | 1 => .boolean
  | 2 => .char
  | 3 => .long
  | 4 => .object RX8
  | 5 => .object RX5
  | _ => .object RX3
abbrev gtys (kA : Nat → ClassId) : List (ClassId × FieldType) := [(kA 0, .int), (kA 1, .boolean), (kA 2, .char), (kA 3, .long), (kA 4, .object RX8), (kA 5, .object RX5), (kA 6, .object RX3)]
def gcel (kA : Nat → ClassId) (ty : gTy) (I : gI) (J : gJ) (O : gO) (a : Nat) : va_E := match ty with
  | .inl ci => .inr (ci, gfs ci I J O a)
  | .inr q => .inl (kA q.1, q.2, garr q.1 I J O a)
/-- D, the array classes, where the system's cells begin -/
abbrev gD : Type := va_G × (Nat → ClassId) × Nat
def gWd (E : gD) (T : gT) (I : gI) (J : gJ) (O : gO) (H : Heap) : Prop :=
  H.size = T.1 ∧ (∀ (a : Nat) (ty : gTy), T.2 a = some ty → E.2.2 ≤ a ∧ va_at E.1 vwCl (a, gcel E.2.1 ty I J O a) H) ∧ (∀ a k, in32 (I a k)) ∧ ∀ a k, T.1 ≤ a → I a k = 0 ∧ J a k = 0 ∧ O a k = none
def uI (I : gI) (a : Nat) (k x : Int) : gI := fun b j => if b = a ∧ j = k then x else I b j
def uJ (J : gJ) (a : Nat) (k : Int) (x : Int64) : gJ := fun b j => if b = a ∧ j = k then x else J b j
def uO (O : gO) (a : Nat) (k : Int) (x : Option Nat) : gO := fun b j => if b = a ∧ j = k then x else O b j
theorem gcel_ne {kA : Nat → ClassId} {ty : gTy} {I I' : gI} {J J' : gJ} {O O' : gO} {a : Nat} (hI : ∀ k, I' a k = I a k) (hJ : ∀ k, J' a k = J a k) (hO : ∀ k, O' a k = O a k) : gcel kA ty I' J' O' a = gcel kA ty I J O a := by
  cases ty with
  | inl ci => simp only [gcel, gfs, hI, hJ, hO]
  | inr q =>
    obtain ⟨t, n⟩ := q
    simp only [gcel, garr, hI, hJ, hO]
/-- a cell is written: the others stay -/
theorem gWd.put {E : gD} {T : gT} {I I' : gI} {J J' : gJ} {O O' : gO} {H H1 : Heap} {a : Nat} {ty : gTy} (h : gWd E T I J O H) (ha : T.2 a = some ty) (hz : H1.size = H.size) (hq : ∀ q : Nat, q ≠ a → H1[q]? = H[q]?)
    (hc : va_at E.1 vwCl (a, gcel E.2.1 ty I' J' O' a) H1) (hI : ∀ b, b ≠ a → ∀ k, I' b k = I b k) (hJ : ∀ b, b ≠ a → ∀ k, J' b k = J b k) (hO : ∀ b, b ≠ a → ∀ k, O' b k = O b k) (hr : ∀ a k, in32 (I' a k)) : gWd E T I' J' O' H1 := by
  have hlt : a < T.1 := by rw [← h.1]; exact (h.2.1 a ty ha).2.lt
  refine ⟨hz.trans h.1, fun b tb hb => ⟨(h.2.1 b tb hb).1, ?_⟩, hr, fun b k hb => ?_⟩
  rotate_left
  · have hne : b ≠ a := by omega
    rw [hI b hne, hJ b hne, hO b hne]
    exact h.2.2.2 b k hb
  by_cases e : b = a
  · subst e
    cases Option.some.inj (ha.symm.trans hb)
    exact hc
  · rw [gcel_ne (hI b e) (hJ b e) (hO b e)]
    exact (h.2.1 b tb hb).2.kept (hq b e)
theorem gWd.eqv {E : gD} {T : gT} {I : gI} {J : gJ} {O : gO} {H H1 : Heap} (h : gWd E T I J O H) (e : H1 = H) : gWd E T I J O H1 := by rw [e]; exact h
/-- the words that a caller hands on: those of the tables that no step undoes -/
def gtb : List Cond := lw_tbl.filter goodWord
def gxk (w : Cond) : Bool := match w with
  | .methodLinkNest .. => true
  | .declares .. => true
  | .castable .. => true
  | _ => false
def gxw : List Cond := lw_tbl.filter gxk
def gstr : List (Nat × String) := [(265, "no such replica"), (268, "no such position"), (67, "no further line can be made here"), (274, "the log is full"), (80, "no room between the lines"), (270, "the argument is out of range"), (111, "the text is no formula at this replica"), (149, "the cell has no formula"), (272, "it is the same replica"), (231, "the text is full"), (240, "there is no record")]
theorem gxw_warm {w : Cond} (hw : w ∈ gxw) {s U : State} (hW : s.WarmedH U.vm) (h : va_Nw w s) : va_Nw w U := by
  have h1 := (List.mem_filter.mp hw).2
  cases w <;> first | exact va_Nw.warmM hW h | exact va_Nw.warmD hW h | (simp [gxk] at h1; done) | exact va_tabs rfl (rfl : (s.setVm U.vm).vm = U.vm) (by rw [Cond.castable_setVm hW.alike]; exact h)
theorem gxw_same {w : Cond} (hw : w ∈ gxw) {s U : State} (hv : s.vm = U.vm) (h : va_Nw w s) : va_Nw w U := by
  have h1 := (List.mem_filter.mp hw).2
  cases w <;> first | exact va_Nw.same rfl hv h | (simp [gxk] at h1; done)
/-- what every method's start knows of the tables, beside the good words -/
def gE (E : gD) (s : State) (H : Heap) : Prop := va_K E.1 vwCl (gtys E.2.1) s ∧ (∀ w ∈ gxw, va_Nw w s) ∧ (va_AO RX8 s ∧ va_AO RX3 s ∧ va_AO RX5 s) ∧ (∀ q ∈ gstr, ∃ sa, vk_R RX10 q.1 q.2 sa s) ∧
  vx_Zq Bundle.tN "UNASSIGNED_STACK" Bundle.steD (fun q => E.2.2 ≤ q) s H ∧ vx_Zq Bundle.tN "SUPPRESSED_SENTINEL" Bundle.listD (fun q => E.2.2 ≤ q) s H
theorem gE.warm {E : gD} {s U : State} {H : Heap} (hW : s.WarmedH U.vm) (h : gE E s H) : gE E U H := by
  obtain ⟨h1, h2, ⟨h3, h4, h5⟩, h6, h7, h8⟩ := h
  exact ⟨va_K.moved hW.alike h1, fun w hw => gxw_warm hw hW (h2 w hw), ⟨h3.moved hW.alike, h4.moved hW.alike, h5.moved hW.alike⟩, fun q hq => by obtain ⟨sa, h⟩ := h6 q hq; exact ⟨sa, vk_R.warm hW h⟩, h7.moved hW.alike, h8.moved hW.alike⟩
theorem gE.same {E : gD} {s U : State} {H : Heap} (hv : s.vm = U.vm) (h : gE E s H) : gE E U H := by
  obtain ⟨h1, h2, ⟨h3, h4, h5⟩, h6, h7, h8⟩ := h
  have hal : s.vm.Alike U.vm := by rw [hv]; exact Vm.Alike.refl _
  exact ⟨va_K.moved hal h1, fun w hw => gxw_same hw hv (h2 w hw), ⟨h3.moved hal, h4.moved hal, h5.moved hal⟩, fun q hq => by obtain ⟨sa, h⟩ := h6 q hq; exact ⟨sa, vk_R.same hv.symm h⟩, h7.moved hal, h8.moved hal⟩
theorem gE.kept {E : gD} {s : State} {H H1 : Heap} (h : gE E s H) (hq : ∀ a : Nat, a < H.size → ¬ E.2.2 ≤ a → H1[a]? = H[a]?) : gE E s H1 := by
  obtain ⟨h1, h2, h3, h6, h7, h8⟩ := h
  exact ⟨h1, h2, h3, h6, h7.kept hq, h8.kept hq⟩
