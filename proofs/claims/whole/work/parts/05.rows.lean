def gLs (ls : Array Slot) (nL : Nat) (Ls : List (Option Value)) : Prop := ls.size = nL ∧ lv_wf ls ∧ Ls.length ≤ nL ∧ ∀ (i : Nat) (v : Value), Ls[i]? = some (some v) → ls[i]? = some (.val v)
def prs (Ls : List (Option Value)) : List (Nat × Value) := (List.range Ls.length).filterMap (fun i => match Ls[i]? with
  | some (some v) => some (i, v)
  | _ => none)
theorem prs_mem {Ls : List (Option Value)} {i : Nat} {v : Value} : (i, v) ∈ prs Ls ↔ Ls[i]? = some (some v) := by
  unfold prs
  rw [List.mem_filterMap]
  constructor
  · rintro ⟨j, hj, h⟩
    split at h
    · next w hw =>
      cases h
      exact hw
    · cases h
  · intro h
    refine ⟨i, List.mem_range.mpr (List.getElem?_eq_some_iff.mp h).1, ?_⟩
    rw [h]
theorem gLs.has {ls : Array Slot} {nL : Nat} {Ls : List (Option Value)} (h : gLs ls nL Ls) : lv_has ls nL (prs Ls) := ⟨h.1, h.2.1, fun q hq => h.2.2.2 q.1 q.2 (prs_mem.mp hq)⟩
def gc1 (o : Option Value) : Prop := ∀ w, o = some w → w.category ≠ 2
theorem gc1_n : gc1 none := fun w h => by cases h
theorem gc1_i {z : Int} : gc1 (some (VI z)) := fun w h => by cases h; exact (by decide : (1 : Nat) ≠ 2)
theorem cat_rf (o : Option Nat) : (va_rf o).category = 1 := by cases o <;> rfl
theorem gc1_r {o : Option Nat} : gc1 (some (va_rf o)) := fun w h => by cases h; rw [cat_rf]; decide
/-- behind a store of one word -/
theorem gLs.st1 {ls ls' : Array Slot} {nL i : Nat} {pre r : List (Option Value)} {o : Option Value} {v : Value} (h : gLs ls nL (pre ++ o :: r)) (hi : pre.length = i) (hb : ∀ w, pre.getLast? = some (some w) → w.category ≠ 2)
    (h' : lv_has ls' nL ((i, v) :: (prs (pre ++ o :: r)).filter (fun q => !(q.1 == i) && !(q.1 + 1 == i && q.2.category == 2)))) : gLs ls' nL (pre ++ some v :: r) := by
  refine ⟨h'.1, h'.2.1, by have := h.2.2.1; simpa using this, fun j w hw => ?_⟩
  by_cases hj : j = i
  · subst hj
    subst hi
    rw [List.getElem?_append_right (Nat.le_refl _), Nat.sub_self] at hw
    cases hw
    exact h'.2.2 (_, _) List.mem_cons_self
  · have hold : (pre ++ o :: r)[j]? = some (some w) := by
      rw [← hw]
      rcases Nat.lt_or_ge j pre.length with q | q
      · rw [List.getElem?_append_left q, List.getElem?_append_left q]
      · rw [List.getElem?_append_right q, List.getElem?_append_right q]
        obtain ⟨d, hd⟩ : ∃ d, j - pre.length = d + 1 := ⟨j - pre.length - 1, by omega⟩
        rw [hd, List.getElem?_cons_succ, List.getElem?_cons_succ]
    refine h'.2.2 (j, w) (List.mem_cons_of_mem _ (List.mem_filter.mpr ⟨prs_mem.mpr hold, ?_⟩))
    simp only [Bool.and_eq_true, Bool.not_eq_true', beq_eq_false_iff_ne, ne_eq, Bool.and_eq_false_iff]
    refine ⟨hj, ?_⟩
    by_cases hj1 : j + 1 = i
    · right
      have hlt : j < pre.length := by omega
      rw [List.getElem?_append_left hlt] at hold
      have hl : pre.getLast? = some (some w) := by
        rw [List.getLast?_eq_getElem?, ← hold]
        congr 1
        omega
      have := hb w hl
      simpa using this
    · left
      exact hj1
/-- behind a store of two words -/
theorem gLs.st2 {ls ls' : Array Slot} {nL i : Nat} {pre r : List (Option Value)} {o o2 : Option Value} {v : Value} (h : gLs ls nL (pre ++ o :: o2 :: r)) (hi : pre.length = i) (hb : ∀ w, pre.getLast? = some (some w) → w.category ≠ 2)
    (h' : lv_has ls' nL ((i, v) :: (prs (pre ++ o :: o2 :: r)).filter (fun q => !(q.1 == i) && (!(q.1 == i + 1) && !(q.1 + 1 == i && q.2.category == 2))))) : gLs ls' nL (pre ++ some v :: none :: r) := by
  refine ⟨h'.1, h'.2.1, by have := h.2.2.1; simpa using this, fun j w hw => ?_⟩
  by_cases hj : j = i
  · subst hj
    subst hi
    rw [List.getElem?_append_right (Nat.le_refl _), Nat.sub_self] at hw
    cases hw
    exact h'.2.2 (_, _) List.mem_cons_self
  · by_cases hj2 : j = i + 1
    · subst hj2
      subst hi
      rw [List.getElem?_append_right (by omega), show pre.length + 1 - pre.length = 1 by omega] at hw
      cases hw
    · have hold : (pre ++ o :: o2 :: r)[j]? = some (some w) := by
        rw [← hw]
        rcases Nat.lt_or_ge j pre.length with q | q
        · rw [List.getElem?_append_left q, List.getElem?_append_left q]
        · rw [List.getElem?_append_right q, List.getElem?_append_right q]
          obtain ⟨d, hd⟩ : ∃ d, j - pre.length = d + 2 := ⟨j - pre.length - 2, by omega⟩
          rw [hd, List.getElem?_cons_succ, List.getElem?_cons_succ, List.getElem?_cons_succ, List.getElem?_cons_succ]
      refine h'.2.2 (j, w) (List.mem_cons_of_mem _ (List.mem_filter.mpr ⟨prs_mem.mpr hold, ?_⟩))
      simp only [Bool.and_eq_true, Bool.not_eq_true', beq_eq_false_iff_ne, ne_eq, Bool.and_eq_false_iff]
      refine ⟨hj, hj2, ?_⟩
      by_cases hj1 : j + 1 = i
      · right
        have hlt : j < pre.length := by omega
        rw [List.getElem?_append_left hlt] at hold
        have hl : pre.getLast? = some (some w) := by
          rw [List.getLast?_eq_getElem?, ← hold]
          congr 1
          omega
        have := hb w hl
        simpa using this
      · left
        exact hj1
theorem gLs.lt {ls : Array Slot} {nL i : Nat} {pre r : List (Option Value)} {o : Option Value} (h : gLs ls nL (pre ++ o :: r)) (hi : pre.length = i) : i < nL := by
  have := h.2.2.1
  simp only [List.length_append, List.length_cons] at this
  omega
theorem gLs.lt2 {ls : Array Slot} {nL i : Nat} {pre r : List (Option Value)} {o o2 : Option Value} (h : gLs ls nL (pre ++ o :: o2 :: r)) (hi : pre.length = i) : i + 1 < nL := by
  have := h.2.2.1
  simp only [List.length_append, List.length_cons] at this
  omega
abbrev gX : Type := Program × Launch × Env × Room × State × MethodId × Array Value × List Frame × Method × Code × gD × (State → Prop)
/-- the machine, at pc with these locals, this stack and these cells, comes to the end that X names -/
def G (X : gX) (pc : Nat) (Ls : List (Option Value)) (st : List Value) (T : gT) (I : gI) (J : gJ) (O : gO) (k n : Nat) : Prop :=
  match X with
  | (p, l, e, R, s, m, args, below, meth, c, E, Q) => ∀ (H : Heap) (locs : List Loc) (ls : Array Slot), gWd E T I J O H → va_S (fun q => E.2.2 ≤ q) s.heap H locs → gLs ls c.maxLocals Ls → W p l e R s m args below meth c H locs k n Q (F0 m pc ls st)
/-- what is known in the body of a method: its code, its class, the words -/
def Ok (X : gX) (cc : ByteArray) (own : String) : Prop :=
  match X with
  | (p, l, _, _, s, m, args, _, meth, c, E, _) => p.tables.exec = Jvm.exec ∧ c.code = cc ∧ s.vm.findClass own = some m.cls ∧ (∀ w ∈ gtb, w.before args s = true) ∧ gE E s s.heap ∧ E.2.2 ≤ s.heap.size ∧ meth.locks = false ∧ l.stackTraces = false
def Dc (cc : ByteArray) (pc : Nat) (i : Instr) (len q : Nat) : Prop := decode cc pc = .ok (i, len) ∧ q = pc + len
def Db (cc : ByteArray) (pc : Nat) (f : Int → Instr) (tgt q : Nat) : Prop := ∃ off : Int, decode cc pc = .ok (f off, 3) ∧ (pc : Int) + off = (tgt : Int) ∧ q = pc + 3
def Dk (cc : ByteArray) (pc : Nat) (z : Int) (q : Nat) : Prop := (decode cc pc = .ok (.iconst z, 1) ∧ q = pc + 1) ∨ (decode cc pc = .ok (.bipush z, 2) ∧ (Int8.ofInt z).toInt32 = Int32.ofInt z ∧ q = pc + 2) ∨ (decode cc pc = .ok (.sipush z, 3) ∧ (Int16.ofInt z).toInt32 = Int32.ofInt z ∧ q = pc + 3)

def Diload (cc : ByteArray) (pc i q : Nat) : Prop := (∃ k : Fin 4, decode cc pc = .ok (.iload_n k, 1) ∧ (k : Nat) = i ∧ q = pc + 1) ∨ (decode cc pc = .ok (.iload i, 2) ∧ q = pc + 2)
def Daload (cc : ByteArray) (pc i q : Nat) : Prop := (∃ k : Fin 4, decode cc pc = .ok (.aload_n k, 1) ∧ (k : Nat) = i ∧ q = pc + 1) ∨ (decode cc pc = .ok (.aload i, 2) ∧ q = pc + 2)
def Dlload (cc : ByteArray) (pc i q : Nat) : Prop := (∃ k : Fin 4, decode cc pc = .ok (.lload_n k, 1) ∧ (k : Nat) = i ∧ q = pc + 1) ∨ (decode cc pc = .ok (.lload i, 2) ∧ q = pc + 2)
def Distore (cc : ByteArray) (pc i q : Nat) : Prop := (∃ k : Fin 4, decode cc pc = .ok (.istore_n k, 1) ∧ (k : Nat) = i ∧ q = pc + 1) ∨ (decode cc pc = .ok (.istore i, 2) ∧ q = pc + 2)
def Dastore (cc : ByteArray) (pc i q : Nat) : Prop := (∃ k : Fin 4, decode cc pc = .ok (.astore_n k, 1) ∧ (k : Nat) = i ∧ q = pc + 1) ∨ (decode cc pc = .ok (.astore i, 2) ∧ q = pc + 2)
def Dlstore (cc : ByteArray) (pc i q : Nat) : Prop := (∃ k : Fin 4, decode cc pc = .ok (.lstore_n k, 1) ∧ (k : Nat) = i ∧ q = pc + 1) ∨ (decode cc pc = .ok (.lstore i, 2) ∧ q = pc + 2)
section GR
variable {X : gX} {cc : ByteArray} {own : String} {pc q : Nat} {Ls : List (Option Value)} {st : List Value} {T : gT} {I : gI} {J : gJ} {O : gO} {k n : Nat}
theorem G_push {z : Int} (x : Ok X cc own) (d : Dk cc pc z q) (h : G X q Ls (VI z :: st) T I J O k n) : G X pc Ls st T I J O k n := by
  obtain ⟨p, l, e, R, s, m, args, below, meth, c, E, Q⟩ := X
  intro H locs ls hW hS hL
  rcases d with ⟨d, rfl⟩ | ⟨d, hv, rfl⟩ | ⟨d, hv, rfl⟩
  · exact lv_iconst x.1 x.2.1 d rfl (h H locs ls hW hS hL)
  · exact lv_bipush x.1 x.2.1 d hv (h H locs ls hW hS hL)
  · exact lv_sipush x.1 x.2.1 d hv (h H locs ls hW hS hL)
theorem G_iload {i : Nat} {z : Int} (x : Ok X cc own) (d : Diload cc pc i q) (hl : Ls[i]? = some (some (VI z))) (h : G X q Ls (VI z :: st) T I J O k n) : G X pc Ls st T I J O k n := by
  obtain ⟨p, l, e, R, s, m, args, below, meth, c, E, Q⟩ := X
  intro H locs ls hW hS hL
  rcases d with ⟨k9, d, hi, rfl⟩ | ⟨d, rfl⟩
  · exact lv_iload_n x.1 x.2.1 d hi (hL.2.2.2 _ _ hl) (h H locs ls hW hS hL)
  · exact lv_iload x.1 x.2.1 d (hL.2.2.2 _ _ hl) (h H locs ls hW hS hL)
theorem G_lload {i : Nat} {z : Int64} (x : Ok X cc own) (d : Dlload cc pc i q) (hl : Ls[i]? = some (some (.long z))) (h : G X q Ls (.long z :: st) T I J O k n) : G X pc Ls st T I J O k n := by
  obtain ⟨p, l, e, R, s, m, args, below, meth, c, E, Q⟩ := X
  intro H locs ls hW hS hL
  rcases d with ⟨k9, d, hi, rfl⟩ | ⟨d, rfl⟩
  · exact lv_lload_n x.1 x.2.1 d hi (hL.2.2.2 _ _ hl) (h H locs ls hW hS hL)
  · exact lv_lload x.1 x.2.1 d (hL.2.2.2 _ _ hl) (h H locs ls hW hS hL)
theorem G_aload {i : Nat} {o : Option Nat} (x : Ok X cc own) (d : Daload cc pc i q) (hl : Ls[i]? = some (some (va_rf o))) (h : G X q Ls (va_rf o :: st) T I J O k n) : G X pc Ls st T I J O k n := by
  obtain ⟨p, l, e, R, s, m, args, below, meth, c, E, Q⟩ := X
  intro H locs ls hW hS hL
  cases o with
  | none =>
    rcases d with ⟨k9, d, hi, rfl⟩ | ⟨d, rfl⟩
    · exact lv_aload_nN x.1 x.2.1 d hi (hL.2.2.2 _ _ hl) (h H locs ls hW hS hL)
    · exact lv_aloadN x.1 x.2.1 d (hL.2.2.2 _ _ hl) (h H locs ls hW hS hL)
  | some a =>
    rcases d with ⟨k9, d, hi, rfl⟩ | ⟨d, rfl⟩
    · exact lv_aload_n x.1 x.2.1 d hi (hL.2.2.2 _ _ hl) (h H locs ls hW hS hL)
    · exact lv_aload x.1 x.2.1 d (hL.2.2.2 _ _ hl) (h H locs ls hW hS hL)
theorem G_istore {i : Nat} {z : Int} {pre r : List (Option Value)} {o9 : Option Value} (x : Ok X cc own) (d : Distore cc pc i q) (hi : pre.length = i) (hb : ∀ w, pre.getLast? = some (some w) → w.category ≠ 2) (h : G X q (pre ++ some (VI z) :: r) st T I J O k n) : G X pc (pre ++ o9 :: r) (VI z :: st) T I J O k n := by
  obtain ⟨p, l, e, R, s, m, args, below, meth, c, E, Q⟩ := X
  intro H locs ls hW hS hL
  rcases d with ⟨k9, d, hk, rfl⟩ | ⟨d, rfl⟩
  · exact lv_istore_n x.1 x.2.1 d hk hL.has (hL.lt hi) rfl (fun ls' h' => h H locs ls' hW hS (hL.st1 hi hb h'))
  · exact lv_istore x.1 x.2.1 d hL.has (hL.lt hi) rfl (fun ls' h' => h H locs ls' hW hS (hL.st1 hi hb h'))
theorem G_astore {i : Nat} {o : Option Nat} {pre r : List (Option Value)} {o9 : Option Value} (x : Ok X cc own) (d : Dastore cc pc i q) (hi : pre.length = i) (hb : ∀ w, pre.getLast? = some (some w) → w.category ≠ 2) (h : G X q (pre ++ some (va_rf o) :: r) st T I J O k n) : G X pc (pre ++ o9 :: r) (va_rf o :: st) T I J O k n := by
  obtain ⟨p, l, e, R, s, m, args, below, meth, c, E, Q⟩ := X
  intro H locs ls hW hS hL
  cases o with
  | none =>
    rcases d with ⟨k9, d, hk, rfl⟩ | ⟨d, rfl⟩
    · exact lv_astore_nN x.1 x.2.1 d hk hL.has (hL.lt hi) rfl (fun ls' h' => h H locs ls' hW hS (hL.st1 hi hb h'))
    · exact lv_astoreN x.1 x.2.1 d hL.has (hL.lt hi) rfl (fun ls' h' => h H locs ls' hW hS (hL.st1 hi hb h'))
  | some a =>
    rcases d with ⟨k9, d, hk, rfl⟩ | ⟨d, rfl⟩
    · exact lv_astore_n x.1 x.2.1 d hk hL.has (hL.lt hi) rfl (fun ls' h' => h H locs ls' hW hS (hL.st1 hi hb h'))
    · exact lv_astore x.1 x.2.1 d hL.has (hL.lt hi) rfl (fun ls' h' => h H locs ls' hW hS (hL.st1 hi hb h'))
theorem G_lstore {i : Nat} {z : Int64} {pre r : List (Option Value)} {o9 o8 : Option Value} (x : Ok X cc own) (d : Dlstore cc pc i q) (hi : pre.length = i) (hb : ∀ w, pre.getLast? = some (some w) → w.category ≠ 2) (h : G X q (pre ++ some (.long z) :: none :: r) st T I J O k n) : G X pc (pre ++ o9 :: o8 :: r) (.long z :: st) T I J O k n := by
  obtain ⟨p, l, e, R, s, m, args, below, meth, c, E, Q⟩ := X
  intro H locs ls hW hS hL
  rcases d with ⟨k9, d, hk, rfl⟩ | ⟨d, rfl⟩
  · exact lv_lstore_n x.1 x.2.1 d hk hL.has (hL.lt2 hi) rfl (fun ls' h' => h H locs ls' hW hS (hL.st2 hi hb h'))
  · exact lv_lstore x.1 x.2.1 d hL.has (hL.lt2 hi) rfl (fun ls' h' => h H locs ls' hW hS (hL.st2 hi hb h'))
theorem G_iinc {i : Nat} {z y : Int} {pre r : List (Option Value)} (x : Ok X cc own) (d : Dc cc pc (.iinc i y) 3 q) (hi : pre.length = i) (hb : ∀ w, pre.getLast? = some (some w) → w.category ≠ 2) (h : G X q (pre ++ some (VI (z + y)) :: r) st T I J O k n) : G X pc (pre ++ some (VI z) :: r) st T I J O k n := by
  obtain ⟨p, l, e, R, s, m, args, below, meth, c, E, Q⟩ := X
  intro H locs ls hW hS hL
  obtain ⟨d, rfl⟩ := d
  obtain ⟨k9, hk9⟩ := List.getElem?_of_mem (prs_mem.mpr (show (pre ++ some (VI z) :: r)[i]? = some (some (VI z)) by subst hi; rw [List.getElem?_append_right (Nat.le_refl _), Nat.sub_self]; rfl))
  exact lv_iinc (v := Int32.ofInt (z + y)) x.1 x.2.1 d hL.has hk9 (Int32.ofInt_add z y).symm (hL.lt hi) rfl (fun ls' h' => h H locs ls' hW hS (hL.st1 hi hb h'))
theorem G_iload0 {r : List (Option Value)} {z : Int} (x : Ok X cc own) (d : Diload cc pc 0 q) (h : G X q (some (VI z) :: r) (VI z :: st) T I J O k n) : G X pc (some (VI z) :: r) st T I J O k n := G_iload (i := 0) x d rfl h
theorem G_lload0 {r : List (Option Value)} {z : Int64} (x : Ok X cc own) (d : Dlload cc pc 0 q) (h : G X q (some (.long z) :: r) (.long z :: st) T I J O k n) : G X pc (some (.long z) :: r) st T I J O k n := G_lload (i := 0) x d rfl h
theorem G_aload0 {r : List (Option Value)} {z : Option Nat} (x : Ok X cc own) (d : Daload cc pc 0 q) (h : G X q (some (va_rf z) :: r) (va_rf z :: st) T I J O k n) : G X pc (some (va_rf z) :: r) st T I J O k n := G_aload (i := 0) x d rfl h
theorem G_istore0 {r : List (Option Value)} {o9 : Option Value} {z : Int} (x : Ok X cc own) (d : Distore cc pc 0 q) (h : G X q (some (VI z) :: r) st T I J O k n) : G X pc (o9 :: r) (VI z :: st) T I J O k n := G_istore (i := 0) (pre := []) x d rfl (fun w h => by cases h) h
theorem G_astore0 {r : List (Option Value)} {o9 : Option Value} {z : Option Nat} (x : Ok X cc own) (d : Dastore cc pc 0 q) (h : G X q (some (va_rf z) :: r) st T I J O k n) : G X pc (o9 :: r) (va_rf z :: st) T I J O k n := G_astore (i := 0) (pre := []) x d rfl (fun w h => by cases h) h
theorem G_lstore0 {r : List (Option Value)} {o9 o8 : Option Value} {z : Int64} (x : Ok X cc own) (d : Dlstore cc pc 0 q) (h : G X q (some (.long z) :: none :: r) st T I J O k n) : G X pc (o9 :: o8 :: r) (.long z :: st) T I J O k n := G_lstore (i := 0) (pre := []) x d rfl (fun w h => by cases h) h
theorem G_iinc0 {r : List (Option Value)} {z y : Int} (x : Ok X cc own) (d : Dc cc pc (.iinc 0 y) 3 q) (h : G X q (some (VI (z + y)) :: r) st T I J O k n) : G X pc (some (VI z) :: r) st T I J O k n := G_iinc (i := 0) (pre := []) x d rfl (fun w h => by cases h) h
theorem G_iload1 {a0 : Option Value} {r : List (Option Value)} {z : Int} (x : Ok X cc own) (d : Diload cc pc 1 q) (h : G X q (a0 :: some (VI z) :: r) (VI z :: st) T I J O k n) : G X pc (a0 :: some (VI z) :: r) st T I J O k n := G_iload (i := 1) x d rfl h
theorem G_lload1 {a0 : Option Value} {r : List (Option Value)} {z : Int64} (x : Ok X cc own) (d : Dlload cc pc 1 q) (h : G X q (a0 :: some (.long z) :: r) (.long z :: st) T I J O k n) : G X pc (a0 :: some (.long z) :: r) st T I J O k n := G_lload (i := 1) x d rfl h
theorem G_aload1 {a0 : Option Value} {r : List (Option Value)} {z : Option Nat} (x : Ok X cc own) (d : Daload cc pc 1 q) (h : G X q (a0 :: some (va_rf z) :: r) (va_rf z :: st) T I J O k n) : G X pc (a0 :: some (va_rf z) :: r) st T I J O k n := G_aload (i := 1) x d rfl h
theorem G_istore1 {a0 : Option Value} {r : List (Option Value)} {o9 : Option Value} {z : Int} (x : Ok X cc own) (d : Distore cc pc 1 q) (h : G X q (a0 :: some (VI z) :: r) st T I J O k n) (hb : gc1 a0 := by first | exact gc1_i | exact gc1_r | exact gc1_n) : G X pc (a0 :: o9 :: r) (VI z :: st) T I J O k n := G_istore (i := 1) (pre := [a0]) x d rfl (fun w h => hb w (Option.some.inj h)) h
theorem G_astore1 {a0 : Option Value} {r : List (Option Value)} {o9 : Option Value} {z : Option Nat} (x : Ok X cc own) (d : Dastore cc pc 1 q) (h : G X q (a0 :: some (va_rf z) :: r) st T I J O k n) (hb : gc1 a0 := by first | exact gc1_i | exact gc1_r | exact gc1_n) : G X pc (a0 :: o9 :: r) (va_rf z :: st) T I J O k n := G_astore (i := 1) (pre := [a0]) x d rfl (fun w h => hb w (Option.some.inj h)) h
theorem G_lstore1 {a0 : Option Value} {r : List (Option Value)} {o9 o8 : Option Value} {z : Int64} (x : Ok X cc own) (d : Dlstore cc pc 1 q) (h : G X q (a0 :: some (.long z) :: none :: r) st T I J O k n) (hb : gc1 a0 := by first | exact gc1_i | exact gc1_r | exact gc1_n) : G X pc (a0 :: o9 :: o8 :: r) (.long z :: st) T I J O k n := G_lstore (i := 1) (pre := [a0]) x d rfl (fun w h => hb w (Option.some.inj h)) h
theorem G_iinc1 {a0 : Option Value} {r : List (Option Value)} {z y : Int} (x : Ok X cc own) (d : Dc cc pc (.iinc 1 y) 3 q) (h : G X q (a0 :: some (VI (z + y)) :: r) st T I J O k n) (hb : gc1 a0 := by first | exact gc1_i | exact gc1_r | exact gc1_n) : G X pc (a0 :: some (VI z) :: r) st T I J O k n := G_iinc (i := 1) (pre := [a0]) x d rfl (fun w h => hb w (Option.some.inj h)) h
theorem G_iload2 {a0 a1 : Option Value} {r : List (Option Value)} {z : Int} (x : Ok X cc own) (d : Diload cc pc 2 q) (h : G X q (a0 :: a1 :: some (VI z) :: r) (VI z :: st) T I J O k n) : G X pc (a0 :: a1 :: some (VI z) :: r) st T I J O k n := G_iload (i := 2) x d rfl h
theorem G_lload2 {a0 a1 : Option Value} {r : List (Option Value)} {z : Int64} (x : Ok X cc own) (d : Dlload cc pc 2 q) (h : G X q (a0 :: a1 :: some (.long z) :: r) (.long z :: st) T I J O k n) : G X pc (a0 :: a1 :: some (.long z) :: r) st T I J O k n := G_lload (i := 2) x d rfl h
theorem G_aload2 {a0 a1 : Option Value} {r : List (Option Value)} {z : Option Nat} (x : Ok X cc own) (d : Daload cc pc 2 q) (h : G X q (a0 :: a1 :: some (va_rf z) :: r) (va_rf z :: st) T I J O k n) : G X pc (a0 :: a1 :: some (va_rf z) :: r) st T I J O k n := G_aload (i := 2) x d rfl h
theorem G_istore2 {a0 a1 : Option Value} {r : List (Option Value)} {o9 : Option Value} {z : Int} (x : Ok X cc own) (d : Distore cc pc 2 q) (h : G X q (a0 :: a1 :: some (VI z) :: r) st T I J O k n) (hb : gc1 a1 := by first | exact gc1_i | exact gc1_r | exact gc1_n) : G X pc (a0 :: a1 :: o9 :: r) (VI z :: st) T I J O k n := G_istore (i := 2) (pre := [a0, a1]) x d rfl (fun w h => hb w (Option.some.inj h)) h
theorem G_astore2 {a0 a1 : Option Value} {r : List (Option Value)} {o9 : Option Value} {z : Option Nat} (x : Ok X cc own) (d : Dastore cc pc 2 q) (h : G X q (a0 :: a1 :: some (va_rf z) :: r) st T I J O k n) (hb : gc1 a1 := by first | exact gc1_i | exact gc1_r | exact gc1_n) : G X pc (a0 :: a1 :: o9 :: r) (va_rf z :: st) T I J O k n := G_astore (i := 2) (pre := [a0, a1]) x d rfl (fun w h => hb w (Option.some.inj h)) h
theorem G_lstore2 {a0 a1 : Option Value} {r : List (Option Value)} {o9 o8 : Option Value} {z : Int64} (x : Ok X cc own) (d : Dlstore cc pc 2 q) (h : G X q (a0 :: a1 :: some (.long z) :: none :: r) st T I J O k n) (hb : gc1 a1 := by first | exact gc1_i | exact gc1_r | exact gc1_n) : G X pc (a0 :: a1 :: o9 :: o8 :: r) (.long z :: st) T I J O k n := G_lstore (i := 2) (pre := [a0, a1]) x d rfl (fun w h => hb w (Option.some.inj h)) h
theorem G_iinc2 {a0 a1 : Option Value} {r : List (Option Value)} {z y : Int} (x : Ok X cc own) (d : Dc cc pc (.iinc 2 y) 3 q) (h : G X q (a0 :: a1 :: some (VI (z + y)) :: r) st T I J O k n) (hb : gc1 a1 := by first | exact gc1_i | exact gc1_r | exact gc1_n) : G X pc (a0 :: a1 :: some (VI z) :: r) st T I J O k n := G_iinc (i := 2) (pre := [a0, a1]) x d rfl (fun w h => hb w (Option.some.inj h)) h
theorem G_iload3 {a0 a1 a2 : Option Value} {r : List (Option Value)} {z : Int} (x : Ok X cc own) (d : Diload cc pc 3 q) (h : G X q (a0 :: a1 :: a2 :: some (VI z) :: r) (VI z :: st) T I J O k n) : G X pc (a0 :: a1 :: a2 :: some (VI z) :: r) st T I J O k n := G_iload (i := 3) x d rfl h
theorem G_lload3 {a0 a1 a2 : Option Value} {r : List (Option Value)} {z : Int64} (x : Ok X cc own) (d : Dlload cc pc 3 q) (h : G X q (a0 :: a1 :: a2 :: some (.long z) :: r) (.long z :: st) T I J O k n) : G X pc (a0 :: a1 :: a2 :: some (.long z) :: r) st T I J O k n := G_lload (i := 3) x d rfl h
theorem G_aload3 {a0 a1 a2 : Option Value} {r : List (Option Value)} {z : Option Nat} (x : Ok X cc own) (d : Daload cc pc 3 q) (h : G X q (a0 :: a1 :: a2 :: some (va_rf z) :: r) (va_rf z :: st) T I J O k n) : G X pc (a0 :: a1 :: a2 :: some (va_rf z) :: r) st T I J O k n := G_aload (i := 3) x d rfl h
theorem G_istore3 {a0 a1 a2 : Option Value} {r : List (Option Value)} {o9 : Option Value} {z : Int} (x : Ok X cc own) (d : Distore cc pc 3 q) (h : G X q (a0 :: a1 :: a2 :: some (VI z) :: r) st T I J O k n) (hb : gc1 a2 := by first | exact gc1_i | exact gc1_r | exact gc1_n) : G X pc (a0 :: a1 :: a2 :: o9 :: r) (VI z :: st) T I J O k n := G_istore (i := 3) (pre := [a0, a1, a2]) x d rfl (fun w h => hb w (Option.some.inj h)) h
theorem G_astore3 {a0 a1 a2 : Option Value} {r : List (Option Value)} {o9 : Option Value} {z : Option Nat} (x : Ok X cc own) (d : Dastore cc pc 3 q) (h : G X q (a0 :: a1 :: a2 :: some (va_rf z) :: r) st T I J O k n) (hb : gc1 a2 := by first | exact gc1_i | exact gc1_r | exact gc1_n) : G X pc (a0 :: a1 :: a2 :: o9 :: r) (va_rf z :: st) T I J O k n := G_astore (i := 3) (pre := [a0, a1, a2]) x d rfl (fun w h => hb w (Option.some.inj h)) h
theorem G_lstore3 {a0 a1 a2 : Option Value} {r : List (Option Value)} {o9 o8 : Option Value} {z : Int64} (x : Ok X cc own) (d : Dlstore cc pc 3 q) (h : G X q (a0 :: a1 :: a2 :: some (.long z) :: none :: r) st T I J O k n) (hb : gc1 a2 := by first | exact gc1_i | exact gc1_r | exact gc1_n) : G X pc (a0 :: a1 :: a2 :: o9 :: o8 :: r) (.long z :: st) T I J O k n := G_lstore (i := 3) (pre := [a0, a1, a2]) x d rfl (fun w h => hb w (Option.some.inj h)) h
theorem G_iinc3 {a0 a1 a2 : Option Value} {r : List (Option Value)} {z y : Int} (x : Ok X cc own) (d : Dc cc pc (.iinc 3 y) 3 q) (h : G X q (a0 :: a1 :: a2 :: some (VI (z + y)) :: r) st T I J O k n) (hb : gc1 a2 := by first | exact gc1_i | exact gc1_r | exact gc1_n) : G X pc (a0 :: a1 :: a2 :: some (VI z) :: r) st T I J O k n := G_iinc (i := 3) (pre := [a0, a1, a2]) x d rfl (fun w h => hb w (Option.some.inj h)) h
theorem G_iload4 {a0 a1 a2 a3 : Option Value} {r : List (Option Value)} {z : Int} (x : Ok X cc own) (d : Diload cc pc 4 q) (h : G X q (a0 :: a1 :: a2 :: a3 :: some (VI z) :: r) (VI z :: st) T I J O k n) : G X pc (a0 :: a1 :: a2 :: a3 :: some (VI z) :: r) st T I J O k n := G_iload (i := 4) x d rfl h
theorem G_lload4 {a0 a1 a2 a3 : Option Value} {r : List (Option Value)} {z : Int64} (x : Ok X cc own) (d : Dlload cc pc 4 q) (h : G X q (a0 :: a1 :: a2 :: a3 :: some (.long z) :: r) (.long z :: st) T I J O k n) : G X pc (a0 :: a1 :: a2 :: a3 :: some (.long z) :: r) st T I J O k n := G_lload (i := 4) x d rfl h
theorem G_aload4 {a0 a1 a2 a3 : Option Value} {r : List (Option Value)} {z : Option Nat} (x : Ok X cc own) (d : Daload cc pc 4 q) (h : G X q (a0 :: a1 :: a2 :: a3 :: some (va_rf z) :: r) (va_rf z :: st) T I J O k n) : G X pc (a0 :: a1 :: a2 :: a3 :: some (va_rf z) :: r) st T I J O k n := G_aload (i := 4) x d rfl h
theorem G_istore4 {a0 a1 a2 a3 : Option Value} {r : List (Option Value)} {o9 : Option Value} {z : Int} (x : Ok X cc own) (d : Distore cc pc 4 q) (h : G X q (a0 :: a1 :: a2 :: a3 :: some (VI z) :: r) st T I J O k n) (hb : gc1 a3 := by first | exact gc1_i | exact gc1_r | exact gc1_n) : G X pc (a0 :: a1 :: a2 :: a3 :: o9 :: r) (VI z :: st) T I J O k n := G_istore (i := 4) (pre := [a0, a1, a2, a3]) x d rfl (fun w h => hb w (Option.some.inj h)) h
theorem G_astore4 {a0 a1 a2 a3 : Option Value} {r : List (Option Value)} {o9 : Option Value} {z : Option Nat} (x : Ok X cc own) (d : Dastore cc pc 4 q) (h : G X q (a0 :: a1 :: a2 :: a3 :: some (va_rf z) :: r) st T I J O k n) (hb : gc1 a3 := by first | exact gc1_i | exact gc1_r | exact gc1_n) : G X pc (a0 :: a1 :: a2 :: a3 :: o9 :: r) (va_rf z :: st) T I J O k n := G_astore (i := 4) (pre := [a0, a1, a2, a3]) x d rfl (fun w h => hb w (Option.some.inj h)) h
theorem G_lstore4 {a0 a1 a2 a3 : Option Value} {r : List (Option Value)} {o9 o8 : Option Value} {z : Int64} (x : Ok X cc own) (d : Dlstore cc pc 4 q) (h : G X q (a0 :: a1 :: a2 :: a3 :: some (.long z) :: none :: r) st T I J O k n) (hb : gc1 a3 := by first | exact gc1_i | exact gc1_r | exact gc1_n) : G X pc (a0 :: a1 :: a2 :: a3 :: o9 :: o8 :: r) (.long z :: st) T I J O k n := G_lstore (i := 4) (pre := [a0, a1, a2, a3]) x d rfl (fun w h => hb w (Option.some.inj h)) h
theorem G_iinc4 {a0 a1 a2 a3 : Option Value} {r : List (Option Value)} {z y : Int} (x : Ok X cc own) (d : Dc cc pc (.iinc 4 y) 3 q) (h : G X q (a0 :: a1 :: a2 :: a3 :: some (VI (z + y)) :: r) st T I J O k n) (hb : gc1 a3 := by first | exact gc1_i | exact gc1_r | exact gc1_n) : G X pc (a0 :: a1 :: a2 :: a3 :: some (VI z) :: r) st T I J O k n := G_iinc (i := 4) (pre := [a0, a1, a2, a3]) x d rfl (fun w h => hb w (Option.some.inj h)) h
theorem G_iload5 {a0 a1 a2 a3 a4 : Option Value} {r : List (Option Value)} {z : Int} (x : Ok X cc own) (d : Diload cc pc 5 q) (h : G X q (a0 :: a1 :: a2 :: a3 :: a4 :: some (VI z) :: r) (VI z :: st) T I J O k n) : G X pc (a0 :: a1 :: a2 :: a3 :: a4 :: some (VI z) :: r) st T I J O k n := G_iload (i := 5) x d rfl h
theorem G_lload5 {a0 a1 a2 a3 a4 : Option Value} {r : List (Option Value)} {z : Int64} (x : Ok X cc own) (d : Dlload cc pc 5 q) (h : G X q (a0 :: a1 :: a2 :: a3 :: a4 :: some (.long z) :: r) (.long z :: st) T I J O k n) : G X pc (a0 :: a1 :: a2 :: a3 :: a4 :: some (.long z) :: r) st T I J O k n := G_lload (i := 5) x d rfl h
theorem G_aload5 {a0 a1 a2 a3 a4 : Option Value} {r : List (Option Value)} {z : Option Nat} (x : Ok X cc own) (d : Daload cc pc 5 q) (h : G X q (a0 :: a1 :: a2 :: a3 :: a4 :: some (va_rf z) :: r) (va_rf z :: st) T I J O k n) : G X pc (a0 :: a1 :: a2 :: a3 :: a4 :: some (va_rf z) :: r) st T I J O k n := G_aload (i := 5) x d rfl h
theorem G_istore5 {a0 a1 a2 a3 a4 : Option Value} {r : List (Option Value)} {o9 : Option Value} {z : Int} (x : Ok X cc own) (d : Distore cc pc 5 q) (h : G X q (a0 :: a1 :: a2 :: a3 :: a4 :: some (VI z) :: r) st T I J O k n) (hb : gc1 a4 := by first | exact gc1_i | exact gc1_r | exact gc1_n) : G X pc (a0 :: a1 :: a2 :: a3 :: a4 :: o9 :: r) (VI z :: st) T I J O k n := G_istore (i := 5) (pre := [a0, a1, a2, a3, a4]) x d rfl (fun w h => hb w (Option.some.inj h)) h
theorem G_astore5 {a0 a1 a2 a3 a4 : Option Value} {r : List (Option Value)} {o9 : Option Value} {z : Option Nat} (x : Ok X cc own) (d : Dastore cc pc 5 q) (h : G X q (a0 :: a1 :: a2 :: a3 :: a4 :: some (va_rf z) :: r) st T I J O k n) (hb : gc1 a4 := by first | exact gc1_i | exact gc1_r | exact gc1_n) : G X pc (a0 :: a1 :: a2 :: a3 :: a4 :: o9 :: r) (va_rf z :: st) T I J O k n := G_astore (i := 5) (pre := [a0, a1, a2, a3, a4]) x d rfl (fun w h => hb w (Option.some.inj h)) h
theorem G_lstore5 {a0 a1 a2 a3 a4 : Option Value} {r : List (Option Value)} {o9 o8 : Option Value} {z : Int64} (x : Ok X cc own) (d : Dlstore cc pc 5 q) (h : G X q (a0 :: a1 :: a2 :: a3 :: a4 :: some (.long z) :: none :: r) st T I J O k n) (hb : gc1 a4 := by first | exact gc1_i | exact gc1_r | exact gc1_n) : G X pc (a0 :: a1 :: a2 :: a3 :: a4 :: o9 :: o8 :: r) (.long z :: st) T I J O k n := G_lstore (i := 5) (pre := [a0, a1, a2, a3, a4]) x d rfl (fun w h => hb w (Option.some.inj h)) h
theorem G_iinc5 {a0 a1 a2 a3 a4 : Option Value} {r : List (Option Value)} {z y : Int} (x : Ok X cc own) (d : Dc cc pc (.iinc 5 y) 3 q) (h : G X q (a0 :: a1 :: a2 :: a3 :: a4 :: some (VI (z + y)) :: r) st T I J O k n) (hb : gc1 a4 := by first | exact gc1_i | exact gc1_r | exact gc1_n) : G X pc (a0 :: a1 :: a2 :: a3 :: a4 :: some (VI z) :: r) st T I J O k n := G_iinc (i := 5) (pre := [a0, a1, a2, a3, a4]) x d rfl (fun w h => hb w (Option.some.inj h)) h
theorem G_iload6 {a0 a1 a2 a3 a4 a5 : Option Value} {r : List (Option Value)} {z : Int} (x : Ok X cc own) (d : Diload cc pc 6 q) (h : G X q (a0 :: a1 :: a2 :: a3 :: a4 :: a5 :: some (VI z) :: r) (VI z :: st) T I J O k n) : G X pc (a0 :: a1 :: a2 :: a3 :: a4 :: a5 :: some (VI z) :: r) st T I J O k n := G_iload (i := 6) x d rfl h
theorem G_lload6 {a0 a1 a2 a3 a4 a5 : Option Value} {r : List (Option Value)} {z : Int64} (x : Ok X cc own) (d : Dlload cc pc 6 q) (h : G X q (a0 :: a1 :: a2 :: a3 :: a4 :: a5 :: some (.long z) :: r) (.long z :: st) T I J O k n) : G X pc (a0 :: a1 :: a2 :: a3 :: a4 :: a5 :: some (.long z) :: r) st T I J O k n := G_lload (i := 6) x d rfl h
theorem G_aload6 {a0 a1 a2 a3 a4 a5 : Option Value} {r : List (Option Value)} {z : Option Nat} (x : Ok X cc own) (d : Daload cc pc 6 q) (h : G X q (a0 :: a1 :: a2 :: a3 :: a4 :: a5 :: some (va_rf z) :: r) (va_rf z :: st) T I J O k n) : G X pc (a0 :: a1 :: a2 :: a3 :: a4 :: a5 :: some (va_rf z) :: r) st T I J O k n := G_aload (i := 6) x d rfl h
theorem G_istore6 {a0 a1 a2 a3 a4 a5 : Option Value} {r : List (Option Value)} {o9 : Option Value} {z : Int} (x : Ok X cc own) (d : Distore cc pc 6 q) (h : G X q (a0 :: a1 :: a2 :: a3 :: a4 :: a5 :: some (VI z) :: r) st T I J O k n) (hb : gc1 a5 := by first | exact gc1_i | exact gc1_r | exact gc1_n) : G X pc (a0 :: a1 :: a2 :: a3 :: a4 :: a5 :: o9 :: r) (VI z :: st) T I J O k n := G_istore (i := 6) (pre := [a0, a1, a2, a3, a4, a5]) x d rfl (fun w h => hb w (Option.some.inj h)) h
theorem G_astore6 {a0 a1 a2 a3 a4 a5 : Option Value} {r : List (Option Value)} {o9 : Option Value} {z : Option Nat} (x : Ok X cc own) (d : Dastore cc pc 6 q) (h : G X q (a0 :: a1 :: a2 :: a3 :: a4 :: a5 :: some (va_rf z) :: r) st T I J O k n) (hb : gc1 a5 := by first | exact gc1_i | exact gc1_r | exact gc1_n) : G X pc (a0 :: a1 :: a2 :: a3 :: a4 :: a5 :: o9 :: r) (va_rf z :: st) T I J O k n := G_astore (i := 6) (pre := [a0, a1, a2, a3, a4, a5]) x d rfl (fun w h => hb w (Option.some.inj h)) h
theorem G_lstore6 {a0 a1 a2 a3 a4 a5 : Option Value} {r : List (Option Value)} {o9 o8 : Option Value} {z : Int64} (x : Ok X cc own) (d : Dlstore cc pc 6 q) (h : G X q (a0 :: a1 :: a2 :: a3 :: a4 :: a5 :: some (.long z) :: none :: r) st T I J O k n) (hb : gc1 a5 := by first | exact gc1_i | exact gc1_r | exact gc1_n) : G X pc (a0 :: a1 :: a2 :: a3 :: a4 :: a5 :: o9 :: o8 :: r) (.long z :: st) T I J O k n := G_lstore (i := 6) (pre := [a0, a1, a2, a3, a4, a5]) x d rfl (fun w h => hb w (Option.some.inj h)) h
theorem G_iinc6 {a0 a1 a2 a3 a4 a5 : Option Value} {r : List (Option Value)} {z y : Int} (x : Ok X cc own) (d : Dc cc pc (.iinc 6 y) 3 q) (h : G X q (a0 :: a1 :: a2 :: a3 :: a4 :: a5 :: some (VI (z + y)) :: r) st T I J O k n) (hb : gc1 a5 := by first | exact gc1_i | exact gc1_r | exact gc1_n) : G X pc (a0 :: a1 :: a2 :: a3 :: a4 :: a5 :: some (VI z) :: r) st T I J O k n := G_iinc (i := 6) (pre := [a0, a1, a2, a3, a4, a5]) x d rfl (fun w h => hb w (Option.some.inj h)) h
theorem G_iload7 {a0 a1 a2 a3 a4 a5 a6 : Option Value} {r : List (Option Value)} {z : Int} (x : Ok X cc own) (d : Diload cc pc 7 q) (h : G X q (a0 :: a1 :: a2 :: a3 :: a4 :: a5 :: a6 :: some (VI z) :: r) (VI z :: st) T I J O k n) : G X pc (a0 :: a1 :: a2 :: a3 :: a4 :: a5 :: a6 :: some (VI z) :: r) st T I J O k n := G_iload (i := 7) x d rfl h
theorem G_lload7 {a0 a1 a2 a3 a4 a5 a6 : Option Value} {r : List (Option Value)} {z : Int64} (x : Ok X cc own) (d : Dlload cc pc 7 q) (h : G X q (a0 :: a1 :: a2 :: a3 :: a4 :: a5 :: a6 :: some (.long z) :: r) (.long z :: st) T I J O k n) : G X pc (a0 :: a1 :: a2 :: a3 :: a4 :: a5 :: a6 :: some (.long z) :: r) st T I J O k n := G_lload (i := 7) x d rfl h
theorem G_aload7 {a0 a1 a2 a3 a4 a5 a6 : Option Value} {r : List (Option Value)} {z : Option Nat} (x : Ok X cc own) (d : Daload cc pc 7 q) (h : G X q (a0 :: a1 :: a2 :: a3 :: a4 :: a5 :: a6 :: some (va_rf z) :: r) (va_rf z :: st) T I J O k n) : G X pc (a0 :: a1 :: a2 :: a3 :: a4 :: a5 :: a6 :: some (va_rf z) :: r) st T I J O k n := G_aload (i := 7) x d rfl h
theorem G_istore7 {a0 a1 a2 a3 a4 a5 a6 : Option Value} {r : List (Option Value)} {o9 : Option Value} {z : Int} (x : Ok X cc own) (d : Distore cc pc 7 q) (h : G X q (a0 :: a1 :: a2 :: a3 :: a4 :: a5 :: a6 :: some (VI z) :: r) st T I J O k n) (hb : gc1 a6 := by first | exact gc1_i | exact gc1_r | exact gc1_n) : G X pc (a0 :: a1 :: a2 :: a3 :: a4 :: a5 :: a6 :: o9 :: r) (VI z :: st) T I J O k n := G_istore (i := 7) (pre := [a0, a1, a2, a3, a4, a5, a6]) x d rfl (fun w h => hb w (Option.some.inj h)) h
theorem G_astore7 {a0 a1 a2 a3 a4 a5 a6 : Option Value} {r : List (Option Value)} {o9 : Option Value} {z : Option Nat} (x : Ok X cc own) (d : Dastore cc pc 7 q) (h : G X q (a0 :: a1 :: a2 :: a3 :: a4 :: a5 :: a6 :: some (va_rf z) :: r) st T I J O k n) (hb : gc1 a6 := by first | exact gc1_i | exact gc1_r | exact gc1_n) : G X pc (a0 :: a1 :: a2 :: a3 :: a4 :: a5 :: a6 :: o9 :: r) (va_rf z :: st) T I J O k n := G_astore (i := 7) (pre := [a0, a1, a2, a3, a4, a5, a6]) x d rfl (fun w h => hb w (Option.some.inj h)) h
theorem G_lstore7 {a0 a1 a2 a3 a4 a5 a6 : Option Value} {r : List (Option Value)} {o9 o8 : Option Value} {z : Int64} (x : Ok X cc own) (d : Dlstore cc pc 7 q) (h : G X q (a0 :: a1 :: a2 :: a3 :: a4 :: a5 :: a6 :: some (.long z) :: none :: r) st T I J O k n) (hb : gc1 a6 := by first | exact gc1_i | exact gc1_r | exact gc1_n) : G X pc (a0 :: a1 :: a2 :: a3 :: a4 :: a5 :: a6 :: o9 :: o8 :: r) (.long z :: st) T I J O k n := G_lstore (i := 7) (pre := [a0, a1, a2, a3, a4, a5, a6]) x d rfl (fun w h => hb w (Option.some.inj h)) h
theorem G_iinc7 {a0 a1 a2 a3 a4 a5 a6 : Option Value} {r : List (Option Value)} {z y : Int} (x : Ok X cc own) (d : Dc cc pc (.iinc 7 y) 3 q) (h : G X q (a0 :: a1 :: a2 :: a3 :: a4 :: a5 :: a6 :: some (VI (z + y)) :: r) st T I J O k n) (hb : gc1 a6 := by first | exact gc1_i | exact gc1_r | exact gc1_n) : G X pc (a0 :: a1 :: a2 :: a3 :: a4 :: a5 :: a6 :: some (VI z) :: r) st T I J O k n := G_iinc (i := 7) (pre := [a0, a1, a2, a3, a4, a5, a6]) x d rfl (fun w h => hb w (Option.some.inj h)) h
theorem G_iload8 {a0 a1 a2 a3 a4 a5 a6 a7 : Option Value} {r : List (Option Value)} {z : Int} (x : Ok X cc own) (d : Diload cc pc 8 q) (h : G X q (a0 :: a1 :: a2 :: a3 :: a4 :: a5 :: a6 :: a7 :: some (VI z) :: r) (VI z :: st) T I J O k n) : G X pc (a0 :: a1 :: a2 :: a3 :: a4 :: a5 :: a6 :: a7 :: some (VI z) :: r) st T I J O k n := G_iload (i := 8) x d rfl h
theorem G_lload8 {a0 a1 a2 a3 a4 a5 a6 a7 : Option Value} {r : List (Option Value)} {z : Int64} (x : Ok X cc own) (d : Dlload cc pc 8 q) (h : G X q (a0 :: a1 :: a2 :: a3 :: a4 :: a5 :: a6 :: a7 :: some (.long z) :: r) (.long z :: st) T I J O k n) : G X pc (a0 :: a1 :: a2 :: a3 :: a4 :: a5 :: a6 :: a7 :: some (.long z) :: r) st T I J O k n := G_lload (i := 8) x d rfl h
theorem G_aload8 {a0 a1 a2 a3 a4 a5 a6 a7 : Option Value} {r : List (Option Value)} {z : Option Nat} (x : Ok X cc own) (d : Daload cc pc 8 q) (h : G X q (a0 :: a1 :: a2 :: a3 :: a4 :: a5 :: a6 :: a7 :: some (va_rf z) :: r) (va_rf z :: st) T I J O k n) : G X pc (a0 :: a1 :: a2 :: a3 :: a4 :: a5 :: a6 :: a7 :: some (va_rf z) :: r) st T I J O k n := G_aload (i := 8) x d rfl h
theorem G_istore8 {a0 a1 a2 a3 a4 a5 a6 a7 : Option Value} {r : List (Option Value)} {o9 : Option Value} {z : Int} (x : Ok X cc own) (d : Distore cc pc 8 q) (h : G X q (a0 :: a1 :: a2 :: a3 :: a4 :: a5 :: a6 :: a7 :: some (VI z) :: r) st T I J O k n) (hb : gc1 a7 := by first | exact gc1_i | exact gc1_r | exact gc1_n) : G X pc (a0 :: a1 :: a2 :: a3 :: a4 :: a5 :: a6 :: a7 :: o9 :: r) (VI z :: st) T I J O k n := G_istore (i := 8) (pre := [a0, a1, a2, a3, a4, a5, a6, a7]) x d rfl (fun w h => hb w (Option.some.inj h)) h
theorem G_astore8 {a0 a1 a2 a3 a4 a5 a6 a7 : Option Value} {r : List (Option Value)} {o9 : Option Value} {z : Option Nat} (x : Ok X cc own) (d : Dastore cc pc 8 q) (h : G X q (a0 :: a1 :: a2 :: a3 :: a4 :: a5 :: a6 :: a7 :: some (va_rf z) :: r) st T I J O k n) (hb : gc1 a7 := by first | exact gc1_i | exact gc1_r | exact gc1_n) : G X pc (a0 :: a1 :: a2 :: a3 :: a4 :: a5 :: a6 :: a7 :: o9 :: r) (va_rf z :: st) T I J O k n := G_astore (i := 8) (pre := [a0, a1, a2, a3, a4, a5, a6, a7]) x d rfl (fun w h => hb w (Option.some.inj h)) h
theorem G_lstore8 {a0 a1 a2 a3 a4 a5 a6 a7 : Option Value} {r : List (Option Value)} {o9 o8 : Option Value} {z : Int64} (x : Ok X cc own) (d : Dlstore cc pc 8 q) (h : G X q (a0 :: a1 :: a2 :: a3 :: a4 :: a5 :: a6 :: a7 :: some (.long z) :: none :: r) st T I J O k n) (hb : gc1 a7 := by first | exact gc1_i | exact gc1_r | exact gc1_n) : G X pc (a0 :: a1 :: a2 :: a3 :: a4 :: a5 :: a6 :: a7 :: o9 :: o8 :: r) (.long z :: st) T I J O k n := G_lstore (i := 8) (pre := [a0, a1, a2, a3, a4, a5, a6, a7]) x d rfl (fun w h => hb w (Option.some.inj h)) h
theorem G_iinc8 {a0 a1 a2 a3 a4 a5 a6 a7 : Option Value} {r : List (Option Value)} {z y : Int} (x : Ok X cc own) (d : Dc cc pc (.iinc 8 y) 3 q) (h : G X q (a0 :: a1 :: a2 :: a3 :: a4 :: a5 :: a6 :: a7 :: some (VI (z + y)) :: r) st T I J O k n) (hb : gc1 a7 := by first | exact gc1_i | exact gc1_r | exact gc1_n) : G X pc (a0 :: a1 :: a2 :: a3 :: a4 :: a5 :: a6 :: a7 :: some (VI z) :: r) st T I J O k n := G_iinc (i := 8) (pre := [a0, a1, a2, a3, a4, a5, a6, a7]) x d rfl (fun w h => hb w (Option.some.inj h)) h
theorem G_iload9 {a0 a1 a2 a3 a4 a5 a6 a7 a8 : Option Value} {r : List (Option Value)} {z : Int} (x : Ok X cc own) (d : Diload cc pc 9 q) (h : G X q (a0 :: a1 :: a2 :: a3 :: a4 :: a5 :: a6 :: a7 :: a8 :: some (VI z) :: r) (VI z :: st) T I J O k n) : G X pc (a0 :: a1 :: a2 :: a3 :: a4 :: a5 :: a6 :: a7 :: a8 :: some (VI z) :: r) st T I J O k n := G_iload (i := 9) x d rfl h
theorem G_lload9 {a0 a1 a2 a3 a4 a5 a6 a7 a8 : Option Value} {r : List (Option Value)} {z : Int64} (x : Ok X cc own) (d : Dlload cc pc 9 q) (h : G X q (a0 :: a1 :: a2 :: a3 :: a4 :: a5 :: a6 :: a7 :: a8 :: some (.long z) :: r) (.long z :: st) T I J O k n) : G X pc (a0 :: a1 :: a2 :: a3 :: a4 :: a5 :: a6 :: a7 :: a8 :: some (.long z) :: r) st T I J O k n := G_lload (i := 9) x d rfl h
theorem G_aload9 {a0 a1 a2 a3 a4 a5 a6 a7 a8 : Option Value} {r : List (Option Value)} {z : Option Nat} (x : Ok X cc own) (d : Daload cc pc 9 q) (h : G X q (a0 :: a1 :: a2 :: a3 :: a4 :: a5 :: a6 :: a7 :: a8 :: some (va_rf z) :: r) (va_rf z :: st) T I J O k n) : G X pc (a0 :: a1 :: a2 :: a3 :: a4 :: a5 :: a6 :: a7 :: a8 :: some (va_rf z) :: r) st T I J O k n := G_aload (i := 9) x d rfl h
theorem G_istore9 {a0 a1 a2 a3 a4 a5 a6 a7 a8 : Option Value} {r : List (Option Value)} {o9 : Option Value} {z : Int} (x : Ok X cc own) (d : Distore cc pc 9 q) (h : G X q (a0 :: a1 :: a2 :: a3 :: a4 :: a5 :: a6 :: a7 :: a8 :: some (VI z) :: r) st T I J O k n) (hb : gc1 a8 := by first | exact gc1_i | exact gc1_r | exact gc1_n) : G X pc (a0 :: a1 :: a2 :: a3 :: a4 :: a5 :: a6 :: a7 :: a8 :: o9 :: r) (VI z :: st) T I J O k n := G_istore (i := 9) (pre := [a0, a1, a2, a3, a4, a5, a6, a7, a8]) x d rfl (fun w h => hb w (Option.some.inj h)) h
theorem G_astore9 {a0 a1 a2 a3 a4 a5 a6 a7 a8 : Option Value} {r : List (Option Value)} {o9 : Option Value} {z : Option Nat} (x : Ok X cc own) (d : Dastore cc pc 9 q) (h : G X q (a0 :: a1 :: a2 :: a3 :: a4 :: a5 :: a6 :: a7 :: a8 :: some (va_rf z) :: r) st T I J O k n) (hb : gc1 a8 := by first | exact gc1_i | exact gc1_r | exact gc1_n) : G X pc (a0 :: a1 :: a2 :: a3 :: a4 :: a5 :: a6 :: a7 :: a8 :: o9 :: r) (va_rf z :: st) T I J O k n := G_astore (i := 9) (pre := [a0, a1, a2, a3, a4, a5, a6, a7, a8]) x d rfl (fun w h => hb w (Option.some.inj h)) h
theorem G_lstore9 {a0 a1 a2 a3 a4 a5 a6 a7 a8 : Option Value} {r : List (Option Value)} {o9 o8 : Option Value} {z : Int64} (x : Ok X cc own) (d : Dlstore cc pc 9 q) (h : G X q (a0 :: a1 :: a2 :: a3 :: a4 :: a5 :: a6 :: a7 :: a8 :: some (.long z) :: none :: r) st T I J O k n) (hb : gc1 a8 := by first | exact gc1_i | exact gc1_r | exact gc1_n) : G X pc (a0 :: a1 :: a2 :: a3 :: a4 :: a5 :: a6 :: a7 :: a8 :: o9 :: o8 :: r) (.long z :: st) T I J O k n := G_lstore (i := 9) (pre := [a0, a1, a2, a3, a4, a5, a6, a7, a8]) x d rfl (fun w h => hb w (Option.some.inj h)) h
theorem G_iinc9 {a0 a1 a2 a3 a4 a5 a6 a7 a8 : Option Value} {r : List (Option Value)} {z y : Int} (x : Ok X cc own) (d : Dc cc pc (.iinc 9 y) 3 q) (h : G X q (a0 :: a1 :: a2 :: a3 :: a4 :: a5 :: a6 :: a7 :: a8 :: some (VI (z + y)) :: r) st T I J O k n) (hb : gc1 a8 := by first | exact gc1_i | exact gc1_r | exact gc1_n) : G X pc (a0 :: a1 :: a2 :: a3 :: a4 :: a5 :: a6 :: a7 :: a8 :: some (VI z) :: r) st T I J O k n := G_iinc (i := 9) (pre := [a0, a1, a2, a3, a4, a5, a6, a7, a8]) x d rfl (fun w h => hb w (Option.some.inj h)) h
theorem G_iload10 {a0 a1 a2 a3 a4 a5 a6 a7 a8 a9 : Option Value} {r : List (Option Value)} {z : Int} (x : Ok X cc own) (d : Diload cc pc 10 q) (h : G X q (a0 :: a1 :: a2 :: a3 :: a4 :: a5 :: a6 :: a7 :: a8 :: a9 :: some (VI z) :: r) (VI z :: st) T I J O k n) : G X pc (a0 :: a1 :: a2 :: a3 :: a4 :: a5 :: a6 :: a7 :: a8 :: a9 :: some (VI z) :: r) st T I J O k n := G_iload (i := 10) x d rfl h
theorem G_lload10 {a0 a1 a2 a3 a4 a5 a6 a7 a8 a9 : Option Value} {r : List (Option Value)} {z : Int64} (x : Ok X cc own) (d : Dlload cc pc 10 q) (h : G X q (a0 :: a1 :: a2 :: a3 :: a4 :: a5 :: a6 :: a7 :: a8 :: a9 :: some (.long z) :: r) (.long z :: st) T I J O k n) : G X pc (a0 :: a1 :: a2 :: a3 :: a4 :: a5 :: a6 :: a7 :: a8 :: a9 :: some (.long z) :: r) st T I J O k n := G_lload (i := 10) x d rfl h
theorem G_aload10 {a0 a1 a2 a3 a4 a5 a6 a7 a8 a9 : Option Value} {r : List (Option Value)} {z : Option Nat} (x : Ok X cc own) (d : Daload cc pc 10 q) (h : G X q (a0 :: a1 :: a2 :: a3 :: a4 :: a5 :: a6 :: a7 :: a8 :: a9 :: some (va_rf z) :: r) (va_rf z :: st) T I J O k n) : G X pc (a0 :: a1 :: a2 :: a3 :: a4 :: a5 :: a6 :: a7 :: a8 :: a9 :: some (va_rf z) :: r) st T I J O k n := G_aload (i := 10) x d rfl h
theorem G_istore10 {a0 a1 a2 a3 a4 a5 a6 a7 a8 a9 : Option Value} {r : List (Option Value)} {o9 : Option Value} {z : Int} (x : Ok X cc own) (d : Distore cc pc 10 q) (h : G X q (a0 :: a1 :: a2 :: a3 :: a4 :: a5 :: a6 :: a7 :: a8 :: a9 :: some (VI z) :: r) st T I J O k n) (hb : gc1 a9 := by first | exact gc1_i | exact gc1_r | exact gc1_n) : G X pc (a0 :: a1 :: a2 :: a3 :: a4 :: a5 :: a6 :: a7 :: a8 :: a9 :: o9 :: r) (VI z :: st) T I J O k n := G_istore (i := 10) (pre := [a0, a1, a2, a3, a4, a5, a6, a7, a8, a9]) x d rfl (fun w h => hb w (Option.some.inj h)) h
theorem G_astore10 {a0 a1 a2 a3 a4 a5 a6 a7 a8 a9 : Option Value} {r : List (Option Value)} {o9 : Option Value} {z : Option Nat} (x : Ok X cc own) (d : Dastore cc pc 10 q) (h : G X q (a0 :: a1 :: a2 :: a3 :: a4 :: a5 :: a6 :: a7 :: a8 :: a9 :: some (va_rf z) :: r) st T I J O k n) (hb : gc1 a9 := by first | exact gc1_i | exact gc1_r | exact gc1_n) : G X pc (a0 :: a1 :: a2 :: a3 :: a4 :: a5 :: a6 :: a7 :: a8 :: a9 :: o9 :: r) (va_rf z :: st) T I J O k n := G_astore (i := 10) (pre := [a0, a1, a2, a3, a4, a5, a6, a7, a8, a9]) x d rfl (fun w h => hb w (Option.some.inj h)) h
theorem G_lstore10 {a0 a1 a2 a3 a4 a5 a6 a7 a8 a9 : Option Value} {r : List (Option Value)} {o9 o8 : Option Value} {z : Int64} (x : Ok X cc own) (d : Dlstore cc pc 10 q) (h : G X q (a0 :: a1 :: a2 :: a3 :: a4 :: a5 :: a6 :: a7 :: a8 :: a9 :: some (.long z) :: none :: r) st T I J O k n) (hb : gc1 a9 := by first | exact gc1_i | exact gc1_r | exact gc1_n) : G X pc (a0 :: a1 :: a2 :: a3 :: a4 :: a5 :: a6 :: a7 :: a8 :: a9 :: o9 :: o8 :: r) (.long z :: st) T I J O k n := G_lstore (i := 10) (pre := [a0, a1, a2, a3, a4, a5, a6, a7, a8, a9]) x d rfl (fun w h => hb w (Option.some.inj h)) h
theorem G_iinc10 {a0 a1 a2 a3 a4 a5 a6 a7 a8 a9 : Option Value} {r : List (Option Value)} {z y : Int} (x : Ok X cc own) (d : Dc cc pc (.iinc 10 y) 3 q) (h : G X q (a0 :: a1 :: a2 :: a3 :: a4 :: a5 :: a6 :: a7 :: a8 :: a9 :: some (VI (z + y)) :: r) st T I J O k n) (hb : gc1 a9 := by first | exact gc1_i | exact gc1_r | exact gc1_n) : G X pc (a0 :: a1 :: a2 :: a3 :: a4 :: a5 :: a6 :: a7 :: a8 :: a9 :: some (VI z) :: r) st T I J O k n := G_iinc (i := 10) (pre := [a0, a1, a2, a3, a4, a5, a6, a7, a8, a9]) x d rfl (fun w h => hb w (Option.some.inj h)) h
theorem G_iload11 {a0 a1 a2 a3 a4 a5 a6 a7 a8 a9 a10 : Option Value} {r : List (Option Value)} {z : Int} (x : Ok X cc own) (d : Diload cc pc 11 q) (h : G X q (a0 :: a1 :: a2 :: a3 :: a4 :: a5 :: a6 :: a7 :: a8 :: a9 :: a10 :: some (VI z) :: r) (VI z :: st) T I J O k n) : G X pc (a0 :: a1 :: a2 :: a3 :: a4 :: a5 :: a6 :: a7 :: a8 :: a9 :: a10 :: some (VI z) :: r) st T I J O k n := G_iload (i := 11) x d rfl h
theorem G_lload11 {a0 a1 a2 a3 a4 a5 a6 a7 a8 a9 a10 : Option Value} {r : List (Option Value)} {z : Int64} (x : Ok X cc own) (d : Dlload cc pc 11 q) (h : G X q (a0 :: a1 :: a2 :: a3 :: a4 :: a5 :: a6 :: a7 :: a8 :: a9 :: a10 :: some (.long z) :: r) (.long z :: st) T I J O k n) : G X pc (a0 :: a1 :: a2 :: a3 :: a4 :: a5 :: a6 :: a7 :: a8 :: a9 :: a10 :: some (.long z) :: r) st T I J O k n := G_lload (i := 11) x d rfl h
theorem G_aload11 {a0 a1 a2 a3 a4 a5 a6 a7 a8 a9 a10 : Option Value} {r : List (Option Value)} {z : Option Nat} (x : Ok X cc own) (d : Daload cc pc 11 q) (h : G X q (a0 :: a1 :: a2 :: a3 :: a4 :: a5 :: a6 :: a7 :: a8 :: a9 :: a10 :: some (va_rf z) :: r) (va_rf z :: st) T I J O k n) : G X pc (a0 :: a1 :: a2 :: a3 :: a4 :: a5 :: a6 :: a7 :: a8 :: a9 :: a10 :: some (va_rf z) :: r) st T I J O k n := G_aload (i := 11) x d rfl h
theorem G_istore11 {a0 a1 a2 a3 a4 a5 a6 a7 a8 a9 a10 : Option Value} {r : List (Option Value)} {o9 : Option Value} {z : Int} (x : Ok X cc own) (d : Distore cc pc 11 q) (h : G X q (a0 :: a1 :: a2 :: a3 :: a4 :: a5 :: a6 :: a7 :: a8 :: a9 :: a10 :: some (VI z) :: r) st T I J O k n) (hb : gc1 a10 := by first | exact gc1_i | exact gc1_r | exact gc1_n) : G X pc (a0 :: a1 :: a2 :: a3 :: a4 :: a5 :: a6 :: a7 :: a8 :: a9 :: a10 :: o9 :: r) (VI z :: st) T I J O k n := G_istore (i := 11) (pre := [a0, a1, a2, a3, a4, a5, a6, a7, a8, a9, a10]) x d rfl (fun w h => hb w (Option.some.inj h)) h
theorem G_astore11 {a0 a1 a2 a3 a4 a5 a6 a7 a8 a9 a10 : Option Value} {r : List (Option Value)} {o9 : Option Value} {z : Option Nat} (x : Ok X cc own) (d : Dastore cc pc 11 q) (h : G X q (a0 :: a1 :: a2 :: a3 :: a4 :: a5 :: a6 :: a7 :: a8 :: a9 :: a10 :: some (va_rf z) :: r) st T I J O k n) (hb : gc1 a10 := by first | exact gc1_i | exact gc1_r | exact gc1_n) : G X pc (a0 :: a1 :: a2 :: a3 :: a4 :: a5 :: a6 :: a7 :: a8 :: a9 :: a10 :: o9 :: r) (va_rf z :: st) T I J O k n := G_astore (i := 11) (pre := [a0, a1, a2, a3, a4, a5, a6, a7, a8, a9, a10]) x d rfl (fun w h => hb w (Option.some.inj h)) h
theorem G_lstore11 {a0 a1 a2 a3 a4 a5 a6 a7 a8 a9 a10 : Option Value} {r : List (Option Value)} {o9 o8 : Option Value} {z : Int64} (x : Ok X cc own) (d : Dlstore cc pc 11 q) (h : G X q (a0 :: a1 :: a2 :: a3 :: a4 :: a5 :: a6 :: a7 :: a8 :: a9 :: a10 :: some (.long z) :: none :: r) st T I J O k n) (hb : gc1 a10 := by first | exact gc1_i | exact gc1_r | exact gc1_n) : G X pc (a0 :: a1 :: a2 :: a3 :: a4 :: a5 :: a6 :: a7 :: a8 :: a9 :: a10 :: o9 :: o8 :: r) (.long z :: st) T I J O k n := G_lstore (i := 11) (pre := [a0, a1, a2, a3, a4, a5, a6, a7, a8, a9, a10]) x d rfl (fun w h => hb w (Option.some.inj h)) h
theorem G_iinc11 {a0 a1 a2 a3 a4 a5 a6 a7 a8 a9 a10 : Option Value} {r : List (Option Value)} {z y : Int} (x : Ok X cc own) (d : Dc cc pc (.iinc 11 y) 3 q) (h : G X q (a0 :: a1 :: a2 :: a3 :: a4 :: a5 :: a6 :: a7 :: a8 :: a9 :: a10 :: some (VI (z + y)) :: r) st T I J O k n) (hb : gc1 a10 := by first | exact gc1_i | exact gc1_r | exact gc1_n) : G X pc (a0 :: a1 :: a2 :: a3 :: a4 :: a5 :: a6 :: a7 :: a8 :: a9 :: a10 :: some (VI z) :: r) st T I J O k n := G_iinc (i := 11) (pre := [a0, a1, a2, a3, a4, a5, a6, a7, a8, a9, a10]) x d rfl (fun w h => hb w (Option.some.inj h)) h
theorem G_iload12 {a0 a1 a2 a3 a4 a5 a6 a7 a8 a9 a10 a11 : Option Value} {r : List (Option Value)} {z : Int} (x : Ok X cc own) (d : Diload cc pc 12 q) (h : G X q (a0 :: a1 :: a2 :: a3 :: a4 :: a5 :: a6 :: a7 :: a8 :: a9 :: a10 :: a11 :: some (VI z) :: r) (VI z :: st) T I J O k n) : G X pc (a0 :: a1 :: a2 :: a3 :: a4 :: a5 :: a6 :: a7 :: a8 :: a9 :: a10 :: a11 :: some (VI z) :: r) st T I J O k n := G_iload (i := 12) x d rfl h
theorem G_lload12 {a0 a1 a2 a3 a4 a5 a6 a7 a8 a9 a10 a11 : Option Value} {r : List (Option Value)} {z : Int64} (x : Ok X cc own) (d : Dlload cc pc 12 q) (h : G X q (a0 :: a1 :: a2 :: a3 :: a4 :: a5 :: a6 :: a7 :: a8 :: a9 :: a10 :: a11 :: some (.long z) :: r) (.long z :: st) T I J O k n) : G X pc (a0 :: a1 :: a2 :: a3 :: a4 :: a5 :: a6 :: a7 :: a8 :: a9 :: a10 :: a11 :: some (.long z) :: r) st T I J O k n := G_lload (i := 12) x d rfl h
theorem G_aload12 {a0 a1 a2 a3 a4 a5 a6 a7 a8 a9 a10 a11 : Option Value} {r : List (Option Value)} {z : Option Nat} (x : Ok X cc own) (d : Daload cc pc 12 q) (h : G X q (a0 :: a1 :: a2 :: a3 :: a4 :: a5 :: a6 :: a7 :: a8 :: a9 :: a10 :: a11 :: some (va_rf z) :: r) (va_rf z :: st) T I J O k n) : G X pc (a0 :: a1 :: a2 :: a3 :: a4 :: a5 :: a6 :: a7 :: a8 :: a9 :: a10 :: a11 :: some (va_rf z) :: r) st T I J O k n := G_aload (i := 12) x d rfl h
theorem G_istore12 {a0 a1 a2 a3 a4 a5 a6 a7 a8 a9 a10 a11 : Option Value} {r : List (Option Value)} {o9 : Option Value} {z : Int} (x : Ok X cc own) (d : Distore cc pc 12 q) (h : G X q (a0 :: a1 :: a2 :: a3 :: a4 :: a5 :: a6 :: a7 :: a8 :: a9 :: a10 :: a11 :: some (VI z) :: r) st T I J O k n) (hb : gc1 a11 := by first | exact gc1_i | exact gc1_r | exact gc1_n) : G X pc (a0 :: a1 :: a2 :: a3 :: a4 :: a5 :: a6 :: a7 :: a8 :: a9 :: a10 :: a11 :: o9 :: r) (VI z :: st) T I J O k n := G_istore (i := 12) (pre := [a0, a1, a2, a3, a4, a5, a6, a7, a8, a9, a10, a11]) x d rfl (fun w h => hb w (Option.some.inj h)) h
theorem G_astore12 {a0 a1 a2 a3 a4 a5 a6 a7 a8 a9 a10 a11 : Option Value} {r : List (Option Value)} {o9 : Option Value} {z : Option Nat} (x : Ok X cc own) (d : Dastore cc pc 12 q) (h : G X q (a0 :: a1 :: a2 :: a3 :: a4 :: a5 :: a6 :: a7 :: a8 :: a9 :: a10 :: a11 :: some (va_rf z) :: r) st T I J O k n) (hb : gc1 a11 := by first | exact gc1_i | exact gc1_r | exact gc1_n) : G X pc (a0 :: a1 :: a2 :: a3 :: a4 :: a5 :: a6 :: a7 :: a8 :: a9 :: a10 :: a11 :: o9 :: r) (va_rf z :: st) T I J O k n := G_astore (i := 12) (pre := [a0, a1, a2, a3, a4, a5, a6, a7, a8, a9, a10, a11]) x d rfl (fun w h => hb w (Option.some.inj h)) h
theorem G_lstore12 {a0 a1 a2 a3 a4 a5 a6 a7 a8 a9 a10 a11 : Option Value} {r : List (Option Value)} {o9 o8 : Option Value} {z : Int64} (x : Ok X cc own) (d : Dlstore cc pc 12 q) (h : G X q (a0 :: a1 :: a2 :: a3 :: a4 :: a5 :: a6 :: a7 :: a8 :: a9 :: a10 :: a11 :: some (.long z) :: none :: r) st T I J O k n) (hb : gc1 a11 := by first | exact gc1_i | exact gc1_r | exact gc1_n) : G X pc (a0 :: a1 :: a2 :: a3 :: a4 :: a5 :: a6 :: a7 :: a8 :: a9 :: a10 :: a11 :: o9 :: o8 :: r) (.long z :: st) T I J O k n := G_lstore (i := 12) (pre := [a0, a1, a2, a3, a4, a5, a6, a7, a8, a9, a10, a11]) x d rfl (fun w h => hb w (Option.some.inj h)) h
theorem G_iinc12 {a0 a1 a2 a3 a4 a5 a6 a7 a8 a9 a10 a11 : Option Value} {r : List (Option Value)} {z y : Int} (x : Ok X cc own) (d : Dc cc pc (.iinc 12 y) 3 q) (h : G X q (a0 :: a1 :: a2 :: a3 :: a4 :: a5 :: a6 :: a7 :: a8 :: a9 :: a10 :: a11 :: some (VI (z + y)) :: r) st T I J O k n) (hb : gc1 a11 := by first | exact gc1_i | exact gc1_r | exact gc1_n) : G X pc (a0 :: a1 :: a2 :: a3 :: a4 :: a5 :: a6 :: a7 :: a8 :: a9 :: a10 :: a11 :: some (VI z) :: r) st T I J O k n := G_iinc (i := 12) (pre := [a0, a1, a2, a3, a4, a5, a6, a7, a8, a9, a10, a11]) x d rfl (fun w h => hb w (Option.some.inj h)) h
theorem G_iadd {a b : Int} (x : Ok X cc own) (d : Dc cc pc .iadd 1 q) (h : G X q Ls (VI (a + b) :: st) T I J O k n) : G X pc Ls (VI b :: VI a :: st) T I J O k n := by
  obtain ⟨p, l, e, R, s, m, args, below, meth, c, E, Q⟩ := X
  intro H locs ls hW hS hL
  obtain ⟨d, rfl⟩ := d
  refine lv_iadd x.1 x.2.1 d ?_
  rw [← Int32.ofInt_add]
  exact h H locs ls hW hS hL
theorem G_isub {a b : Int} (x : Ok X cc own) (d : Dc cc pc .isub 1 q) (h : G X q Ls (VI (a - b) :: st) T I J O k n) : G X pc Ls (VI b :: VI a :: st) T I J O k n := by
  obtain ⟨p, l, e, R, s, m, args, below, meth, c, E, Q⟩ := X
  intro H locs ls hW hS hL
  obtain ⟨d, rfl⟩ := d
  refine lv_isub x.1 x.2.1 d ?_
  rw [← Int32.ofInt_sub]
  exact h H locs ls hW hS hL
theorem G_imul {a b : Int} (x : Ok X cc own) (d : Dc cc pc .imul 1 q) (h : G X q Ls (VI (a * b) :: st) T I J O k n) : G X pc Ls (VI b :: VI a :: st) T I J O k n := by
  obtain ⟨p, l, e, R, s, m, args, below, meth, c, E, Q⟩ := X
  intro H locs ls hW hS hL
  obtain ⟨d, rfl⟩ := d
  refine lv_imul x.1 x.2.1 d ?_
  rw [← Int32.ofInt_mul]
  exact h H locs ls hW hS hL
theorem G_ladd {a b : Int64} (x : Ok X cc own) (d : Dc cc pc .ladd 1 q) (h : G X q Ls (.long (a + b) :: st) T I J O k n) : G X pc Ls (.long b :: .long a :: st) T I J O k n := by
  obtain ⟨p, l, e, R, s, m, args, below, meth, c, E, Q⟩ := X
  intro H locs ls hW hS hL
  obtain ⟨d, rfl⟩ := d
  exact lv_ladd x.1 x.2.1 d (h H locs ls hW hS hL)
theorem G_lsub {a b : Int64} (x : Ok X cc own) (d : Dc cc pc .lsub 1 q) (h : G X q Ls (.long (a - b) :: st) T I J O k n) : G X pc Ls (.long b :: .long a :: st) T I J O k n := by
  obtain ⟨p, l, e, R, s, m, args, below, meth, c, E, Q⟩ := X
  intro H locs ls hW hS hL
  obtain ⟨d, rfl⟩ := d
  exact lv_lsub x.1 x.2.1 d (h H locs ls hW hS hL)
theorem G_lmul {a b : Int64} (x : Ok X cc own) (d : Dc cc pc .lmul 1 q) (h : G X q Ls (.long (a * b) :: st) T I J O k n) : G X pc Ls (.long b :: .long a :: st) T I J O k n := by
  obtain ⟨p, l, e, R, s, m, args, below, meth, c, E, Q⟩ := X
  intro H locs ls hW hS hL
  obtain ⟨d, rfl⟩ := d
  exact lv_lmul x.1 x.2.1 d (h H locs ls hW hS hL)
theorem G_land {a b : Int64} (x : Ok X cc own) (d : Dc cc pc .land 1 q) (h : G X q Ls (.long (a &&& b) :: st) T I J O k n) : G X pc Ls (.long b :: .long a :: st) T I J O k n := by
  obtain ⟨p, l, e, R, s, m, args, below, meth, c, E, Q⟩ := X
  intro H locs ls hW hS hL
  obtain ⟨d, rfl⟩ := d
  exact lv_land x.1 x.2.1 d (h H locs ls hW hS hL)
theorem G_lor {a b : Int64} (x : Ok X cc own) (d : Dc cc pc .lor 1 q) (h : G X q Ls (.long (a ||| b) :: st) T I J O k n) : G X pc Ls (.long b :: .long a :: st) T I J O k n := by
  obtain ⟨p, l, e, R, s, m, args, below, meth, c, E, Q⟩ := X
  intro H locs ls hW hS hL
  obtain ⟨d, rfl⟩ := d
  exact lv_lor x.1 x.2.1 d (h H locs ls hW hS hL)
theorem G_lxor {a b : Int64} (x : Ok X cc own) (d : Dc cc pc .lxor 1 q) (h : G X q Ls (.long (a ^^^ b) :: st) T I J O k n) : G X pc Ls (.long b :: .long a :: st) T I J O k n := by
  obtain ⟨p, l, e, R, s, m, args, below, meth, c, E, Q⟩ := X
  intro H locs ls hW hS hL
  obtain ⟨d, rfl⟩ := d
  exact lv_lxor x.1 x.2.1 d (h H locs ls hW hS hL)
theorem G_lneg {a : Int64} (x : Ok X cc own) (d : Dc cc pc .lneg 1 q) (h : G X q Ls (.long (-a) :: st) T I J O k n) : G X pc Ls (.long a :: st) T I J O k n := by
  obtain ⟨p, l, e, R, s, m, args, below, meth, c, E, Q⟩ := X
  intro H locs ls hW hS hL
  obtain ⟨d, rfl⟩ := d
  exact lv_lneg x.1 x.2.1 d (h H locs ls hW hS hL)
theorem G_lshl {a : Int64} {b : Int} (x : Ok X cc own) (d : Dc cc pc .lshl 1 q) (h : G X q Ls (.long (a <<< ((Int32.ofInt b).toInt64 &&& 63)) :: st) T I J O k n) : G X pc Ls (VI b :: .long a :: st) T I J O k n := by
  obtain ⟨p, l, e, R, s, m, args, below, meth, c, E, Q⟩ := X
  intro H locs ls hW hS hL
  obtain ⟨d, rfl⟩ := d
  exact lv_lshl x.1 x.2.1 d rfl (h H locs ls hW hS hL)
theorem G_lushr {a : Int64} {b : Int} (x : Ok X cc own) (d : Dc cc pc .lushr 1 q) (h : G X q Ls (.long (a.toUInt64 >>> ((Int32.ofInt b).toInt64.toUInt64 &&& Int64.toUInt64 63)).toInt64 :: st) T I J O k n) : G X pc Ls (VI b :: .long a :: st) T I J O k n := by
  obtain ⟨p, l, e, R, s, m, args, below, meth, c, E, Q⟩ := X
  intro H locs ls hW hS hL
  obtain ⟨d, rfl⟩ := d
  exact lv_lushr x.1 x.2.1 d rfl (h H locs ls hW hS hL)
theorem G_lcmp {a b : Int64} (x : Ok X cc own) (d : Dc cc pc .lcmp 1 q) (h : G X q Ls (VI (if b < a then 1 else if a = b then 0 else -1) :: st) T I J O k n) : G X pc Ls (.long b :: .long a :: st) T I J O k n := by
  obtain ⟨p, l, e, R, s, m, args, below, meth, c, E, Q⟩ := X
  intro H locs ls hW hS hL
  obtain ⟨d, rfl⟩ := d
  refine W.lcmp x.1 x.2.1 d ?_
  have e : Value.int (lg_cmp a b) = VI (if b < a then 1 else if a = b then 0 else -1) := by
    unfold lg_cmp VI
    split
    · rfl
    · split <;> rfl
  rw [e]
  exact h H locs ls hW hS hL
theorem G_lconst {a : Fin 2} (x : Ok X cc own) (d : Dc cc pc (.lconst a) 1 q) (h : G X q Ls (.long (Int64.ofNat (a : Nat)) :: st) T I J O k n) : G X pc Ls st T I J O k n := by
  obtain ⟨p, l, e, R, s, m, args, below, meth, c, E, Q⟩ := X
  intro H locs ls hW hS hL
  obtain ⟨d, rfl⟩ := d
  exact lv_lconst x.1 x.2.1 d rfl (h H locs ls hW hS hL)
theorem G_ldc2 {i9 : Nat} {v : Int64} (x : Ok X cc own) (hc : Cond.constantLong own i9 v ∈ gtb) (d : Dc cc pc (.ldc2_w i9) 3 q) (h : G X q Ls (.long v :: st) T I J O k n) : G X pc Ls st T I J O k n := by
  obtain ⟨p, l, e, R, s, m, args, below, meth, c, E, Q⟩ := X
  intro H locs ls hW hS hL
  obtain ⟨d, rfl⟩ := d
  exact lv_ldc2 x.1 x.2.1 x.2.2.1 (x.2.2.2.1 _ hc) d (h H locs ls hW hS hL)
theorem G_i2l {a : Int} (x : Ok X cc own) (d : Dc cc pc .i2l 1 q) (ha : in32 a) (h : G X q Ls (.long (Int64.ofInt a) :: st) T I J O k n) : G X pc Ls (VI a :: st) T I J O k n := by
  obtain ⟨p, l, e, R, s, m, args, below, meth, c, E, Q⟩ := X
  intro H locs ls hW hS hL
  obtain ⟨d, rfl⟩ := d
  refine lv_i2l (v := Int64.ofInt a) x.1 x.2.1 d ?_ (h H locs ls hW hS hL)
  rw [← Int32.ofInt_toInt (Int32.ofInt a), ← Int64.toInt_inj]
  rw [Int32.toInt_toInt64, Int32.ofInt_toInt, i32_toInt ha, Int64.toInt_ofInt_of_le (by have := ha.1; omega) (by have := ha.2; omega)]
theorem G_l2i {a : Int64} (x : Ok X cc own) (d : Dc cc pc .l2i 1 q) (h : G X q Ls (VI a.toInt :: st) T I J O k n) : G X pc Ls (.long a :: st) T I J O k n := by
  obtain ⟨p, l, e, R, s, m, args, below, meth, c, E, Q⟩ := X
  intro H locs ls hW hS hL
  obtain ⟨d, rfl⟩ := d
  refine lv_l2i (v := Int32.ofInt a.toInt) x.1 x.2.1 d ?_ (h H locs ls hW hS hL)
  have h9 := Int64.toInt32_ofInt (n := a.toInt)
  rw [Int64.ofInt_toInt] at h9
  exact h9
theorem G_dup {v : Value} (x : Ok X cc own) (d : Dc cc pc .dup 1 q) (hv : v.category = 1) (h : G X q Ls (v :: v :: st) T I J O k n) : G X pc Ls (v :: st) T I J O k n := by
  obtain ⟨p, l, e, R, s, m, args, below, meth, c, E, Q⟩ := X
  intro H locs ls hW hS hL
  obtain ⟨d, rfl⟩ := d
  exact lv_dup x.1 x.2.1 d hv (h H locs ls hW hS hL)
theorem G_dup2 {v w : Value} (x : Ok X cc own) (d : Dc cc pc .dup2 1 q) (hv : v.category = 1) (hw : w.category = 1) (h : G X q Ls (v :: w :: v :: w :: st) T I J O k n) : G X pc Ls (v :: w :: st) T I J O k n := by
  obtain ⟨p, l, e, R, s, m, args, below, meth, c, E, Q⟩ := X
  intro H locs ls hW hS hL
  obtain ⟨d, rfl⟩ := d
  exact lv_dup2_11 x.1 x.2.1 d hv hw (h H locs ls hW hS hL)
theorem G_null (x : Ok X cc own) (d : Dc cc pc .aconst_null 1 q) (h : G X q Ls (va_rf none :: st) T I J O k n) : G X pc Ls st T I J O k n := by
  obtain ⟨p, l, e, R, s, m, args, below, meth, c, E, Q⟩ := X
  intro H locs ls hW hS hL
  obtain ⟨d, rfl⟩ := d
  exact lv_null x.1 x.2.1 d (h H locs ls hW hS hL)
theorem G_goto {tgt : Nat} (x : Ok X cc own) (d : Db cc pc .goto tgt q) (h : G X tgt Ls st T I J O k n) : G X pc Ls st T I J O k n := by
  obtain ⟨p, l, e, R, s, m, args, below, meth, c, E, Q⟩ := X
  intro H locs ls hW hS hL
  obtain ⟨off, d, ht, rfl⟩ := d
  exact lv_goto x.1 x.2.1 d ht (h H locs ls hW hS hL)
theorem G_icmp_lt {a b : Int} {tgt : Nat} (x : Ok X cc own) (d : Db cc pc (.if_icmp .lt) tgt q) (ha : in32 a) (hb : in32 b) (h1 : a < b → G X tgt Ls st T I J O k n) (h2 : ¬ a < b → G X q Ls st T I J O k n) : G X pc Ls (VI b :: VI a :: st) T I J O k n := by
  obtain ⟨p, l, e, R, s, m, args, below, meth, c, E, Q⟩ := X
  intro H locs ls hW hS hL
  obtain ⟨off, d, ht, rfl⟩ := d
  exact lv_icmp_lt x.1 x.2.1 d ht (fun z => h1 ((i32_lt ha hb).mp z) H locs ls hW hS hL) (fun z => h2 (fun y => z ((i32_lt ha hb).mpr y)) H locs ls hW hS hL)
theorem G_if_lt {a : Int} {tgt : Nat} (x : Ok X cc own) (d : Db cc pc (.ifCond .lt) tgt q) (ha : in32 a) (h1 : a < 0 → G X tgt Ls st T I J O k n) (h2 : ¬ a < 0 → G X q Ls st T I J O k n) : G X pc Ls (VI a :: st) T I J O k n := by
  obtain ⟨p, l, e, R, s, m, args, below, meth, c, E, Q⟩ := X
  intro H locs ls hW hS hL
  obtain ⟨off, d, ht, rfl⟩ := d
  have z0 : in32 0 := ⟨by decide, by decide⟩
  exact lv_if_lt x.1 x.2.1 d ht (fun z => h1 ((i32_lt ha z0).mp z) H locs ls hW hS hL) (fun z => h2 (fun y => z ((i32_lt ha z0).mpr y)) H locs ls hW hS hL)
theorem G_icmp_ge {a b : Int} {tgt : Nat} (x : Ok X cc own) (d : Db cc pc (.if_icmp .ge) tgt q) (ha : in32 a) (hb : in32 b) (h1 : b ≤ a → G X tgt Ls st T I J O k n) (h2 : ¬ b ≤ a → G X q Ls st T I J O k n) : G X pc Ls (VI b :: VI a :: st) T I J O k n := by
  obtain ⟨p, l, e, R, s, m, args, below, meth, c, E, Q⟩ := X
  intro H locs ls hW hS hL
  obtain ⟨off, d, ht, rfl⟩ := d
  exact lv_icmp_ge x.1 x.2.1 d ht (fun z => h1 ((i32_le hb ha).mp z) H locs ls hW hS hL) (fun z => h2 (fun y => z ((i32_le hb ha).mpr y)) H locs ls hW hS hL)
theorem G_if_ge {a : Int} {tgt : Nat} (x : Ok X cc own) (d : Db cc pc (.ifCond .ge) tgt q) (ha : in32 a) (h1 : 0 ≤ a → G X tgt Ls st T I J O k n) (h2 : ¬ 0 ≤ a → G X q Ls st T I J O k n) : G X pc Ls (VI a :: st) T I J O k n := by
  obtain ⟨p, l, e, R, s, m, args, below, meth, c, E, Q⟩ := X
  intro H locs ls hW hS hL
  obtain ⟨off, d, ht, rfl⟩ := d
  have z0 : in32 0 := ⟨by decide, by decide⟩
  exact lv_if_ge x.1 x.2.1 d ht (fun z => h1 ((i32_le z0 ha).mp z) H locs ls hW hS hL) (fun z => h2 (fun y => z ((i32_le z0 ha).mpr y)) H locs ls hW hS hL)
theorem G_icmp_gt {a b : Int} {tgt : Nat} (x : Ok X cc own) (d : Db cc pc (.if_icmp .gt) tgt q) (ha : in32 a) (hb : in32 b) (h1 : b < a → G X tgt Ls st T I J O k n) (h2 : ¬ b < a → G X q Ls st T I J O k n) : G X pc Ls (VI b :: VI a :: st) T I J O k n := by
  obtain ⟨p, l, e, R, s, m, args, below, meth, c, E, Q⟩ := X
  intro H locs ls hW hS hL
  obtain ⟨off, d, ht, rfl⟩ := d
  exact lv_icmp_gt x.1 x.2.1 d ht (fun z => h1 ((i32_lt hb ha).mp z) H locs ls hW hS hL) (fun z => h2 (fun y => z ((i32_lt hb ha).mpr y)) H locs ls hW hS hL)
theorem G_if_gt {a : Int} {tgt : Nat} (x : Ok X cc own) (d : Db cc pc (.ifCond .gt) tgt q) (ha : in32 a) (h1 : 0 < a → G X tgt Ls st T I J O k n) (h2 : ¬ 0 < a → G X q Ls st T I J O k n) : G X pc Ls (VI a :: st) T I J O k n := by
  obtain ⟨p, l, e, R, s, m, args, below, meth, c, E, Q⟩ := X
  intro H locs ls hW hS hL
  obtain ⟨off, d, ht, rfl⟩ := d
  have z0 : in32 0 := ⟨by decide, by decide⟩
  exact lv_if_gt x.1 x.2.1 d ht (fun z => h1 ((i32_lt z0 ha).mp z) H locs ls hW hS hL) (fun z => h2 (fun y => z ((i32_lt z0 ha).mpr y)) H locs ls hW hS hL)
theorem G_icmp_le {a b : Int} {tgt : Nat} (x : Ok X cc own) (d : Db cc pc (.if_icmp .le) tgt q) (ha : in32 a) (hb : in32 b) (h1 : a ≤ b → G X tgt Ls st T I J O k n) (h2 : ¬ a ≤ b → G X q Ls st T I J O k n) : G X pc Ls (VI b :: VI a :: st) T I J O k n := by
  obtain ⟨p, l, e, R, s, m, args, below, meth, c, E, Q⟩ := X
  intro H locs ls hW hS hL
  obtain ⟨off, d, ht, rfl⟩ := d
  exact lv_icmp_le x.1 x.2.1 d ht (fun z => h1 ((i32_le ha hb).mp z) H locs ls hW hS hL) (fun z => h2 (fun y => z ((i32_le ha hb).mpr y)) H locs ls hW hS hL)
theorem G_if_le {a : Int} {tgt : Nat} (x : Ok X cc own) (d : Db cc pc (.ifCond .le) tgt q) (ha : in32 a) (h1 : a ≤ 0 → G X tgt Ls st T I J O k n) (h2 : ¬ a ≤ 0 → G X q Ls st T I J O k n) : G X pc Ls (VI a :: st) T I J O k n := by
  obtain ⟨p, l, e, R, s, m, args, below, meth, c, E, Q⟩ := X
  intro H locs ls hW hS hL
  obtain ⟨off, d, ht, rfl⟩ := d
  have z0 : in32 0 := ⟨by decide, by decide⟩
  exact lv_if_le x.1 x.2.1 d ht (fun z => h1 ((i32_le ha z0).mp z) H locs ls hW hS hL) (fun z => h2 (fun y => z ((i32_le ha z0).mpr y)) H locs ls hW hS hL)
theorem G_icmp_eq {a b : Int} {tgt : Nat} (x : Ok X cc own) (d : Db cc pc (.if_icmp .eq) tgt q) (ha : in32 a) (hb : in32 b) (h1 : a = b → G X tgt Ls st T I J O k n) (h2 : ¬ a = b → G X q Ls st T I J O k n) : G X pc Ls (VI b :: VI a :: st) T I J O k n := by
  obtain ⟨p, l, e, R, s, m, args, below, meth, c, E, Q⟩ := X
  intro H locs ls hW hS hL
  obtain ⟨off, d, ht, rfl⟩ := d
  exact lv_icmp_eq x.1 x.2.1 d ht (fun z => h1 ((i32_eq ha hb).mp z) H locs ls hW hS hL) (fun z => h2 (fun y => z ((i32_eq ha hb).mpr y)) H locs ls hW hS hL)
theorem G_if_eq {a : Int} {tgt : Nat} (x : Ok X cc own) (d : Db cc pc (.ifCond .eq) tgt q) (ha : in32 a) (h1 : a = 0 → G X tgt Ls st T I J O k n) (h2 : ¬ a = 0 → G X q Ls st T I J O k n) : G X pc Ls (VI a :: st) T I J O k n := by
  obtain ⟨p, l, e, R, s, m, args, below, meth, c, E, Q⟩ := X
  intro H locs ls hW hS hL
  obtain ⟨off, d, ht, rfl⟩ := d
  have z0 : in32 0 := ⟨by decide, by decide⟩
  exact lv_if_eq x.1 x.2.1 d ht (fun z => h1 ((i32_eq ha z0).mp z) H locs ls hW hS hL) (fun z => h2 (fun y => z ((i32_eq ha z0).mpr y)) H locs ls hW hS hL)
theorem G_icmp_ne {a b : Int} {tgt : Nat} (x : Ok X cc own) (d : Db cc pc (.if_icmp .ne) tgt q) (ha : in32 a) (hb : in32 b) (h1 : ¬ a = b → G X tgt Ls st T I J O k n) (h2 : a = b → G X q Ls st T I J O k n) : G X pc Ls (VI b :: VI a :: st) T I J O k n := by
  obtain ⟨p, l, e, R, s, m, args, below, meth, c, E, Q⟩ := X
  intro H locs ls hW hS hL
  obtain ⟨off, d, ht, rfl⟩ := d
  exact lv_icmp_ne x.1 x.2.1 d ht (fun z => h1 (fun y => z ((i32_eq ha hb).mpr y)) H locs ls hW hS hL) (fun z => h2 ((i32_eq ha hb).mp z) H locs ls hW hS hL)
theorem G_if_ne {a : Int} {tgt : Nat} (x : Ok X cc own) (d : Db cc pc (.ifCond .ne) tgt q) (ha : in32 a) (h1 : ¬ a = 0 → G X tgt Ls st T I J O k n) (h2 : a = 0 → G X q Ls st T I J O k n) : G X pc Ls (VI a :: st) T I J O k n := by
  obtain ⟨p, l, e, R, s, m, args, below, meth, c, E, Q⟩ := X
  intro H locs ls hW hS hL
  obtain ⟨off, d, ht, rfl⟩ := d
  have z0 : in32 0 := ⟨by decide, by decide⟩
  exact lv_if_ne x.1 x.2.1 d ht (fun z => h1 (fun y => z ((i32_eq ha z0).mpr y)) H locs ls hW hS hL) (fun z => h2 ((i32_eq ha z0).mp z) H locs ls hW hS hL)
theorem G_ifnull {o : Option Nat} {tgt : Nat} (x : Ok X cc own) (d : Db cc pc .ifnull tgt q) (h1 : o = none → G X tgt Ls st T I J O k n) (h2 : ∀ a, o = some a → G X q Ls st T I J O k n) : G X pc Ls (va_rf o :: st) T I J O k n := by
  obtain ⟨p, l, e, R, s, m, args, below, meth, c, E, Q⟩ := X
  intro H locs ls hW hS hL
  obtain ⟨off, d, ht, rfl⟩ := d
  cases o with
  | none => exact lv_ifnullN x.1 x.2.1 d ht (h1 rfl H locs ls hW hS hL)
  | some a => exact lv_ifnull x.1 x.2.1 d (h2 a rfl H locs ls hW hS hL)
theorem G_ifnonnull {o : Option Nat} {tgt : Nat} (x : Ok X cc own) (d : Db cc pc .ifnonnull tgt q) (h1 : ∀ a, o = some a → G X tgt Ls st T I J O k n) (h2 : o = none → G X q Ls st T I J O k n) : G X pc Ls (va_rf o :: st) T I J O k n := by
  obtain ⟨p, l, e, R, s, m, args, below, meth, c, E, Q⟩ := X
  intro H locs ls hW hS hL
  obtain ⟨off, d, ht, rfl⟩ := d
  cases o with
  | none => exact lv_ifnonnullN x.1 x.2.1 d (h2 rfl H locs ls hW hS hL)
  | some a => exact lv_ifnonnull x.1 x.2.1 d ht (h1 a rfl H locs ls hW hS hL)
theorem G_acmp_ne {o o2 : Option Nat} {tgt : Nat} (x : Ok X cc own) (d : Db cc pc (.if_acmp .ne) tgt q) (h1 : ¬ o = o2 → G X tgt Ls st T I J O k n) (h2 : o = o2 → G X q Ls st T I J O k n) : G X pc Ls (va_rf o2 :: va_rf o :: st) T I J O k n := by
  obtain ⟨p, l, e, R, s, m, args, below, meth, c, E, Q⟩ := X
  intro H locs ls hW hS hL
  obtain ⟨off, d, ht, rfl⟩ := d
  exact lv_acmp_ne x.1 x.2.1 d ht (fun z => h1 z H locs ls hW hS hL) (fun z => h2 z H locs ls hW hS hL)
theorem i32_div {a b : Int} (ha : in32 a) (hb : 0 < b) (hb2 : in32 b) : Int32.ofInt a / Int32.ofInt b = Int32.ofInt (a.tdiv b) := by
  rw [← Int32.toInt_inj, Int32.toInt_div, i32_toInt ha, i32_toInt hb2]
  have h1 : in32 (a.tdiv b) := by
    have h3 : (a.tdiv b).natAbs ≤ a.natAbs := by
      rw [Int.natAbs_tdiv]
      exact Nat.div_le_self _ _
    have := ha.1
    have := ha.2
    by_cases ha0 : 0 ≤ a
    · have := Int.tdiv_nonneg ha0 (Int.le_of_lt hb)
      constructor <;> omega
    · have h5 : 0 ≤ (-a).tdiv b := Int.tdiv_nonneg (by omega) (Int.le_of_lt hb)
      rw [Int.neg_tdiv] at h5
      constructor <;> omega
  rw [i32_toInt h1]
  exact Int.bmod_eq_of_le (by have := h1.1; omega) (by have := h1.2; omega)
theorem G_idiv {a b : Int} (x : Ok X cc own) (d : Dc cc pc .idiv 1 q) (ha : in32 a) (hb : 0 < b) (hb2 : in32 b) (h : G X q Ls (VI (a.tdiv b) :: st) T I J O k n) : G X pc Ls (VI b :: VI a :: st) T I J O k n := by
  obtain ⟨p, l, e, R, s, m, args, below, meth, c, E, Q⟩ := X
  intro H locs ls hW hS hL
  obtain ⟨d, rfl⟩ := d
  refine lv_idiv x.1 x.2.1 d (fun z => ?_) ?_
  · have := (i32_eq (y := 0) hb2 ⟨by decide, by decide⟩).mp z
    omega
  · rw [i32_div ha hb hb2]
    exact h H locs ls hW hS hL
theorem G_irem {a b : Int} (x : Ok X cc own) (d : Dc cc pc .irem 1 q) (ha : in32 a) (hb : 0 < b) (hb2 : in32 b) (h : G X q Ls (VI (a.tmod b) :: st) T I J O k n) : G X pc Ls (VI b :: VI a :: st) T I J O k n := by
  obtain ⟨p, l, e, R, s, m, args, below, meth, c, E, Q⟩ := X
  intro H locs ls hW hS hL
  obtain ⟨d, rfl⟩ := d
  refine lv_irem x.1 x.2.1 d (fun z => ?_) ?_
  · have := (i32_eq (y := 0) hb2 ⟨by decide, by decide⟩).mp z
    omega
  · rw [i32_div ha hb hb2, ← Int32.ofInt_mul, ← Int32.ofInt_sub]
    have e : a - a.tdiv b * b = a.tmod b := by
      have := Int.tmod_add_tdiv_mul a b
      omega
    rw [e]
    exact h H locs ls hW hS hL
end GR
