abbrev gP : Type := Option Value → gT → gI → gJ → gO → Prop
abbrev gPX : Type := String → gT → gI → gJ → gO → Prop
def gws (y : MethodName) (cc : ByteArray) (maxL : Nat) (ret : Option FieldType) : List Cond := Cond.code y cc maxL ret :: gtb
def gPc (E : gD) (as : List Value) (T : gT) (I : gI) (J : gJ) (O : gO) : Array Value → State → Prop := fun v U => v = as.toArray ∧ gWd E T I J O U.heap ∧ gE E U U.heap ∧ E.2.2 ≤ U.heap.size
def gQc (E : gD) (P : gP) : Array Value → State → Outcome → State → Prop := fun _ st o t => (∃ v T I J O, o = .returned v ∧ P v T I J O ∧ gWd E T I J O t.heap) ∧ va_F (fun q => E.2.2 ≤ q) st t
def gXC (E : gD) (PX : gPX) : String → State → State → Prop := fun cl st t => (∃ T I J O, PX cl T I J O ∧ gWd E T I J O t.heap) ∧ va_F (fun q => E.2.2 ≤ q) st t
/-- a contract: from these cells with these arguments the method returns, with P -/
def Ct (y : MethodName) (cc : ByteArray) (maxL : Nat) (ret : Option FieldType) (as : List Value) (fr lo mc ms : Nat) (T : gT) (I : gI) (J : gJ) (O : gO) (P : gP) : Prop :=
  ∀ (l : Launch) (E : gD), l.stackTraces = false → Met l y (gws y cc maxL ret) { frames := fr, cells := mc, slots := ms, locals := lo } (gPc E as T I J O) (gQc E P) mc ms (fun q => E.2.2 ≤ q)
/-- .. or throws, with PX -/
def Cx (y : MethodName) (cc : ByteArray) (maxL : Nat) (ret : Option FieldType) (as : List Value) (fr lo mc ms : Nat) (T : gT) (I : gI) (J : gJ) (O : gO) (P : gP) (PX : gPX) : Prop :=
  ∀ (l : Launch) (E : gD), l.stackTraces = false → vx_Met l y (gws y cc maxL ret) { frames := fr, cells := mc, slots := ms, locals := lo } (gPc E as T I J O) (gQc E P) (gXC E PX) mc ms (fun q => E.2.2 ≤ q)
theorem gPc_blind {E : gD} {as : List Value} {T : gT} {I : gI} {J : gJ} {O : gO} : FrameBlind (gPc E as T I J O) := fun a U g mk h => ⟨h.1, h.2.1, gE.same (s := U) (U := U.calling g mk a) rfl h.2.2.1, h.2.2.2⟩
theorem gws_good {y : MethodName} {cc : ByteArray} {maxL : Nat} {ret : Option FieldType} (h : Cond.code y cc maxL ret ∈ gtb) : GoodIn gtb (gws y cc maxL ret) := fun w hw => by
  have hm : w ∈ gtb := by
    rcases List.mem_cons.mp hw with rfl | h1
    · exact h
    · exact h1
  exact ⟨hm, good_of_word (List.mem_filter.mp hm).2⟩
/-- what a body may rest on at its end -/
def gEnd (X : gX) (P : gP) (mc ms : Nat) (ret : Option FieldType) : Prop :=
  match X with
  | (p, l, e, R, s, m, args, below, meth, c, E, Q) => (∀ (H : Heap) (locs : List Loc) (k n : Nat) (g : JFrame), W p l e R s m args below meth c H locs k n (MQ below (gQc E P) args s mc ms (fun q => E.2.2 ≤ q)) g → W p l e R s m args below meth c H locs k n Q g) ∧ meth.sig.returnType = ret
def gRm (X : gX) (fr lo mc ms : Nat) : Prop := X.2.2.2.1 = { frames := fr, cells := mc, slots := ms, locals := lo }
/-- the locals at the entry -/
def gEn (as : List Value) (maxL : Nat) (Ls : List (Option Value)) : Prop := (lg_sl as).length ≤ maxL ∧ Ls.length ≤ maxL ∧ ∀ (i : Nat) (v : Value), Ls[i]? = some (some v) → (i, v) ∈ lv_args 0 as
theorem gEn.ls {as : List Value} {maxL : Nat} {Ls : List (Option Value)} (h : gEn as maxL Ls) : gLs ((lg_sl as ++ List.replicate (maxL - (lg_sl as).length) Slot.unset).toArray) maxL Ls := by
  have h1 := lv_entry as h.1
  exact ⟨h1.1, h1.2.1, h.2.1, fun i v hv => h1.2.2 _ (h.2.2 i v hv)⟩
theorem lv_args1 {as : List Value} (h : ∀ v ∈ as, v.category ≠ 2) : ∀ (b i : Nat) (v : Value), as[i]? = some v → (b + i, v) ∈ lv_args b as := by
  induction as with
  | nil => intro b i v hv; cases hv
  | cons a t ih =>
    intro b i v hv
    have ha : ¬ a.category = 2 := h a List.mem_cons_self
    rw [lv_args, if_neg ha]
    cases i with
    | zero =>
      cases hv
      exact List.mem_cons_self
    | succ i =>
      rw [List.getElem?_cons_succ] at hv
      have := ih (fun w hw => h w (List.mem_cons_of_mem _ hw)) (b + 1) i v hv
      rw [show b + (i + 1) = b + 1 + i by omega]
      exact List.mem_cons_of_mem _ this
theorem lg_sl1 {as : List Value} (h : ∀ v ∈ as, v.category ≠ 2) : (lg_sl as).length = as.length := by
  induction as with
  | nil => rfl
  | cons a t ih =>
    have ha : ¬ a.category = 2 := h a List.mem_cons_self
    have := ih (fun w hw => h w (List.mem_cons_of_mem _ hw))
    simp only [lg_sl, List.flatMap_cons, if_neg ha, List.length_append, List.length_cons, List.length_nil] at this ⊢
    omega
/-- arguments of one word each -/
theorem gEn1 {as : List Value} {maxL : Nat} {Ls : List (Option Value)} (h : ∀ v ∈ as, v.category ≠ 2) (hl : Ls.length = maxL) (ha : as.length ≤ maxL) (hL : Ls = as.map some ++ List.replicate (maxL - as.length) none) : gEn as maxL Ls := by
  refine ⟨by rw [lg_sl1 h]; exact ha, Nat.le_of_eq hl, fun i v hv => ?_⟩
  rw [hL] at hv
  rcases Nat.lt_or_ge i (as.map some).length with q | q
  · rw [List.getElem?_append_left q, List.getElem?_map] at hv
    cases hx : as[i]? with
    | none => rw [hx] at hv; cases hv
    | some w =>
      rw [hx] at hv
      cases hv
      have := lv_args1 h 0 i v hx
      rwa [Nat.zero_add] at this
  · rw [List.getElem?_append_right q] at hv
    have := List.mem_of_getElem? hv
    rw [List.mem_replicate] at this
    cases this.2
theorem cat_VI (z : Int) : (VI z).category ≠ 2 := by show (1 : Nat) ≠ 2; decide
theorem cat_VR (o : Option Nat) : (va_rf o).category ≠ 2 := by rw [cat_rf]; decide
theorem Ct.of {y : MethodName} {cc : ByteArray} {maxL : Nat} {ret : Option FieldType} {as : List Value} {fr lo mc ms : Nat} {T : gT} {I : gI} {J : gJ} {O : gO} {P : gP} (hy : plainName y.cls = true) (Ls : List (Option Value)) (hE : gEn as maxL Ls)
    (body : ∀ X : gX, Ok X cc y.cls → gEnd X P mc ms ret → gRm X fr lo mc ms → (y.name = "<init>" → Ini X) → (∀ a k, in32 (I a k)) → (∀ a k, T.1 ≤ a → I a k = 0 ∧ J a k = 0 ∧ O a k = none) → G X 0 Ls [] T I J O 0 0) : Ct y cc maxL ret as fr lo mc ms T I J O P := by
  intro l E hst
  refine Met.ofW (cc := cc) (maxL := maxL) (ret := ret) hy rfl ?_
  intro p e s m args below meth c s₁ B hml hv
  obtain ⟨rfl, hW, hgE, hn0⟩ := hv
  have hts := atoms_spec (ws := gws y cc maxL ret) B.pre
  rw [lg_entry_eq]
  refine body (p, l, e, _, s, m, as.toArray, below, meth, c, E, _) ⟨B.exec, B.bytes, findClass_of_methodNamed B.named, fun w hw => hts w (List.mem_cons_of_mem _ hw), hgE, hn0, B.notSynchronized, hst⟩ ⟨fun H locs k n g h => h, B.returns⟩ rfl (fun hi => (name_of_methodNamed B.named B.method).1.trans hi) hW.2.2.1 hW.2.2.2 s.heap [] _ hW va_S.rf ?_
  rw [hml]
  exact hE.ls
theorem Cx.of {y : MethodName} {cc : ByteArray} {maxL : Nat} {ret : Option FieldType} {as : List Value} {fr lo mc ms : Nat} {T : gT} {I : gI} {J : gJ} {O : gO} {P : gP} {PX : gPX} (hy : plainName y.cls = true) (Ls : List (Option Value)) (hE : gEn as maxL Ls)
    (body : ∀ X : gX, Ok X cc y.cls → gEnd X P mc ms ret → gRm X fr lo mc ms → (∀ x ∈ X.2.2.2.2.2.2.2.2.2.1.exceptionTable.toList, False) → X.2.2.2.2.2.2.2.2.2.2.2 = vx_MQ X.2.2.2.2.2.2.2.1 (gQc X.2.2.2.2.2.2.2.2.2.2.1 P) (gXC X.2.2.2.2.2.2.2.2.2.2.1 PX) X.2.2.2.2.2.2.1 X.2.2.2.2.1 mc ms (fun q => X.2.2.2.2.2.2.2.2.2.2.1.2.2 ≤ q) → (∀ a k, in32 (I a k)) → (∀ a k, T.1 ≤ a → I a k = 0 ∧ J a k = 0 ∧ O a k = none) → G X 0 Ls [] T I J O 0 0) : Cx y cc maxL ret as fr lo mc ms T I J O P PX := by
  intro l E hst
  refine vx_ofW (cc := cc) (maxL := maxL) (ret := ret) hy rfl ?_
  intro p e s m args below meth c s₁ B hml hx hv
  obtain ⟨rfl, hW, hgE, hn0⟩ := hv
  have hts := atoms_spec (ws := gws y cc maxL ret) B.pre
  rw [lg_entry_eq]
  refine body (p, l, e, _, s, m, as.toArray, below, meth, c, E, _) ⟨B.exec, B.bytes, findClass_of_methodNamed B.named, fun w hw => hts w (List.mem_cons_of_mem _ hw), hgE, hn0, B.notSynchronized, hst⟩ ⟨fun H locs k n g h => vx_ret h, B.returns⟩ rfl hx rfl hW.2.2.1 hW.2.2.2 s.heap [] _ hW va_S.rf ?_
  rw [hml]
  exact hE.ls
section GC
variable {X : gX} {cc : ByteArray} {own : String} {pc q : Nat} {Ls : List (Option Value)} {st : List Value} {T : gT} {I : gI} {J : gJ} {O : gO} {k n mc ms : Nat} {P : gP}
theorem G_ireturn {a : Int} (x : Ok X cc own) (en : gEnd X P mc ms (some .int)) (d : Dc cc pc .ireturn 1 q) (hk : k ≤ mc) (hn : n ≤ ms) (h : P (some (VI a)) T I J O) : G X pc Ls [VI a] T I J O k n := by
  obtain ⟨p, l, e, R, s, m, args, below, meth, c, E, Q⟩ := X
  intro H locs ls hW hS hL
  refine en.1 H locs k n _ (W.widen hk hn ?_)
  exact W.iret x.1 x.2.1 en.2 (fun t ht _ => ⟨⟨_, T, I, J, O, rfl, h, by rw [ht]; exact hW⟩, hS.F ht⟩) hS.2.2 d.1 x.2.2.2.2.2.2.1
theorem G_zreturn {a : Int} (x : Ok X cc own) (en : gEnd X P mc ms (some .boolean)) (d : Dc cc pc .ireturn 1 q) (hk : k ≤ mc) (hn : n ≤ ms) (ha : a = 0 ∨ a = 1) (h : P (some (VI a)) T I J O) : G X pc Ls [VI a] T I J O k n := by
  obtain ⟨p, l, e, R, s, m, args, below, meth, c, E, Q⟩ := X
  intro H locs ls hW hS hL
  refine en.1 H locs k n _ (W.widen hk hn ?_)
  exact W.zret x.1 x.2.1 en.2 (by rcases ha with rfl | rfl <;> rfl) (fun t ht _ => ⟨⟨_, T, I, J, O, rfl, h, by rw [ht]; exact hW⟩, hS.F ht⟩) hS.2.2 d.1 x.2.2.2.2.2.2.1
theorem G_lreturn {a : Int64} (x : Ok X cc own) (en : gEnd X P mc ms (some .long)) (d : Dc cc pc .lreturn 1 q) (hk : k ≤ mc) (hn : n ≤ ms) (h : P (some (.long a)) T I J O) : G X pc Ls [.long a] T I J O k n := by
  obtain ⟨p, l, e, R, s, m, args, below, meth, c, E, Q⟩ := X
  intro H locs ls hW hS hL
  refine en.1 H locs k n _ (W.widen hk hn ?_)
  exact W.lret x.1 x.2.1 en.2 (fun t ht _ => ⟨⟨_, T, I, J, O, rfl, h, by rw [ht]; exact hW⟩, hS.F ht⟩) hS.2.2 d.1 x.2.2.2.2.2.2.1
theorem G_return (x : Ok X cc own) (en : gEnd X P mc ms none) (d : Dc cc pc .return_ 1 q) (hk : k ≤ mc) (hn : n ≤ ms) (h : P none T I J O) : G X pc Ls [] T I J O k n := by
  obtain ⟨p, l, e, R, s, m, args, below, meth, c, E, Q⟩ := X
  intro H locs ls hW hS hL
  refine en.1 H locs k n _ (W.widen hk hn ?_)
  exact W.vret x.1 x.2.1 en.2 (fun t ht _ => ⟨⟨_, T, I, J, O, rfl, h, by rw [ht]; exact hW⟩, hS.F ht⟩) hS.2.2 d.1 x.2.2.2.2.2.2.1
theorem G_areturn {o : Option Nat} {rt : FieldType} (x : Ok X cc own) (en : gEnd X P mc ms (some rt)) (hrt : (∃ n, rt = .object n) ∨ ∃ t, rt = .array t) (d : Dc cc pc .areturn 1 q) (hk : k ≤ mc) (hn : n ≤ ms) (h : P (some (va_rf o)) T I J O) : G X pc Ls [va_rf o] T I J O k n := by
  obtain ⟨p, l, e, R, s, m, args, below, meth, c, E, Q⟩ := X
  intro H locs ls hW hS hL
  refine en.1 H locs k n _ (W.widen hk hn ?_)
  exact W.aret x.1 x.2.1 en.2 hrt (by cases o; exact Or.inl rfl; exact Or.inr ⟨_, rfl⟩) (fun t ht _ => ⟨⟨_, T, I, J, O, rfl, h, by rw [ht]; exact hW⟩, hS.F ht⟩) hS.2.2 d.1 x.2.2.2.2.2.2.1
theorem catSum {rest : List Value} (h : rest.length ≤ 4) : (rest.map fun v => v.category).sum ≤ 8 := by
  have key : ∀ r : List Value, (r.map fun v => v.category).sum ≤ 2 * r.length := by
    intro r
    induction r with
    | nil => exact Nat.le_refl _
    | cons v t ih =>
      have hv : v.category ≤ 2 := by cases v <;> (simp only [Value.category]; omega)
      simp only [List.map_cons, List.sum_cons, List.length_cons]
      omega
  have := key rest
  omega
/-- behind a call that returns -/
theorem G_run {as rest : List Value} (hr : ∀ p l e R s m args below meth c E Q, X = (p, l, e, R, s, m, args, below, meth, c, E, Q) → ∀ (H : Heap) (locs : List Loc) (ls : Array Slot), gWd E T I J O H → va_S (fun q => E.2.2 ≤ q) s.heap H locs → gLs ls c.maxLocals Ls → va_Run p l e R s m args below meth c H locs k n mc ms (F0 m pc ls st) rest (gQc E P as.toArray) (fun q => E.2.2 ≤ q))
    (kk : ∀ v T' I' J' O', P v T' I' J' O' → G X (pc + 3) Ls (v.toList ++ rest) T' I' J' O' (k + mc) (n + ms)) : G X pc Ls st T I J O k n := by
  obtain ⟨p, l, e, R, s, m, args, below, meth, c, E, Q⟩ := X
  intro H locs ls hW hS hL T9 hT9 X9
  obtain ⟨v, st₀, t, T', L, h0, X', hLo, e1, e2, ⟨⟨v2, Ta, Ia, Ja, Oa, hv, hp, hw⟩, hz, hk⟩, st5⟩ := hr p l e R s m args below meth c E Q rfl H locs ls hW hS hL T9 hT9 X9
  cases hv
  rw [h0] at hz hk
  obtain ⟨t2, a1, b1⟩ := kk v Ta Ia Ja Oa hp T'.heap (locs ++ L) ls (by rw [e1]; exact hw) ⟨Nat.le_trans hS.1 (by rw [e1]; exact hz), fun q h1 h2 => by rw [e1, hk q (Nat.lt_of_lt_of_le h1 hS.1) h2]; exact hS.2.1 q h1 h2, fun q hq => by
      rcases List.mem_append.mp hq with h | h
      · exact hS.2.2 q h
      · exact hLo q h⟩ hL T' rfl X'
  exact ⟨t2, st5 t2 a1, b1⟩
/-- the words of a call -/
def Lk (own : String) (idx : Nat) (y : MethodName) (cc : ByteArray) (maxL : Nat) (ret : Option FieldType) (np : Nat) : Prop :=
  Cond.methodLink own idx y ∈ gtb ∧ Cond.initialized y.cls ∈ gtb ∧ Cond.code y cc maxL ret ∈ gtb ∧ y.cls ≠ "java/lang/invoke/MethodHandle" ∧ y.cls ≠ "java/lang/invoke/VarHandle" ∧ (parseMethodDescriptor y.desc).map (fun d => d.parameters.length) = some np
theorem gCB {R : Room} {s : State} {args : Array Value} {idx : Nat} {y : MethodName} {cy : ByteArray} {maxL np fr lo : Nat} {ret : Option FieldType} (hts : ∀ w ∈ gtb, w.before args s = true) (L : Lk own idx y cy maxL ret np) (hR : fr + 1 ≤ R.frames ∧ 8 + (maxL + 11) + lo ≤ R.locals) : CallB R s args own idx y cy maxL ret (gws y cy maxL ret) { frames := fr, cells := mc, slots := ms, locals := lo } mc ms np :=
  callB_of (ws' := gtb) np hts (gws_good L.2.2.1) rfl rfl rfl (hts _ L.2.1) (hts _ L.1) ⟨L.2.2.2.1, L.2.2.2.2.1, L.2.2.2.2.2⟩ hR
theorem gPS {E : gD} {s : State} {H : Heap} {locs : List Loc} {as : List Value} (hgE : gE E s s.heap) (hn0 : E.2.2 ≤ s.heap.size) (hW : gWd E T I J O H) (hS : va_S (fun q => E.2.2 ≤ q) s.heap H locs) : PreS s H (gPc E as T I J O) as :=
  ⟨gPc_blind, fun U hU hWm => ⟨rfl, by rw [hU]; exact hW, by rw [hU]; exact gE.warm hWm (hgE.kept hS.2.1), by rw [hU]; exact Nat.le_trans hn0 hS.1⟩⟩
theorem G_callS {idx np fr lo fr0 lo0 mc0 ms0 : Nat} {y : MethodName} {cy : ByteArray} {maxL : Nat} {ret : Option FieldType} {as rest : List Value} (x : Ok X cc own) (d : Dc cc pc (.invokestatic idx) 3 q) (L : Lk own idx y cy maxL ret np) (hst : Cond.static y ∈ gtb) (rm : gRm X fr0 lo0 mc0 ms0) (hr : rest.length ≤ 4) (hstk : st = as.reverse ++ rest) (hn : as.length = np) (hfr : fr + 1 ≤ fr0) (hlo : 8 + (maxL + 11) + lo ≤ lo0) (hmc : k + mc ≤ mc0) (hms : n + ms ≤ ms0)
    (C : Ct y cy maxL ret as fr lo mc ms T I J O P) (kk : ∀ v T' I' J' O', P v T' I' J' O' → G X q Ls (v.toList ++ rest) T' I' J' O' (k + mc) (n + ms)) : G X pc Ls st T I J O k n := by
  obtain ⟨d, rfl⟩ := d
  refine G_run (as := as) (rest := rest) ?_ kk
  intro p l e R s m args below meth c E Q hX H locs ls hW hS hL
  subst hX
  have hR : R = { frames := fr0, cells := mc0, slots := ms0, locals := lo0 } := rm
  subst hR
  exact va_runS (n := np) (ret := ret) ⟨x.1, x.2.1, rfl, x.2.2.1, x.2.2.2.1⟩ (C l E x.2.2.2.2.2.2.2) ⟨gCB x.2.2.2.1 L ⟨hfr, hlo⟩, x.2.2.2.1 _ hst⟩ (gPS x.2.2.2.2.1 x.2.2.2.2.2.1 hW hS) rfl hn hL.1 hstk (lv_room (catSum hr)) d ⟨hmc, hms⟩
theorem G_callV {idx np fr lo fr0 lo0 mc0 ms0 ci a : Nat} {y : MethodName} {cy : ByteArray} {maxL : Nat} {ret : Option FieldType} {o : Option Nat} {as rest : List Value} (x : Ok X cc own) (d : Dc cc pc (.invokevirtual idx) 3 q) (L : Lk own idx y cy maxL ret np) (hin : Cond.instanceMethod y ∈ gtb ∧ Cond.selects y.cls y y ∈ gtb) (ho : o = some a) (hT : T.2 a = some (.inl ci)) (hc : vwCl[ci]? = some (y.cls, gTb ci, gN ci)) (rm : gRm X fr0 lo0 mc0 ms0) (hr : rest.length ≤ 4) (hstk : st = as.reverse ++ va_rf o :: rest) (hn : as.length = np) (hfr : fr + 1 ≤ fr0) (hlo : 8 + (maxL + 11) + lo ≤ lo0) (hmc : k + mc ≤ mc0) (hms : n + ms ≤ ms0)
    (C : Ct y cy maxL ret (va_rf o :: as) fr lo mc ms T I J O P) (kk : ∀ v T' I' J' O', P v T' I' J' O' → G X q Ls (v.toList ++ rest) T' I' J' O' (k + mc) (n + ms)) : G X pc Ls st T I J O k n := by
  subst ho
  obtain ⟨d, rfl⟩ := d
  refine G_run (as := va_rf (some a) :: as) (rest := rest) ?_ kk
  intro p l e R s m args below meth c E Q hX H locs ls hW hS hL
  subst hX
  have hR : R = { frames := fr0, cells := mc0, slots := ms0, locals := lo0 } := rm
  subst hR
  have hp := gPS (as := va_rf (some a) :: as) x.2.2.2.2.1 x.2.2.2.2.2.1 hW hS
  exact va_runV (n := np) (ret := ret) (C := y.cls) ⟨x.1, x.2.1, rfl, x.2.2.1, x.2.2.2.1⟩ (C l E x.2.2.2.2.2.2.2) ⟨gCB x.2.2.2.1 L ⟨hfr, hlo⟩, x.2.2.2.1 _ hin.1, x.2.2.2.1 _ hin.2⟩ ⟨hp.1, va_recv x.2.2.2.2.1.1 (va_P1 (hW.2.1 a _ hT).2) (ci := ci) (q0 := 0) hc rfl, hp.2⟩ rfl hn hL.1 hstk (lv_room (catSum hr)) d ⟨hmc, hms⟩
theorem G_callI {idx np fr lo fr0 lo0 mc0 ms0 a : Nat} {y : MethodName} {cy : ByteArray} {maxL : Nat} {o : Option Nat} {as rest : List Value} (x : Ok X cc own) (d : Dc cc pc (.invokespecial idx) 3 q) (L : Lk own idx y cy maxL none np) (hin : Cond.instanceMethod y ∈ gtb) (hy : y.name = "<init>") (ho : o = some a) (rm : gRm X fr0 lo0 mc0 ms0) (hr : rest.length ≤ 4) (hstk : st = as.reverse ++ va_rf o :: rest) (hn : as.length = np) (hfr : fr + 1 ≤ fr0) (hlo : 8 + (maxL + 11) + lo ≤ lo0) (hmc : k + mc ≤ mc0) (hms : n + ms ≤ ms0)
    (C : Ct y cy maxL none (va_rf o :: as) fr lo mc ms T I J O P) (kk : ∀ v T' I' J' O', P v T' I' J' O' → G X q Ls (v.toList ++ rest) T' I' J' O' (k + mc) (n + ms)) : G X pc Ls st T I J O k n := by
  subst ho
  obtain ⟨d, rfl⟩ := d
  refine G_run (as := va_rf (some a) :: as) (rest := rest) ?_ kk
  intro p l e R s m args below meth c E Q hX H locs ls hW hS hL
  subst hX
  have hR : R = { frames := fr0, cells := mc0, slots := ms0, locals := lo0 } := rm
  subst hR
  exact va_runI (n := np) ⟨x.1, x.2.1, rfl, x.2.2.1, x.2.2.2.1⟩ (C l E x.2.2.2.2.2.2.2) ⟨gCB x.2.2.2.1 L ⟨hfr, hlo⟩, hy, x.2.2.2.1 _ hin⟩ (gPS x.2.2.2.2.1 x.2.2.2.2.2.1 hW hS) rfl hn hL.1 hstk (lv_room (catSum hr)) d ⟨hmc, hms⟩
theorem G_objInit {idx fr0 lo0 mc0 ms0 : Nat} {o : Option Nat} {a : Nat} {rest : List Value} (x : Ok X cc own) (d : Dc cc pc (.invokespecial idx) 3 q) (hl : Cond.methodLink own idx Lib.objectInit ∈ gtb) (h2 : Cond.instanceMethod Lib.objectInit ∈ gtb ∧ Cond.code Lib.objectInit ⟨#[0xb1]⟩ 1 none ∈ gtb) (ho : o = some a) (rm : gRm X fr0 lo0 mc0 ms0) (hr : rest.length ≤ 4) (hfr : 1 ≤ fr0) (hlo : 20 ≤ lo0) (h : G X q Ls rest T I J O k n) : G X pc Ls (va_rf o :: rest) T I J O k n := by
  subst ho
  obtain ⟨p, l, e, R, s, m, args, below, meth, c, E, Q⟩ := X
  intro H locs ls hW hS hL
  obtain ⟨d, rfl⟩ := d
  have hR : R = { frames := fr0, cells := mc0, slots := ms0, locals := lo0 } := rm
  subst hR
  have hc := lv_room (m := m) (pc := pc) (ls := ls) (rest := va_rf (some a) :: rest) (catSum hr)
  refine W.objInit x.1 x.2.1 x.2.2.1 (x.2.2.2.1 _ hl) (x.2.2.2.1 _ h2.1) (x.2.2.2.1 _ h2.2) rfl hL.1 rfl d hfr ?_ (h H locs ls hW hS hL)
  show 2 * (F0 m pc ls (va_rf (some a) :: rest)).monitorRoom + (rest.map fun v => v.category).sum + 12 ≤ lo0
  omega
end GC
