/-- what a body knows that may throw -/
def gTh (X : gX) (P : gP) (PX : gPX) (mc ms : Nat) : Prop :=
  match X with
  | (_, _, _, _, s, _, args, below, _, c, E, Q) => (∀ z ∈ c.exceptionTable.toList, False) ∧ Q = vx_MQ below (gQc E P) (gXC E PX) args s mc ms (fun q => E.2.2 ≤ q)
theorem Cx.of' {y : MethodName} {cc : ByteArray} {maxL : Nat} {ret : Option FieldType} {as : List Value} {fr lo mc ms : Nat} {T : gT} {I : gI} {J : gJ} {O : gO} {P : gP} {PX : gPX} (hy : plainName y.cls = true) (Ls : List (Option Value)) (hE : gEn as maxL Ls)
    (body : ∀ X : gX, Ok X cc y.cls → gEnd X P mc ms ret → gRm X fr lo mc ms → gTh X P PX mc ms → (∀ a k, in32 (I a k)) → G X 0 Ls [] T I J O 0 0) : Cx y cc maxL ret as fr lo mc ms T I J O P PX :=
  Cx.of hy Ls hE (fun X x en rm ht hq hr _ => body X x en rm (by obtain ⟨p, l, e, R, s, m, args, below, meth, c, E, Q⟩ := X; exact ⟨ht, hq⟩) hr)
def xNm : List String := ["java/lang/RuntimeException", "java/lang/Exception"]
def gThw (own : String) (ic : Nat) (cls : String) : Prop := ((vx_atS own ic cls xNm).all (fun w => decide (w ∈ lw_tbl) && (goodWord w || gxk w))) = true
theorem gThw.use {own cls : String} {ic : Nat} (h : gThw own ic cls) {args : Array Value} {s : State} (h1 : ∀ w ∈ gtb, w.before args s = true) (h2 : ∀ w ∈ gxw, va_Nw w s) : ∀ w ∈ vx_atS own ic cls xNm, w.before args s = true := by
  intro w hw
  have h3 := List.all_eq_true.mp h w hw
  simp only [Bool.and_eq_true, Bool.or_eq_true, decide_eq_true_eq] at h3
  rcases h3.2 with g | g
  · exact h1 w (gtb_mem h3.1 g)
  · refine va_Nw.use ?_ (h2 w (List.mem_filter.mpr ⟨h3.1, g⟩))
    cases w <;> first | rfl | (simp [gxk] at g; done)
section GT
variable {X : gX} {cc : ByteArray} {own : String} {pc q : Nat} {Ls : List (Option Value)} {st : List Value} {T : gT} {I : gI} {J : gJ} {O : gO} {k n mc ms : Nat} {P : gP} {PX : gPX}
theorem gWd.grow {E : gD} {H H1 : Heap} (h : gWd E T I J O H) (hz : H.size ≤ H1.size) (hq : ∀ q : Nat, q < H.size → H1[q]? = H[q]?) : gWd E (H1.size, T.2) I J O H1 :=
  ⟨rfl, fun a t ha => ⟨(h.2.1 a t ha).1, (h.2.1 a t ha).2.kept (hq a (h.2.1 a t ha).2.lt)⟩, h.2.2.1, fun a k9 ha => h.2.2.2 a k9 (by have h0 : H1.size ≤ a := ha; have := h.1; omega)⟩
/-- 'throw new E("text")' -/
theorem G_throw {cls text : String} {ik is ic fr0 lo0 mc0 ms0 : Nat} (x : Ok X cc RX10) (th : gTh X P PX mc ms) (rm : gRm X fr0 lo0 mc0 ms0) (hfit : Bundle.fit cls = true)
    (hk : Cond.classLink RX10 ik cls ∈ gtb) (hini : Cond.initialized cls ∈ gtb) (hstr : (is, text) ∈ gstr) (hw : gThw RX10 ic cls) (hgood : ∀ w ∈ Cond.classLink RX10 ik cls :: Cond.initialized cls :: vx_atS RX10 ic cls xNm, vx_ot w = true)
    (d0 : decode cc pc = .ok (.new ik, 3)) (d3 : decode cc (pc + 3) = .ok (.dup, 1)) (d4 : decode cc (pc + 4) = .ok (.ldc is, 2)) (d6 : decode cc (pc + 6) = .ok (.invokespecial ic, 3)) (d9 : decode cc (pc + 9) = .ok (.athrow, 1))
    (hfr : 6 ≤ fr0) (hlo : 90 ≤ lo0) (hr : st.length ≤ 4) (hmc0 : k + 1 ≤ mc0) (hms0 : n + 6 ≤ ms0) (hmc : k + 1 ≤ mc) (hms : n + 6 ≤ ms) (h : ∀ N, T.1 ≤ N → PX cls (N, T.2) I J O) : G X pc Ls st T I J O k n := by
  obtain ⟨p, l, e, R, s, m, args, below, meth, c, E, Q⟩ := X
  intro H locs ls hW hS hL
  obtain ⟨ht, hQ⟩ := th
  subst hQ
  have hR : R = { frames := fr0, cells := mc0, slots := ms0, locals := lo0 } := rm
  subst hR
  obtain ⟨hK, hx2, -, hst, hU, hN⟩ := x.2.2.2.2.1
  obtain ⟨sa, hsa⟩ := hst _ hstr
  have hc := catSum hr
  refine vx_throwS (names := xNm) (A := fun q => E.2.2 ≤ q) x.1 x.2.1 x.2.2.2.2.2.2.2 x.2.2.1 hfit (by decide) (x.2.2.2.1 _ hk) (x.2.2.2.1 _ hini) hsa (hw.use x.2.2.2.1 hx2) hgood hU hN hS hL.1 d0 d3 d4 d6 d9 (fun z hz => (ht z hz).elim) (by show 2 + 3 < fr0; omega) (by show (st.map fun v => v.category).sum + (13 * (2 + 1) + 43) ≤ lo0; omega) hmc0 hms0 x.2.2.2.2.2.2.1 (fun t _ h1 h2 => ?_) hS.2.2 hmc hms
  exact ⟨⟨(t.heap.size, T.2), I, J, O, h _ (by rw [← hW.1]; exact h1), hW.grow h1 h2⟩, Nat.le_trans hS.1 h1, fun q h3 h4 => (h2 q (Nat.lt_of_lt_of_le h3 hS.1)).trans (hS.2.1 q h3 h4)⟩
theorem G_throwW {cls text : String} {ik is ic fr0 lo0 mc0 ms0 : Nat} (x : Ok X cc RX10) (th : gTh X P PX mc ms) (rm : gRm X fr0 lo0 mc0 ms0) (hfit : Bundle.fit cls = true)
    (hk : Cond.classLink RX10 ik cls ∈ gtb) (hini : Cond.initialized cls ∈ gtb) (hstr : (is, text) ∈ gstr) (hw : gThw RX10 ic cls) (hgood : ∀ w ∈ Cond.classLink RX10 ik cls :: Cond.initialized cls :: vx_atS RX10 ic cls xNm, vx_ot w = true)
    (d0 : decode cc pc = .ok (.new ik, 3)) (d3 : decode cc (pc + 3) = .ok (.dup, 1)) (d4 : decode cc (pc + 4) = .ok (.ldc_w is, 3)) (d6 : decode cc (pc + 7) = .ok (.invokespecial ic, 3)) (d9 : decode cc (pc + 10) = .ok (.athrow, 1))
    (hfr : 6 ≤ fr0) (hlo : 90 ≤ lo0) (hr : st.length ≤ 4) (hmc0 : k + 1 ≤ mc0) (hms0 : n + 6 ≤ ms0) (hmc : k + 1 ≤ mc) (hms : n + 6 ≤ ms) (h : ∀ N, T.1 ≤ N → PX cls (N, T.2) I J O) : G X pc Ls st T I J O k n := by
  obtain ⟨p, l, e, R, s, m, args, below, meth, c, E, Q⟩ := X
  intro H locs ls hW hS hL
  obtain ⟨ht, hQ⟩ := th
  subst hQ
  have hR : R = { frames := fr0, cells := mc0, slots := ms0, locals := lo0 } := rm
  subst hR
  obtain ⟨hK, hx2, -, hst, hU, hN⟩ := x.2.2.2.2.1
  obtain ⟨sa, hsa⟩ := hst _ hstr
  have hc := catSum hr
  refine vx_throwSW (names := xNm) (A := fun q => E.2.2 ≤ q) x.1 x.2.1 x.2.2.2.2.2.2.2 x.2.2.1 hfit (by decide) (x.2.2.2.1 _ hk) (x.2.2.2.1 _ hini) hsa (hw.use x.2.2.2.1 hx2) hgood hU hN hS hL.1 d0 d3 d4 d6 d9 (fun z hz => (ht z hz).elim) (by show 2 + 3 < fr0; omega) (by show (st.map fun v => v.category).sum + (13 * (2 + 1) + 43) ≤ lo0; omega) hmc0 hms0 x.2.2.2.2.2.2.1 (fun t _ h1 h2 => ?_) hS.2.2 hmc hms
  exact ⟨⟨(t.heap.size, T.2), I, J, O, h _ (by rw [← hW.1]; exact h1), hW.grow h1 h2⟩, Nat.le_trans hS.1 h1, fun q h3 h4 => (h2 q (Nat.lt_of_lt_of_le h3 hS.1)).trans (hS.2.1 q h3 h4)⟩
/-- behind a call that returns or throws, where nothing is caught -/
theorem G_runX {as rest : List Value} {P' : gP} {PX' : gPX} {mc' ms' : Nat} (hlk : ∀ p l e R s m args below meth c E Q, X = (p, l, e, R, s, m, args, below, meth, c, E, Q) → meth.locks = false) (th : gTh X P PX mc ms) (hr : ∀ p l e R s m args below meth c E Q, X = (p, l, e, R, s, m, args, below, meth, c, E, Q) → ∀ (H : Heap) (locs : List Loc) (ls : Array Slot), gWd E T I J O H → va_S (fun q => E.2.2 ≤ q) s.heap H locs → gLs ls c.maxLocals Ls → vx_Run p l e R s m args below meth c H locs k n mc' ms' (F0 m pc ls st) rest (gQc E P' as.toArray) (gXC E PX') (fun q => E.2.2 ≤ q))
    (hmc : k + mc' ≤ mc) (hms : n + ms' ≤ ms) (hx : ∀ cl T' I' J' O', PX' cl T' I' J' O' → PX cl T' I' J' O')
    (kk : ∀ v T' I' J' O', P' v T' I' J' O' → G X (pc + 3) Ls (v.toList ++ rest) T' I' J' O' (k + mc') (n + ms')) : G X pc Ls st T I J O k n := by
  have hlk' := hlk
  obtain ⟨p, l, e, R, s, m, args, below, meth, c, E, Q⟩ := X
  intro H locs ls hW hS hL T9 hT9 X9
  obtain ⟨ht, hQ⟩ := th
  subst hQ
  rcases hr p l e R s m args below meth c E _ rfl H locs ls hW hS hL T9 hT9 X9 with ⟨v, st₀, t, T', L, h0, X', hLo, e1, e2, ⟨⟨v2, Ta, Ia, Ja, Oa, hv, hp, hw⟩, hz, hk⟩, st5⟩ | ⟨q9, st₀, t, T', L, cl, ce, h0, X', hLo, e1, e2, ⟨⟨Ta, Ia, Ja, Oa, hp, hw⟩, hz, hk⟩, hce, hcv, hcl, st5⟩
  · cases hv
    rw [h0] at hz hk
    obtain ⟨t2, a1, b1⟩ := kk v Ta Ia Ja Oa hp T'.heap (locs ++ L) ls (by rw [e1]; exact hw) ⟨Nat.le_trans hS.1 (by rw [e1]; exact hz), fun q h1 h2 => by rw [e1, hk q (Nat.lt_of_lt_of_le h1 hS.1) h2]; exact hS.2.1 q h1 h2, fun q hq => by
        rcases List.mem_append.mp hq with h | h
        · exact hS.2.2 q h
        · exact hLo q h⟩ hL T' rfl X'
    exact ⟨t2, st5 t2 a1, b1⟩
  · rw [h0] at hz hk
    have hS1 : va_S (fun q => E.2.2 ≤ q) s.heap T'.heap (locs ++ L) := ⟨Nat.le_trans hS.1 (by rw [e1]; exact hz), fun q h1 h2 => by rw [e1, hk q (Nat.lt_of_lt_of_le h1 hS.1) h2]; exact hS.2.1 q h1 h2, fun q hq => by
        rcases List.mem_append.mp hq with h | h
        · exact hS.2.2 q h
        · exact hLo q h⟩
    obtain ⟨t2, a1, b1⟩ := vx_out (p := p) (l := l) (e := e) (R := R) (Qc := gQc E P) (XC := gXC E PX) (args := args) (ls := ls) (rest := rest) (pc := pc) (fun z hz => (ht z hz).elim) (hlk' p l e R s m args below meth c E _ rfl) (by rw [e1]; exact hce) hcv hcl (fun t3 h3 _ => ⟨⟨Ta, Ia, Ja, Oa, hx _ _ _ _ _ hp, by rw [h3, e1]; exact hw⟩, hS1.F h3⟩) hS1.2.2 hmc hms T' rfl X'
    exact ⟨t2, st5.trans a1, b1⟩
theorem G_callSX {idx np fr lo fr0 lo0 mc0 ms0 mc' ms' : Nat} {y : MethodName} {cy : ByteArray} {maxL : Nat} {ret : Option FieldType} {as rest : List Value} {P' : gP} {PX' : gPX} (x : Ok X cc own) (th : gTh X P PX mc ms) (d : Dc cc pc (.invokestatic idx) 3 q) (L : Lk own idx y cy maxL ret np) (hst : Cond.static y ∈ gtb) (rm : gRm X fr0 lo0 mc0 ms0)
    (C : Cx y cy maxL ret as fr lo mc' ms' T I J O P' PX') (hx : ∀ cl T' I' J' O', PX' cl T' I' J' O' → PX cl T' I' J' O') (kk : ∀ v T' I' J' O', P' v T' I' J' O' → G X q Ls (v.toList ++ rest) T' I' J' O' (k + mc') (n + ms')) (hr : rest.length ≤ 4 := by exact Nat.le_of_ble_eq_true rfl) (hstk : st = as.reverse ++ rest := by rfl) (hn : as.length = np := by rfl) (hfr : fr + 1 ≤ fr0 := by exact Nat.le_of_ble_eq_true rfl) (hlo : 8 + (maxL + 11) + lo ≤ lo0 := by exact Nat.le_of_ble_eq_true rfl) (hmc0 : k + mc' ≤ mc0 := by omega) (hms0 : n + ms' ≤ ms0 := by omega) (hmc : k + mc' ≤ mc := by omega) (hms : n + ms' ≤ ms := by omega) : G X pc Ls st T I J O k n := by
  obtain ⟨d, rfl⟩ := d
  refine G_runX (as := as) (rest := rest) (fun p l e R s m args below meth c E Q hX => by subst hX; exact x.2.2.2.2.2.2.1) th ?_ hmc hms hx kk
  intro p l e R s m args below meth c E Q hX H locs ls hW hS hL
  subst hX
  have hR : R = { frames := fr0, cells := mc0, slots := ms0, locals := lo0 } := rm
  subst hR
  exact vx_runS (n := np) (ret := ret) ⟨x.1, x.2.1, rfl, x.2.2.1, x.2.2.2.1⟩ (C l E x.2.2.2.2.2.2.2) ⟨gCB x.2.2.2.1 L ⟨hfr, hlo⟩, x.2.2.2.1 _ hst⟩ (gPS x.2.2.2.2.1 x.2.2.2.2.2.1 hW hS) rfl hn hL.1 hstk (lv_room (catSum hr)) d ⟨hmc0, hms0⟩
theorem G_callVX {idx np fr lo fr0 lo0 mc0 ms0 mc' ms' ci a : Nat} {y : MethodName} {cy : ByteArray} {maxL : Nat} {ret : Option FieldType} {o : Option Nat} {as rest : List Value} {P' : gP} {PX' : gPX} (x : Ok X cc own) (th : gTh X P PX mc ms) (d : Dc cc pc (.invokevirtual idx) 3 q) (L : Lk own idx y cy maxL ret np) (hin : Cond.instanceMethod y ∈ gtb ∧ Cond.selects y.cls y y ∈ gtb) (ho : o = some a) (hT : T.2 a = some (.inl ci)) (hc : vwCl[ci]? = some (y.cls, gTb ci, gN ci)) (rm : gRm X fr0 lo0 mc0 ms0)
    (C : Cx y cy maxL ret (va_rf o :: as) fr lo mc' ms' T I J O P' PX') (hx : ∀ cl T' I' J' O', PX' cl T' I' J' O' → PX cl T' I' J' O') (kk : ∀ v T' I' J' O', P' v T' I' J' O' → G X q Ls (v.toList ++ rest) T' I' J' O' (k + mc') (n + ms')) (hr : rest.length ≤ 4 := by exact Nat.le_of_ble_eq_true rfl) (hstk : st = as.reverse ++ va_rf o :: rest := by rfl) (hn : as.length = np := by rfl) (hfr : fr + 1 ≤ fr0 := by exact Nat.le_of_ble_eq_true rfl) (hlo : 8 + (maxL + 11) + lo ≤ lo0 := by exact Nat.le_of_ble_eq_true rfl) (hmc0 : k + mc' ≤ mc0 := by omega) (hms0 : n + ms' ≤ ms0 := by omega) (hmc : k + mc' ≤ mc := by omega) (hms : n + ms' ≤ ms := by omega) : G X pc Ls st T I J O k n := by
  subst ho
  obtain ⟨d, rfl⟩ := d
  refine G_runX (as := va_rf (some a) :: as) (rest := rest) (fun p l e R s m args below meth c E Q hX => by subst hX; exact x.2.2.2.2.2.2.1) th ?_ hmc hms hx kk
  intro p l e R s m args below meth c E Q hX H locs ls hW hS hL
  subst hX
  have hR : R = { frames := fr0, cells := mc0, slots := ms0, locals := lo0 } := rm
  subst hR
  have hp := gPS (as := va_rf (some a) :: as) x.2.2.2.2.1 x.2.2.2.2.2.1 hW hS
  exact vx_runV (n := np) (ret := ret) (C := y.cls) ⟨x.1, x.2.1, rfl, x.2.2.1, x.2.2.2.1⟩ (C l E x.2.2.2.2.2.2.2) ⟨gCB x.2.2.2.1 L ⟨hfr, hlo⟩, x.2.2.2.1 _ hin.1, x.2.2.2.1 _ hin.2⟩ ⟨hp.1, va_recv x.2.2.2.2.1.1 (va_P1 (hW.2.1 a _ hT).2) (ci := ci) (q0 := 0) hc rfl, hp.2⟩ rfl hn hL.1 hstk (lv_room (catSum hr)) d ⟨hmc0, hms0⟩
/-- calls of a nest mate's private members -/
def LkN (own : String) (idx : Nat) (y : MethodName) (host : String) (cc : ByteArray) (maxL : Nat) (ret : Option FieldType) (np : Nat) : Prop :=
  Cond.methodLinkNest own idx y host ∈ gxw ∧ Cond.initialized y.cls ∈ gtb ∧ Cond.code y cc maxL ret ∈ gtb ∧ y.cls ≠ "java/lang/invoke/MethodHandle" ∧ y.cls ≠ "java/lang/invoke/VarHandle" ∧ (parseMethodDescriptor y.desc).map (fun d => d.parameters.length) = some np
theorem G_callSN {idx np fr lo fr0 lo0 mc0 ms0 : Nat} {y : MethodName} {host : String} {cy : ByteArray} {maxL : Nat} {ret : Option FieldType} {as rest : List Value} {r : Value} {T1 : gT} {I1 : gI} {J1 : gJ} {O1 : gO} (x : Ok X cc own) (d : Dc cc pc (.invokestatic idx) 3 q) (L : LkN own idx y host cy maxL ret np) (hst : Cond.static y ∈ gtb) (rm : gRm X fr0 lo0 mc0 ms0)
    (C : Ct y cy maxL ret as fr lo mc ms T I J O (pv (some r) T1 I1 J1 O1)) (kk : G X q Ls (r :: rest) T1 I1 J1 O1 (k + mc) (n + ms)) (hr : rest.length ≤ 4 := by exact Nat.le_of_ble_eq_true rfl) (hstk : st = as.reverse ++ rest := by rfl) (hn : as.length = np := by rfl) (hfr : fr + 1 ≤ fr0 := by exact Nat.le_of_ble_eq_true rfl) (hlo : 8 + (maxL + 11) + lo ≤ lo0 := by exact Nat.le_of_ble_eq_true rfl) (hmc : k + mc ≤ mc0 := by omega) (hms : n + ms ≤ ms0 := by omega) : G X pc Ls st T I J O k n := by
  obtain ⟨d, rfl⟩ := d
  refine G_run (as := as) (rest := rest) (mc := mc) (ms := ms) (P := pv (some r) T1 I1 J1 O1) ?_ (fun v T' I' J' O' hp => by obtain ⟨rfl, rfl, rfl, rfl, rfl⟩ := hp; exact kk)
  intro p l e R s m args below meth c E Q hX H locs ls hW hS hL
  subst hX
  have hR : R = { frames := fr0, cells := mc0, slots := ms0, locals := lo0 } := rm
  subst hR
  exact va_runSN (n := np) (ret := ret) ⟨x.1, x.2.1, rfl, x.2.2.1, x.2.2.2.1⟩ (C l E x.2.2.2.2.2.2.2) ⟨va_cnB (ws' := gtb) np x.2.2.2.1 (gws_good L.2.2.1) rfl rfl rfl (x.2.2.2.2.1.2.1 _ L.1) (x.2.2.2.1 _ L.2.1) ⟨L.2.2.2.1, L.2.2.2.2.1, L.2.2.2.2.2⟩ ⟨hfr, hlo⟩, x.2.2.2.1 _ hst, trivial⟩ (gPS x.2.2.2.2.1 x.2.2.2.2.2.1 hW hS) rfl hn hL.1 hstk (lv_room (catSum hr)) d ⟨hmc, hms⟩
theorem G_callIN {idx np fr lo fr0 lo0 mc0 ms0 a : Nat} {y : MethodName} {host : String} {cy : ByteArray} {maxL : Nat} {o : Option Nat} {as rest : List Value} (x : Ok X cc own) (d : Dc cc pc (.invokespecial idx) 3 q) (L : LkN own idx y host cy maxL none np) (hin : Cond.instanceMethod y ∈ gtb) (hy : y.name = "<init>") (ho : o = some a) (rm : gRm X fr0 lo0 mc0 ms0) (hr : rest.length ≤ 4) (hstk : st = as.reverse ++ va_rf o :: rest) (hn : as.length = np) (hfr : fr + 1 ≤ fr0) (hlo : 8 + (maxL + 11) + lo ≤ lo0) (hmc : k + mc ≤ mc0) (hms : n + ms ≤ ms0)
    (C : Ct y cy maxL none (va_rf o :: as) fr lo mc ms T I J O P) (kk : ∀ v T' I' J' O', P v T' I' J' O' → G X q Ls (v.toList ++ rest) T' I' J' O' (k + mc) (n + ms)) : G X pc Ls st T I J O k n := by
  subst ho
  obtain ⟨d, rfl⟩ := d
  refine G_run (as := va_rf (some a) :: as) (rest := rest) ?_ kk
  intro p l e R s m args below meth c E Q hX H locs ls hW hS hL
  subst hX
  have hR : R = { frames := fr0, cells := mc0, slots := ms0, locals := lo0 } := rm
  subst hR
  exact va_runIN (n := np) ⟨x.1, x.2.1, rfl, x.2.2.1, x.2.2.2.1⟩ (C l E x.2.2.2.2.2.2.2) ⟨va_cnB (ws' := gtb) np x.2.2.2.1 (gws_good L.2.2.1) rfl rfl rfl (x.2.2.2.2.1.2.1 _ L.1) (x.2.2.2.1 _ L.2.1) ⟨L.2.2.2.1, L.2.2.2.2.1, L.2.2.2.2.2⟩ ⟨hfr, hlo⟩, hy, x.2.2.2.1 _ hin⟩ (gPS x.2.2.2.2.1 x.2.2.2.2.2.1 hW hS) rfl hn hL.1 hstk (lv_room (catSum hr)) d ⟨hmc, hms⟩
end GT
