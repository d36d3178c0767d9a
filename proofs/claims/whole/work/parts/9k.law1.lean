/-! methods with handlers: calls whose throws are caught -/
def ncl : List (String × String) := [(xcS, xcI), (xcA, xcI), (xcS, xcA)]
def ncU (U : State) : Prop := ∀ q ∈ ncl, va_Nc q.1 q.2 U
theorem ncU.warm {s U : State} (hW : s.vm.Alike U.vm) (h : ncU s) : ncU U := fun q hq => va_Nc.moved hW (h q hq)
def gPcH (E : gD) (as : List Value) (T : gT) (I : gI) (J : gJ) (O : gO) : Array Value → State → Prop := fun v U => gPc E as T I J O v U ∧ ncU U
theorem gPcH_blind {E : gD} {as : List Value} {T : gT} {I : gI} {J : gJ} {O : gO} : FrameBlind (gPcH E as T I J O) := fun a U g mk h => ⟨gPc_blind a U g mk h.1, ncU.warm (s := U) (U := U.calling g mk a) (Vm.Alike.refl _) h.2⟩
def gwsH (y : MethodName) (cc : ByteArray) (maxL : Nat) (ret : Option FieldType) (hh : List (Nat × Nat × Nat × Nat)) : List Cond := Cond.codeWith y cc maxL ret hh :: gtb
def CtH (y : MethodName) (cc : ByteArray) (maxL : Nat) (ret : Option FieldType) (hh : List (Nat × Nat × Nat × Nat)) (as : List Value) (fr lo mc ms : Nat) (T : gT) (I : gI) (J : gJ) (O : gO) (P : gP) : Prop :=
  ∀ (l : Launch) (E : gD), l.stackTraces = false → Met l y (gwsH y cc maxL ret hh) { frames := fr, cells := mc, slots := ms, locals := lo } (gPcH E as T I J O) (gQc E P) mc ms (fun q => E.2.2 ≤ q)
theorem met_ofWH {l : Launch} {y : MethodName} {ws ws' : List Cond} {rm : Room} {Pc : Array Value → State → Prop} {Qc : Array Value → State → Outcome → State → Prop} {mc ms : Nat} {free : Addr → Prop} {cc : ByteArray} {maxL : Nat} {ret : Option FieldType} {hh : List (Nat × Nat × Nat × Nat)}
    (hy : plainName y.cls = true) (hw : ws = Cond.codeWith y cc maxL ret hh :: ws')
    (body : ∀ p e s m args below meth c s₁, BodyLoose p l y (headSpec ws rm) cc maxL ret e s m args below meth c s₁ → c.maxLocals = maxL → Pc args s →
      W p l e (headSpec ws rm).room s m args below meth c s.heap [] 0 0 (MQ below Qc args s mc ms free) (entryFrame m args maxL)) : Met l y ws rm Pc Qc mc ms free := by
  refine MetFree.of_bodyS (code := cc) (maxLocals := maxL) (ret := ret) hy ?_ ?_
  · intro args s m h hn
    obtain ⟨m9, meth, c, hn9, h1, h2, h3, h4, -, h5, h6, -⟩ := Cond.codeWith_spec (atoms_spec (ws := ws) h _ (by rw [hw]; exact List.mem_cons_self))
    cases hn.symm.trans hn9
    exact ⟨meth, c, h1, h2, h3, h4, h5, h6⟩
  · intro p e s m args below meth c s₁ B hml hP _
    have hh0 : s₁.heap = s.heap := by rw [B.state]; rfl
    obtain ⟨t, a1, o, b1, b2, b3⟩ := body p e s m args below meth c s₁ B hml hP s₁ hh0 (Stand.of_body B)
    exact ⟨t, o, a1, b1, b2, ⟨b3.1, b3.2⟩⟩
/-- the table of handlers, in a body -/
def gTab (X : gX) (hh : List (Nat × Nat × Nat × Nat)) : Prop :=
  match X with
  | (_, _, _, _, s, _, _, _, _, c, _, _) => c.exceptionTable.toList = tableOf hh ∧ ncU s
theorem CtH.of {y : MethodName} {cc : ByteArray} {maxL : Nat} {ret : Option FieldType} {hh : List (Nat × Nat × Nat × Nat)} {as : List Value} {fr lo mc ms : Nat} {T : gT} {I : gI} {J : gJ} {O : gO} {P : gP} (hy : plainName y.cls = true) (Ls : List (Option Value)) (hE : gEn as maxL Ls)
    (body : ∀ X : gX, Ok X cc y.cls → gEnd X P mc ms ret → gRm X fr lo mc ms → gTab X hh → (∀ a k, in32 (I a k)) → G X 0 Ls [] T I J O 0 0) : CtH y cc maxL ret hh as fr lo mc ms T I J O P := by
  intro l E hst
  refine met_ofWH (cc := cc) (maxL := maxL) (ret := ret) (hh := hh) hy rfl ?_
  intro p e s m args below meth c s₁ B hml hv
  obtain ⟨⟨rfl, hW, hgE, hn0⟩, hnc⟩ := hv
  have hts := atoms_spec (ws := gwsH y cc maxL ret hh) B.pre
  have htb := vx_table (x := y) B (hts _ List.mem_cons_self)
  rw [lg_entry_eq]
  refine body (p, l, e, _, s, m, as.toArray, below, meth, c, E, _) ⟨B.exec, B.bytes, findClass_of_methodNamed B.named, fun w hw => hts w (List.mem_cons_of_mem _ hw), hgE, hn0, B.notSynchronized, hst⟩ ⟨fun H locs k n g h => h, B.returns⟩ rfl ⟨htb, hnc⟩ hW.2.2.1 s.heap [] _ hW va_S.rf ?_
  rw [hml]
  exact hE.ls
/-- a handler for a class -/
def gH (hh : List (Nat × Nat × Nat × Nat)) (own : String) (pc : Nat) (cl : String) (hpc : Nat) : Prop := ∃ pre z suf, tableOf hh = pre ++ z :: suf ∧ (∀ w ∈ pre, w.catchType ≠ 0 ∧ ∃ nm, Cond.classLink own w.catchType nm ∈ gtb ∧ (cl, nm) ∈ ncl) ∧ covers z pc = true ∧ z.catchType ≠ 0 ∧ Cond.classLink own z.catchType cl ∈ gtb ∧ Cond.castable cl cl ∈ gxw ∧ z.handlerPc = hpc
def i2L (a : Int) : Int64 := Int64.ofInt (Int32.ofInt a).toInt
section G9K
variable {X : gX} {cc : ByteArray} {own : String} {pc q : Nat} {Ls : List (Option Value)} {st : List Value} {T : gT} {I : gI} {J : gJ} {O : gO} {k n mc ms : Nat} {P : gP}
theorem G_i2lg {a : Int} (x : Ok X cc own) (d : Dc cc pc .i2l 1 q) (h : G X q Ls (.long (i2L a) :: st) T I J O k n) : G X pc Ls (VI a :: st) T I J O k n := by
  rw [show VI a = VI (Int32.ofInt a).toInt from VI_of _]
  exact G_i2l x d (i32_in _) h
theorem G_runC {as rest : List Value} {P' : gP} {PX' : gPX} {mc' ms' : Nat} {hh : List (Nat × Nat × Nat × Nat)} (x : Ok X cc own) (tb : gTab X hh) (hr : ∀ p l e R s m args below meth c E Q, X = (p, l, e, R, s, m, args, below, meth, c, E, Q) → ∀ (H : Heap) (locs : List Loc) (ls : Array Slot), gWd E T I J O H → va_S (fun q => E.2.2 ≤ q) s.heap H locs → gLs ls c.maxLocals Ls → vx_Run p l e R s m args below meth c H locs k n mc' ms' (F0 m pc ls st) rest (gQc E P' as.toArray) (gXC E PX') (fun q => E.2.2 ≤ q))
    (hcat : ∀ cl T' I' J' O' (qa : Nat), PX' cl T' I' J' O' → ∃ hpc, gH hh own pc cl hpc ∧ G X hpc Ls [va_rf (some qa)] T' I' J' O' (k + mc') (n + ms'))
    (kk : ∀ v T' I' J' O', P' v T' I' J' O' → G X (pc + 3) Ls (v.toList ++ rest) T' I' J' O' (k + mc') (n + ms')) : G X pc Ls st T I J O k n := by
  obtain ⟨p, l, e, R, s, m, args, below, meth, c, E, Q⟩ := X
  intro H locs ls hW hS hL T9 hT9 X9
  rcases hr p l e R s m args below meth c E _ rfl H locs ls hW hS hL T9 hT9 X9 with ⟨v, st₀, t, T', L, h0, X', hLo, e1, e2, ⟨⟨v2, Ta, Ia, Ja, Oa, hv, hp, hw⟩, hz, hk⟩, st5⟩ | ⟨q9, st₀, t, T', L, cl, ce, h0, X', hLo, e1, e2, ⟨⟨Ta, Ia, Ja, Oa, hp, hw⟩, hz, hk⟩, hce, hcv, hcl, st5⟩
  · cases hv
    rw [h0] at hz hk
    obtain ⟨t2, a1, b1⟩ := kk v Ta Ia Ja Oa hp T'.heap (locs ++ L) ls (by rw [e1]; exact hw) ⟨Nat.le_trans hS.1 (by rw [e1]; exact hz), fun q h1 h2 => by rw [e1, hk q (Nat.lt_of_lt_of_le h1 hS.1) h2]; exact hS.2.1 q h1 h2, fun q hq => by
        rcases List.mem_append.mp hq with h | h
        · exact hS.2.2 q h
        · exact hLo q h⟩ hL T' rfl X'
    exact ⟨t2, st5 t2 a1, b1⟩
  · rw [h0] at hz hk
    have hS1 : va_S (fun q => E.2.2 ≤ q) s.heap T'.heap (locs ++ L) := ⟨Nat.le_trans hS.1 (by rw [e1]; exact hz), fun q h1 h2 => by rw [e1, hk q (Nat.lt_of_lt_of_le h1 hS.1) h2]; exact hS.2.1 q h1 h2, fun q hq => by
        rcases List.mem_append.mp hq with h | h
        · exact hS.2.2 q h
        · exact hLo q h⟩
    obtain ⟨hpc, ⟨pre, z, suf, g1, g2, g3, g4, g5, g6, g7⟩, hG⟩ := hcat cl Ta Ia Ja Oa q9 hp
    subst g7
    obtain ⟨t2, a1, b1⟩ := vx_catch (p := p) (l := l) (e := e) (R := R) (s := s) (m := m) (args := args) (below := below) (meth := meth) (c := c) (H := T'.heap) (locs := locs ++ L) (Q := Q) (ls := ls) (rest := rest) (pc := pc) (own := own) (name := cl) (E := cl) (ce := ce) (q := q9) x.2.2.1 pre z suf (tb.1.trans g1) (fun w hw => by
        obtain ⟨w1, nm, w2, w3⟩ := g2 w hw
        exact Or.inr ⟨w1, nm, x.2.2.2.1 _ w2, tb.2 _ w3⟩) g3 g4 (x.2.2.2.1 _ g5) (va_Nw.use rfl (x.2.2.2.2.1.2.1 _ g6)) (by rw [e1]; exact hce) hcv hcl (hG T'.heap (locs ++ L) ls (by rw [e1]; exact hw) hS1 hL) T' rfl X'
    exact ⟨t2, st5.trans a1, b1⟩
theorem G_cVC {idx np fr lo fr0 lo0 mc0 ms0 mc' ms' ci a : Nat} {hh : List (Nat × Nat × Nat × Nat)} {y : MethodName} {cy : ByteArray} {maxL : Nat} {ret : Option FieldType} {as rest : List Value} {P' : gP} {PX' : gPX} (x : Ok X cc own) (tb : gTab X hh) (d : Dc cc pc (.invokevirtual idx) 3 q) (L : Lk own idx y cy maxL ret np) (hin : Cond.instanceMethod y ∈ gtb ∧ Cond.selects y.cls y y ∈ gtb) (hT : T.2 a = some (.inl ci)) (rm : gRm X fr0 lo0 mc0 ms0)
    (C : Cx y cy maxL ret (va_rf (some a) :: as) fr lo mc' ms' T I J O P' PX') (hcat : ∀ cl T' I' J' O' (qa : Nat), PX' cl T' I' J' O' → ∃ hpc, gH hh own pc cl hpc ∧ G X hpc Ls [va_rf (some qa)] T' I' J' O' (k + mc') (n + ms')) (hstk : st = as.reverse ++ va_rf (some a) :: rest) (kk : ∀ v T' I' J' O', P' v T' I' J' O' → G X q Ls (v.toList ++ rest) T' I' J' O' (k + mc') (n + ms')) (hc : vwCl[ci]? = some (y.cls, gTb ci, gN ci) := by rfl) (hr : rest.length ≤ 4 := by exact Nat.le_of_ble_eq_true rfl) (hn : as.length = np := by rfl) (hfr : fr + 1 ≤ fr0 := by exact Nat.le_of_ble_eq_true rfl) (hlo : 8 + (maxL + 11) + lo ≤ lo0 := by exact Nat.le_of_ble_eq_true rfl) (hmc0 : k + mc' ≤ mc0 := by omega) (hms0 : n + ms' ≤ ms0 := by omega) : G X pc Ls st T I J O k n := by
  obtain ⟨d, rfl⟩ := d
  refine G_runC (as := va_rf (some a) :: as) (rest := rest) x tb ?_ hcat kk
  intro p l e R s m args below meth c E Q hX H locs ls hW hS hL
  subst hX
  have hR : R = { frames := fr0, cells := mc0, slots := ms0, locals := lo0 } := rm
  subst hR
  have hp := gPS (as := va_rf (some a) :: as) x.2.2.2.2.1 x.2.2.2.2.2.1 hW hS
  exact vx_runV (n := np) (ret := ret) (C := y.cls) ⟨x.1, x.2.1, rfl, x.2.2.1, x.2.2.2.1⟩ (C l E x.2.2.2.2.2.2.2) ⟨gCB x.2.2.2.1 L ⟨hfr, hlo⟩, x.2.2.2.1 _ hin.1, x.2.2.2.1 _ hin.2⟩ ⟨hp.1, va_recv x.2.2.2.2.1.1 (va_P1 (hW.2.1 a _ hT).2) (ci := ci) (q0 := 0) hc rfl, hp.2⟩ rfl hn hL.1 hstk (lv_room (catSum hr)) d ⟨hmc0, hms0⟩
/-- the words of a call of a method with handlers -/
def LkH (own : String) (idx : Nat) (y : MethodName) (cc : ByteArray) (maxL : Nat) (ret : Option FieldType) (hh : List (Nat × Nat × Nat × Nat)) (np : Nat) : Prop :=
  Cond.methodLink own idx y ∈ gtb ∧ Cond.initialized y.cls ∈ gtb ∧ Cond.codeWith y cc maxL ret hh ∈ gtb ∧ Cond.static y ∈ gtb ∧ y.cls ≠ "java/lang/invoke/MethodHandle" ∧ y.cls ≠ "java/lang/invoke/VarHandle" ∧ (parseMethodDescriptor y.desc).map (fun d => d.parameters.length) = some np
def ncX (X : gX) : Prop :=
  match X with
  | (_, _, _, _, s, _, _, _, _, _, _, _) => ncU s
theorem G_cSH {idx np fr lo fr0 lo0 mc0 ms0 : Nat} {hh : List (Nat × Nat × Nat × Nat)} {y : MethodName} {cy : ByteArray} {maxL : Nat} {ret : Option FieldType} {as rest : List Value} (x : Ok X cc own) (hnc : ncX X) (d : Dc cc pc (.invokestatic idx) 3 q) (L : LkH own idx y cy maxL ret hh np) (rm : gRm X fr0 lo0 mc0 ms0) (C : CtH y cy maxL ret hh as fr lo mc ms T I J O P) (hstk : st = as.reverse ++ rest) (kk : ∀ v T' I' J' O', P v T' I' J' O' → G X q Ls (v.toList ++ rest) T' I' J' O' (k + mc) (n + ms)) (hr : rest.length ≤ 4 := by exact Nat.le_of_ble_eq_true rfl) (hn : as.length = np := by rfl) (hfr : fr + 1 ≤ fr0 := by exact Nat.le_of_ble_eq_true rfl) (hlo : 8 + (maxL + 11) + lo ≤ lo0 := by exact Nat.le_of_ble_eq_true rfl) (hmc : k + mc ≤ mc0 := by omega) (hms : n + ms ≤ ms0 := by omega) : G X pc Ls st T I J O k n := by
  obtain ⟨d, rfl⟩ := d
  refine G_run (as := as) (rest := rest) ?_ kk
  intro p l e R s m args below meth c E Q hX H locs ls hW hS hL
  subst hX
  have hR : R = { frames := fr0, cells := mc0, slots := ms0, locals := lo0 } := rm
  subst hR
  have hp := gPS (as := as) x.2.2.2.2.1 x.2.2.2.2.2.1 hW hS
  have hg : GoodIn gtb (va_wsS own idx y (gwsH y cy maxL ret hh)) := fun w hw => by
    have hm : w ∈ gtb := by
      unfold va_wsS gwsH at hw
      rcases List.mem_append.mp hw with h | h
      · rcases List.mem_cons.mp h with rfl | h
        · exact L.1
        · rcases List.mem_cons.mp h with rfl | h
          · exact L.2.2.2.1
          · rcases List.mem_cons.mp h with rfl | h
            · exact L.2.1
            · cases h
      · rcases List.mem_cons.mp h with rfl | h
        · exact L.2.2.1
        · exact h
    exact ⟨hm, good_of_word (List.mem_filter.mp hm).2⟩
  exact vx_runSW (n := np) (hh := hh) ⟨x.1, x.2.1, rfl, x.2.2.1, x.2.2.2.1⟩ (C l E x.2.2.2.2.2.2.2) (vx_cwSW (ws' := gtb) np x.2.2.2.1 hg rfl rfl rfl ⟨L.2.2.2.2.1, L.2.2.2.2.2.1, L.2.2.2.2.2.2⟩ ⟨hfr, hlo⟩) ⟨gPcH_blind, fun U hU hWm => ⟨hp.2 U hU hWm, ncU.warm hWm.alike hnc⟩⟩ rfl hn hL.1 hstk (lv_room (catSum hr)) d ⟨hmc, hms⟩
end G9K
theorem clL_13 : Cond.classLink RL 13 xcI ∈ gtb := mt3 (List.mem_of_getElem? (i := 83) (by decide +kernel)) rfl
theorem clL_15 : Cond.classLink RL 15 xcS ∈ gtb := mt3 (List.mem_of_getElem? (i := 84) (by decide +kernel)) rfl
theorem cs_I : Cond.castable xcI xcI ∈ gxw := mx3 (List.mem_of_getElem? (i := 95) (by decide +kernel)) rfl
theorem cs_S : Cond.castable xcS xcS ∈ gxw := mx3 (List.mem_of_getElem? (i := 188) (by decide +kernel)) rfl
theorem clL_34 : Cond.classLink RL 34 xcA ∈ gtb := mt4 (List.mem_of_getElem? (i := 57) (by decide +kernel)) rfl
theorem cs_A : Cond.castable xcA xcA ∈ gxw := mx4 (List.mem_of_getElem? (i := 67) (by decide +kernel)) rfl
abbrev hhL_make : List (Nat × Nat × Nat × Nat) := [(0, 12, 15, 13), (0, 12, 19, 15)]
set_option maxRecDepth 100000 in
theorem cw_L_make : Cond.codeWith yL_make cL_make 6 (some .int) hhL_make ∈ gtb := mt3 (List.mem_of_getElem? (i := 82) rfl) rfl
theorem kH_103 : LkH RL 103 yL_make cL_make 6 (some .int) hhL_make 5 := ⟨mt3 (List.mem_of_getElem? (i := 80) (by decide +kernel)) rfl, ini_L, cw_L_make, mt3 (List.mem_of_getElem? (i := 81) (by decide +kernel)) rfl, by decide, by decide, by decide +kernel⟩
abbrev hhL_move : List (Nat × Nat × Nat × Nat) := [(0, 14, 17, 13), (0, 14, 21, 15)]
set_option maxRecDepth 100000 in
theorem cw_L_move : Cond.codeWith yL_move cL_move 7 (some .int) hhL_move ∈ gtb := mt4 (List.mem_of_getElem? (i := 26) rfl) rfl
theorem kH_112 : LkH RL 112 yL_move cL_move 7 (some .int) hhL_move 6 := ⟨mt4 (List.mem_of_getElem? (i := 24) (by decide +kernel)) rfl, ini_L, cw_L_move, mt4 (List.mem_of_getElem? (i := 25) (by decide +kernel)) rfl, by decide, by decide, by decide +kernel⟩
abbrev hhL_remove : List (Nat × Nat × Nat × Nat) := [(0, 12, 15, 13), (0, 12, 19, 15)]
set_option maxRecDepth 100000 in
theorem cw_L_remove : Cond.codeWith yL_remove cL_remove 6 (some .int) hhL_remove ∈ gtb := mt4 (List.mem_of_getElem? (i := 35) rfl) rfl
theorem kH_116 : LkH RL 116 yL_remove cL_remove 6 (some .int) hhL_remove 5 := ⟨mt4 (List.mem_of_getElem? (i := 33) (by decide +kernel)) rfl, ini_L, cw_L_remove, mt4 (List.mem_of_getElem? (i := 34) (by decide +kernel)) rfl, by decide, by decide, by decide +kernel⟩
abbrev hhL_shown : List (Nat × Nat × Nat × Nat) := [(0, 10, 13, 13)]
set_option maxRecDepth 100000 in
theorem cw_L_shown : Cond.codeWith yL_shown cL_shown 5 (some .int) hhL_shown ∈ gtb := mt4 (List.mem_of_getElem? (i := 42) rfl) rfl
theorem kH_119 : LkH RL 119 yL_shown cL_shown 5 (some .int) hhL_shown 4 := ⟨mt4 (List.mem_of_getElem? (i := 40) (by decide +kernel)) rfl, ini_L, cw_L_shown, mt4 (List.mem_of_getElem? (i := 41) (by decide +kernel)) rfl, by decide, by decide, by decide +kernel⟩
abbrev hhL_line : List (Nat × Nat × Nat × Nat) := [(0, 12, 15, 13)]
set_option maxRecDepth 100000 in
theorem cw_L_line : Cond.codeWith yL_line cL_line 6 (some .int) hhL_line ∈ gtb := mt4 (List.mem_of_getElem? (i := 49) rfl) rfl
theorem kH_123 : LkH RL 123 yL_line cL_line 6 (some .int) hhL_line 5 := ⟨mt4 (List.mem_of_getElem? (i := 47) (by decide +kernel)) rfl, ini_L, cw_L_line, mt4 (List.mem_of_getElem? (i := 48) (by decide +kernel)) rfl, by decide, by decide, by decide +kernel⟩
abbrev hhL_position : List (Nat × Nat × Nat × Nat) := [(0, 12, 15, 13), (0, 12, 19, 34)]
set_option maxRecDepth 100000 in
theorem cw_L_position : Cond.codeWith yL_position cL_position 6 (some .int) hhL_position ∈ gtb := mt4 (List.mem_of_getElem? (i := 56) rfl) rfl
theorem kH_126 : LkH RL 126 yL_position cL_position 6 (some .int) hhL_position 5 := ⟨mt4 (List.mem_of_getElem? (i := 54) (by decide +kernel)) rfl, ini_L, cw_L_position, mt4 (List.mem_of_getElem? (i := 55) (by decide +kernel)) rfl, by decide, by decide, by decide +kernel⟩
abbrev hhL_place : List (Nat × Nat × Nat × Nat) := [(0, 12, 15, 13), (0, 12, 19, 34)]
set_option maxRecDepth 100000 in
theorem cw_L_place : Cond.codeWith yL_place cL_place 6 (some .int) hhL_place ∈ gtb := mt4 (List.mem_of_getElem? (i := 83) rfl) rfl
theorem kH_129 : LkH RL 129 yL_place cL_place 6 (some .int) hhL_place 5 := ⟨mt4 (List.mem_of_getElem? (i := 81) (by decide +kernel)) rfl, ini_L, cw_L_place, mt4 (List.mem_of_getElem? (i := 82) (by decide +kernel)) rfl, by decide, by decide, by decide +kernel⟩
abbrev hhL_setNumber : List (Nat × Nat × Nat × Nat) := [(0, 14, 17, 13), (0, 14, 21, 34), (0, 14, 25, 15)]
set_option maxRecDepth 100000 in
theorem cw_L_setNumber : Cond.codeWith yL_setNumber cL_setNumber 7 (some .int) hhL_setNumber ∈ gtb := mt4 (List.mem_of_getElem? (i := 90) rfl) rfl
theorem kH_132 : LkH RL 132 yL_setNumber cL_setNumber 7 (some .int) hhL_setNumber 6 := ⟨mt4 (List.mem_of_getElem? (i := 88) (by decide +kernel)) rfl, ini_L, cw_L_setNumber, mt4 (List.mem_of_getElem? (i := 89) (by decide +kernel)) rfl, by decide, by decide, by decide +kernel⟩
abbrev hhL_clearCell : List (Nat × Nat × Nat × Nat) := [(0, 12, 15, 13), (0, 12, 19, 15)]
set_option maxRecDepth 100000 in
theorem cw_L_clearCell : Cond.codeWith yL_clearCell cL_clearCell 6 (some .int) hhL_clearCell ∈ gtb := mt4 (List.mem_of_getElem? (i := 106) rfl) rfl
theorem kH_136 : LkH RL 136 yL_clearCell cL_clearCell 6 (some .int) hhL_clearCell 5 := ⟨mt4 (List.mem_of_getElem? (i := 104) (by decide +kernel)) rfl, ini_L, cw_L_clearCell, mt4 (List.mem_of_getElem? (i := 105) (by decide +kernel)) rfl, by decide, by decide, by decide +kernel⟩
abbrev hhL_setFormula : List (Nat × Nat × Nat × Nat) := [(0, 12, 15, 13), (0, 12, 19, 34), (0, 12, 23, 15)]
set_option maxRecDepth 100000 in
theorem cw_L_setFormula : Cond.codeWith yL_setFormula cL_setFormula 6 (some .int) hhL_setFormula ∈ gtb := mt4 (List.mem_of_getElem? (i := 113) rfl) rfl
theorem kH_140 : LkH RL 140 yL_setFormula cL_setFormula 6 (some .int) hhL_setFormula 5 := ⟨mt4 (List.mem_of_getElem? (i := 111) (by decide +kernel)) rfl, ini_L, cw_L_setFormula, mt4 (List.mem_of_getElem? (i := 112) (by decide +kernel)) rfl, by decide, by decide, by decide +kernel⟩
abbrev hhL_cell : List (Nat × Nat × Nat × Nat) := [(0, 14, 17, 13), (0, 14, 21, 34)]
set_option maxRecDepth 100000 in
theorem cw_L_cell : Cond.codeWith yL_cell cL_cell 7 (some .int) hhL_cell ∈ gtb := mt4 (List.mem_of_getElem? (i := 180) rfl) rfl
theorem kH_143 : LkH RL 143 yL_cell cL_cell 7 (some .int) hhL_cell 6 := ⟨mt4 (List.mem_of_getElem? (i := 178) (by decide +kernel)) rfl, ini_L, cw_L_cell, mt4 (List.mem_of_getElem? (i := 179) (by decide +kernel)) rfl, by decide, by decide, by decide +kernel⟩
abbrev hhL_value : List (Nat × Nat × Nat × Nat) := [(0, 12, 15, 13)]
set_option maxRecDepth 100000 in
theorem cw_L_value : Cond.codeWith yL_value cL_value 6 (some .int) hhL_value ∈ gtb := mt4 (List.mem_of_getElem? (i := 209) rfl) rfl
theorem kH_146 : LkH RL 146 yL_value cL_value 6 (some .int) hhL_value 5 := ⟨mt4 (List.mem_of_getElem? (i := 207) (by decide +kernel)) rfl, ini_L, cw_L_value, mt4 (List.mem_of_getElem? (i := 208) (by decide +kernel)) rfl, by decide, by decide, by decide +kernel⟩
abbrev hhL_error : List (Nat × Nat × Nat × Nat) := [(0, 12, 15, 13)]
set_option maxRecDepth 100000 in
theorem cw_L_error : Cond.codeWith yL_error cL_error 6 (some .int) hhL_error ∈ gtb := mt4 (List.mem_of_getElem? (i := 216) rfl) rfl
theorem kH_149 : LkH RL 149 yL_error cL_error 6 (some .int) hhL_error 5 := ⟨mt4 (List.mem_of_getElem? (i := 214) (by decide +kernel)) rfl, ini_L, cw_L_error, mt4 (List.mem_of_getElem? (i := 215) (by decide +kernel)) rfl, by decide, by decide, by decide +kernel⟩
abbrev hhL_write : List (Nat × Nat × Nat × Nat) := [(0, 12, 15, 13), (0, 12, 19, 15)]
set_option maxRecDepth 100000 in
theorem cw_L_write : Cond.codeWith yL_write cL_write 6 (some .int) hhL_write ∈ gtb := mt4 (List.mem_of_getElem? (i := 223) rfl) rfl
theorem kH_152 : LkH RL 152 yL_write cL_write 6 (some .int) hhL_write 5 := ⟨mt4 (List.mem_of_getElem? (i := 221) (by decide +kernel)) rfl, ini_L, cw_L_write, mt4 (List.mem_of_getElem? (i := 222) (by decide +kernel)) rfl, by decide, by decide, by decide +kernel⟩
abbrev hhL_cycles : List (Nat × Nat × Nat × Nat) := [(0, 9, 12, 13)]
set_option maxRecDepth 100000 in
theorem cw_L_cycles : Cond.codeWith yL_cycles cL_cycles 4 (some .int) hhL_cycles ∈ gtb := mt5 (List.mem_of_getElem? (i := 17) rfl) rfl
theorem kH_155 : LkH RL 155 yL_cycles cL_cycles 4 (some .int) hhL_cycles 3 := ⟨mt5 (List.mem_of_getElem? (i := 15) (by decide +kernel)) rfl, ini_L, cw_L_cycles, mt5 (List.mem_of_getElem? (i := 16) (by decide +kernel)) rfl, by decide, by decide, by decide +kernel⟩
abbrev hhL_order : List (Nat × Nat × Nat × Nat) := [(0, 10, 13, 13)]
set_option maxRecDepth 100000 in
theorem cw_L_order : Cond.codeWith yL_order cL_order 5 (some .int) hhL_order ∈ gtb := mt5 (List.mem_of_getElem? (i := 24) rfl) rfl
theorem kH_159 : LkH RL 159 yL_order cL_order 5 (some .int) hhL_order 4 := ⟨mt5 (List.mem_of_getElem? (i := 22) (by decide +kernel)) rfl, ini_L, cw_L_order, mt5 (List.mem_of_getElem? (i := 23) (by decide +kernel)) rfl, by decide, by decide, by decide +kernel⟩
abbrev hhL_receive : List (Nat × Nat × Nat × Nat) := [(0, 12, 15, 13), (0, 12, 19, 34)]
set_option maxRecDepth 100000 in
theorem cw_L_receive : Cond.codeWith yL_receive cL_receive 6 (some .int) hhL_receive ∈ gtb := mt5 (List.mem_of_getElem? (i := 31) rfl) rfl
theorem kH_163 : LkH RL 163 yL_receive cL_receive 6 (some .int) hhL_receive 5 := ⟨mt5 (List.mem_of_getElem? (i := 29) (by decide +kernel)) rfl, ini_L, cw_L_receive, mt5 (List.mem_of_getElem? (i := 30) (by decide +kernel)) rfl, by decide, by decide, by decide +kernel⟩
abbrev hhL_missing : List (Nat × Nat × Nat × Nat) := [(0, 10, 13, 13), (0, 10, 17, 34)]
set_option maxRecDepth 100000 in
theorem cw_L_missing : Cond.codeWith yL_missing cL_missing 5 (some .int) hhL_missing ∈ gtb := mt5 (List.mem_of_getElem? (i := 42) rfl) rfl
theorem kH_170 : LkH RL 170 yL_missing cL_missing 5 (some .int) hhL_missing 4 := ⟨mt5 (List.mem_of_getElem? (i := 40) (by decide +kernel)) rfl, ini_L, cw_L_missing, mt5 (List.mem_of_getElem? (i := 41) (by decide +kernel)) rfl, by decide, by decide, by decide +kernel⟩
abbrev hhL_clock : List (Nat × Nat × Nat × Nat) := [(0, 9, 12, 13)]
set_option maxRecDepth 100000 in
theorem cw_L_clock : Cond.codeWith yL_clock cL_clock 4 (some .int) hhL_clock ∈ gtb := mt5 (List.mem_of_getElem? (i := 49) rfl) rfl
theorem kH_173 : LkH RL 173 yL_clock cL_clock 4 (some .int) hhL_clock 3 := ⟨mt5 (List.mem_of_getElem? (i := 47) (by decide +kernel)) rfl, ini_L, cw_L_clock, mt5 (List.mem_of_getElem? (i := 48) (by decide +kernel)) rfl, by decide, by decide, by decide +kernel⟩
abbrev hhL_operation : List (Nat × Nat × Nat × Nat) := [(0, 12, 15, 13), (0, 12, 19, 34)]
set_option maxRecDepth 100000 in
theorem cw_L_operation : Cond.codeWith yL_operation cL_operation 6 (some .int) hhL_operation ∈ gtb := mt5 (List.mem_of_getElem? (i := 56) rfl) rfl
theorem kH_176 : LkH RL 176 yL_operation cL_operation 6 (some .int) hhL_operation 5 := ⟨mt5 (List.mem_of_getElem? (i := 54) (by decide +kernel)) rfl, ini_L, cw_L_operation, mt5 (List.mem_of_getElem? (i := 55) (by decide +kernel)) rfl, by decide, by decide, by decide +kernel⟩
abbrev hhL_areAlike : List (Nat × Nat × Nat × Nat) := [(0, 17, 20, 13)]
set_option maxRecDepth 100000 in
theorem cw_L_areAlike : Cond.codeWith yL_areAlike cL_areAlike 5 (some .int) hhL_areAlike ∈ gtb := mt5 (List.mem_of_getElem? (i := 67) rfl) rfl
theorem kH_179 : LkH RL 179 yL_areAlike cL_areAlike 5 (some .int) hhL_areAlike 4 := ⟨mt5 (List.mem_of_getElem? (i := 65) (by decide +kernel)) rfl, ini_L, cw_L_areAlike, mt5 (List.mem_of_getElem? (i := 66) (by decide +kernel)) rfl, by decide, by decide, by decide +kernel⟩
abbrev hhL_different : List (Nat × Nat × Nat × Nat) := [(0, 10, 13, 13)]
set_option maxRecDepth 100000 in
theorem cw_L_different : Cond.codeWith yL_different cL_different 5 (some .int) hhL_different ∈ gtb := mt5 (List.mem_of_getElem? (i := 84) rfl) rfl
theorem kH_182 : LkH RL 182 yL_different cL_different 5 (some .int) hhL_different 4 := ⟨mt5 (List.mem_of_getElem? (i := 82) (by decide +kernel)) rfl, ini_L, cw_L_different, mt5 (List.mem_of_getElem? (i := 83) (by decide +kernel)) rfl, by decide, by decide, by decide +kernel⟩
abbrev hhL_type : List (Nat × Nat × Nat × Nat) := [(0, 9, 12, 34), (0, 9, 15, 15)]
set_option maxRecDepth 100000 in
theorem cw_L_type : Cond.codeWith yL_type cL_type 4 (some .int) hhL_type ∈ gtb := mt5 (List.mem_of_getElem? (i := 95) rfl) rfl
theorem kH_185 : LkH RL 185 yL_type cL_type 4 (some .int) hhL_type 3 := ⟨mt5 (List.mem_of_getElem? (i := 93) (by decide +kernel)) rfl, ini_L, cw_L_type, mt5 (List.mem_of_getElem? (i := 94) (by decide +kernel)) rfl, by decide, by decide, by decide +kernel⟩
abbrev hhL_fault : List (Nat × Nat × Nat × Nat) := [(0, 9, 12, 13)]
set_option maxRecDepth 100000 in
theorem cw_L_fault : Cond.codeWith yL_fault cL_fault 4 (some .int) hhL_fault ∈ gtb := mt5 (List.mem_of_getElem? (i := 105) rfl) rfl
theorem kH_192 : LkH RL 192 yL_fault cL_fault 4 (some .int) hhL_fault 3 := ⟨mt5 (List.mem_of_getElem? (i := 103) (by decide +kernel)) rfl, ini_L, cw_L_fault, mt5 (List.mem_of_getElem? (i := 104) (by decide +kernel)) rfl, by decide, by decide, by decide +kernel⟩
abbrev hhL_undo : List (Nat × Nat × Nat × Nat) := [(0, 8, 11, 15)]
set_option maxRecDepth 100000 in
theorem cw_L_undo : Cond.codeWith yL_undo cL_undo 3 (some .int) hhL_undo ∈ gtb := mt5 (List.mem_of_getElem? (i := 112) rfl) rfl
theorem kH_199 : LkH RL 199 yL_undo cL_undo 3 (some .int) hhL_undo 2 := ⟨mt5 (List.mem_of_getElem? (i := 110) (by decide +kernel)) rfl, ini_L, cw_L_undo, mt5 (List.mem_of_getElem? (i := 111) (by decide +kernel)) rfl, by decide, by decide, by decide +kernel⟩
