def R_law : String := "SharedSheetLaw"
def lw_P (b : Addr) (xs : List Int32) (args : Array Value) (s : State) : Prop := args = #[.ref b] ∧ s.IntsAt b xs ∧ xs.length ≤ 2560 ∧ (Jvm.Cond.and given_1 narrow_1).before args s = true
def lw_Q (_ : Array Value) (s : State) (o : Outcome) (t : State) : Prop := o = .returned (some (.int 1)) ∧ Framed s o t [] 601024 7293034
def lw_Z (below : List Frame) (a : Array Value) (s : State) : State → Prop := fun t => ∃ o, t.status = .running ∧ Ended t below o ∧ lw_Q a s o t
/-- the law's own end, with 1 on the stack, nothing written that was there before, its room as the claim has it -/
theorem lw_ret {p : Program} {l : Launch} {e : Env} {s : State} {m : MethodId} {below : List Frame} {meth : Method} {c : Code} {b : Nat} (hx : p.tables.exec = Jvm.exec) (hb : c.code = code) (hr : meth.sig.returnType = ret) (hlocks : meth.locks = false) {pc : Nat} {H : Heap} {ls : Array Slot} (hdg : decode code pc = .ok (.ireturn, 1)) : W p l e room_1 s m #[Value.ref b] below meth c H [] 601024 7293034 (lw_Z below #[Value.ref b] s) (F0 m pc ls [.int 1]) := by
  intro T hT X
  obtain ⟨fs, hret, hrun, hended, hW, hframe⟩ := X.leave (v := some (.int 1)) (hlocks := hlocks) (fun h => by rw [hr] at h; cases h)
  have hmeth' : T.vm.method? m = some meth := X.method'
  refine ⟨T.setFrames fs, ?_, .returned (some (.int 1)), hrun, hended, rfl, ⟨_, rfl⟩, hW, hframe⟩
  jvm_step X.here [X.here.top, hx, hb, hdg, hmeth', hr, ret, narrow_b1]
  (try refine ⟨rfl, ?_⟩); (try refine ⟨rfl, ?_⟩)
  first | (intro acts; rw [hret _ acts rfl rfl rfl]) | rw [hret _ _ rfl rfl rfl]
  exact Steps.refl _
/-- what holds at the law's entry: the machine, the code, the tables' words (any of lw_tbl by 'hts w (by decide +kernel)'), the script of L ints xs at the cell b, what the Statement gives of the start (any of its parts by flat_of_before) -/
def lw_At (p : Program) (s : State) (m : MethodId) (meth : Method) (c : Code) (b L : Nat) (xs : Nat → Int32) : Prop :=
  p.tables.exec = Jvm.exec ∧ c.code = code ∧ meth.sig.returnType = ret ∧ c.maxLocals = 7 ∧ s.vm.findClass R_law = some m.cls ∧ (∀ w ∈ lw_tbl, w.before #[Value.ref b] s = true) ∧ va_X b L xs s s.heap ∧ b < s.heap.size ∧ meth.locks = false ∧ (Jvm.Cond.and given_1 narrow_1).before #[Value.ref b] s = true
set_option maxHeartbeats 4000000 in
set_option maxRecDepth 100000 in
/-- what is known of the classes at the entry -/
theorem gE_entry {s : State} {b : Nat} (hts : ∀ w ∈ lw_tbl, w.before #[Value.ref b] s = true) (hgv : (Jvm.Cond.and given_1 narrow_1).before #[Value.ref b] s = true) : ∃ (D : va_G) (kA : Nat → ClassId), gE (D, kA, s.heap.size) s s.heap ∧ ncU s := by
  have hg : ∀ w ∈ gtb, w.before #[Value.ref b] s = true := fun w hw => hts w (List.mem_filter.mp hw).1
  have hs := flat_of_before _ hgv
  obtain ⟨c0, i0, k0⟩ := u_known (C := RX0) (T := TX0) (N := 12) hg gin0 (hg _ itX0)
  obtain ⟨c1, i1, k1⟩ := u_known (C := RX1) (T := TX1) (N := 1) hg gin1 (hg _ itX1)
  obtain ⟨c2, i2, k2⟩ := u_known (C := RX2) (T := TX2) (N := 3) hg gin2 (hg _ itX2)
  obtain ⟨c3, i3, k3⟩ := u_known (C := RX3) (T := TX3) (N := 1) hg gin3 (hg _ itX3)
  obtain ⟨c4, i4, k4⟩ := u_known (C := RX4) (T := TX4) (N := 7) hg gin4 (hg _ itX4)
  obtain ⟨c5, i5, k5⟩ := u_known (C := RX5) (T := TX5) (N := 7) hg gin5 (hg _ itX5)
  obtain ⟨c6, i6, k6⟩ := u_known (C := RX6) (T := TX6) (N := 3) hg gin6 (hg _ itX6)
  obtain ⟨c7, i7, k7⟩ := u_known (C := RX7) (T := TX7) (N := 2) hg gin7 (hg _ itX7)
  obtain ⟨c8, i8, k8⟩ := u_known (C := RX8) (T := TX8) (N := 9) hg gin8 (hg _ itX8)
  obtain ⟨c9, i9, k9⟩ := u_known (C := RX9) (T := TX9) (N := 2) hg gin9 (hg _ itX9)
  obtain ⟨c10, i10, k10⟩ := u_known (C := RX10) (T := TX10) (N := 4) hg gin10 (hg _ itX10)
  obtain ⟨c11, i11, k11⟩ := u_known (C := RX11) (T := TX11) (N := 31) hg gin11 (hg _ itX11)
  obtain ⟨a0, g0, p0, x0, y0, z0⟩ := Cond.arrayClass_spec (hg _ ac_int)
  obtain ⟨a1, g1, p1, x1, y1, z1⟩ := Cond.arrayClass_spec (hg _ ac_boolean)
  obtain ⟨a2, g2, p2, x2, y2, z2⟩ := Cond.arrayClass_spec (hg _ ac_char)
  obtain ⟨a3, g3, p3, x3, y3, z3⟩ := Cond.arrayClass_spec (hg _ ac_long)
  obtain ⟨p4, a4, g4, u4, -, y4, z4, x4⟩ := Cond.arrayOver_spec (hts (.arrayOver (.object RX8)) (by decide +kernel))
  obtain ⟨p5, a5, g5, u5, -, y5, z5, x5⟩ := Cond.arrayOver_spec (hts (.arrayOver (.object RX5)) (by decide +kernel))
  obtain ⟨p6, a6, g6, u6, -, y6, z6, x6⟩ := Cond.arrayOver_spec (hts (.arrayOver (.object RX3)) (by decide +kernel))
  have hK : va_K (fun k => match k with | 0 => c0 | 1 => c1 | 2 => c2 | 3 => c3 | 4 => c4 | 5 => c5 | 6 => c6 | 7 => c7 | 8 => c8 | 9 => c9 | 10 => c10 | _ => c11, fun k => match k with | 0 => i0 | 1 => i1 | 2 => i2 | 3 => i3 | 4 => i4 | 5 => i5 | 6 => i6 | 7 => i7 | 8 => i8 | 9 => i9 | 10 => i10 | _ => i11) vwCl (gtys (fun t => match t with | 0 => a0 | 1 => a1 | 2 => a2 | 3 => a3 | 4 => a4 | 5 => a5 | _ => a6)) s := by
    refine ⟨fun k q hq => ?_, fun k q hq => ?_⟩
    · match k, hq with
      | 0, hq => cases hq; exact k0
      | 1, hq => cases hq; exact k1
      | 2, hq => cases hq; exact k2
      | 3, hq => cases hq; exact k3
      | 4, hq => cases hq; exact k4
      | 5, hq => cases hq; exact k5
      | 6, hq => cases hq; exact k6
      | 7, hq => cases hq; exact k7
      | 8, hq => cases hq; exact k8
      | 9, hq => cases hq; exact k9
      | 10, hq => cases hq; exact k10
      | 11, hq => cases hq; exact k11
      | k + 12, hq => simp [vwCl] at hq
    · match k, hq with
      | 0, hq => cases hq; exact ⟨fun n z => ⟨fun k h => (by cases h), g0, y0, p0, z0⟩, x0⟩
      | 1, hq => cases hq; exact ⟨fun n z => ⟨fun k h => (by cases h), g1, y1, p1, z1⟩, x1⟩
      | 2, hq => cases hq; exact ⟨fun n z => ⟨fun k h => (by cases h), g2, y2, p2, z2⟩, x2⟩
      | 3, hq => cases hq; exact ⟨fun n z => ⟨fun k h => (by cases h), g3, y3, p3, z3⟩, x3⟩
      | 4, hq => cases hq; exact ⟨fun n z => ⟨fun k h => (by cases h), g4, y4, p4, z4⟩, g4, p4, y4, z4, u4, x4⟩
      | 5, hq => cases hq; exact ⟨fun n z => ⟨fun k h => (by cases h), g5, y5, p5, z5⟩, g5, p5, y5, z5, u5, x5⟩
      | 6, hq => cases hq; exact ⟨fun n z => ⟨fun k h => (by cases h), g6, y6, p6, z6⟩, g6, p6, y6, z6, u6, x6⟩
      | k + 7, hq => simp [gtys] at hq
  have hw1 : ∀ q ∈ gstr, Cond.stringRef RX10 q.1 q.2 ∈ lw_tbl := by decide +kernel
  have hw2 : ∀ q ∈ gstr, (Cond.exactly (.string RX10 q.1) "java/lang/String").before #[Value.ref b] s = true := List.forall_mem_cons.mpr ⟨hs _ (by decide +kernel), List.forall_mem_cons.mpr ⟨hs _ (by decide +kernel), List.forall_mem_cons.mpr ⟨hs _ (by decide +kernel), List.forall_mem_cons.mpr ⟨hs _ (by decide +kernel), List.forall_mem_cons.mpr ⟨hs _ (by decide +kernel), List.forall_mem_cons.mpr ⟨hs _ (by decide +kernel), List.forall_mem_cons.mpr ⟨hs _ (by decide +kernel), List.forall_mem_cons.mpr ⟨hs _ (by decide +kernel), List.forall_mem_cons.mpr ⟨hs _ (by decide +kernel), List.forall_mem_cons.mpr ⟨hs _ (by decide +kernel), List.forall_mem_cons.mpr ⟨hs _ (by decide +kernel), fun _ h => nomatch h⟩⟩⟩⟩⟩⟩⟩⟩⟩⟩⟩
  refine ⟨_, _, ⟨hK, fun w hw => ?_, ⟨va_AO.of (hts (.arrayOver (.object RX8)) (by decide +kernel)), va_AO.of (hts (.arrayOver (.object RX3)) (by decide +kernel)), va_AO.of (hts (.arrayOver (.object RX5)) (by decide +kernel))⟩, fun q hq => ?_, ?_, ?_⟩, ?_⟩
  · have h1 := hts w (List.mem_filter.mp hw).1
    have h2 := (List.mem_filter.mp hw).2
    refine va_Nw.of ?_ h1
    cases w <;> first | rfl | (simp [gxk] at h2; done)
  · obtain ⟨sa, _, _, _, h1, -⟩ := Cond.exactly_spec (hw2 q hq)
    exact ⟨sa, vk_R.of (hts _ (hw1 q hq)) h1⟩
  · exact vx_Zqof (hts _ (by decide +kernel)) (hts _ (by decide +kernel)) (hs _ (by decide +kernel)) (fun a ha => Nat.not_le.mpr ha)
  · exact vx_Zqof (hts _ (by decide +kernel)) (hts _ (by decide +kernel)) (hs _ (by decide +kernel)) (fun a ha => Nat.not_le.mpr ha)
  · exact List.forall_mem_cons.mpr ⟨va_Nc.of (hs _ (by decide +kernel)), List.forall_mem_cons.mpr ⟨va_Nc.of (hs _ (by decide +kernel)), List.forall_mem_cons.mpr ⟨va_Nc.of (hs _ (by decide +kernel)), fun _ h => nomatch h⟩⟩⟩
theorem whole_start {p : Program} {e : Env} {s : State} {m : MethodId} {below : List Frame} {meth : Method} {c : Code} (l : Launch) (hflags : l.flags = flags0) {b L : Nat} {xs : Nat → Int32} (hL : L ≤ 2560) (C0 : lw_At p s m meth c b L xs) : W p l e room_1 s m #[Value.ref b] below meth c s.heap [] 0 0 (lw_Z below #[Value.ref b] s) (entryFrame m ([Value.ref b] : List Value).toArray 7) := by
  obtain ⟨hx, hb, hr, hml, hown, hts, hX, hbl, hlocks, hgv⟩ := C0
  obtain ⟨D, kA, hE, hnc⟩ := gE_entry hts hgv
  have hst : l.stackTraces = false := by
    unfold Launch.stackTraces
    rw [hflags]
    decide
  have Q : LawC (p, l, e, room_1, s, m, #[Value.ref b], below, meth, c, (D, kA, s.heap.size), lw_Z below #[Value.ref b] s) b L xs := ⟨⟨hx, hb, hown, fun w hw => hts w (List.mem_filter.mp hw).1, hE, Nat.le_refl _, hlocks, hst⟩, rfl, hnc, hX, hbl, Nat.not_le.mpr hbl⟩
  rw [lg_entry_eq]
  refine law_go (ss := s.heap.size) Q hL (fun Ls T I J O k n hk hn => ?_) s.heap [] _ ⟨rfl, fun a ty h => (by cases h), fun _ _ => ⟨(by show (-2147483648 : Int) ≤ 0; decide), (by show (0 : Int) ≤ 2147483647; decide)⟩, fun _ _ _ => ⟨rfl, rfl, rfl⟩⟩ va_S.rf ?_
  · intro H locs ls hW hS hLs
    exact va_forget hS.2.2 (W.widen hk hn (lw_ret hx hb hr hlocks eL_law_2203.1))
  · rw [hml]
    exact gEn.ls (as := [Value.ref b]) (maxL := 7) (gEn1 (List.forall_mem_cons.mpr ⟨cat_VR (some b), fun _ h => nomatch h⟩) rfl (Nat.le_of_ble_eq_true rfl) rfl)
set_option maxHeartbeats 4000000 in
theorem lw_walk (l : Launch) (hflags : l.flags = flags0) (b : Addr) (xs : List Int32) : MetFree l x (headSpec (Jvm.Cond.code x code maxLocals ret :: tables_1) room_1) (lw_P b xs) (fun _ _ _ _ _ => True) lw_Q := by
  refine MetFree.of_bodyS (code := code) (maxLocals := maxLocals) (ret := ret) (by decide) ?_ ?_
  · intro args s m h hn
    obtain ⟨meth, c, h1, h2, h3, h4, h5, h6, -, -⟩ := Cond.code_spec hn (atoms_spec (ws := Jvm.Cond.code x code maxLocals ret :: tables_1) h _ List.mem_cons_self)
    exact ⟨meth, c, h1, h2, h3, h4, h5, h6⟩
  · intro p e s m args below meth c s₁ B hml0 hP _
    obtain ⟨rfl, hx, hbd, hgv⟩ := hP
    obtain ⟨scr, harrAt, hlist, hof, hsmall⟩ := hx
    obtain ⟨hcb, hkn, -, -⟩ := State.arrayAt?_spec harrAt
    have hown : s.vm.findClass R_law = some m.cls := findClass_of_methodNamed B.named
    have hts0 : ∀ c ∈ (Jvm.Cond.code x code maxLocals ret :: tables_1), c.before #[Value.ref b] s = true := atoms_spec (ws := Jvm.Cond.code x code maxLocals ret :: tables_1) B.pre
    have hts : ∀ w ∈ lw_tbl, w.before #[Value.ref b] s = true := k2_hts_sels lw_privs (fun w hw => hts0 w (List.mem_cons_of_mem _ hw)) lw_privs_ok
    have hml : c.maxLocals = 7 := B.maxLocals_eq (hts0 _ List.mem_cons_self)
    have X₀ : Stand p l e room_1 s m #[Value.ref b] below meth c s₁ [] 0 0 := Stand.of_body B
    have hh0 : s₁.heap = s.heap := by rw [B.state]; rfl
    have hsz : scr.slots.size = xs.length := by rw [← Array.length_toList, hlist, List.length_map]
    have hval : ∀ j : Nat, j < xs.length → scr.slots[j]? = some (.int (xs.getD j 0)) := fun j hj => by
      rw [← Array.getElem?_toList, hlist]
      simp [hj]
    have hbl : b < s.heap.size := (Array.getElem?_eq_some_iff.mp hcb).1
    have hX : va_X b xs.length (fun j => xs.getD j 0) s s.heap := ⟨scr, hcb, hof, hkn, hsz, hval⟩
    have K : W p l e room_1 s m #[Value.ref b] below meth c s₁.heap [] 0 0 (lw_Z below #[Value.ref b] s) (entryFrame m ([Value.ref b] : List Value).toArray 7) := by
      rw [hh0]
      exact whole_start l hflags hbd ⟨B.exec, B.bytes, B.returns, hml, hown, hts, hX, hbl, B.notSynchronized, hgv⟩
    obtain ⟨t, a1, o, b1, b2, b3⟩ := K s₁ rfl X₀
    exact ⟨t, o, a1, b1, b2, b3⟩
theorem lw_pre_spec {args : Array Value} {s : State} (h : (Jvm.Cond.and given_1 narrow_1).before args s = true) (hr : rest_1_c.before args s = true) : ∃ (b : Addr) (xs : List Int32), lw_P b xs args s := by
  have hs := flat_of_before _ h
  have hq := flat_of_before _ hr
  have hc : (Cond.count 1).before args s = true := hs _ (by decide +kernel)
  have harr : (Cond.arrayOf (.arg 0) .int).before args s = true := hs _ (by decide +kernel)
  have hle : (Cond.le (.length (.arg 0)) (.int 2560)).before args s = true := hs _ (by decide +kernel)
  have hlen : (Cond.isInt (.length (.arg 0))).before args s = true := hq _ (by decide +kernel)
  have hall : (Cond.all (.arg 0) (.isInt (.elem (.arg 0) (.index 0)))).before args s = true := hq _ (by decide +kernel)
  obtain ⟨b, xs, hb, hx⟩ := State.ints_of_pre rfl harr hlen hall
  have hsm : xs.length < 2 ^ 31 := hx.choose_spec.2.2.2
  have hev : (Term.length (.arg 0)).eval args s none [] s = some (.int xs.length.toInt32) := hx.length_eval hb
  have hv := Cond.le_ints hev (show (Term.int 2560).eval args s none [] s = some (.int 2560) from rfl)
  have hd : xs.length.toInt32 ≤ 2560 := by
    simpa [Cond.before, Cond.holds, hv] using hle
  have hN : xs.length ≤ 2560 := (Int32.ofNat_le_ofNat hsm (by decide)).mp (show Int32.ofNat xs.length ≤ Int32.ofNat 2560 from hd)
  exact ⟨b, xs, Cond.one_arg hc (show args[0]? = some (.ref b) from hb), hx, hN, h⟩
theorem lw_comes (l : Launch) (hflags : l.flags = flags0) : Comes l x (Jvm.Cond.code x code maxLocals ret :: tables_1) room_1 (fun tb e args s => Calls_1 tb e args s ∧ rest_1 tb e args s ∧ Pre_1 tb e args s)
    (fun _ _ args s o t => lw_Q args s o t) := by
  intro p e ha hc hk s m args below hf hfit hheap happ hpre
  obtain ⟨b, xs, hP⟩ := lw_pre_spec hpre.2.2 hpre.2.1
  obtain ⟨k, o, h1, h2, h3, hQ⟩ := lw_walk l hflags b xs p e ha hc hk s m args below hf ((Spec.applies_iff_loose hf).mp happ).1 hP trivial
  exact ⟨k, o, h1, h2, h3, hQ⟩
theorem lw_frame {s t : State} {o : Outcome} {args : Array Value} (h : Framed s o t [] 601024 7293034) :
    Framed s o t (fieldLocs frame_1_writes args s ++ arrayLocs frame_1_arrays args s ++ staticLocs frame_1_statics s) 601024 7293034 := h
theorem lw_limb (L : Cond) (hL : ∀ (args : Array Value) (s t : State), L.after args s (.returned (some (.int 1))) t = true) :
    ArmFor flags0 classFile x code maxLocals ret World_1 tables_1 room_1 Calls_1 rest_1 Pre_1
      (fun tb e a s o t => postC L tb e a s o t ∧ Framed s o t (fieldLocs frame_1_writes a s ++ arrayLocs frame_1_arrays a s ++ staticLocs frame_1_statics s) 601024 7293034) := by
  intro l hflags _ _ p e ha hc hk s m args below hf hfit hheap happ hpre
  obtain ⟨k, o, h1, h2, h3, rfl, hF⟩ := lw_comes l hflags p e ha hc hk s m args below hf hfit hheap happ hpre
  exact ⟨k, _, h1, h2, h3, hL args s _, lw_frame hF⟩
theorem i_vc : Claimed_1_1 ∧ Claimed_1_2 := ⟨lw_limb limb_1_1 (fun args s t => by simp [limb_1_1, Cond.after, Cond.holds, Cond.value]), lw_limb limb_1_2 (fun args s t => Cond.after_iff.mpr (by
  first | (rw [show limb_1_2 = Cond.eq .result (.int 1) from rfl, Cond.eq_ints (x := 1) (y := 1) rfl rfl]; simp; done) | (simp [limb_1_2, Cond.value, Term.eval]; done)))⟩
