/-! the class: what it uses of the JDK, texts, stamps -/
theorem Met.ofWF {l : Launch} {y : MethodName} {ws ws' : List Cond} {rm : Room} {Pc : Array Value → State → Prop} {Qc : Array Value → State → Outcome → State → Prop} {mc ms : Nat} {free : Addr → Prop} {cc : ByteArray} {maxL : Nat} {ret : Option FieldType} (hy : plainFor y = true) (hw : ws = Cond.code y cc maxL ret :: ws')
    (body : ∀ p e s m args below meth c s₁, BodyLoose p l y (headSpec ws rm) cc maxL ret e s m args below meth c s₁ → c.maxLocals = maxL → Pc args s → W p l e (headSpec ws rm).room s m args below meth c s.heap [] 0 0 (MQ below Qc args s mc ms free) (entryFrame m args maxL)) : Met l y ws rm Pc Qc mc ms free := by
  refine MetFree.of_bodySF (code := cc) (maxLocals := maxL) (ret := ret) hy (fun args s m h hn => ?_) (fun p e s m args below meth c s₁ B hml hP _ => ?_)
  · obtain ⟨meth, c, h1, h2, h3, h4, h5, h6, -, -⟩ := Cond.code_spec hn (atoms_spec (ws := ws) h _ (by rw [hw]; exact List.mem_cons_self))
    exact ⟨meth, c, h1, h2, h3, h4, h5, h6⟩
  · obtain ⟨t, a1, o, b1, b2, b3⟩ := body p e s m args below meth c s₁ B hml hP s₁ (by rw [B.state]; rfl) (Stand.of_body B)
    exact ⟨t, o, a1, b1, b2, ⟨b3.1, b3.2⟩⟩
theorem Ct.ofF {y : MethodName} {cc : ByteArray} {maxL : Nat} {ret : Option FieldType} {as : List Value} {fr lo mc ms : Nat} {T : gT} {I : gI} {J : gJ} {O : gO} {P : gP} (hy : plainFor y = true) (Ls : List (Option Value)) (hE : gEn as maxL Ls)
    (body : ∀ X : gX, Ok X cc y.cls → gEnd X P mc ms ret → gRm X fr lo mc ms → (y.name = "<init>" → Ini X) → (∀ a k, in32 (I a k)) → (∀ a k, T.1 ≤ a → I a k = 0 ∧ J a k = 0 ∧ O a k = none) → G X 0 Ls [] T I J O 0 0) : Ct y cc maxL ret as fr lo mc ms T I J O P := by
  intro l E hst
  refine Met.ofWF (cc := cc) (maxL := maxL) (ret := ret) hy rfl ?_
  intro p e s m args below meth c s₁ B hml hv
  obtain ⟨rfl, hW, hgE, hn0⟩ := hv
  have hts := atoms_spec (ws := gws y cc maxL ret) B.pre
  rw [lg_entry_eq]
  refine body (p, l, e, _, s, m, as.toArray, below, meth, c, E, _) ⟨B.exec, B.bytes, findClass_of_methodNamed B.named, fun w hw => hts w (List.mem_cons_of_mem _ hw), hgE, hn0, B.notSynchronized, hst⟩ ⟨fun H locs k n g h => h, B.returns⟩ rfl (fun hi => (name_of_methodNamed B.named B.method).1.trans hi) hW.2.2.1 hW.2.2.2 s.heap [] _ hW va_S.rf ?_
  rw [hml]
  exact hE.ls
section JR
variable {X : gX} {cc : ByteArray} {own : String} {pc q : Nat} {Ls : List (Option Value)} {st : List Value} {T : gT} {I : gI} {J : gJ} {O : gO} {k n : Nat}
theorem ofI_toI {z : Int} (h : in32 z) : (Int32.ofInt z).toInt = z := Int32.toInt_ofInt_of_le (by have := h.1; omega) (by have := h.2; omega)
theorem bv_nn {x : BitVec 32} : 0 ≤ x.toInt ↔ x.msb = false := by
  rw [BitVec.msb_eq_toInt]
  simp
theorem xor_nn {a b : Int} (ha : in32 a) (hb : in32 b) (a0 : 0 ≤ a) (b0 : 0 ≤ b) : 0 ≤ (Int32.ofInt a ^^^ Int32.ofInt b).toInt := by
  have e1 : 0 ≤ (Int32.ofInt a).toInt := by rw [ofI_toI ha]; exact a0
  have e2 : 0 ≤ (Int32.ofInt b).toInt := by rw [ofI_toI hb]; exact b0
  generalize Int32.ofInt a = x at e1 ⊢
  generalize Int32.ofInt b = y at e2 ⊢
  have e1 := bv_nn.mp e1
  have e2 := bv_nn.mp e2
  refine bv_nn.mpr ?_
  show (x.toBitVec ^^^ y.toBitVec).msb = false
  rw [BitVec.msb_xor, e1, e2]
  rfl
theorem G_ixor {a b : Int} (x : Ok X cc own) (d : Dc cc pc .ixor 1 q) (ha : in32 a) (hb : in32 b) (a0 : 0 ≤ a) (b0 : 0 ≤ b) (h : ∀ z, 0 ≤ z → in32 z → G X q Ls (VI z :: st) T I J O k n) : G X pc Ls (VI b :: VI a :: st) T I J O k n := by
  have hz := xor_nn ha hb a0 b0
  have hi : in32 (Int32.ofInt a ^^^ Int32.ofInt b).toInt := ⟨Int32.le_toInt _, Int32.toInt_le _⟩
  have h := h _ hz hi
  obtain ⟨p, l, e, R, s, m, args, below, meth, c, E, Q⟩ := X
  intro H locs ls hW hS hL
  obtain ⟨d, rfl⟩ := d
  have h := h H locs ls hW hS hL
  rw [show VI (Int32.ofInt a ^^^ Int32.ofInt b).toInt = .int (Int32.ofInt a ^^^ Int32.ofInt b) from congrArg Value.int (Int32.ofInt_toInt _)] at h
  exact lv_ixor x.1 x.2.1 d h
end JR
set_option maxRecDepth 20000 in
theorem ct_J9_max_7cf53 {T : gT} {I : gI} {J : gJ} {O : gO} {a b : Int} (h0 : in32 a) (h1 : in32 b) : Ct yJ9_max_7cf53 cJ9_max_7cf53 2 (some .int) [VI a, VI b] 0 0 0 0 T I J O (pv (some (VI (max a b))) T I J O) := by
  refine Ct.ofF (by decide +kernel) [some (VI a), some (VI b)] (gEn1 (List.forall_mem_cons.mpr ⟨cat_VI _, List.forall_mem_cons.mpr ⟨cat_VI _, fun _ h => nomatch h⟩⟩) rfl (Nat.le_of_ble_eq_true rfl) rfl) ?_
  intro X x en rm ini hr hz
  have hr0 := hr
  refine G_rg (fun hr => ?_)
  refine G_iload0 x eJ9_max_7cf53_0 ?_
  refine G_iload1 x eJ9_max_7cf53_1 ?_
  refine G_icmp_lt x eJ9_max_7cf53_2 (by first | omega | exact hr _ _ | exact hr0 _ _ | exact hrS _) (by first | omega | exact hr _ _ | exact hr0 _ _ | exact hrS _) (fun c2 => ?_) (fun c2 => ?_)
  · refine G_iload1 x eJ9_max_7cf53_9 ?_
    refine G_ireturn x en eJ9_max_7cf53_10 (by omega) (by omega) ?_
    exact ⟨by congr 2; omega, rfl, rfl, rfl, rfl⟩
  · refine G_iload0 x eJ9_max_7cf53_5 ?_
    refine G_goto x eJ9_max_7cf53_6 ?_
    refine G_ireturn x en eJ9_max_7cf53_10 (by omega) (by omega) ?_
    exact ⟨by congr 2; omega, rfl, rfl, rfl, rfl⟩
set_option maxRecDepth 20000 in
theorem ct_J9_min_7cf53 {T : gT} {I : gI} {J : gJ} {O : gO} {a b : Int} (h0 : in32 a) (h1 : in32 b) : Ct yJ9_min_7cf53 cJ9_min_7cf53 2 (some .int) [VI a, VI b] 0 0 0 0 T I J O (pv (some (VI (min a b))) T I J O) := by
  refine Ct.ofF (by decide +kernel) [some (VI a), some (VI b)] (gEn1 (List.forall_mem_cons.mpr ⟨cat_VI _, List.forall_mem_cons.mpr ⟨cat_VI _, fun _ h => nomatch h⟩⟩) rfl (Nat.le_of_ble_eq_true rfl) rfl) ?_
  intro X x en rm ini hr hz
  have hr0 := hr
  refine G_rg (fun hr => ?_)
  refine G_iload0 x eJ9_min_7cf53_0 ?_
  refine G_iload1 x eJ9_min_7cf53_1 ?_
  refine G_icmp_gt x eJ9_min_7cf53_2 (by first | omega | exact hr _ _ | exact hr0 _ _ | exact hrS _) (by first | omega | exact hr _ _ | exact hr0 _ _ | exact hrS _) (fun c2 => ?_) (fun c2 => ?_)
  · refine G_iload1 x eJ9_min_7cf53_9 ?_
    refine G_ireturn x en eJ9_min_7cf53_10 (by omega) (by omega) ?_
    exact ⟨by congr 2; omega, rfl, rfl, rfl, rfl⟩
  · refine G_iload0 x eJ9_min_7cf53_5 ?_
    refine G_goto x eJ9_min_7cf53_6 ?_
    refine G_ireturn x en eJ9_min_7cf53_10 (by omega) (by omega) ?_
    exact ⟨by congr 2; omega, rfl, rfl, rfl, rfl⟩
set_option maxRecDepth 20000 in
theorem ct_J9_floorDiv_7cf53 {T : gT} {I : gI} {J : gJ} {O : gO} {a b : Int} (h0 : in32 a) (h1 : in32 b) (a0 : 0 ≤ a) (b0 : 0 < b) : Ct yJ9_floorDiv_7cf53 cJ9_floorDiv_7cf53 3 (some .int) [VI a, VI b] 0 0 0 0 T I J O (pv (some (VI (a / b))) T I J O) := by
  refine Ct.ofF (by decide +kernel) [some (VI a), some (VI b), none] (gEn1 (List.forall_mem_cons.mpr ⟨cat_VI _, List.forall_mem_cons.mpr ⟨cat_VI _, fun _ h => nomatch h⟩⟩) rfl (Nat.le_of_ble_eq_true rfl) rfl) ?_
  intro X x en rm ini hr hz
  have hr0 := hr
  refine G_rg (fun hr => ?_)
  refine G_iload0 x eJ9_floorDiv_7cf53_0 ?_
  refine G_iload1 x eJ9_floorDiv_7cf53_1 ?_
  refine G_idivn x eJ9_floorDiv_7cf53_2 (by omega) (by omega) (by omega) (by omega) ?_
  refine G_istore2 x eJ9_floorDiv_7cf53_3 ?_
  refine G_iload0 x eJ9_floorDiv_7cf53_4 ?_
  refine G_iload1 x eJ9_floorDiv_7cf53_5 ?_
  refine G_ixor x eJ9_floorDiv_7cf53_6 h0 h1 a0 (by omega) (fun z z0 z1 => ?_)
  refine G_if_ge x eJ9_floorDiv_7cf53_7 (by first | omega | exact hr _ _ | exact hr0 _ _ | exact hrS _) (fun c7 => ?_) (fun c7 => ?_)
  · refine G_iload2 x eJ9_floorDiv_7cf53_21 ?_
    refine G_ireturn x en eJ9_floorDiv_7cf53_22 (by omega) (by omega) ?_
    first | exact pv_i | (refine ⟨?_, rfl, rfl, rfl, rfl⟩; split <;> first | rfl | omega)
  · omega
set_option maxRecDepth 20000 in
theorem ct_J9_floorMod_7cf53 {T : gT} {I : gI} {J : gJ} {O : gO} {a b : Int} (h0 : in32 a) (h1 : in32 b) (a0 : 0 ≤ a) (b0 : 0 < b) : Ct yJ9_floorMod_7cf53 cJ9_floorMod_7cf53 3 (some .int) [VI a, VI b] 0 0 0 0 T I J O (pv (some (VI (a % b))) T I J O) := by
  refine Ct.ofF (by decide +kernel) [some (VI a), some (VI b), none] (gEn1 (List.forall_mem_cons.mpr ⟨cat_VI _, List.forall_mem_cons.mpr ⟨cat_VI _, fun _ h => nomatch h⟩⟩) rfl (Nat.le_of_ble_eq_true rfl) rfl) ?_
  intro X x en rm ini hr hz
  have hr0 := hr
  refine G_rg (fun hr => ?_)
  refine G_iload0 x eJ9_floorMod_7cf53_0 ?_
  refine G_iload1 x eJ9_floorMod_7cf53_1 ?_
  refine G_iremn x eJ9_floorMod_7cf53_2 (by omega) (by omega) (by omega) (by omega) ?_
  refine G_istore2 x eJ9_floorMod_7cf53_3 ?_
  refine G_iload0 x eJ9_floorMod_7cf53_4 ?_
  refine G_iload1 x eJ9_floorMod_7cf53_5 ?_
  refine G_ixor x eJ9_floorMod_7cf53_6 h0 h1 a0 (by omega) (fun z z0 z1 => ?_)
  refine G_if_ge x eJ9_floorMod_7cf53_7 (by first | omega | exact hr _ _ | exact hr0 _ _ | exact hrS _) (fun c7 => ?_) (fun c7 => ?_)
  · refine G_iload2 x eJ9_floorMod_7cf53_18 ?_
    refine G_ireturn x en eJ9_floorMod_7cf53_19 (by omega) (by omega) ?_
    first | exact pv_i | (refine ⟨?_, rfl, rfl, rfl, rfl⟩; split <;> first | rfl | omega)
  · omega
set_option maxRecDepth 20000 in
theorem ct_X10_isCell {T : gT} {I : gI} {J : gJ} {O : gO} {c : Int} (h0 : in32 c) : Ct yX10_isCell cX10_isCell 1 (some .boolean) [VI c] 0 0 0 0 T I J O (pv (some (VI (if 0 ≤ c ∧ c < 144 then 1 else 0))) T I J O) := by
  refine Ct.of (by decide) [some (VI c)] (gEn1 (List.forall_mem_cons.mpr ⟨cat_VI _, fun _ h => nomatch h⟩) rfl (Nat.le_of_ble_eq_true rfl) rfl) ?_
  intro X x en rm ini hr hz
  have hr0 := hr
  refine G_rg (fun hr => ?_)
  refine G_iload0 x eX10_isCell_0 ?_
  refine G_if_lt x eX10_isCell_1 (by first | omega | exact hr _ _ | exact hr0 _ _ | exact hrS _) (fun c1 => ?_) (fun c1 => ?_)
  · refine G_push x eX10_isCell_15 ?_
    refine G_zreturn x en eX10_isCell_16 (by omega) (by omega) ?_ ?_
    · first | exact Or.inl rfl | exact Or.inr rfl | omega
    · first | exact pv_i | (refine ⟨?_, rfl, rfl, rfl, rfl⟩; split <;> first | rfl | omega)
  · refine G_iload0 x eX10_isCell_4 ?_
    refine G_push x eX10_isCell_5 ?_
    refine G_icmp_ge x eX10_isCell_8 (by first | omega | exact hr _ _ | exact hr0 _ _ | exact hrS _) (by first | omega | exact hr _ _ | exact hr0 _ _ | exact hrS _) (fun c8 => ?_) (fun c8 => ?_)
    · refine G_push x eX10_isCell_15 ?_
      refine G_zreturn x en eX10_isCell_16 (by omega) (by omega) ?_ ?_
      · first | exact Or.inl rfl | exact Or.inr rfl | omega
      · first | exact pv_i | (refine ⟨?_, rfl, rfl, rfl, rfl⟩; split <;> first | rfl | omega)
    · refine G_push x eX10_isCell_11 ?_
      refine G_goto x eX10_isCell_12 ?_
      refine G_zreturn x en eX10_isCell_16 (by omega) (by omega) ?_ ?_
      · first | exact Or.inl rfl | exact Or.inr rfl | omega
      · first | exact pv_i | (refine ⟨?_, rfl, rfl, rfl, rfl⟩; split <;> first | rfl | omega)
set_option maxRecDepth 20000 in
theorem ct_X1_isSet {T : gT} {I : gI} {J : gJ} {O : gO} {c : Int} (h0 : in32 c) : Ct yX1_isSet cX1_isSet 1 (some .boolean) [VI c] 0 0 0 0 T I J O (pv (some (VI (if 0 ≤ c ∧ c ≤ 144 then 1 else 0))) T I J O) := by
  refine Ct.of (by decide) [some (VI c)] (gEn1 (List.forall_mem_cons.mpr ⟨cat_VI _, fun _ h => nomatch h⟩) rfl (Nat.le_of_ble_eq_true rfl) rfl) ?_
  intro X x en rm ini hr hz
  have hr0 := hr
  refine G_rg (fun hr => ?_)
  refine G_iload0 x eX1_isSet_0 ?_
  refine G_if_lt x eX1_isSet_1 (by first | omega | exact hr _ _ | exact hr0 _ _ | exact hrS _) (fun c1 => ?_) (fun c1 => ?_)
  · refine G_push x eX1_isSet_15 ?_
    refine G_zreturn x en eX1_isSet_16 (by omega) (by omega) ?_ ?_
    · first | exact Or.inl rfl | exact Or.inr rfl | omega
    · first | exact pv_i | (refine ⟨?_, rfl, rfl, rfl, rfl⟩; split <;> first | rfl | omega)
  · refine G_iload0 x eX1_isSet_4 ?_
    refine G_push x eX1_isSet_5 ?_
    refine G_icmp_gt x eX1_isSet_8 (by first | omega | exact hr _ _ | exact hr0 _ _ | exact hrS _) (by first | omega | exact hr _ _ | exact hr0 _ _ | exact hrS _) (fun c8 => ?_) (fun c8 => ?_)
    · refine G_push x eX1_isSet_15 ?_
      refine G_zreturn x en eX1_isSet_16 (by omega) (by omega) ?_ ?_
      · first | exact Or.inl rfl | exact Or.inr rfl | omega
      · first | exact pv_i | (refine ⟨?_, rfl, rfl, rfl, rfl⟩; split <;> first | rfl | omega)
    · refine G_push x eX1_isSet_11 ?_
      refine G_goto x eX1_isSet_12 ?_
      refine G_zreturn x en eX1_isSet_16 (by omega) (by omega) ?_ ?_
      · first | exact Or.inl rfl | exact Or.inr rfl | omega
      · first | exact pv_i | (refine ⟨?_, rfl, rfl, rfl, rfl⟩; split <;> first | rfl | omega)
set_option maxRecDepth 20000 in
theorem ct_X6_isDigit {T : gT} {I : gI} {J : gJ} {O : gO} {c : Int} (h0 : in32 c) : Ct yX6_isDigit cX6_isDigit 1 (some .boolean) [VI c] 0 0 0 0 T I J O (pv (some (VI (if 48 ≤ c ∧ c ≤ 57 then 1 else 0))) T I J O) := by
  refine Ct.of (by decide) [some (VI c)] (gEn1 (List.forall_mem_cons.mpr ⟨cat_VI _, fun _ h => nomatch h⟩) rfl (Nat.le_of_ble_eq_true rfl) rfl) ?_
  intro X x en rm ini hr hz
  have hr0 := hr
  refine G_rg (fun hr => ?_)
  refine G_iload0 x eX6_isDigit_0 ?_
  refine G_push x eX6_isDigit_1 ?_
  refine G_icmp_lt x eX6_isDigit_3 (by first | omega | exact hr _ _ | exact hr0 _ _ | exact hrS _) (by first | omega | exact hr _ _ | exact hr0 _ _ | exact hrS _) (fun c3 => ?_) (fun c3 => ?_)
  · refine G_push x eX6_isDigit_16 ?_
    refine G_zreturn x en eX6_isDigit_17 (by omega) (by omega) ?_ ?_
    · first | exact Or.inl rfl | exact Or.inr rfl | omega
    · first | exact pv_i | (refine ⟨?_, rfl, rfl, rfl, rfl⟩; split <;> first | rfl | omega)
  · refine G_iload0 x eX6_isDigit_6 ?_
    refine G_push x eX6_isDigit_7 ?_
    refine G_icmp_gt x eX6_isDigit_9 (by first | omega | exact hr _ _ | exact hr0 _ _ | exact hrS _) (by first | omega | exact hr _ _ | exact hr0 _ _ | exact hrS _) (fun c9 => ?_) (fun c9 => ?_)
    · refine G_push x eX6_isDigit_16 ?_
      refine G_zreturn x en eX6_isDigit_17 (by omega) (by omega) ?_ ?_
      · first | exact Or.inl rfl | exact Or.inr rfl | omega
      · first | exact pv_i | (refine ⟨?_, rfl, rfl, rfl, rfl⟩; split <;> first | rfl | omega)
    · refine G_push x eX6_isDigit_12 ?_
      refine G_goto x eX6_isDigit_13 ?_
      refine G_zreturn x en eX6_isDigit_17 (by omega) (by omega) ?_ ?_
      · first | exact Or.inl rfl | exact Or.inr rfl | omega
      · first | exact pv_i | (refine ⟨?_, rfl, rfl, rfl, rfl⟩; split <;> first | rfl | omega)
set_option maxRecDepth 20000 in
theorem ct_X5_isLaterThan {T : gT} {I : gI} {J : gJ} {O : gO} {a : Nat} {c w : Int} (hM : T.2 a = some (.inl 5)) (h0 : in32 c) (h1 : in32 w) : Ct yX5_isLaterThan cX5_isLaterThan 3 (some .boolean) [va_rf (some a), VI c, VI w] 0 0 0 0 T I J O (pv (some (VI (if later (I a 1) (I a 2) c w then 1 else 0))) T I J O) := by
  refine Ct.of (by decide) [some (va_rf (some a)), some (VI c), some (VI w)] (gEn1 (List.forall_mem_cons.mpr ⟨cat_VR _, List.forall_mem_cons.mpr ⟨cat_VI _, List.forall_mem_cons.mpr ⟨cat_VI _, fun _ h => nomatch h⟩⟩⟩) rfl (Nat.le_of_ble_eq_true rfl) rfl) ?_
  intro X x en rm ini hr hz
  have hr0 := hr
  refine G_rg (fun hr => ?_)
  refine G_aload0 x eX5_isLaterThan_0 ?_
  refine G_geti x eX5_isLaterThan_1 fX5_13 rfl rfl (by assumption) (fun h1 => ?_)
  refine G_iload1 x eX5_isLaterThan_4 ?_
  refine G_icmp_gt x eX5_isLaterThan_5 (by first | omega | exact hr _ _ | exact hr0 _ _ | exact hrS _) (by first | omega | exact hr _ _ | exact hr0 _ _ | exact hrS _) (fun c5 => ?_) (fun c5 => ?_)
  · refine G_push x eX5_isLaterThan_24 ?_
    refine G_goto x eX5_isLaterThan_25 ?_
    refine G_zreturn x en eX5_isLaterThan_29 (by omega) (by omega) ?_ ?_
    · first | exact Or.inl rfl | exact Or.inr rfl | omega
    · first | exact pv_i | (refine ⟨?_, rfl, rfl, rfl, rfl⟩; split <;> first | rfl | omega)
  · refine G_aload0 x eX5_isLaterThan_8 ?_
    refine G_geti x eX5_isLaterThan_9 fX5_13 rfl rfl (by assumption) (fun h9 => ?_)
    refine G_iload1 x eX5_isLaterThan_12 ?_
    refine G_icmp_ne x eX5_isLaterThan_13 (by first | omega | exact hr _ _ | exact hr0 _ _ | exact hrS _) (by first | omega | exact hr _ _ | exact hr0 _ _ | exact hrS _) (fun c13 => ?_) (fun c13 => ?_)
    · refine G_push x eX5_isLaterThan_28 ?_
      refine G_zreturn x en eX5_isLaterThan_29 (by omega) (by omega) ?_ ?_
      · first | exact Or.inl rfl | exact Or.inr rfl | omega
      · first | exact pv_i | (refine ⟨?_, rfl, rfl, rfl, rfl⟩; split <;> first | rfl | omega)
    · refine G_aload0 x eX5_isLaterThan_16 ?_
      refine G_geti x eX5_isLaterThan_17 fX5_16 rfl rfl (by assumption) (fun h17 => ?_)
      refine G_iload2 x eX5_isLaterThan_20 ?_
      refine G_icmp_le x eX5_isLaterThan_21 (by first | omega | exact hr _ _ | exact hr0 _ _ | exact hrS _) (by first | omega | exact hr _ _ | exact hr0 _ _ | exact hrS _) (fun c21 => ?_) (fun c21 => ?_)
      · refine G_push x eX5_isLaterThan_28 ?_
        refine G_zreturn x en eX5_isLaterThan_29 (by omega) (by omega) ?_ ?_
        · first | exact Or.inl rfl | exact Or.inr rfl | omega
        · first | exact pv_i | (refine ⟨?_, rfl, rfl, rfl, rfl⟩; split <;> first | rfl | omega)
      · refine G_push x eX5_isLaterThan_24 ?_
        refine G_goto x eX5_isLaterThan_25 ?_
        refine G_zreturn x en eX5_isLaterThan_29 (by omega) (by omega) ?_ ?_
        · first | exact Or.inl rfl | exact Or.inr rfl | omega
        · first | exact pv_i | (refine ⟨?_, rfl, rfl, rfl, rfl⟩; split <;> first | rfl | omega)
/-! texts -/
set_option maxRecDepth 20000 in
theorem ct_X9_length {T : gT} {I : gI} {J : gJ} {O : gO} {tx : Nat} (hM : TxAt T O tx) : Ct yX9_length cX9_length 1 (some .int) [va_rf (some tx)] 0 0 0 0 T I J O (pv (some (VI (I tx 1))) T I J O) := by
  refine Ct.of (by decide) [some (va_rf (some tx))] (gEn1 (List.forall_mem_cons.mpr ⟨cat_VR _, fun _ h => nomatch h⟩) rfl (Nat.le_of_ble_eq_true rfl) rfl) ?_
  intro X x en rm ini hr hz
  have hr0 := hr
  refine G_rg (fun hr => ?_)
  refine G_aload0 x eX9_length_0 ?_
  refine G_geti x eX9_length_1 fX9_15 rfl rfl hM.m (fun h1 => ?_)
  refine G_ireturn x en eX9_length_4 (by omega) (by omega) ?_
  first | exact pv_i | (refine ⟨?_, rfl, rfl, rfl, rfl⟩; split <;> first | rfl | omega)
set_option maxRecDepth 20000 in
theorem ct_X9_isFull {T : gT} {I : gI} {J : gJ} {O : gO} {tx : Nat} (hM : TxAt T O tx) : Ct yX9_isFull cX9_isFull 1 (some .boolean) [va_rf (some tx)] 0 0 0 0 T I J O (pv (some (VI (if 24 ≤ I tx 1 then 1 else 0))) T I J O) := by
  refine Ct.of (by decide) [some (va_rf (some tx))] (gEn1 (List.forall_mem_cons.mpr ⟨cat_VR _, fun _ h => nomatch h⟩) rfl (Nat.le_of_ble_eq_true rfl) rfl) ?_
  intro X x en rm ini hr hz
  have hr0 := hr
  refine G_rg (fun hr => ?_)
  refine G_aload0 x eX9_isFull_0 ?_
  refine G_geti x eX9_isFull_1 fX9_15 rfl rfl hM.m (fun h1 => ?_)
  refine G_push x eX9_isFull_4 ?_
  refine G_icmp_lt x eX9_isFull_6 (by first | omega | exact hr _ _ | exact hr0 _ _ | exact hrS _) (by first | omega | exact hr _ _ | exact hr0 _ _ | exact hrS _) (fun c6 => ?_) (fun c6 => ?_)
  · refine G_push x eX9_isFull_13 ?_
    refine G_zreturn x en eX9_isFull_14 (by omega) (by omega) ?_ ?_
    · first | exact Or.inl rfl | exact Or.inr rfl | omega
    · first | exact pv_i | (refine ⟨?_, rfl, rfl, rfl, rfl⟩; split <;> first | rfl | omega)
  · refine G_push x eX9_isFull_9 ?_
    refine G_goto x eX9_isFull_10 ?_
    refine G_zreturn x en eX9_isFull_14 (by omega) (by omega) ?_ ?_
    · first | exact Or.inl rfl | exact Or.inr rfl | omega
    · first | exact pv_i | (refine ⟨?_, rfl, rfl, rfl, rfl⟩; split <;> first | rfl | omega)
set_option maxRecDepth 20000 in
theorem ct_X9_at {T : gT} {I : gI} {J : gJ} {O : gO} {tx : Nat} {i : Int} (hM : TxAt T O tx) (h0 : in32 i) (h1 : I tx 1 ≤ 24) : Ct yX9_at cX9_at 2 (some .int) [va_rf (some tx), VI i] 0 0 0 0 T I J O (pv (some (VI (ch (I (tx + 1)) (I tx 1) i))) T I J O) := by
  refine Ct.of (by decide) [some (va_rf (some tx)), some (VI i)] (gEn1 (List.forall_mem_cons.mpr ⟨cat_VR _, List.forall_mem_cons.mpr ⟨cat_VI _, fun _ h => nomatch h⟩⟩) rfl (Nat.le_of_ble_eq_true rfl) rfl) ?_
  intro X x en rm ini hr hz
  have hr0 := hr
  refine G_rg (fun hr => ?_)
  refine G_iload1 x eX9_at_0 ?_
  refine G_if_lt x eX9_at_1 (by first | omega | exact hr _ _ | exact hr0 _ _ | exact hrS _) (fun c1 => ?_) (fun c1 => ?_)
  · refine G_push x eX9_at_12 ?_
    refine G_goto x eX9_at_13 ?_
    refine G_ireturn x en eX9_at_22 (by omega) (by omega) ?_
    exact ⟨by unfold ch; split <;> first | rfl | (exfalso; omega), rfl, rfl, rfl, rfl⟩
  · refine G_iload1 x eX9_at_4 ?_
    refine G_aload0 x eX9_at_5 ?_
    refine G_geti x eX9_at_6 fX9_15 rfl rfl hM.m (fun h6 => ?_)
    refine G_icmp_lt x eX9_at_9 (by first | omega | exact hr _ _ | exact hr0 _ _ | exact hrS _) (by first | omega | exact hr _ _ | exact hr0 _ _ | exact hrS _) (fun c9 => ?_) (fun c9 => ?_)
    · refine G_aload0 x eX9_at_16 ?_
      refine G_getq x eX9_at_17 fX9_9 rfl rfl hM.m hM.o_characters ?_
      refine G_iload1 x eX9_at_20 ?_
      refine G_cald x eX9_at_21 rfl hM.t_characters (by omega) (by omega) (by omega) (fun h21 => ?_)
      refine G_ireturn x en eX9_at_22 (by omega) (by omega) ?_
      exact ⟨by unfold ch; split <;> first | rfl | (exfalso; omega), rfl, rfl, rfl, rfl⟩
    · refine G_push x eX9_at_12 ?_
      refine G_goto x eX9_at_13 ?_
      refine G_ireturn x en eX9_at_22 (by omega) (by omega) ?_
      exact ⟨by unfold ch; split <;> first | rfl | (exfalso; omega), rfl, rfl, rfl, rfl⟩
set_option maxRecDepth 20000 in
theorem ct_X9_empty {T : gT} {I : gI} {J : gJ} {O : gO} {tx : Nat} (hM : TxAt T O tx) : Ct yX9_empty cX9_empty 1 none [va_rf (some tx)] 0 0 0 0 T I J O (pv none T (uI I tx 1 0) J O) := by
  refine Ct.of (by decide) [some (va_rf (some tx))] (gEn1 (List.forall_mem_cons.mpr ⟨cat_VR _, fun _ h => nomatch h⟩) rfl (Nat.le_of_ble_eq_true rfl) rfl) ?_
  intro X x en rm ini hr hz
  have hr0 := hr
  refine G_rg (fun hr => ?_)
  refine G_aload0 x eX9_empty_0 ?_
  refine G_push x eX9_empty_1 ?_
  refine G_puti x eX9_empty_2 fX9_15 rfl (Or.inl rfl) rfl hM.m (by first | omega | exact hr _ _ | exact hr0 _ _ | exact hrS _) ?_
  refine G_rg (fun hr => ?_)
  refine G_return x en eX9_empty_5 (by omega) (by omega) ?_
  first | exact pv_i | (refine ⟨?_, rfl, rfl, rfl, rfl⟩; split <;> first | rfl | omega)
def ap1 (I : gI) (tx : Nat) (c : Int) : gI := uI (uI I (tx + 1) (I tx 1) c) tx 1 (I tx 1 + 1)
def apC (I : gI) (tx : Nat) : List Int → gI
  | [] => I
  | v :: l => apC (ap1 I tx v) tx l
theorem apC_app {I : gI} {tx : Nat} {a b : List Int} : apC I tx (a ++ b) = apC (apC I tx a) tx b := by
  induction a generalizing I with
  | nil => rfl
  | cons v l ih => exact ih
theorem ap1_o {I : gI} {tx b : Nat} {c j : Int} (h : b ≠ tx + 1) (h2 : b ≠ tx ∨ j ≠ 1) : ap1 I tx c b j = I b j := by
  unfold ap1
  rw [uI_o h2, uI_a h]
theorem ap1_n {I : gI} {tx : Nat} {c : Int} : ap1 I tx c tx 1 = I tx 1 + 1 := uI_s
theorem ap1_c {I : gI} {tx : Nat} {c : Int} : ap1 I tx c (tx + 1) = sU (I (tx + 1)) (I tx 1) c := by
  funext j
  unfold ap1 sU
  rw [uI_a (by omega)]
  by_cases e : j = I tx 1
  · rw [if_pos e, e, uI_s]
  · rw [if_neg e, uI_k e]
theorem apC_o {I : gI} {tx b : Nat} {j : Int} {l : List Int} (h : b ≠ tx + 1) (h2 : b ≠ tx ∨ j ≠ 1) : apC I tx l b j = I b j := by
  induction l generalizing I with
  | nil => rfl
  | cons v l ih => show apC (ap1 I tx v) tx l b j = _; rw [ih, ap1_o h h2]
theorem apC_n {I : gI} {tx : Nat} {l : List Int} : apC I tx l tx 1 = I tx 1 + l.length := by
  induction l generalizing I with
  | nil => show I tx 1 = I tx 1 + 0; omega
  | cons v l ih => show apC (ap1 I tx v) tx l tx 1 = _; rw [ih, ap1_n, List.length_cons]; omega
theorem apC_c {I : gI} {tx : Nat} {l : List Int} : apC I tx l (tx + 1) = txA (I (tx + 1)) (I tx 1) l := by
  induction l generalizing I with
  | nil => rfl
  | cons v l ih => show apC (ap1 I tx v) tx l (tx + 1) = _; rw [ih, ap1_n, ap1_c]; rfl
set_option maxRecDepth 20000 in
theorem ct_X9_append {T : gT} {I : gI} {J : gJ} {O : gO} {tx : Nat} {c : Int} (hM : TxAt T O tx) (h0 : 0 ≤ c) (h1 : c < 65536) (h2 : 0 ≤ I tx 1) (h3 : I tx 1 < 24) : Ct yX9_append cX9_append 2 none [va_rf (some tx), VI c] 1 20 0 0 T I J O (pv none T (ap1 I tx c) J O) := by
  refine Ct.of (by decide) [some (va_rf (some tx)), some (VI c)] (gEn1 (List.forall_mem_cons.mpr ⟨cat_VR _, List.forall_mem_cons.mpr ⟨cat_VI _, fun _ h => nomatch h⟩⟩) rfl (Nat.le_of_ble_eq_true rfl) rfl) ?_
  intro X x en rm ini hr hz
  have hr0 := hr
  refine G_rg (fun hr => ?_)
  refine G_aload0 x eX9_append_0 ?_
  refine G_cV x eX9_append_1 kX9_19 im_yX9_isFull se_yX9_isFull rm hM.m (ct_X9_isFull hM) rfl ?_
  refine G_ifb_ne x eX9_append_4 (fun c4 => ?_) (fun c4 => ?_)
  · refine G_return x en eX9_append_28 (by omega) (by omega) ?_
    first | exact pv_i | (exfalso; omega)
  · refine G_aload0 x eX9_append_7 ?_
    refine G_getq x eX9_append_8 fX9_9 rfl rfl hM.m hM.o_characters ?_
    refine G_aload0 x eX9_append_11 ?_
    refine G_geti x eX9_append_12 fX9_15 rfl rfl hM.m (fun h12 => ?_)
    refine G_iload1 x eX9_append_15 ?_
    refine G_i2c x eX9_append_16 (by omega) (by omega) ?_
    refine G_cast x eX9_append_17 rfl hM.t_characters (by omega) (by omega) (by omega) (by omega) (by omega) ?_
    refine G_rg (fun hr => ?_)
    refine G_aload0 x eX9_append_18 ?_
    refine G_dup x eX9_append_19 (by first | rfl | exact cat_rf _) ?_
    refine G_geti x eX9_append_20 fX9_15 rfl rfl hM.m (fun h20 => ?_)
    rw [show (uI I (tx + 1) (I tx 1) c) tx 1 = I tx 1 from uI_a (by omega) _]
    refine G_push x eX9_append_23 ?_
    refine G_iadd x eX9_append_24 ?_
    refine G_puti x eX9_append_25 fX9_15 rfl (Or.inl rfl) rfl hM.m (by first | omega | exact hr _ _ | exact hr0 _ _ | exact hrS _) ?_
    refine G_rg (fun hr => ?_)
    refine G_return x en eX9_append_28 (by omega) (by omega) ?_
    first | exact pv_i | (exfalso; omega)
set_option maxRecDepth 20000 in
theorem ct_X9_appendNumber {T : gT} {I : gI} {J : gJ} {O : gO} {tx : Nat} {v : Int} (hM : TxAt T O tx) (h0 : 0 ≤ v) (h1 : v ≤ 9999) (h2 : 0 ≤ I tx 1) (h3 : I tx 1 + (dgT v).length ≤ 24) : Ct yX9_appendNumber cX9_appendNumber 3 none [va_rf (some tx), VI v] 2 41 0 0 T I J O (pv none T (apC I tx (dgT v)) J O) := by
  refine Ct.of (by decide) [some (va_rf (some tx)), some (VI v), none] (gEn1 (List.forall_mem_cons.mpr ⟨cat_VR _, List.forall_mem_cons.mpr ⟨cat_VI _, fun _ h => nomatch h⟩⟩) rfl (Nat.le_of_ble_eq_true rfl) rfl) ?_
  intro X x en rm ini hr hz
  have hr0 := hr
  have hl := @dgT_l v
  have k1 : ∀ I1, 0 ≤ I1 tx 1 → I1 tx 1 + 1 ≤ 24 → apC I1 tx [48 + v % 10] = apC I tx (dgT v) → G X 4 [some (va_rf (some tx)), some (VI v), some (VI 1)] [] T I1 J O 0 0 := by
    intro I1 n0 n1 he
    refine G_rg (fun hr => ?_)
    refine G_iload2 x eX9_appendNumber_4 ?_
    refine G_push x eX9_appendNumber_5 ?_
    refine G_icmp_le x eX9_appendNumber_6 (by first | omega | exact hr _ _ | exact hr0 _ _ | exact hrS _) (by first | omega | exact hr _ _ | exact hr0 _ _ | exact hrS _) (fun c6 => ?_) (fun c6 => ?_)
    · refine G_aload0 x eX9_appendNumber_35 ?_
      refine G_push x eX9_appendNumber_36 ?_
      refine G_iload1 x eX9_appendNumber_38 ?_
      refine G_push x eX9_appendNumber_39 ?_
      refine G_iremn x eX9_appendNumber_41 (by omega) (by omega) (by omega) (by omega) ?_
      refine G_iadd x eX9_appendNumber_42 ?_
      refine G_cVv x eX9_appendNumber_43 kX9_23 im_yX9_append se_yX9_append rm hM.m (ct_X9_append hM (by omega) (by omega) (by omega) (by omega)) rfl ?_
      refine G_return x en eX9_appendNumber_46 (by omega) (by omega) ?_
      exact ⟨rfl, rfl, he, rfl, rfl⟩
    · omega
  have k10 : ∀ I1, 0 ≤ I1 tx 1 → I1 tx 1 + ((((if 10 ≤ v then [48 + v / 10 % 10] else []) ++ [48 + v % 10]).length : Nat) : Int) ≤ 24 → apC I1 tx ((if 10 ≤ v then [48 + v / 10 % 10] else []) ++ [48 + v % 10]) = apC I tx (dgT v) → G X 4 [some (va_rf (some tx)), some (VI v), some (VI 10)] [] T I1 J O 0 0 := by
    intro I1 n0 n1 he
    by_cases hv : 10 ≤ v
    · rw [if_pos hv] at n1 he
      simp only [List.length_append, List.length_cons, List.length_nil] at n1
      rw [apC_app] at he
      refine G_rg (fun hr => ?_)
      refine G_iload2 x eX9_appendNumber_4 ?_
      refine G_push x eX9_appendNumber_5 ?_
      refine G_icmp_le x eX9_appendNumber_6 (by first | omega | exact hr _ _ | exact hr0 _ _ | exact hrS _) (by first | omega | exact hr _ _ | exact hr0 _ _ | exact hrS _) (fun c6 => ?_) (fun c6 => ?_)
      · omega
      · refine G_iload1 x eX9_appendNumber_9 ?_
        refine G_iload2 x eX9_appendNumber_10 ?_
        refine G_icmp_lt x eX9_appendNumber_11 (by first | omega | exact hr _ _ | exact hr0 _ _ | exact hrS _) (by first | omega | exact hr _ _ | exact hr0 _ _ | exact hrS _) (fun c11 => ?_) (fun c11 => ?_)
        · refine G_iload2 x eX9_appendNumber_27 ?_
          refine G_push x eX9_appendNumber_28 ?_
          refine G_idivn x eX9_appendNumber_30 (by omega) (by omega) (by omega) (by omega) ?_
          refine G_istore2 x eX9_appendNumber_31 ?_
          refine G_goto x eX9_appendNumber_32 ?_
          first | (exfalso; omega) | exact k1 _ (by rw [ap1_n]; omega) (by rw [ap1_n]; omega) he
        · refine G_aload0 x eX9_appendNumber_14 ?_
          refine G_push x eX9_appendNumber_15 ?_
          refine G_iload1 x eX9_appendNumber_17 ?_
          refine G_iload2 x eX9_appendNumber_18 ?_
          refine G_idivn x eX9_appendNumber_19 (by omega) (by omega) (by omega) (by omega) ?_
          refine G_push x eX9_appendNumber_20 ?_
          refine G_iremn x eX9_appendNumber_22 (by omega) (by omega) (by omega) (by omega) ?_
          refine G_iadd x eX9_appendNumber_23 ?_
          refine G_cVv x eX9_appendNumber_24 kX9_23 im_yX9_append se_yX9_append rm hM.m (ct_X9_append hM (by omega) (by omega) (by omega) (by omega)) rfl ?_
          refine G_iload2 x eX9_appendNumber_27 ?_
          refine G_push x eX9_appendNumber_28 ?_
          refine G_idivn x eX9_appendNumber_30 (by omega) (by omega) (by omega) (by omega) ?_
          refine G_istore2 x eX9_appendNumber_31 ?_
          refine G_goto x eX9_appendNumber_32 ?_
          first | (exfalso; omega) | exact k1 _ (by rw [ap1_n]; omega) (by rw [ap1_n]; omega) he
    · rw [if_neg hv] at n1 he
      simp only [List.length_append, List.length_cons, List.length_nil] at n1
      refine G_rg (fun hr => ?_)
      refine G_iload2 x eX9_appendNumber_4 ?_
      refine G_push x eX9_appendNumber_5 ?_
      refine G_icmp_le x eX9_appendNumber_6 (by first | omega | exact hr _ _ | exact hr0 _ _ | exact hrS _) (by first | omega | exact hr _ _ | exact hr0 _ _ | exact hrS _) (fun c6 => ?_) (fun c6 => ?_)
      · omega
      · refine G_iload1 x eX9_appendNumber_9 ?_
        refine G_iload2 x eX9_appendNumber_10 ?_
        refine G_icmp_lt x eX9_appendNumber_11 (by first | omega | exact hr _ _ | exact hr0 _ _ | exact hrS _) (by first | omega | exact hr _ _ | exact hr0 _ _ | exact hrS _) (fun c11 => ?_) (fun c11 => ?_)
        · refine G_iload2 x eX9_appendNumber_27 ?_
          refine G_push x eX9_appendNumber_28 ?_
          refine G_idivn x eX9_appendNumber_30 (by omega) (by omega) (by omega) (by omega) ?_
          refine G_istore2 x eX9_appendNumber_31 ?_
          refine G_goto x eX9_appendNumber_32 ?_
          exact k1 _ (by omega) (by omega) he
        · omega
  have k100 : ∀ I1, 0 ≤ I1 tx 1 → I1 tx 1 + ((((if 100 ≤ v then [48 + v / 100 % 10] else []) ++ ((if 10 ≤ v then [48 + v / 10 % 10] else []) ++ [48 + v % 10])).length : Nat) : Int) ≤ 24 → apC I1 tx ((if 100 ≤ v then [48 + v / 100 % 10] else []) ++ ((if 10 ≤ v then [48 + v / 10 % 10] else []) ++ [48 + v % 10])) = apC I tx (dgT v) → G X 4 [some (va_rf (some tx)), some (VI v), some (VI 100)] [] T I1 J O 0 0 := by
    intro I1 n0 n1 he
    by_cases hv : 100 ≤ v
    · rw [if_pos hv] at n1 he
      rw [List.length_append, List.length_cons, List.length_nil] at n1
      rw [apC_app] at he
      generalize ((if 10 ≤ v then [48 + v / 10 % 10] else []) ++ [48 + v % 10]) = w at k10 n1 he
      refine G_rg (fun hr => ?_)
      refine G_iload2 x eX9_appendNumber_4 ?_
      refine G_push x eX9_appendNumber_5 ?_
      refine G_icmp_le x eX9_appendNumber_6 (by first | omega | exact hr _ _ | exact hr0 _ _ | exact hrS _) (by first | omega | exact hr _ _ | exact hr0 _ _ | exact hrS _) (fun c6 => ?_) (fun c6 => ?_)
      · omega
      · refine G_iload1 x eX9_appendNumber_9 ?_
        refine G_iload2 x eX9_appendNumber_10 ?_
        refine G_icmp_lt x eX9_appendNumber_11 (by first | omega | exact hr _ _ | exact hr0 _ _ | exact hrS _) (by first | omega | exact hr _ _ | exact hr0 _ _ | exact hrS _) (fun c11 => ?_) (fun c11 => ?_)
        · refine G_iload2 x eX9_appendNumber_27 ?_
          refine G_push x eX9_appendNumber_28 ?_
          refine G_idivn x eX9_appendNumber_30 (by omega) (by omega) (by omega) (by omega) ?_
          refine G_istore2 x eX9_appendNumber_31 ?_
          refine G_goto x eX9_appendNumber_32 ?_
          first | (exfalso; omega) | exact k10 _ (by rw [ap1_n]; omega) (by rw [ap1_n]; omega) he
        · refine G_aload0 x eX9_appendNumber_14 ?_
          refine G_push x eX9_appendNumber_15 ?_
          refine G_iload1 x eX9_appendNumber_17 ?_
          refine G_iload2 x eX9_appendNumber_18 ?_
          refine G_idivn x eX9_appendNumber_19 (by omega) (by omega) (by omega) (by omega) ?_
          refine G_push x eX9_appendNumber_20 ?_
          refine G_iremn x eX9_appendNumber_22 (by omega) (by omega) (by omega) (by omega) ?_
          refine G_iadd x eX9_appendNumber_23 ?_
          refine G_cVv x eX9_appendNumber_24 kX9_23 im_yX9_append se_yX9_append rm hM.m (ct_X9_append hM (by omega) (by omega) (by omega) (by omega)) rfl ?_
          refine G_iload2 x eX9_appendNumber_27 ?_
          refine G_push x eX9_appendNumber_28 ?_
          refine G_idivn x eX9_appendNumber_30 (by omega) (by omega) (by omega) (by omega) ?_
          refine G_istore2 x eX9_appendNumber_31 ?_
          refine G_goto x eX9_appendNumber_32 ?_
          first | (exfalso; omega) | exact k10 _ (by rw [ap1_n]; omega) (by rw [ap1_n]; omega) he
    · rw [if_neg hv] at n1 he
      refine G_rg (fun hr => ?_)
      refine G_iload2 x eX9_appendNumber_4 ?_
      refine G_push x eX9_appendNumber_5 ?_
      refine G_icmp_le x eX9_appendNumber_6 (by first | omega | exact hr _ _ | exact hr0 _ _ | exact hrS _) (by first | omega | exact hr _ _ | exact hr0 _ _ | exact hrS _) (fun c6 => ?_) (fun c6 => ?_)
      · omega
      · refine G_iload1 x eX9_appendNumber_9 ?_
        refine G_iload2 x eX9_appendNumber_10 ?_
        refine G_icmp_lt x eX9_appendNumber_11 (by first | omega | exact hr _ _ | exact hr0 _ _ | exact hrS _) (by first | omega | exact hr _ _ | exact hr0 _ _ | exact hrS _) (fun c11 => ?_) (fun c11 => ?_)
        · refine G_iload2 x eX9_appendNumber_27 ?_
          refine G_push x eX9_appendNumber_28 ?_
          refine G_idivn x eX9_appendNumber_30 (by omega) (by omega) (by omega) (by omega) ?_
          refine G_istore2 x eX9_appendNumber_31 ?_
          refine G_goto x eX9_appendNumber_32 ?_
          exact k10 _ (by omega) n1 he
        · omega
  have k1000 : G X 4 [some (va_rf (some tx)), some (VI v), some (VI 1000)] [] T I J O 0 0 := by
    unfold dgT at k100 h3
    by_cases hv : 1000 ≤ v
    · rw [if_pos hv] at k100 h3
      rw [List.length_append, List.length_cons, List.length_nil] at h3
      rw [apC_app] at k100
      generalize ((if 100 ≤ v then [48 + v / 100 % 10] else []) ++ ((if 10 ≤ v then [48 + v / 10 % 10] else []) ++ [48 + v % 10])) = w at k100 h3
      refine G_rg (fun hr => ?_)
      refine G_iload2 x eX9_appendNumber_4 ?_
      refine G_push x eX9_appendNumber_5 ?_
      refine G_icmp_le x eX9_appendNumber_6 (by first | omega | exact hr _ _ | exact hr0 _ _ | exact hrS _) (by first | omega | exact hr _ _ | exact hr0 _ _ | exact hrS _) (fun c6 => ?_) (fun c6 => ?_)
      · omega
      · refine G_iload1 x eX9_appendNumber_9 ?_
        refine G_iload2 x eX9_appendNumber_10 ?_
        refine G_icmp_lt x eX9_appendNumber_11 (by first | omega | exact hr _ _ | exact hr0 _ _ | exact hrS _) (by first | omega | exact hr _ _ | exact hr0 _ _ | exact hrS _) (fun c11 => ?_) (fun c11 => ?_)
        · refine G_iload2 x eX9_appendNumber_27 ?_
          refine G_push x eX9_appendNumber_28 ?_
          refine G_idivn x eX9_appendNumber_30 (by omega) (by omega) (by omega) (by omega) ?_
          refine G_istore2 x eX9_appendNumber_31 ?_
          refine G_goto x eX9_appendNumber_32 ?_
          first | (exfalso; omega) | exact k100 _ (by rw [ap1_n]; omega) (by rw [ap1_n]; omega) rfl
        · refine G_aload0 x eX9_appendNumber_14 ?_
          refine G_push x eX9_appendNumber_15 ?_
          refine G_iload1 x eX9_appendNumber_17 ?_
          refine G_iload2 x eX9_appendNumber_18 ?_
          refine G_idivn x eX9_appendNumber_19 (by omega) (by omega) (by omega) (by omega) ?_
          refine G_push x eX9_appendNumber_20 ?_
          refine G_iremn x eX9_appendNumber_22 (by omega) (by omega) (by omega) (by omega) ?_
          refine G_iadd x eX9_appendNumber_23 ?_
          refine G_cVv x eX9_appendNumber_24 kX9_23 im_yX9_append se_yX9_append rm hM.m (ct_X9_append hM (by omega) (by omega) (by omega) (by omega)) rfl ?_
          refine G_iload2 x eX9_appendNumber_27 ?_
          refine G_push x eX9_appendNumber_28 ?_
          refine G_idivn x eX9_appendNumber_30 (by omega) (by omega) (by omega) (by omega) ?_
          refine G_istore2 x eX9_appendNumber_31 ?_
          refine G_goto x eX9_appendNumber_32 ?_
          first | (exfalso; omega) | exact k100 _ (by rw [ap1_n]; omega) (by rw [ap1_n]; omega) rfl
    · rw [if_neg hv] at k100 h3
      refine G_rg (fun hr => ?_)
      refine G_iload2 x eX9_appendNumber_4 ?_
      refine G_push x eX9_appendNumber_5 ?_
      refine G_icmp_le x eX9_appendNumber_6 (by first | omega | exact hr _ _ | exact hr0 _ _ | exact hrS _) (by first | omega | exact hr _ _ | exact hr0 _ _ | exact hrS _) (fun c6 => ?_) (fun c6 => ?_)
      · omega
      · refine G_iload1 x eX9_appendNumber_9 ?_
        refine G_iload2 x eX9_appendNumber_10 ?_
        refine G_icmp_lt x eX9_appendNumber_11 (by first | omega | exact hr _ _ | exact hr0 _ _ | exact hrS _) (by first | omega | exact hr _ _ | exact hr0 _ _ | exact hrS _) (fun c11 => ?_) (fun c11 => ?_)
        · refine G_iload2 x eX9_appendNumber_27 ?_
          refine G_push x eX9_appendNumber_28 ?_
          refine G_idivn x eX9_appendNumber_30 (by omega) (by omega) (by omega) (by omega) ?_
          refine G_istore2 x eX9_appendNumber_31 ?_
          refine G_goto x eX9_appendNumber_32 ?_
          exact k100 _ (by omega) h3 rfl
        · omega
  refine G_push x eX9_appendNumber_0 ?_
  refine G_istore2 x eX9_appendNumber_3 ?_
  exact k1000
set_option maxRecDepth 20000 in
theorem ct_X2_init {T : gT} {I : gI} {J : gJ} {O : gO} {a : Nat} {kd nu : Int} {fo : Option Nat} (hM : T.2 a = some (.inl 2)) (h0 : in32 kd) (h1 : in32 nu) : Ct yX2_init cX2_init 4 none [va_rf (some a), VI kd, VI nu, va_rf fo] 1 20 0 0 T I J O (pv none T (uI (uI I a 0 kd) a 1 nu) J (uO O a 2 fo)) := by
  refine Ct.of (by decide) [some (va_rf (some a)), some (VI kd), some (VI nu), some (va_rf fo)] (gEn1 (List.forall_mem_cons.mpr ⟨cat_VR _, List.forall_mem_cons.mpr ⟨cat_VI _, List.forall_mem_cons.mpr ⟨cat_VI _, List.forall_mem_cons.mpr ⟨cat_VR _, fun _ h => nomatch h⟩⟩⟩⟩) rfl (Nat.le_of_ble_eq_true rfl) rfl) ?_
  intro X x en rm ini hr hz
  have hr0 := hr
  refine G_rg (fun hr => ?_)
  refine G_aload0 x eX2_init_0 ?_
  refine G_oi x eX2_init_1 olX2 rm ?_
  refine G_aload0 x eX2_init_4 ?_
  refine G_iload1 x eX2_init_5 ?_
  refine G_puti x eX2_init_6 fX2_7 rfl (Or.inr ⟨rfl, ini rfl, rfl⟩) rfl (by assumption) (by first | omega | exact hr _ _ | exact hr0 _ _ | exact hrS _) ?_
  refine G_rg (fun hr => ?_)
  refine G_aload0 x eX2_init_9 ?_
  refine G_iload2 x eX2_init_10 ?_
  refine G_puti x eX2_init_11 fX2_13 rfl (Or.inr ⟨rfl, ini rfl, rfl⟩) rfl (by assumption) (by first | omega | exact hr _ _ | exact hr0 _ _ | exact hrS _) ?_
  refine G_rg (fun hr => ?_)
  refine G_aload0 x eX2_init_14 ?_
  refine G_aload3 x eX2_init_15 ?_
  refine G_putr x eX2_init_16 fX2_16 rfl (fun v => by cases v <;> exact ⟨rfl, rfl⟩) (Or.inr ⟨rfl, ini rfl, rfl⟩) rfl (by assumption) ?_
  refine G_return x en eX2_init_19 (by omega) (by omega) ?_
  first | exact pv_i | (refine ⟨?_, rfl, rfl, rfl, rfl⟩; split <;> first | rfl | omega)
set_option maxRecDepth 20000 in
theorem ct_X3_init {T : gT} {I : gI} {J : gJ} {O : gO} {a : Nat} {fo : Option Nat} (hM : T.2 a = some (.inl 3)) : Ct yX3_init cX3_init 2 none [va_rf (some a), va_rf fo] 1 20 0 0 T I J O (pv none T I J (uO O a 0 fo)) := by
  refine Ct.of (by decide) [some (va_rf (some a)), some (va_rf fo)] (gEn1 (List.forall_mem_cons.mpr ⟨cat_VR _, List.forall_mem_cons.mpr ⟨cat_VR _, fun _ h => nomatch h⟩⟩) rfl (Nat.le_of_ble_eq_true rfl) rfl) ?_
  intro X x en rm ini hr hz
  have hr0 := hr
  refine G_rg (fun hr => ?_)
  refine G_aload0 x eX3_init_0 ?_
  refine G_oi x eX3_init_1 olX3 rm ?_
  refine G_aload0 x eX3_init_4 ?_
  refine G_aload1 x eX3_init_5 ?_
  refine G_putr x eX3_init_6 fX3_9 rfl (fun v => by cases v <;> exact ⟨rfl, rfl⟩) (Or.inr ⟨rfl, ini rfl, rfl⟩) rfl (by assumption) ?_
  refine G_return x en eX3_init_9 (by omega) (by omega) ?_
  first | exact pv_i | (refine ⟨?_, rfl, rfl, rfl, rfl⟩; split <;> first | rfl | omega)
set_option maxRecDepth 20000 in
theorem ct_X5_init {T : gT} {I : gI} {J : gJ} {O : gO} {a : Nat} {k0 k1 k2 k3 k4 k5 : Int} {fo : Option Nat} (hM : T.2 a = some (.inl 5)) (h0 : in32 k0) (h1 : in32 k1) (h2 : in32 k2) (h3 : in32 k3) (h4 : in32 k4) (h5 : in32 k5) : Ct yX5_init cX5_init 8 none [va_rf (some a), VI k0, VI k1, VI k2, VI k3, VI k4, VI k5, va_rf fo] 1 20 0 0 T I J O (pv none T (uI (uI (uI (uI (uI (uI I a 0 k0) a 1 k1) a 2 k2) a 3 k3) a 4 k4) a 5 k5) J (uO O a 6 fo)) := by
  refine Ct.of (by decide) [some (va_rf (some a)), some (VI k0), some (VI k1), some (VI k2), some (VI k3), some (VI k4), some (VI k5), some (va_rf fo)] (gEn1 (List.forall_mem_cons.mpr ⟨cat_VR _, List.forall_mem_cons.mpr ⟨cat_VI _, List.forall_mem_cons.mpr ⟨cat_VI _, List.forall_mem_cons.mpr ⟨cat_VI _, List.forall_mem_cons.mpr ⟨cat_VI _, List.forall_mem_cons.mpr ⟨cat_VI _, List.forall_mem_cons.mpr ⟨cat_VI _, List.forall_mem_cons.mpr ⟨cat_VR _, fun _ h => nomatch h⟩⟩⟩⟩⟩⟩⟩⟩) rfl (Nat.le_of_ble_eq_true rfl) rfl) ?_
  intro X x en rm ini hr hz
  have hr0 := hr
  refine G_rg (fun hr => ?_)
  refine G_aload0 x eX5_init_0 ?_
  refine G_oi x eX5_init_1 olX5 rm ?_
  refine G_aload0 x eX5_init_4 ?_
  refine G_iload1 x eX5_init_5 ?_
  refine G_puti x eX5_init_6 fX5_7 rfl (Or.inr ⟨rfl, ini rfl, rfl⟩) rfl (by assumption) (by first | omega | exact hr _ _ | exact hr0 _ _ | exact hrS _) ?_
  refine G_rg (fun hr => ?_)
  refine G_aload0 x eX5_init_9 ?_
  refine G_iload2 x eX5_init_10 ?_
  refine G_puti x eX5_init_11 fX5_13 rfl (Or.inr ⟨rfl, ini rfl, rfl⟩) rfl (by assumption) (by first | omega | exact hr _ _ | exact hr0 _ _ | exact hrS _) ?_
  refine G_rg (fun hr => ?_)
  refine G_aload0 x eX5_init_14 ?_
  refine G_iload3 x eX5_init_15 ?_
  refine G_puti x eX5_init_16 fX5_16 rfl (Or.inr ⟨rfl, ini rfl, rfl⟩) rfl (by assumption) (by first | omega | exact hr _ _ | exact hr0 _ _ | exact hrS _) ?_
  refine G_rg (fun hr => ?_)
  refine G_aload0 x eX5_init_19 ?_
  refine G_iload4 x eX5_init_20 ?_
  refine G_puti x eX5_init_22 fX5_19 rfl (Or.inr ⟨rfl, ini rfl, rfl⟩) rfl (by assumption) (by first | omega | exact hr _ _ | exact hr0 _ _ | exact hrS _) ?_
  refine G_rg (fun hr => ?_)
  refine G_aload0 x eX5_init_25 ?_
  refine G_iload5 x eX5_init_26 ?_
  refine G_puti x eX5_init_28 fX5_22 rfl (Or.inr ⟨rfl, ini rfl, rfl⟩) rfl (by assumption) (by first | omega | exact hr _ _ | exact hr0 _ _ | exact hrS _) ?_
  refine G_rg (fun hr => ?_)
  refine G_aload0 x eX5_init_31 ?_
  refine G_iload6 x eX5_init_32 ?_
  refine G_puti x eX5_init_34 fX5_25 rfl (Or.inr ⟨rfl, ini rfl, rfl⟩) rfl (by assumption) (by first | omega | exact hr _ _ | exact hr0 _ _ | exact hrS _) ?_
  refine G_rg (fun hr => ?_)
  refine G_aload0 x eX5_init_37 ?_
  refine G_aload7 x eX5_init_38 ?_
  refine G_putr x eX5_init_40 fX5_28 rfl (fun v => by cases v <;> exact ⟨rfl, rfl⟩) (Or.inr ⟨rfl, ini rfl, rfl⟩) rfl (by assumption) ?_
  refine G_return x en eX5_init_43 (by omega) (by omega) ?_
  first | exact pv_i | (refine ⟨?_, rfl, rfl, rfl, rfl⟩; split <;> first | rfl | omega)
