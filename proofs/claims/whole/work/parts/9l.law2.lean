/-! the law's own methods: an answer, or the number of what was thrown -/
def FrO (ss oa : Nat) (T T' : gT) (I I' : gI) (J J' : gJ) (O O' : gO) : Prop := T.1 ≤ T'.1 ∧ ∀ b, b < T.1 → (b < ss ∨ ss + 94 < b) → T'.2 b = T.2 b ∧ (∀ j, I' b j = I b j) ∧ (∀ j, b ≠ oa → J' b j = J b j) ∧ ∀ j, O' b j = O b j
theorem FrC.o {ss oa : Nat} {T T' : gT} {I I' : gI} {J J' : gJ} {O O' : gO} (h : FrC ss T T' I I' J J' O O') : FrO ss oa T T' I I' J J' O O' := ⟨h.1, fun b b1 b2 => ⟨(h.2 b b1 b2).1, (h.2 b b1 b2).2.1, fun j _ => (h.2 b b1 b2).2.2.1 j, (h.2 b b1 b2).2.2.2⟩⟩
theorem FrC.oj {ss oa : Nat} {T T' : gT} {I I' : gI} {J J' : gJ} {O O' : gO} {w : Int64} (h : FrC ss T T' I I' J J' O O') : FrO ss oa T T' I I' J (uJ J' oa 0 w) O O' := ⟨h.1, fun b b1 b2 => ⟨(h.2 b b1 b2).1, (h.2 b b1 b2).2.1, fun j hb => by rw [uJ_a hb]; exact (h.2 b b1 b2).2.2.1 j, (h.2 b b1 b2).2.2.2⟩⟩
theorem WW.j {B ss oa : Nat} {T : gT} {I : gI} {J : gJ} {O : gO} {S : Int → Int} {n : Int} {Rc X : Int → Int} {L : Int} {w : Int64} (h : WW B ss T I J O S n Rc X L) (ho : ss + 94 < oa ∧ oa ≤ B) : WW B ss T I (uJ J oa 0 w) O S n Rc X L := h.mv (Nat.le_refl _) (fun b b1 b2 => ⟨rfl, fun _ => rfl, fun j => uJ_a (by omega) j, fun _ => rfl⟩)
def wrQ (ss oa : Nat) (T : gT) (I : gI) (J : gJ) (O : gO) (thr : Int) (A : gT → gI → gJ → gO → Int64 → Prop) (Z : gT → gI → gJ → gO → Prop) : gP := fun v T' I' J' O' => v = some (VI thr) ∧ FrO ss oa T T' I I' J J' O O' ∧ (thr = 0 → A T' I' J' O' (J' oa 0)) ∧ (thr ≠ 0 → Z T' I' J' O')
theorem ghL_make_1 : gH hhL_make RL 7 xcI 15 := by
  refine ⟨(tableOf hhL_make).take 0, _, _, rfl, ?_, rfl, by decide, clL_13, cs_I, rfl⟩
  exact fun w hw => nomatch hw
theorem ghL_make_2 : gH hhL_make RL 7 xcS 19 := by
  refine ⟨(tableOf hhL_make).take 1, _, _, rfl, ?_, rfl, by decide, clL_15, cs_S, rfl⟩
  intro w hw
  rcases List.mem_cons.mp hw with rfl | hw
  · exact ⟨by decide, xcI, clL_13, by decide⟩
  · cases hw
set_option maxRecDepth 20000 in
theorem ct_w_make {T : gT} {I : gI} {J : gJ} {O : gO} {B ss : Nat} {S : Int → Int} {n : Int} {Rc Xt : Int → Int} {L : Int} (hW : WW B ss T I J O S n Rc Xt L) (hI : Inv S) {oa : Nat} {r b p : Int} (n0 : 0 ≤ n) (n1 : n ≤ 4) (h0 : in32 r) (hb : b = 0 ∨ b = 1) (h1 : in32 p) (ho : T.2 oa = some (.inr (3, 1))) (hoa : ss + 94 < oa ∧ oa ≤ B) : CtH yL_make cL_make 6 (some .int) hhL_make [va_rf (some ss), VI r, VI b, VI p, va_rf (some oa)] 9 162 4 25 T I J O (wrQ ss oa T I J O (mkThr S r b p) (fun T' I' J' O' z9 => z9 = i2L (3 + 3 * r + S (3843 + 270 * r + (4 + b))) ∧ WW B ss T' I' J' O' (mkS S r b p) (nEnd n) (rKeep Rc n (ctS S)) Xt L) (fun T' I' J' O' => WW B ss T' I' J' O' S n Rc Xt L)) := by
  refine CtH.of (by decide) [some (va_rf (some ss)), some (VI r), some (VI b), some (VI p), some (va_rf (some oa)), none] (gEn1 (List.forall_mem_cons.mpr ⟨cat_VR _, List.forall_mem_cons.mpr ⟨cat_VI _, List.forall_mem_cons.mpr ⟨cat_VI _, List.forall_mem_cons.mpr ⟨cat_VI _, List.forall_mem_cons.mpr ⟨cat_VR _, fun _ h => nomatch h⟩⟩⟩⟩⟩) rfl (Nat.le_of_ble_eq_true rfl) rfl) ?_
  intro X x en rm tb hr
  have hr0 := hr
  have hss := hW.1.1.z.m
  have hBt := hW.1.2.2
  have hrg : (mkThr S r b p) = 0 ∨ (mkThr S r b p) = 1 ∨ (mkThr S r b p) = 2 := by
    unfold mkThr
    (repeat' split) <;> simp
  have hcat : ∀ cl T' I' J' O' (qa : Nat), cThr B ss T I J O (mkThr S r b p) nIS S n Rc Xt L cl T' I' J' O' → ∃ hpc, gH hhL_make RL 7 cl hpc ∧ G X hpc [some (va_rf (some ss)), some (VI r), some (VI b), some (VI p), some (va_rf (some oa)), none] [va_rf (some qa)] T' I' J' O' (0 + 4) (0 + 25) := by
    intro cl T' I' J' O' qa h9
    obtain ⟨hne, hcl, hF9, hW9⟩ := h9
    rcases hrg with e | e | e
    · exact absurd e hne
    · refine ⟨15, by rw [hcl, e]; exact ghL_make_1, ?_⟩
      refine G_rg (fun hr => ?_)
      refine G_astore5 x eL_make_15 ?_
      refine G_push x eL_make_17 ?_
      refine G_ireturn x en eL_make_18 (by omega) (by omega) ?_
      exact ⟨by rw [e], hF9.o, fun z => absurd z hne, fun _ => hW9⟩
    · refine ⟨19, by rw [hcl, e]; exact ghL_make_2, ?_⟩
      refine G_rg (fun hr => ?_)
      refine G_astore5 x eL_make_19 ?_
      refine G_push x eL_make_21 ?_
      refine G_ireturn x en eL_make_22 (by omega) (by omega) ?_
      exact ⟨by rw [e], hF9.o, fun z => absurd z hne, fun _ => hW9⟩
  refine G_aload4 x eL_make_0 ?_
  refine G_push x eL_make_2 ?_
  refine G_aload0 x eL_make_3 ?_
  refine G_iload1 x eL_make_4 ?_
  refine G_iload2 x eL_make_5 ?_
  refine G_iload3 x eL_make_6 ?_
  refine G_cVC x tb eL_make_7 kL_7 ⟨im_yX10_make, se_yX10_make⟩ hss rm (ct_q_make hW hI n0 n1 h0 hb h1) hcat rfl (fun v9 T9 I9 J9 O9 p9 => ?_)
  refine G_rg (fun hr => ?_)
  obtain ⟨hth, rfl, hF9, hW9⟩ := p9
  have hoT : T9.2 oa = some (.inr (3, 1)) := by rw [(hF9.2 oa (by omega) (by omega)).1]; exact ho
  refine G_i2lg x eL_make_10 ?_
  refine G_last x eL_make_11 rfl hoT (by omega) (by omega) (by omega) ?_
  refine G_rg (fun hr => ?_)
  refine G_goto x eL_make_12 ?_
  refine G_push x eL_make_23 ?_
  refine G_ireturn x en eL_make_24 (by omega) (by omega) ?_
  exact ⟨by rw [hth], hF9.oj, fun _ => ⟨uJ_s, hW9.j hoa⟩, fun z => absurd hth z⟩
theorem ghL_move_1 : gH hhL_move RL 9 xcI 17 := by
  refine ⟨(tableOf hhL_move).take 0, _, _, rfl, ?_, rfl, by decide, clL_13, cs_I, rfl⟩
  exact fun w hw => nomatch hw
theorem ghL_move_2 : gH hhL_move RL 9 xcS 21 := by
  refine ⟨(tableOf hhL_move).take 1, _, _, rfl, ?_, rfl, by decide, clL_15, cs_S, rfl⟩
  intro w hw
  rcases List.mem_cons.mp hw with rfl | hw
  · exact ⟨by decide, xcI, clL_13, by decide⟩
  · cases hw
set_option maxRecDepth 20000 in
theorem ct_w_move {T : gT} {I : gI} {J : gJ} {O : gO} {B ss : Nat} {S : Int → Int} {n : Int} {Rc Xt : Int → Int} {L : Int} (hW : WW B ss T I J O S n Rc Xt L) (hI : Inv S) {oa : Nat} {r b p t : Int} (n0 : 0 ≤ n) (n1 : n ≤ 4) (h0 : in32 r) (hb : b = 0 ∨ b = 1) (h1 : in32 p) (h2 : in32 t) (ho : T.2 oa = some (.inr (3, 1))) (hoa : ss + 94 < oa ∧ oa ≤ B) : CtH yL_move cL_move 7 (some .int) hhL_move [va_rf (some ss), VI r, VI b, VI p, VI t, va_rf (some oa)] 9 163 5 31 T I J O (wrQ ss oa T I J O (mvThr S r b p t) (fun T' I' J' O' z9 => z9 = i2L (rwP (mvS S r b p t) r b (rwF S r b (-1) p)) ∧ WW B ss T' I' J' O' (mvS S r b p t) (nEnd n) (rKeep Rc n (ctS S)) Xt L) (fun T' I' J' O' => WW B ss T' I' J' O' S n Rc Xt L)) := by
  refine CtH.of (by decide) [some (va_rf (some ss)), some (VI r), some (VI b), some (VI p), some (VI t), some (va_rf (some oa)), none] (gEn1 (List.forall_mem_cons.mpr ⟨cat_VR _, List.forall_mem_cons.mpr ⟨cat_VI _, List.forall_mem_cons.mpr ⟨cat_VI _, List.forall_mem_cons.mpr ⟨cat_VI _, List.forall_mem_cons.mpr ⟨cat_VI _, List.forall_mem_cons.mpr ⟨cat_VR _, fun _ h => nomatch h⟩⟩⟩⟩⟩⟩) rfl (Nat.le_of_ble_eq_true rfl) rfl) ?_
  intro X x en rm tb hr
  have hr0 := hr
  have hss := hW.1.1.z.m
  have hBt := hW.1.2.2
  have hrg : (mvThr S r b p t) = 0 ∨ (mvThr S r b p t) = 1 ∨ (mvThr S r b p t) = 2 := by
    unfold mvThr
    (repeat' split) <;> simp
  have hcat : ∀ cl T' I' J' O' (qa : Nat), cThr B ss T I J O (mvThr S r b p t) nIS S n Rc Xt L cl T' I' J' O' → ∃ hpc, gH hhL_move RL 9 cl hpc ∧ G X hpc [some (va_rf (some ss)), some (VI r), some (VI b), some (VI p), some (VI t), some (va_rf (some oa)), none] [va_rf (some qa)] T' I' J' O' (0 + 5) (0 + 31) := by
    intro cl T' I' J' O' qa h9
    obtain ⟨hne, hcl, hF9, hW9⟩ := h9
    rcases hrg with e | e | e
    · exact absurd e hne
    · refine ⟨17, by rw [hcl, e]; exact ghL_move_1, ?_⟩
      refine G_rg (fun hr => ?_)
      refine G_astore6 x eL_move_17 ?_
      refine G_push x eL_move_19 ?_
      refine G_ireturn x en eL_move_20 (by omega) (by omega) ?_
      exact ⟨by rw [e], hF9.o, fun z => absurd z hne, fun _ => hW9⟩
    · refine ⟨21, by rw [hcl, e]; exact ghL_move_2, ?_⟩
      refine G_rg (fun hr => ?_)
      refine G_astore6 x eL_move_21 ?_
      refine G_push x eL_move_23 ?_
      refine G_ireturn x en eL_move_24 (by omega) (by omega) ?_
      exact ⟨by rw [e], hF9.o, fun z => absurd z hne, fun _ => hW9⟩
  refine G_aload5 x eL_move_0 ?_
  refine G_push x eL_move_2 ?_
  refine G_aload0 x eL_move_3 ?_
  refine G_iload1 x eL_move_4 ?_
  refine G_iload2 x eL_move_5 ?_
  refine G_iload3 x eL_move_6 ?_
  refine G_iload4 x eL_move_7 ?_
  refine G_cVC x tb eL_move_9 kL_17 ⟨im_yX10_move, se_yX10_move⟩ hss rm (ct_q_move hW hI n0 n1 h0 hb h1 h2) hcat rfl (fun v9 T9 I9 J9 O9 p9 => ?_)
  refine G_rg (fun hr => ?_)
  obtain ⟨hth, rfl, hF9, hW9⟩ := p9
  have hoT : T9.2 oa = some (.inr (3, 1)) := by rw [(hF9.2 oa (by omega) (by omega)).1]; exact ho
  refine G_i2lg x eL_move_12 ?_
  refine G_last x eL_move_13 rfl hoT (by omega) (by omega) (by omega) ?_
  refine G_rg (fun hr => ?_)
  refine G_goto x eL_move_14 ?_
  refine G_push x eL_move_25 ?_
  refine G_ireturn x en eL_move_26 (by omega) (by omega) ?_
  exact ⟨by rw [hth], hF9.oj, fun _ => ⟨uJ_s, hW9.j hoa⟩, fun z => absurd hth z⟩
theorem ghL_remove_1 : gH hhL_remove RL 7 xcI 15 := by
  refine ⟨(tableOf hhL_remove).take 0, _, _, rfl, ?_, rfl, by decide, clL_13, cs_I, rfl⟩
  exact fun w hw => nomatch hw
theorem ghL_remove_2 : gH hhL_remove RL 7 xcS 19 := by
  refine ⟨(tableOf hhL_remove).take 1, _, _, rfl, ?_, rfl, by decide, clL_15, cs_S, rfl⟩
  intro w hw
  rcases List.mem_cons.mp hw with rfl | hw
  · exact ⟨by decide, xcI, clL_13, by decide⟩
  · cases hw
set_option maxRecDepth 20000 in
theorem ct_w_remove {T : gT} {I : gI} {J : gJ} {O : gO} {B ss : Nat} {S : Int → Int} {n : Int} {Rc Xt : Int → Int} {L : Int} (hW : WW B ss T I J O S n Rc Xt L) (hI : Inv S) {oa : Nat} {r b p : Int} (n0 : 0 ≤ n) (n1 : n ≤ 4) (h0 : in32 r) (hb : b = 0 ∨ b = 1) (h1 : in32 p) (ho : T.2 oa = some (.inr (3, 1))) (hoa : ss + 94 < oa ∧ oa ≤ B) : CtH yL_remove cL_remove 6 (some .int) hhL_remove [va_rf (some ss), VI r, VI b, VI p, va_rf (some oa)] 9 160 4 25 T I J O (wrQ ss oa T I J O (rmThr S r b p) (fun T' I' J' O' z9 => z9 = i2L (rwN S r b (-1) - 1) ∧ WW B ss T' I' J' O' (rmS S r b p) (nEnd n) (rKeep Rc n (ctS S)) Xt L) (fun T' I' J' O' => WW B ss T' I' J' O' S n Rc Xt L)) := by
  refine CtH.of (by decide) [some (va_rf (some ss)), some (VI r), some (VI b), some (VI p), some (va_rf (some oa)), none] (gEn1 (List.forall_mem_cons.mpr ⟨cat_VR _, List.forall_mem_cons.mpr ⟨cat_VI _, List.forall_mem_cons.mpr ⟨cat_VI _, List.forall_mem_cons.mpr ⟨cat_VI _, List.forall_mem_cons.mpr ⟨cat_VR _, fun _ h => nomatch h⟩⟩⟩⟩⟩) rfl (Nat.le_of_ble_eq_true rfl) rfl) ?_
  intro X x en rm tb hr
  have hr0 := hr
  have hss := hW.1.1.z.m
  have hBt := hW.1.2.2
  have hrg : (rmThr S r b p) = 0 ∨ (rmThr S r b p) = 1 ∨ (rmThr S r b p) = 2 := by
    unfold rmThr
    (repeat' split) <;> simp
  have hcat : ∀ cl T' I' J' O' (qa : Nat), cThr B ss T I J O (rmThr S r b p) nIS S n Rc Xt L cl T' I' J' O' → ∃ hpc, gH hhL_remove RL 7 cl hpc ∧ G X hpc [some (va_rf (some ss)), some (VI r), some (VI b), some (VI p), some (va_rf (some oa)), none] [va_rf (some qa)] T' I' J' O' (0 + 4) (0 + 25) := by
    intro cl T' I' J' O' qa h9
    obtain ⟨hne, hcl, hF9, hW9⟩ := h9
    rcases hrg with e | e | e
    · exact absurd e hne
    · refine ⟨15, by rw [hcl, e]; exact ghL_remove_1, ?_⟩
      refine G_rg (fun hr => ?_)
      refine G_astore5 x eL_remove_15 ?_
      refine G_push x eL_remove_17 ?_
      refine G_ireturn x en eL_remove_18 (by omega) (by omega) ?_
      exact ⟨by rw [e], hF9.o, fun z => absurd z hne, fun _ => hW9⟩
    · refine ⟨19, by rw [hcl, e]; exact ghL_remove_2, ?_⟩
      refine G_rg (fun hr => ?_)
      refine G_astore5 x eL_remove_19 ?_
      refine G_push x eL_remove_21 ?_
      refine G_ireturn x en eL_remove_22 (by omega) (by omega) ?_
      exact ⟨by rw [e], hF9.o, fun z => absurd z hne, fun _ => hW9⟩
  refine G_aload4 x eL_remove_0 ?_
  refine G_push x eL_remove_2 ?_
  refine G_aload0 x eL_remove_3 ?_
  refine G_iload1 x eL_remove_4 ?_
  refine G_iload2 x eL_remove_5 ?_
  refine G_iload3 x eL_remove_6 ?_
  refine G_cVC x tb eL_remove_7 kL_21 ⟨im_yX10_remove, se_yX10_remove⟩ hss rm (ct_q_remove hW hI n0 n1 h0 hb h1) hcat rfl (fun v9 T9 I9 J9 O9 p9 => ?_)
  refine G_rg (fun hr => ?_)
  obtain ⟨hth, rfl, hF9, hW9⟩ := p9
  have hoT : T9.2 oa = some (.inr (3, 1)) := by rw [(hF9.2 oa (by omega) (by omega)).1]; exact ho
  refine G_i2lg x eL_remove_10 ?_
  refine G_last x eL_remove_11 rfl hoT (by omega) (by omega) (by omega) ?_
  refine G_rg (fun hr => ?_)
  refine G_goto x eL_remove_12 ?_
  refine G_push x eL_remove_23 ?_
  refine G_ireturn x en eL_remove_24 (by omega) (by omega) ?_
  exact ⟨by rw [hth], hF9.oj, fun _ => ⟨uJ_s, hW9.j hoa⟩, fun z => absurd hth z⟩
theorem ghL_shown_1 : gH hhL_shown RL 5 xcI 13 := by
  refine ⟨(tableOf hhL_shown).take 0, _, _, rfl, ?_, rfl, by decide, clL_13, cs_I, rfl⟩
  exact fun w hw => nomatch hw
set_option maxRecDepth 20000 in
theorem ct_w_shown {T : gT} {I : gI} {J : gJ} {O : gO} {B ss : Nat} {S : Int → Int} {n : Int} {Rc Xt : Int → Int} {L : Int} (hW : WW B ss T I J O S n Rc Xt L) (hI : Inv S) {oa : Nat} {r b : Int} (h0 : in32 r) (hb : b = 0 ∨ b = 1) (ho : T.2 oa = some (.inr (3, 1))) (hoa : ss + 94 < oa ∧ oa ≤ B) : CtH yL_shown cL_shown 5 (some .int) hhL_shown [va_rf (some ss), VI r, VI b, va_rf (some oa)] 8 133 1 6 T I J O (wrQ ss oa T I J O (iThr r) (fun T' I' J' O' z9 => z9 = i2L (rwN S r b (-1)) ∧ WW B ss T' I' J' O' S n Rc Xt L) (fun T' I' J' O' => WW B ss T' I' J' O' S n Rc Xt L)) := by
  refine CtH.of (by decide) [some (va_rf (some ss)), some (VI r), some (VI b), some (va_rf (some oa)), none] (gEn1 (List.forall_mem_cons.mpr ⟨cat_VR _, List.forall_mem_cons.mpr ⟨cat_VI _, List.forall_mem_cons.mpr ⟨cat_VI _, List.forall_mem_cons.mpr ⟨cat_VR _, fun _ h => nomatch h⟩⟩⟩⟩) rfl (Nat.le_of_ble_eq_true rfl) rfl) ?_
  intro X x en rm tb hr
  have hr0 := hr
  have hss := hW.1.1.z.m
  have hBt := hW.1.2.2
  have hrg : (iThr r) = 0 ∨ (iThr r) = 1 := by
    unfold iThr
    (repeat' split) <;> simp
  have hcat : ∀ cl T' I' J' O' (qa : Nat), cThr B ss T I J O (iThr r) nIS S n Rc Xt L cl T' I' J' O' → ∃ hpc, gH hhL_shown RL 5 cl hpc ∧ G X hpc [some (va_rf (some ss)), some (VI r), some (VI b), some (va_rf (some oa)), none] [va_rf (some qa)] T' I' J' O' (0 + 1) (0 + 6) := by
    intro cl T' I' J' O' qa h9
    obtain ⟨hne, hcl, hF9, hW9⟩ := h9
    rcases hrg with e | e
    · exact absurd e hne
    · refine ⟨13, by rw [hcl, e]; exact ghL_shown_1, ?_⟩
      refine G_rg (fun hr => ?_)
      refine G_astore4 x eL_shown_13 ?_
      refine G_push x eL_shown_15 ?_
      refine G_ireturn x en eL_shown_16 (by omega) (by omega) ?_
      exact ⟨by rw [e], hF9.o, fun z => absurd z hne, fun _ => hW9⟩
  refine G_aload3 x eL_shown_0 ?_
  refine G_push x eL_shown_1 ?_
  refine G_aload0 x eL_shown_2 ?_
  refine G_iload1 x eL_shown_3 ?_
  refine G_iload2 x eL_shown_4 ?_
  refine G_cVC x tb eL_shown_5 kL_24 ⟨im_yX10_shown, se_yX10_shown⟩ hss rm (ct_q_shown hW hI h0 hb) hcat rfl (fun v9 T9 I9 J9 O9 p9 => ?_)
  refine G_rg (fun hr => ?_)
  obtain ⟨hth, rfl, hF9, hW9⟩ := p9
  have hoT : T9.2 oa = some (.inr (3, 1)) := by rw [(hF9.2 oa (by omega) (by omega)).1]; exact ho
  refine G_i2lg x eL_shown_8 ?_
  refine G_last x eL_shown_9 rfl hoT (by omega) (by omega) (by omega) ?_
  refine G_rg (fun hr => ?_)
  refine G_goto x eL_shown_10 ?_
  refine G_push x eL_shown_17 ?_
  refine G_ireturn x en eL_shown_18 (by omega) (by omega) ?_
  exact ⟨by rw [hth], hF9.oj, fun _ => ⟨uJ_s, hW9.j hoa⟩, fun z => absurd hth z⟩
theorem ghL_line_1 : gH hhL_line RL 7 xcI 15 := by
  refine ⟨(tableOf hhL_line).take 0, _, _, rfl, ?_, rfl, by decide, clL_13, cs_I, rfl⟩
  exact fun w hw => nomatch hw
set_option maxRecDepth 20000 in
theorem ct_w_line {T : gT} {I : gI} {J : gJ} {O : gO} {B ss : Nat} {S : Int → Int} {n : Int} {Rc Xt : Int → Int} {L : Int} (hW : WW B ss T I J O S n Rc Xt L) (hI : Inv S) {oa : Nat} {r b p : Int} (h0 : in32 r) (hb : b = 0 ∨ b = 1) (h1 : in32 p) (ho : T.2 oa = some (.inr (3, 1))) (hoa : ss + 94 < oa ∧ oa ≤ B) : CtH yL_line cL_line 6 (some .int) hhL_line [va_rf (some ss), VI r, VI b, VI p, va_rf (some oa)] 8 134 1 6 T I J O (wrQ ss oa T I J O (iThr r) (fun T' I' J' O' z9 => z9 = i2L (if 0 ≤ p ∧ p < rwN S r b (-1) then rwF S r b (-1) p else -1) ∧ WW B ss T' I' J' O' S n Rc Xt L) (fun T' I' J' O' => WW B ss T' I' J' O' S n Rc Xt L)) := by
  refine CtH.of (by decide) [some (va_rf (some ss)), some (VI r), some (VI b), some (VI p), some (va_rf (some oa)), none] (gEn1 (List.forall_mem_cons.mpr ⟨cat_VR _, List.forall_mem_cons.mpr ⟨cat_VI _, List.forall_mem_cons.mpr ⟨cat_VI _, List.forall_mem_cons.mpr ⟨cat_VI _, List.forall_mem_cons.mpr ⟨cat_VR _, fun _ h => nomatch h⟩⟩⟩⟩⟩) rfl (Nat.le_of_ble_eq_true rfl) rfl) ?_
  intro X x en rm tb hr
  have hr0 := hr
  have hss := hW.1.1.z.m
  have hBt := hW.1.2.2
  have hrg : (iThr r) = 0 ∨ (iThr r) = 1 := by
    unfold iThr
    (repeat' split) <;> simp
  have hcat : ∀ cl T' I' J' O' (qa : Nat), cThr B ss T I J O (iThr r) nIS S n Rc Xt L cl T' I' J' O' → ∃ hpc, gH hhL_line RL 7 cl hpc ∧ G X hpc [some (va_rf (some ss)), some (VI r), some (VI b), some (VI p), some (va_rf (some oa)), none] [va_rf (some qa)] T' I' J' O' (0 + 1) (0 + 6) := by
    intro cl T' I' J' O' qa h9
    obtain ⟨hne, hcl, hF9, hW9⟩ := h9
    rcases hrg with e | e
    · exact absurd e hne
    · refine ⟨15, by rw [hcl, e]; exact ghL_line_1, ?_⟩
      refine G_rg (fun hr => ?_)
      refine G_astore5 x eL_line_15 ?_
      refine G_push x eL_line_17 ?_
      refine G_ireturn x en eL_line_18 (by omega) (by omega) ?_
      exact ⟨by rw [e], hF9.o, fun z => absurd z hne, fun _ => hW9⟩
  refine G_aload4 x eL_line_0 ?_
  refine G_push x eL_line_2 ?_
  refine G_aload0 x eL_line_3 ?_
  refine G_iload1 x eL_line_4 ?_
  refine G_iload2 x eL_line_5 ?_
  refine G_iload3 x eL_line_6 ?_
  refine G_cVC x tb eL_line_7 kL_28 ⟨im_yX10_line, se_yX10_line⟩ hss rm (ct_q_line hW hI h0 hb h1) hcat rfl (fun v9 T9 I9 J9 O9 p9 => ?_)
  refine G_rg (fun hr => ?_)
  obtain ⟨hth, rfl, hF9, hW9⟩ := p9
  have hoT : T9.2 oa = some (.inr (3, 1)) := by rw [(hF9.2 oa (by omega) (by omega)).1]; exact ho
  refine G_i2lg x eL_line_10 ?_
  refine G_last x eL_line_11 rfl hoT (by omega) (by omega) (by omega) ?_
  refine G_rg (fun hr => ?_)
  refine G_goto x eL_line_12 ?_
  refine G_push x eL_line_19 ?_
  refine G_ireturn x en eL_line_20 (by omega) (by omega) ?_
  exact ⟨by rw [hth], hF9.oj, fun _ => ⟨uJ_s, hW9.j hoa⟩, fun z => absurd hth z⟩
theorem ghL_position_1 : gH hhL_position RL 7 xcI 15 := by
  refine ⟨(tableOf hhL_position).take 0, _, _, rfl, ?_, rfl, by decide, clL_13, cs_I, rfl⟩
  exact fun w hw => nomatch hw
theorem ghL_position_2 : gH hhL_position RL 7 xcA 19 := by
  refine ⟨(tableOf hhL_position).take 1, _, _, rfl, ?_, rfl, by decide, clL_34, cs_A, rfl⟩
  intro w hw
  rcases List.mem_cons.mp hw with rfl | hw
  · exact ⟨by decide, xcI, clL_13, by decide⟩
  · cases hw
set_option maxRecDepth 20000 in
theorem ct_w_position {T : gT} {I : gI} {J : gJ} {O : gO} {B ss : Nat} {S : Int → Int} {n : Int} {Rc Xt : Int → Int} {L : Int} (hW : WW B ss T I J O S n Rc Xt L) (hI : Inv S) {oa : Nat} {r b p : Int} (h0 : in32 r) (hb : b = 0 ∨ b = 1) (h1 : in32 p) (ho : T.2 oa = some (.inr (3, 1))) (hoa : ss + 94 < oa ∧ oa ≤ B) : CtH yL_position cL_position 6 (some .int) hhL_position [va_rf (some ss), VI r, VI b, VI p, va_rf (some oa)] 8 136 2 12 T I J O (wrQ ss oa T I J O (aThr r p 11) (fun T' I' J' O' z9 => z9 = i2L (rwP S r b p) ∧ WW B ss T' I' J' O' S n Rc Xt L) (fun T' I' J' O' => WW B ss T' I' J' O' S n Rc Xt L)) := by
  refine CtH.of (by decide) [some (va_rf (some ss)), some (VI r), some (VI b), some (VI p), some (va_rf (some oa)), none] (gEn1 (List.forall_mem_cons.mpr ⟨cat_VR _, List.forall_mem_cons.mpr ⟨cat_VI _, List.forall_mem_cons.mpr ⟨cat_VI _, List.forall_mem_cons.mpr ⟨cat_VI _, List.forall_mem_cons.mpr ⟨cat_VR _, fun _ h => nomatch h⟩⟩⟩⟩⟩) rfl (Nat.le_of_ble_eq_true rfl) rfl) ?_
  intro X x en rm tb hr
  have hr0 := hr
  have hss := hW.1.1.z.m
  have hBt := hW.1.2.2
  have hrg : (aThr r p 11) = 0 ∨ (aThr r p 11) = 1 ∨ (aThr r p 11) = 2 := by
    unfold aThr
    (repeat' split) <;> simp
  have hcat : ∀ cl T' I' J' O' (qa : Nat), cThr B ss T I J O (aThr r p 11) nIA S n Rc Xt L cl T' I' J' O' → ∃ hpc, gH hhL_position RL 7 cl hpc ∧ G X hpc [some (va_rf (some ss)), some (VI r), some (VI b), some (VI p), some (va_rf (some oa)), none] [va_rf (some qa)] T' I' J' O' (0 + 2) (0 + 12) := by
    intro cl T' I' J' O' qa h9
    obtain ⟨hne, hcl, hF9, hW9⟩ := h9
    rcases hrg with e | e | e
    · exact absurd e hne
    · refine ⟨15, by rw [hcl, e]; exact ghL_position_1, ?_⟩
      refine G_rg (fun hr => ?_)
      refine G_astore5 x eL_position_15 ?_
      refine G_push x eL_position_17 ?_
      refine G_ireturn x en eL_position_18 (by omega) (by omega) ?_
      exact ⟨by rw [e], hF9.o, fun z => absurd z hne, fun _ => hW9⟩
    · refine ⟨19, by rw [hcl, e]; exact ghL_position_2, ?_⟩
      refine G_rg (fun hr => ?_)
      refine G_astore5 x eL_position_19 ?_
      refine G_push x eL_position_21 ?_
      refine G_ireturn x en eL_position_22 (by omega) (by omega) ?_
      exact ⟨by rw [e], hF9.o, fun z => absurd z hne, fun _ => hW9⟩
  refine G_aload4 x eL_position_0 ?_
  refine G_push x eL_position_2 ?_
  refine G_aload0 x eL_position_3 ?_
  refine G_iload1 x eL_position_4 ?_
  refine G_iload2 x eL_position_5 ?_
  refine G_iload3 x eL_position_6 ?_
  refine G_cVC x tb eL_position_7 kL_31 ⟨im_yX10_position, se_yX10_position⟩ hss rm (ct_q_position hW hI h0 hb h1) hcat rfl (fun v9 T9 I9 J9 O9 p9 => ?_)
  refine G_rg (fun hr => ?_)
  obtain ⟨hth, rfl, hF9, hW9⟩ := p9
  have hoT : T9.2 oa = some (.inr (3, 1)) := by rw [(hF9.2 oa (by omega) (by omega)).1]; exact ho
  refine G_i2lg x eL_position_10 ?_
  refine G_last x eL_position_11 rfl hoT (by omega) (by omega) (by omega) ?_
  refine G_rg (fun hr => ?_)
  refine G_goto x eL_position_12 ?_
  refine G_push x eL_position_23 ?_
  refine G_ireturn x en eL_position_24 (by omega) (by omega) ?_
  exact ⟨by rw [hth], hF9.oj, fun _ => ⟨uJ_s, hW9.j hoa⟩, fun z => absurd hth z⟩
theorem ghL_place_1 : gH hhL_place RL 7 xcI 15 := by
  refine ⟨(tableOf hhL_place).take 0, _, _, rfl, ?_, rfl, by decide, clL_13, cs_I, rfl⟩
  exact fun w hw => nomatch hw
theorem ghL_place_2 : gH hhL_place RL 7 xcA 19 := by
  refine ⟨(tableOf hhL_place).take 1, _, _, rfl, ?_, rfl, by decide, clL_34, cs_A, rfl⟩
  intro w hw
  rcases List.mem_cons.mp hw with rfl | hw
  · exact ⟨by decide, xcI, clL_13, by decide⟩
  · cases hw
set_option maxRecDepth 20000 in
theorem ct_w_place {T : gT} {I : gI} {J : gJ} {O : gO} {B ss : Nat} {S : Int → Int} {n : Int} {Rc Xt : Int → Int} {L : Int} (hW : WW B ss T I J O S n Rc Xt L) (hI : Inv S) {oa : Nat} {r b p : Int} (h0 : in32 r) (hb : b = 0 ∨ b = 1) (h1 : in32 p) (ho : T.2 oa = some (.inr (3, 1))) (hoa : ss + 94 < oa ∧ oa ≤ B) : CtH yL_place cL_place 6 (some .int) hhL_place [va_rf (some ss), VI r, VI b, VI p, va_rf (some oa)] 8 136 2 12 T I J O (wrQ ss oa T I J O (aThr r p 11) (fun T' I' J' O' z9 => z9 = i2L (plS S r b p) ∧ WW B ss T' I' J' O' S n Rc Xt L) (fun T' I' J' O' => WW B ss T' I' J' O' S n Rc Xt L)) := by
  refine CtH.of (by decide) [some (va_rf (some ss)), some (VI r), some (VI b), some (VI p), some (va_rf (some oa)), none] (gEn1 (List.forall_mem_cons.mpr ⟨cat_VR _, List.forall_mem_cons.mpr ⟨cat_VI _, List.forall_mem_cons.mpr ⟨cat_VI _, List.forall_mem_cons.mpr ⟨cat_VI _, List.forall_mem_cons.mpr ⟨cat_VR _, fun _ h => nomatch h⟩⟩⟩⟩⟩) rfl (Nat.le_of_ble_eq_true rfl) rfl) ?_
  intro X x en rm tb hr
  have hr0 := hr
  have hss := hW.1.1.z.m
  have hBt := hW.1.2.2
  have hrg : (aThr r p 11) = 0 ∨ (aThr r p 11) = 1 ∨ (aThr r p 11) = 2 := by
    unfold aThr
    (repeat' split) <;> simp
  have hcat : ∀ cl T' I' J' O' (qa : Nat), cThr B ss T I J O (aThr r p 11) nIA S n Rc Xt L cl T' I' J' O' → ∃ hpc, gH hhL_place RL 7 cl hpc ∧ G X hpc [some (va_rf (some ss)), some (VI r), some (VI b), some (VI p), some (va_rf (some oa)), none] [va_rf (some qa)] T' I' J' O' (0 + 2) (0 + 12) := by
    intro cl T' I' J' O' qa h9
    obtain ⟨hne, hcl, hF9, hW9⟩ := h9
    rcases hrg with e | e | e
    · exact absurd e hne
    · refine ⟨15, by rw [hcl, e]; exact ghL_place_1, ?_⟩
      refine G_rg (fun hr => ?_)
      refine G_astore5 x eL_place_15 ?_
      refine G_push x eL_place_17 ?_
      refine G_ireturn x en eL_place_18 (by omega) (by omega) ?_
      exact ⟨by rw [e], hF9.o, fun z => absurd z hne, fun _ => hW9⟩
    · refine ⟨19, by rw [hcl, e]; exact ghL_place_2, ?_⟩
      refine G_rg (fun hr => ?_)
      refine G_astore5 x eL_place_19 ?_
      refine G_push x eL_place_21 ?_
      refine G_ireturn x en eL_place_22 (by omega) (by omega) ?_
      exact ⟨by rw [e], hF9.o, fun z => absurd z hne, fun _ => hW9⟩
  refine G_aload4 x eL_place_0 ?_
  refine G_push x eL_place_2 ?_
  refine G_aload0 x eL_place_3 ?_
  refine G_iload1 x eL_place_4 ?_
  refine G_iload2 x eL_place_5 ?_
  refine G_iload3 x eL_place_6 ?_
  refine G_cVC x tb eL_place_7 kL_36 ⟨im_yX10_place, se_yX10_place⟩ hss rm (ct_q_place hW hI h0 hb h1) hcat rfl (fun v9 T9 I9 J9 O9 p9 => ?_)
  refine G_rg (fun hr => ?_)
  obtain ⟨hth, rfl, hF9, hW9⟩ := p9
  have hoT : T9.2 oa = some (.inr (3, 1)) := by rw [(hF9.2 oa (by omega) (by omega)).1]; exact ho
  refine G_i2lg x eL_place_10 ?_
  refine G_last x eL_place_11 rfl hoT (by omega) (by omega) (by omega) ?_
  refine G_rg (fun hr => ?_)
  refine G_goto x eL_place_12 ?_
  refine G_push x eL_place_23 ?_
  refine G_ireturn x en eL_place_24 (by omega) (by omega) ?_
  exact ⟨by rw [hth], hF9.oj, fun _ => ⟨uJ_s, hW9.j hoa⟩, fun z => absurd hth z⟩
theorem ghL_setNumber_1 : gH hhL_setNumber RL 9 xcI 17 := by
  refine ⟨(tableOf hhL_setNumber).take 0, _, _, rfl, ?_, rfl, by decide, clL_13, cs_I, rfl⟩
  exact fun w hw => nomatch hw
theorem ghL_setNumber_2 : gH hhL_setNumber RL 9 xcA 21 := by
  refine ⟨(tableOf hhL_setNumber).take 1, _, _, rfl, ?_, rfl, by decide, clL_34, cs_A, rfl⟩
  intro w hw
  rcases List.mem_cons.mp hw with rfl | hw
  · exact ⟨by decide, xcI, clL_13, by decide⟩
  · cases hw
theorem ghL_setNumber_3 : gH hhL_setNumber RL 9 xcS 25 := by
  refine ⟨(tableOf hhL_setNumber).take 2, _, _, rfl, ?_, rfl, by decide, clL_15, cs_S, rfl⟩
  intro w hw
  rcases List.mem_cons.mp hw with rfl | hw
  · exact ⟨by decide, xcI, clL_13, by decide⟩
  · rcases List.mem_cons.mp hw with rfl | hw
    · exact ⟨by decide, xcA, clL_34, by decide⟩
    · cases hw
set_option maxRecDepth 20000 in
theorem ct_w_setNumber {T : gT} {I : gI} {J : gJ} {O : gO} {B ss : Nat} {S : Int → Int} {n : Int} {Rc Xt : Int → Int} {L : Int} (hW : WW B ss T I J O S n Rc Xt L) (hI : Inv S) {oa : Nat} {r row col num : Int} {f : Int → Int} (n0 : 0 ≤ n) (n1 : n ≤ 4) (h0 : in32 r) (h1 : in32 row) (h2 : in32 col) (h3 : in32 num) (ho : T.2 oa = some (.inr (3, 1))) (hoa : ss + 94 < oa ∧ oa ≤ B) : CtH yL_setNumber cL_setNumber 7 (some .int) hhL_setNumber [va_rf (some ss), VI r, VI row, VI col, VI num, va_rf (some oa)] 9 161 7 40 T I J O (wrQ ss oa T I J O (nmThr S r row col num) (fun T' I' J' O' z9 => z9 = i2L (S (3843 + 270 * r) + 1) ∧ WW B ss T' I' J' O' (wtS S r row col 1 num 0 f) (nEnd n) (rKeep Rc n (ctS S)) Xt L) (fun T' I' J' O' => WW B ss T' I' J' O' S n Rc Xt L)) := by
  refine CtH.of (by decide) [some (va_rf (some ss)), some (VI r), some (VI row), some (VI col), some (VI num), some (va_rf (some oa)), none] (gEn1 (List.forall_mem_cons.mpr ⟨cat_VR _, List.forall_mem_cons.mpr ⟨cat_VI _, List.forall_mem_cons.mpr ⟨cat_VI _, List.forall_mem_cons.mpr ⟨cat_VI _, List.forall_mem_cons.mpr ⟨cat_VI _, List.forall_mem_cons.mpr ⟨cat_VR _, fun _ h => nomatch h⟩⟩⟩⟩⟩⟩) rfl (Nat.le_of_ble_eq_true rfl) rfl) ?_
  intro X x en rm tb hr
  have hr0 := hr
  have hss := hW.1.1.z.m
  have hBt := hW.1.2.2
  have hrg : (nmThr S r row col num) = 0 ∨ (nmThr S r row col num) = 1 ∨ (nmThr S r row col num) = 2 ∨ (nmThr S r row col num) = 3 := by
    unfold nmThr
    (repeat' split) <;> simp
  have hcat : ∀ cl T' I' J' O' (qa : Nat), cThr B ss T I J O (nmThr S r row col num) nIAS S n Rc Xt L cl T' I' J' O' → ∃ hpc, gH hhL_setNumber RL 9 cl hpc ∧ G X hpc [some (va_rf (some ss)), some (VI r), some (VI row), some (VI col), some (VI num), some (va_rf (some oa)), none] [va_rf (some qa)] T' I' J' O' (0 + 7) (0 + 40) := by
    intro cl T' I' J' O' qa h9
    obtain ⟨hne, hcl, hF9, hW9⟩ := h9
    rcases hrg with e | e | e | e
    · exact absurd e hne
    · refine ⟨17, by rw [hcl, e]; exact ghL_setNumber_1, ?_⟩
      refine G_rg (fun hr => ?_)
      refine G_astore6 x eL_setNumber_17 ?_
      refine G_push x eL_setNumber_19 ?_
      refine G_ireturn x en eL_setNumber_20 (by omega) (by omega) ?_
      exact ⟨by rw [e], hF9.o, fun z => absurd z hne, fun _ => hW9⟩
    · refine ⟨21, by rw [hcl, e]; exact ghL_setNumber_2, ?_⟩
      refine G_rg (fun hr => ?_)
      refine G_astore6 x eL_setNumber_21 ?_
      refine G_push x eL_setNumber_23 ?_
      refine G_ireturn x en eL_setNumber_24 (by omega) (by omega) ?_
      exact ⟨by rw [e], hF9.o, fun z => absurd z hne, fun _ => hW9⟩
    · refine ⟨25, by rw [hcl, e]; exact ghL_setNumber_3, ?_⟩
      refine G_rg (fun hr => ?_)
      refine G_astore6 x eL_setNumber_25 ?_
      refine G_push x eL_setNumber_27 ?_
      refine G_ireturn x en eL_setNumber_28 (by omega) (by omega) ?_
      exact ⟨by rw [e], hF9.o, fun z => absurd z hne, fun _ => hW9⟩
  refine G_aload5 x eL_setNumber_0 ?_
  refine G_push x eL_setNumber_2 ?_
  refine G_aload0 x eL_setNumber_3 ?_
  refine G_iload1 x eL_setNumber_4 ?_
  refine G_iload2 x eL_setNumber_5 ?_
  refine G_iload3 x eL_setNumber_6 ?_
  refine G_iload4 x eL_setNumber_7 ?_
  refine G_cVC x tb eL_setNumber_9 kL_39 ⟨im_yX10_setNumber, se_yX10_setNumber⟩ hss rm (ct_q_setNumber (f := f) hW hI n0 n1 h0 h1 h2 h3) hcat rfl (fun v9 T9 I9 J9 O9 p9 => ?_)
  refine G_rg (fun hr => ?_)
  obtain ⟨hth, rfl, hF9, hW9⟩ := p9
  have hoT : T9.2 oa = some (.inr (3, 1)) := by rw [(hF9.2 oa (by omega) (by omega)).1]; exact ho
  refine G_i2lg x eL_setNumber_12 ?_
  refine G_last x eL_setNumber_13 rfl hoT (by omega) (by omega) (by omega) ?_
  refine G_rg (fun hr => ?_)
  refine G_goto x eL_setNumber_14 ?_
  refine G_push x eL_setNumber_29 ?_
  refine G_ireturn x en eL_setNumber_30 (by omega) (by omega) ?_
  exact ⟨by rw [hth], hF9.oj, fun _ => ⟨uJ_s, hW9.j hoa⟩, fun z => absurd hth z⟩
theorem ghL_clearCell_1 : gH hhL_clearCell RL 7 xcI 15 := by
  refine ⟨(tableOf hhL_clearCell).take 0, _, _, rfl, ?_, rfl, by decide, clL_13, cs_I, rfl⟩
  exact fun w hw => nomatch hw
theorem ghL_clearCell_2 : gH hhL_clearCell RL 7 xcS 19 := by
  refine ⟨(tableOf hhL_clearCell).take 1, _, _, rfl, ?_, rfl, by decide, clL_15, cs_S, rfl⟩
  intro w hw
  rcases List.mem_cons.mp hw with rfl | hw
  · exact ⟨by decide, xcI, clL_13, by decide⟩
  · cases hw
set_option maxRecDepth 20000 in
theorem ct_w_clearCell {T : gT} {I : gI} {J : gJ} {O : gO} {B ss : Nat} {S : Int → Int} {n : Int} {Rc Xt : Int → Int} {L : Int} (hW : WW B ss T I J O S n Rc Xt L) (hI : Inv S) {oa : Nat} {r row col : Int} {f : Int → Int} (n0 : 0 ≤ n) (n1 : n ≤ 4) (h0 : in32 r) (h1 : in32 row) (h2 : in32 col) (ho : T.2 oa = some (.inr (3, 1))) (hoa : ss + 94 < oa ∧ oa ≤ B) : CtH yL_clearCell cL_clearCell 6 (some .int) hhL_clearCell [va_rf (some ss), VI r, VI row, VI col, va_rf (some oa)] 9 160 6 34 T I J O (wrQ ss oa T I J O (clThr S r row col) (fun T' I' J' O' z9 => z9 = i2L (S (3843 + 270 * r) + 1) ∧ WW B ss T' I' J' O' (wtS S r row col 0 0 0 f) (nEnd n) (rKeep Rc n (ctS S)) Xt L) (fun T' I' J' O' => WW B ss T' I' J' O' S n Rc Xt L)) := by
  refine CtH.of (by decide) [some (va_rf (some ss)), some (VI r), some (VI row), some (VI col), some (va_rf (some oa)), none] (gEn1 (List.forall_mem_cons.mpr ⟨cat_VR _, List.forall_mem_cons.mpr ⟨cat_VI _, List.forall_mem_cons.mpr ⟨cat_VI _, List.forall_mem_cons.mpr ⟨cat_VI _, List.forall_mem_cons.mpr ⟨cat_VR _, fun _ h => nomatch h⟩⟩⟩⟩⟩) rfl (Nat.le_of_ble_eq_true rfl) rfl) ?_
  intro X x en rm tb hr
  have hr0 := hr
  have hss := hW.1.1.z.m
  have hBt := hW.1.2.2
  have hrg : (clThr S r row col) = 0 ∨ (clThr S r row col) = 1 ∨ (clThr S r row col) = 2 := by
    unfold clThr
    (repeat' split) <;> simp
  have hcat : ∀ cl T' I' J' O' (qa : Nat), cThr B ss T I J O (clThr S r row col) nIS S n Rc Xt L cl T' I' J' O' → ∃ hpc, gH hhL_clearCell RL 7 cl hpc ∧ G X hpc [some (va_rf (some ss)), some (VI r), some (VI row), some (VI col), some (va_rf (some oa)), none] [va_rf (some qa)] T' I' J' O' (0 + 6) (0 + 34) := by
    intro cl T' I' J' O' qa h9
    obtain ⟨hne, hcl, hF9, hW9⟩ := h9
    rcases hrg with e | e | e
    · exact absurd e hne
    · refine ⟨15, by rw [hcl, e]; exact ghL_clearCell_1, ?_⟩
      refine G_rg (fun hr => ?_)
      refine G_astore5 x eL_clearCell_15 ?_
      refine G_push x eL_clearCell_17 ?_
      refine G_ireturn x en eL_clearCell_18 (by omega) (by omega) ?_
      exact ⟨by rw [e], hF9.o, fun z => absurd z hne, fun _ => hW9⟩
    · refine ⟨19, by rw [hcl, e]; exact ghL_clearCell_2, ?_⟩
      refine G_rg (fun hr => ?_)
      refine G_astore5 x eL_clearCell_19 ?_
      refine G_push x eL_clearCell_21 ?_
      refine G_ireturn x en eL_clearCell_22 (by omega) (by omega) ?_
      exact ⟨by rw [e], hF9.o, fun z => absurd z hne, fun _ => hW9⟩
  refine G_aload4 x eL_clearCell_0 ?_
  refine G_push x eL_clearCell_2 ?_
  refine G_aload0 x eL_clearCell_3 ?_
  refine G_iload1 x eL_clearCell_4 ?_
  refine G_iload2 x eL_clearCell_5 ?_
  refine G_iload3 x eL_clearCell_6 ?_
  refine G_cVC x tb eL_clearCell_7 kL_43 ⟨im_yX10_clearCell, se_yX10_clearCell⟩ hss rm (ct_q_clearCell (f := f) hW hI n0 n1 h0 h1 h2) hcat rfl (fun v9 T9 I9 J9 O9 p9 => ?_)
  refine G_rg (fun hr => ?_)
  obtain ⟨hth, rfl, hF9, hW9⟩ := p9
  have hoT : T9.2 oa = some (.inr (3, 1)) := by rw [(hF9.2 oa (by omega) (by omega)).1]; exact ho
  refine G_i2lg x eL_clearCell_10 ?_
  refine G_last x eL_clearCell_11 rfl hoT (by omega) (by omega) (by omega) ?_
  refine G_rg (fun hr => ?_)
  refine G_goto x eL_clearCell_12 ?_
  refine G_push x eL_clearCell_23 ?_
  refine G_ireturn x en eL_clearCell_24 (by omega) (by omega) ?_
  exact ⟨by rw [hth], hF9.oj, fun _ => ⟨uJ_s, hW9.j hoa⟩, fun z => absurd hth z⟩
theorem ghL_setFormula_1 : gH hhL_setFormula RL 7 xcI 15 := by
  refine ⟨(tableOf hhL_setFormula).take 0, _, _, rfl, ?_, rfl, by decide, clL_13, cs_I, rfl⟩
  exact fun w hw => nomatch hw
theorem ghL_setFormula_2 : gH hhL_setFormula RL 7 xcA 19 := by
  refine ⟨(tableOf hhL_setFormula).take 1, _, _, rfl, ?_, rfl, by decide, clL_34, cs_A, rfl⟩
  intro w hw
  rcases List.mem_cons.mp hw with rfl | hw
  · exact ⟨by decide, xcI, clL_13, by decide⟩
  · cases hw
theorem ghL_setFormula_3 : gH hhL_setFormula RL 7 xcS 23 := by
  refine ⟨(tableOf hhL_setFormula).take 2, _, _, rfl, ?_, rfl, by decide, clL_15, cs_S, rfl⟩
  intro w hw
  rcases List.mem_cons.mp hw with rfl | hw
  · exact ⟨by decide, xcI, clL_13, by decide⟩
  · rcases List.mem_cons.mp hw with rfl | hw
    · exact ⟨by decide, xcA, clL_34, by decide⟩
    · cases hw
set_option maxRecDepth 20000 in
theorem ct_w_setFormula {T : gT} {I : gI} {J : gJ} {O : gO} {B ss : Nat} {S : Int → Int} {n : Int} {Rc Xt : Int → Int} {L : Int} (hW : WW B ss T I J O S n Rc Xt L) (hI : Inv S) {oa : Nat} {r row col : Int} (n0 : 0 ≤ n) (n1 : n ≤ 4) (hX : txW Xt L) (h0 : in32 r) (h1 : in32 row) (h2 : in32 col) (ho : T.2 oa = some (.inr (3, 1))) (hoa : ss + 94 < oa ∧ oa ≤ B) : CtH yL_setFormula cL_setFormula 6 (some .int) hhL_setFormula [va_rf (some ss), VI r, VI row, VI col, va_rf (some oa)] 9 160 10 140 T I J O (wrQ ss oa T I J O (fmThr Xt L S r row col) (fun T' I' J' O' z9 => z9 = i2L (S (3843 + 270 * r) + 1) ∧ WW B ss T' I' J' O' (wfS S r row col (tks (flS Xt L S r).2)) (nEnd n) (rKeep Rc n (ctS S)) Xt L) (fun T' I' J' O' => WW B ss T' I' J' O' S n Rc Xt L)) := by
  refine CtH.of (by decide) [some (va_rf (some ss)), some (VI r), some (VI row), some (VI col), some (va_rf (some oa)), none] (gEn1 (List.forall_mem_cons.mpr ⟨cat_VR _, List.forall_mem_cons.mpr ⟨cat_VI _, List.forall_mem_cons.mpr ⟨cat_VI _, List.forall_mem_cons.mpr ⟨cat_VI _, List.forall_mem_cons.mpr ⟨cat_VR _, fun _ h => nomatch h⟩⟩⟩⟩⟩) rfl (Nat.le_of_ble_eq_true rfl) rfl) ?_
  intro X x en rm tb hr
  have hr0 := hr
  have hss := hW.1.1.z.m
  have hBt := hW.1.2.2
  have hrg : (fmThr Xt L S r row col) = 0 ∨ (fmThr Xt L S r row col) = 1 ∨ (fmThr Xt L S r row col) = 2 ∨ (fmThr Xt L S r row col) = 3 := by
    unfold fmThr
    (repeat' split) <;> simp
  have hcat : ∀ cl T' I' J' O' (qa : Nat), cThr B ss T I J O (fmThr Xt L S r row col) nIAS S n Rc Xt L cl T' I' J' O' → ∃ hpc, gH hhL_setFormula RL 7 cl hpc ∧ G X hpc [some (va_rf (some ss)), some (VI r), some (VI row), some (VI col), some (va_rf (some oa)), none] [va_rf (some qa)] T' I' J' O' (0 + 10) (0 + 140) := by
    intro cl T' I' J' O' qa h9
    obtain ⟨hne, hcl, hF9, hW9⟩ := h9
    rcases hrg with e | e | e | e
    · exact absurd e hne
    · refine ⟨15, by rw [hcl, e]; exact ghL_setFormula_1, ?_⟩
      refine G_rg (fun hr => ?_)
      refine G_astore5 x eL_setFormula_15 ?_
      refine G_push x eL_setFormula_17 ?_
      refine G_ireturn x en eL_setFormula_18 (by omega) (by omega) ?_
      exact ⟨by rw [e], hF9.o, fun z => absurd z hne, fun _ => hW9⟩
    · refine ⟨19, by rw [hcl, e]; exact ghL_setFormula_2, ?_⟩
      refine G_rg (fun hr => ?_)
      refine G_astore5 x eL_setFormula_19 ?_
      refine G_push x eL_setFormula_21 ?_
      refine G_ireturn x en eL_setFormula_22 (by omega) (by omega) ?_
      exact ⟨by rw [e], hF9.o, fun z => absurd z hne, fun _ => hW9⟩
    · refine ⟨23, by rw [hcl, e]; exact ghL_setFormula_3, ?_⟩
      refine G_rg (fun hr => ?_)
      refine G_astore5 x eL_setFormula_23 ?_
      refine G_push x eL_setFormula_25 ?_
      refine G_ireturn x en eL_setFormula_26 (by omega) (by omega) ?_
      exact ⟨by rw [e], hF9.o, fun z => absurd z hne, fun _ => hW9⟩
  refine G_aload4 x eL_setFormula_0 ?_
  refine G_push x eL_setFormula_2 ?_
  refine G_aload0 x eL_setFormula_3 ?_
  refine G_iload1 x eL_setFormula_4 ?_
  refine G_iload2 x eL_setFormula_5 ?_
  refine G_iload3 x eL_setFormula_6 ?_
  refine G_cVC x tb eL_setFormula_7 kL_47 ⟨im_yX10_setFormula, se_yX10_setFormula⟩ hss rm (ct_q_setFormula hW hI n0 n1 hX h0 h1 h2) hcat rfl (fun v9 T9 I9 J9 O9 p9 => ?_)
  refine G_rg (fun hr => ?_)
  obtain ⟨hth, rfl, hF9, hW9⟩ := p9
  have hoT : T9.2 oa = some (.inr (3, 1)) := by rw [(hF9.2 oa (by omega) (by omega)).1]; exact ho
  refine G_i2lg x eL_setFormula_10 ?_
  refine G_last x eL_setFormula_11 rfl hoT (by omega) (by omega) (by omega) ?_
  refine G_rg (fun hr => ?_)
  refine G_goto x eL_setFormula_12 ?_
  refine G_push x eL_setFormula_27 ?_
  refine G_ireturn x en eL_setFormula_28 (by omega) (by omega) ?_
  exact ⟨by rw [hth], hF9.oj, fun _ => ⟨uJ_s, hW9.j hoa⟩, fun z => absurd hth z⟩
theorem ghL_cell_1 : gH hhL_cell RL 9 xcI 17 := by
  refine ⟨(tableOf hhL_cell).take 0, _, _, rfl, ?_, rfl, by decide, clL_13, cs_I, rfl⟩
  exact fun w hw => nomatch hw
theorem ghL_cell_2 : gH hhL_cell RL 9 xcA 21 := by
  refine ⟨(tableOf hhL_cell).take 1, _, _, rfl, ?_, rfl, by decide, clL_34, cs_A, rfl⟩
  intro w hw
  rcases List.mem_cons.mp hw with rfl | hw
  · exact ⟨by decide, xcI, clL_13, by decide⟩
  · cases hw
set_option maxRecDepth 20000 in
theorem ct_w_cell {T : gT} {I : gI} {J : gJ} {O : gO} {B ss : Nat} {S : Int → Int} {n : Int} {Rc Xt : Int → Int} {L : Int} (hW : WW B ss T I J O S n Rc Xt L) (hI : Inv S) {oa : Nat} {r row col w : Int} (h0 : in32 r) (h1 : in32 row) (h2 : in32 col) (h3 : in32 w) (ho : T.2 oa = some (.inr (3, 1))) (hoa : ss + 94 < oa ∧ oa ≤ B) : CtH yL_cell cL_cell 7 (some .int) hhL_cell [va_rf (some ss), VI r, VI row, VI col, VI w, va_rf (some oa)] 9 176 4 24 T I J O (wrQ ss oa T I J O (tlThr S r row col w) (fun T' I' J' O' z9 => z9 = i2L (tlS S r (12 * row + col) w) ∧ WW B ss T' I' J' O' S n Rc Xt L) (fun T' I' J' O' => WW B ss T' I' J' O' S n Rc Xt L)) := by
  refine CtH.of (by decide) [some (va_rf (some ss)), some (VI r), some (VI row), some (VI col), some (VI w), some (va_rf (some oa)), none] (gEn1 (List.forall_mem_cons.mpr ⟨cat_VR _, List.forall_mem_cons.mpr ⟨cat_VI _, List.forall_mem_cons.mpr ⟨cat_VI _, List.forall_mem_cons.mpr ⟨cat_VI _, List.forall_mem_cons.mpr ⟨cat_VI _, List.forall_mem_cons.mpr ⟨cat_VR _, fun _ h => nomatch h⟩⟩⟩⟩⟩⟩) rfl (Nat.le_of_ble_eq_true rfl) rfl) ?_
  intro X x en rm tb hr
  have hr0 := hr
  have hss := hW.1.1.z.m
  have hBt := hW.1.2.2
  have hrg : (tlThr S r row col w) = 0 ∨ (tlThr S r row col w) = 1 ∨ (tlThr S r row col w) = 2 := by
    unfold tlThr
    (repeat' split) <;> simp
  have hcat : ∀ cl T' I' J' O' (qa : Nat), cThr B ss T I J O (tlThr S r row col w) nIA S n Rc Xt L cl T' I' J' O' → ∃ hpc, gH hhL_cell RL 9 cl hpc ∧ G X hpc [some (va_rf (some ss)), some (VI r), some (VI row), some (VI col), some (VI w), some (va_rf (some oa)), none] [va_rf (some qa)] T' I' J' O' (0 + 4) (0 + 24) := by
    intro cl T' I' J' O' qa h9
    obtain ⟨hne, hcl, hF9, hW9⟩ := h9
    rcases hrg with e | e | e
    · exact absurd e hne
    · refine ⟨17, by rw [hcl, e]; exact ghL_cell_1, ?_⟩
      refine G_rg (fun hr => ?_)
      refine G_astore6 x eL_cell_17 ?_
      refine G_push x eL_cell_19 ?_
      refine G_ireturn x en eL_cell_20 (by omega) (by omega) ?_
      exact ⟨by rw [e], hF9.o, fun z => absurd z hne, fun _ => hW9⟩
    · refine ⟨21, by rw [hcl, e]; exact ghL_cell_2, ?_⟩
      refine G_rg (fun hr => ?_)
      refine G_astore6 x eL_cell_21 ?_
      refine G_push x eL_cell_23 ?_
      refine G_ireturn x en eL_cell_24 (by omega) (by omega) ?_
      exact ⟨by rw [e], hF9.o, fun z => absurd z hne, fun _ => hW9⟩
  refine G_aload5 x eL_cell_0 ?_
  refine G_push x eL_cell_2 ?_
  refine G_aload0 x eL_cell_3 ?_
  refine G_iload1 x eL_cell_4 ?_
  refine G_iload2 x eL_cell_5 ?_
  refine G_iload3 x eL_cell_6 ?_
  refine G_iload4 x eL_cell_7 ?_
  refine G_cVC x tb eL_cell_9 kL_50 ⟨im_yX10_cell, se_yX10_cell⟩ hss rm (ct_q_cell hW hI h0 h1 h2 h3) hcat rfl (fun v9 T9 I9 J9 O9 p9 => ?_)
  refine G_rg (fun hr => ?_)
  obtain ⟨hth, rfl, hF9, hW9⟩ := p9
  have hoT : T9.2 oa = some (.inr (3, 1)) := by rw [(hF9.2 oa (by omega) (by omega)).1]; exact ho
  refine G_i2lg x eL_cell_12 ?_
  refine G_last x eL_cell_13 rfl hoT (by omega) (by omega) (by omega) ?_
  refine G_rg (fun hr => ?_)
  refine G_goto x eL_cell_14 ?_
  refine G_push x eL_cell_25 ?_
  refine G_ireturn x en eL_cell_26 (by omega) (by omega) ?_
  exact ⟨by rw [hth], hF9.oj, fun _ => ⟨uJ_s, hW9.j hoa⟩, fun z => absurd hth z⟩
theorem ghL_value_1 : gH hhL_value RL 7 xcI 15 := by
  refine ⟨(tableOf hhL_value).take 0, _, _, rfl, ?_, rfl, by decide, clL_13, cs_I, rfl⟩
  exact fun w hw => nomatch hw
set_option maxRecDepth 20000 in
theorem ct_w_value {T : gT} {I : gI} {J : gJ} {O : gO} {B ss : Nat} {S : Int → Int} {n : Int} {Rc Xt : Int → Int} {L : Int} (hW : WW B ss T I J O S n Rc Xt L) (hI : Inv S) {oa : Nat} {r row col : Int} (h0 : in32 r) (h1 : in32 row) (h2 : in32 col)  (ho : T.2 oa = some (.inr (3, 1))) (hoa : ss + 94 < oa ∧ oa ≤ B) : CtH yL_value cL_value 6 (some .int) hhL_value [va_rf (some ss), VI r, VI row, VI col, va_rf (some oa)] 9 174 3 18 T I J O (wrQ ss oa T I J O (if cellIn S r row col then (0 : Int) else 1) (fun T' I' J' O' z9 => z9 = i2L ((Int32.ofInt ((vlP S r).1 (12 * row + col)).toInt).toInt) ∧ WW B ss T' I' J' O' S n Rc Xt L) (fun T' I' J' O' => WW B ss T' I' J' O' S n Rc Xt L)) := by
  refine CtH.of (by decide) [some (va_rf (some ss)), some (VI r), some (VI row), some (VI col), some (va_rf (some oa)), none] (gEn1 (List.forall_mem_cons.mpr ⟨cat_VR _, List.forall_mem_cons.mpr ⟨cat_VI _, List.forall_mem_cons.mpr ⟨cat_VI _, List.forall_mem_cons.mpr ⟨cat_VI _, List.forall_mem_cons.mpr ⟨cat_VR _, fun _ h => nomatch h⟩⟩⟩⟩⟩) rfl (Nat.le_of_ble_eq_true rfl) rfl) ?_
  intro X x en rm tb hr
  have hr0 := hr
  have hss := hW.1.1.z.m
  have hBt := hW.1.2.2
  have hrg : (if cellIn S r row col then (0 : Int) else 1) = 0 ∨ (if cellIn S r row col then (0 : Int) else 1) = 1 := by
    skip
    (repeat' split) <;> simp
  have hcat : ∀ cl T' I' J' O' (qa : Nat), cThr B ss T I J O (if cellIn S r row col then (0 : Int) else 1) nIS S n Rc Xt L cl T' I' J' O' → ∃ hpc, gH hhL_value RL 7 cl hpc ∧ G X hpc [some (va_rf (some ss)), some (VI r), some (VI row), some (VI col), some (va_rf (some oa)), none] [va_rf (some qa)] T' I' J' O' (0 + 3) (0 + 18) := by
    intro cl T' I' J' O' qa h9
    obtain ⟨hne, hcl, hF9, hW9⟩ := h9
    rcases hrg with e | e
    · exact absurd e hne
    · refine ⟨15, by rw [hcl, e]; exact ghL_value_1, ?_⟩
      refine G_rg (fun hr => ?_)
      refine G_astore5 x eL_value_15 ?_
      refine G_push x eL_value_17 ?_
      refine G_ireturn x en eL_value_18 (by omega) (by omega) ?_
      exact ⟨by rw [e], hF9.o, fun z => absurd z hne, fun _ => hW9⟩
  refine G_aload4 x eL_value_0 ?_
  refine G_push x eL_value_2 ?_
  refine G_aload0 x eL_value_3 ?_
  refine G_iload1 x eL_value_4 ?_
  refine G_iload2 x eL_value_5 ?_
  refine G_iload3 x eL_value_6 ?_
  refine G_cVC x tb eL_value_7 kL_53 ⟨im_yX10_value, se_yX10_value⟩ hss rm (ct_q_value hW hI h0 h1 h2) hcat rfl (fun v9 T9 I9 J9 O9 p9 => ?_)
  refine G_rg (fun hr => ?_)
  obtain ⟨hth, rfl, hF9, hW9⟩ := p9
  have hoT : T9.2 oa = some (.inr (3, 1)) := by rw [(hF9.2 oa (by omega) (by omega)).1]; exact ho
  refine G_i2lg x eL_value_10 ?_
  refine G_last x eL_value_11 rfl hoT (by omega) (by omega) (by omega) ?_
  refine G_rg (fun hr => ?_)
  refine G_goto x eL_value_12 ?_
  refine G_push x eL_value_19 ?_
  refine G_ireturn x en eL_value_20 (by omega) (by omega) ?_
  exact ⟨by rw [hth], hF9.oj, fun _ => ⟨uJ_s, hW9.j hoa⟩, fun z => absurd hth z⟩
theorem ghL_error_1 : gH hhL_error RL 7 xcI 15 := by
  refine ⟨(tableOf hhL_error).take 0, _, _, rfl, ?_, rfl, by decide, clL_13, cs_I, rfl⟩
  exact fun w hw => nomatch hw
set_option maxRecDepth 20000 in
theorem ct_w_error {T : gT} {I : gI} {J : gJ} {O : gO} {B ss : Nat} {S : Int → Int} {n : Int} {Rc Xt : Int → Int} {L : Int} (hW : WW B ss T I J O S n Rc Xt L) (hI : Inv S) {oa : Nat} {r row col : Int} (h0 : in32 r) (h1 : in32 row) (h2 : in32 col)  (ho : T.2 oa = some (.inr (3, 1))) (hoa : ss + 94 < oa ∧ oa ≤ B) : CtH yL_error cL_error 6 (some .int) hhL_error [va_rf (some ss), VI r, VI row, VI col, va_rf (some oa)] 9 174 3 18 T I J O (wrQ ss oa T I J O (if cellIn S r row col then (0 : Int) else 1) (fun T' I' J' O' z9 => z9 = i2L ((vlP S r).2 (12 * row + col)) ∧ WW B ss T' I' J' O' S n Rc Xt L) (fun T' I' J' O' => WW B ss T' I' J' O' S n Rc Xt L)) := by
  refine CtH.of (by decide) [some (va_rf (some ss)), some (VI r), some (VI row), some (VI col), some (va_rf (some oa)), none] (gEn1 (List.forall_mem_cons.mpr ⟨cat_VR _, List.forall_mem_cons.mpr ⟨cat_VI _, List.forall_mem_cons.mpr ⟨cat_VI _, List.forall_mem_cons.mpr ⟨cat_VI _, List.forall_mem_cons.mpr ⟨cat_VR _, fun _ h => nomatch h⟩⟩⟩⟩⟩) rfl (Nat.le_of_ble_eq_true rfl) rfl) ?_
  intro X x en rm tb hr
  have hr0 := hr
  have hss := hW.1.1.z.m
  have hBt := hW.1.2.2
  have hrg : (if cellIn S r row col then (0 : Int) else 1) = 0 ∨ (if cellIn S r row col then (0 : Int) else 1) = 1 := by
    skip
    (repeat' split) <;> simp
  have hcat : ∀ cl T' I' J' O' (qa : Nat), cThr B ss T I J O (if cellIn S r row col then (0 : Int) else 1) nIS S n Rc Xt L cl T' I' J' O' → ∃ hpc, gH hhL_error RL 7 cl hpc ∧ G X hpc [some (va_rf (some ss)), some (VI r), some (VI row), some (VI col), some (va_rf (some oa)), none] [va_rf (some qa)] T' I' J' O' (0 + 3) (0 + 18) := by
    intro cl T' I' J' O' qa h9
    obtain ⟨hne, hcl, hF9, hW9⟩ := h9
    rcases hrg with e | e
    · exact absurd e hne
    · refine ⟨15, by rw [hcl, e]; exact ghL_error_1, ?_⟩
      refine G_rg (fun hr => ?_)
      refine G_astore5 x eL_error_15 ?_
      refine G_push x eL_error_17 ?_
      refine G_ireturn x en eL_error_18 (by omega) (by omega) ?_
      exact ⟨by rw [e], hF9.o, fun z => absurd z hne, fun _ => hW9⟩
  refine G_aload4 x eL_error_0 ?_
  refine G_push x eL_error_2 ?_
  refine G_aload0 x eL_error_3 ?_
  refine G_iload1 x eL_error_4 ?_
  refine G_iload2 x eL_error_5 ?_
  refine G_iload3 x eL_error_6 ?_
  refine G_cVC x tb eL_error_7 kL_56 ⟨im_yX10_error, se_yX10_error⟩ hss rm (ct_q_error hW hI h0 h1 h2) hcat rfl (fun v9 T9 I9 J9 O9 p9 => ?_)
  refine G_rg (fun hr => ?_)
  obtain ⟨hth, rfl, hF9, hW9⟩ := p9
  have hoT : T9.2 oa = some (.inr (3, 1)) := by rw [(hF9.2 oa (by omega) (by omega)).1]; exact ho
  refine G_i2lg x eL_error_10 ?_
  refine G_last x eL_error_11 rfl hoT (by omega) (by omega) (by omega) ?_
  refine G_rg (fun hr => ?_)
  refine G_goto x eL_error_12 ?_
  refine G_push x eL_error_19 ?_
  refine G_ireturn x en eL_error_20 (by omega) (by omega) ?_
  exact ⟨by rw [hth], hF9.oj, fun _ => ⟨uJ_s, hW9.j hoa⟩, fun z => absurd hth z⟩
theorem ghL_write_1 : gH hhL_write RL 7 xcI 15 := by
  refine ⟨(tableOf hhL_write).take 0, _, _, rfl, ?_, rfl, by decide, clL_13, cs_I, rfl⟩
  exact fun w hw => nomatch hw
theorem ghL_write_2 : gH hhL_write RL 7 xcS 19 := by
  refine ⟨(tableOf hhL_write).take 1, _, _, rfl, ?_, rfl, by decide, clL_15, cs_S, rfl⟩
  intro w hw
  rcases List.mem_cons.mp hw with rfl | hw
  · exact ⟨by decide, xcI, clL_13, by decide⟩
  · cases hw
set_option maxRecDepth 20000 in
theorem ct_w_write {T : gT} {I : gI} {J : gJ} {O : gO} {B ss : Nat} {S : Int → Int} {n : Int} {Rc Xt : Int → Int} {L : Int} (hW : WW B ss T I J O S n Rc Xt L) (hI : Inv S) {oa : Nat} {r row col : Int} (h0 : in32 r) (h1 : in32 row) (h2 : in32 col) (hX : txW Xt L) (ho : T.2 oa = some (.inr (3, 1))) (hoa : ss + 94 < oa ∧ oa ≤ B) : CtH yL_write cL_write 6 (some .int) hhL_write [va_rf (some ss), VI r, VI row, VI col, va_rf (some oa)] 9 158 4 24 T I J O (wrQ ss oa T I J O (wtThr S r row col) (fun T' I' J' O' z9 => ∃ fl, fmlAt S (idS S r (12 * row + col)) fl ∧ z9 = i2L ((wtT S r fl).length : Nat) ∧ WW B ss T' I' J' O' S n Rc (txA Xt 0 (wtT S r fl)) ((wtT S r fl).length : Nat)) (fun T' I' J' O' => WW B ss T' I' J' O' S n Rc Xt L)) := by
  refine CtH.of (by decide) [some (va_rf (some ss)), some (VI r), some (VI row), some (VI col), some (va_rf (some oa)), none] (gEn1 (List.forall_mem_cons.mpr ⟨cat_VR _, List.forall_mem_cons.mpr ⟨cat_VI _, List.forall_mem_cons.mpr ⟨cat_VI _, List.forall_mem_cons.mpr ⟨cat_VI _, List.forall_mem_cons.mpr ⟨cat_VR _, fun _ h => nomatch h⟩⟩⟩⟩⟩) rfl (Nat.le_of_ble_eq_true rfl) rfl) ?_
  intro X x en rm tb hr
  have hr0 := hr
  have hss := hW.1.1.z.m
  have hBt := hW.1.2.2
  have hrg : (wtThr S r row col) = 0 ∨ (wtThr S r row col) = 1 ∨ (wtThr S r row col) = 2 := by
    unfold wtThr
    (repeat' split) <;> simp
  have hcat : ∀ cl T' I' J' O' (qa : Nat), cThr B ss T I J O (wtThr S r row col) nIS S n Rc Xt L cl T' I' J' O' → ∃ hpc, gH hhL_write RL 7 cl hpc ∧ G X hpc [some (va_rf (some ss)), some (VI r), some (VI row), some (VI col), some (va_rf (some oa)), none] [va_rf (some qa)] T' I' J' O' (0 + 4) (0 + 24) := by
    intro cl T' I' J' O' qa h9
    obtain ⟨hne, hcl, hF9, hW9⟩ := h9
    rcases hrg with e | e | e
    · exact absurd e hne
    · refine ⟨15, by rw [hcl, e]; exact ghL_write_1, ?_⟩
      refine G_rg (fun hr => ?_)
      refine G_astore5 x eL_write_15 ?_
      refine G_push x eL_write_17 ?_
      refine G_ireturn x en eL_write_18 (by omega) (by omega) ?_
      exact ⟨by rw [e], hF9.o, fun z => absurd z hne, fun _ => hW9⟩
    · refine ⟨19, by rw [hcl, e]; exact ghL_write_2, ?_⟩
      refine G_rg (fun hr => ?_)
      refine G_astore5 x eL_write_19 ?_
      refine G_push x eL_write_21 ?_
      refine G_ireturn x en eL_write_22 (by omega) (by omega) ?_
      exact ⟨by rw [e], hF9.o, fun z => absurd z hne, fun _ => hW9⟩
  refine G_aload4 x eL_write_0 ?_
  refine G_push x eL_write_2 ?_
  refine G_aload0 x eL_write_3 ?_
  refine G_iload1 x eL_write_4 ?_
  refine G_iload2 x eL_write_5 ?_
  refine G_iload3 x eL_write_6 ?_
  refine G_cVC x tb eL_write_7 kL_59 ⟨im_yX10_write, se_yX10_write⟩ hss rm (ct_q_write hW hI h0 h1 h2 hX) hcat rfl (fun v9 T9 I9 J9 O9 p9 => ?_)
  refine G_rg (fun hr => ?_)
  obtain ⟨fl, hfl, hth, rfl, hF9, hW9⟩ := p9
  have hoT : T9.2 oa = some (.inr (3, 1)) := by rw [(hF9.2 oa (by omega) (by omega)).1]; exact ho
  refine G_i2lg x eL_write_10 ?_
  refine G_last x eL_write_11 rfl hoT (by omega) (by omega) (by omega) ?_
  refine G_rg (fun hr => ?_)
  refine G_goto x eL_write_12 ?_
  refine G_push x eL_write_23 ?_
  refine G_ireturn x en eL_write_24 (by omega) (by omega) ?_
  exact ⟨by rw [hth], hF9.oj, fun _ => ⟨fl, hfl, uJ_s, hW9.j hoa⟩, fun z => absurd hth z⟩
theorem ghL_cycles_1 : gH hhL_cycles RL 4 xcI 12 := by
  refine ⟨(tableOf hhL_cycles).take 0, _, _, rfl, ?_, rfl, by decide, clL_13, cs_I, rfl⟩
  exact fun w hw => nomatch hw
set_option maxRecDepth 20000 in
theorem ct_w_cycles {T : gT} {I : gI} {J : gJ} {O : gO} {B ss : Nat} {S : Int → Int} {n : Int} {Rc Xt : Int → Int} {L : Int} (hW : WW B ss T I J O S n Rc Xt L) (hI : Inv S) {oa : Nat} {r : Int} (h0 : in32 r)  (ho : T.2 oa = some (.inr (3, 1))) (hoa : ss + 94 < oa ∧ oa ≤ B) : CtH yL_cycles cL_cycles 4 (some .int) hhL_cycles [va_rf (some ss), VI r, va_rf (some oa)] 8 172 1 6 T I J O (wrQ ss oa T I J O (iThr r) (fun T' I' J' O' z9 => z9 = i2L (ncS S r) ∧ WW B ss T' I' J' O' S n Rc Xt L) (fun T' I' J' O' => WW B ss T' I' J' O' S n Rc Xt L)) := by
  refine CtH.of (by decide) [some (va_rf (some ss)), some (VI r), some (va_rf (some oa)), none] (gEn1 (List.forall_mem_cons.mpr ⟨cat_VR _, List.forall_mem_cons.mpr ⟨cat_VI _, List.forall_mem_cons.mpr ⟨cat_VR _, fun _ h => nomatch h⟩⟩⟩) rfl (Nat.le_of_ble_eq_true rfl) rfl) ?_
  intro X x en rm tb hr
  have hr0 := hr
  have hss := hW.1.1.z.m
  have hBt := hW.1.2.2
  have hrg : (iThr r) = 0 ∨ (iThr r) = 1 := by
    unfold iThr
    (repeat' split) <;> simp
  have hcat : ∀ cl T' I' J' O' (qa : Nat), cThr B ss T I J O (iThr r) nIS S n Rc Xt L cl T' I' J' O' → ∃ hpc, gH hhL_cycles RL 4 cl hpc ∧ G X hpc [some (va_rf (some ss)), some (VI r), some (va_rf (some oa)), none] [va_rf (some qa)] T' I' J' O' (0 + 1) (0 + 6) := by
    intro cl T' I' J' O' qa h9
    obtain ⟨hne, hcl, hF9, hW9⟩ := h9
    rcases hrg with e | e
    · exact absurd e hne
    · refine ⟨12, by rw [hcl, e]; exact ghL_cycles_1, ?_⟩
      refine G_rg (fun hr => ?_)
      refine G_astore3 x eL_cycles_12 ?_
      refine G_push x eL_cycles_13 ?_
      refine G_ireturn x en eL_cycles_14 (by omega) (by omega) ?_
      exact ⟨by rw [e], hF9.o, fun z => absurd z hne, fun _ => hW9⟩
  refine G_aload2 x eL_cycles_0 ?_
  refine G_push x eL_cycles_1 ?_
  refine G_aload0 x eL_cycles_2 ?_
  refine G_iload1 x eL_cycles_3 ?_
  refine G_cVC x tb eL_cycles_4 kL_62 ⟨im_yX10_cycles, se_yX10_cycles⟩ hss rm (ct_q_cycles hW hI h0) hcat rfl (fun v9 T9 I9 J9 O9 p9 => ?_)
  refine G_rg (fun hr => ?_)
  obtain ⟨hth, rfl, hF9, hW9⟩ := p9
  have hoT : T9.2 oa = some (.inr (3, 1)) := by rw [(hF9.2 oa (by omega) (by omega)).1]; exact ho
  refine G_i2lg x eL_cycles_7 ?_
  refine G_last x eL_cycles_8 rfl hoT (by omega) (by omega) (by omega) ?_
  refine G_rg (fun hr => ?_)
  refine G_goto x eL_cycles_9 ?_
  refine G_push x eL_cycles_15 ?_
  refine G_ireturn x en eL_cycles_16 (by omega) (by omega) ?_
  exact ⟨by rw [hth], hF9.oj, fun _ => ⟨uJ_s, hW9.j hoa⟩, fun z => absurd hth z⟩
theorem ghL_order_1 : gH hhL_order RL 5 xcI 13 := by
  refine ⟨(tableOf hhL_order).take 0, _, _, rfl, ?_, rfl, by decide, clL_13, cs_I, rfl⟩
  exact fun w hw => nomatch hw
set_option maxRecDepth 20000 in
theorem ct_w_order {T : gT} {I : gI} {J : gJ} {O : gO} {B ss : Nat} {S : Int → Int} {n : Int} {Rc Xt : Int → Int} {L : Int} (hW : WW B ss T I J O S n Rc Xt L) (hI : Inv S) {oa : Nat} {r k : Int} (h0 : in32 r) (h1 : in32 k) (ho : T.2 oa = some (.inr (3, 1))) (hoa : ss + 94 < oa ∧ oa ≤ B) : CtH yL_order cL_order 5 (some .int) hhL_order [va_rf (some ss), VI r, VI k, va_rf (some oa)] 8 173 1 6 T I J O (wrQ ss oa T I J O (iThr r) (fun T' I' J' O' z9 => z9 = i2L (orA S r k) ∧ WW B ss T' I' J' O' S n Rc Xt L) (fun T' I' J' O' => WW B ss T' I' J' O' S n Rc Xt L)) := by
  refine CtH.of (by decide) [some (va_rf (some ss)), some (VI r), some (VI k), some (va_rf (some oa)), none] (gEn1 (List.forall_mem_cons.mpr ⟨cat_VR _, List.forall_mem_cons.mpr ⟨cat_VI _, List.forall_mem_cons.mpr ⟨cat_VI _, List.forall_mem_cons.mpr ⟨cat_VR _, fun _ h => nomatch h⟩⟩⟩⟩) rfl (Nat.le_of_ble_eq_true rfl) rfl) ?_
  intro X x en rm tb hr
  have hr0 := hr
  have hss := hW.1.1.z.m
  have hBt := hW.1.2.2
  have hrg : (iThr r) = 0 ∨ (iThr r) = 1 := by
    unfold iThr
    (repeat' split) <;> simp
  have hcat : ∀ cl T' I' J' O' (qa : Nat), cThr B ss T I J O (iThr r) nIS S n Rc Xt L cl T' I' J' O' → ∃ hpc, gH hhL_order RL 5 cl hpc ∧ G X hpc [some (va_rf (some ss)), some (VI r), some (VI k), some (va_rf (some oa)), none] [va_rf (some qa)] T' I' J' O' (0 + 1) (0 + 6) := by
    intro cl T' I' J' O' qa h9
    obtain ⟨hne, hcl, hF9, hW9⟩ := h9
    rcases hrg with e | e
    · exact absurd e hne
    · refine ⟨13, by rw [hcl, e]; exact ghL_order_1, ?_⟩
      refine G_rg (fun hr => ?_)
      refine G_astore4 x eL_order_13 ?_
      refine G_push x eL_order_15 ?_
      refine G_ireturn x en eL_order_16 (by omega) (by omega) ?_
      exact ⟨by rw [e], hF9.o, fun z => absurd z hne, fun _ => hW9⟩
  refine G_aload3 x eL_order_0 ?_
  refine G_push x eL_order_1 ?_
  refine G_aload0 x eL_order_2 ?_
  refine G_iload1 x eL_order_3 ?_
  refine G_iload2 x eL_order_4 ?_
  refine G_cVC x tb eL_order_5 kL_66 ⟨im_yX10_order, se_yX10_order⟩ hss rm (ct_q_order hW hI h0 h1) hcat rfl (fun v9 T9 I9 J9 O9 p9 => ?_)
  refine G_rg (fun hr => ?_)
  obtain ⟨hth, rfl, hF9, hW9⟩ := p9
  have hoT : T9.2 oa = some (.inr (3, 1)) := by rw [(hF9.2 oa (by omega) (by omega)).1]; exact ho
  refine G_i2lg x eL_order_8 ?_
  refine G_last x eL_order_9 rfl hoT (by omega) (by omega) (by omega) ?_
  refine G_rg (fun hr => ?_)
  refine G_goto x eL_order_10 ?_
  refine G_push x eL_order_17 ?_
  refine G_ireturn x en eL_order_18 (by omega) (by omega) ?_
  exact ⟨by rw [hth], hF9.oj, fun _ => ⟨uJ_s, hW9.j hoa⟩, fun z => absurd hth z⟩
theorem ghL_receive_1 : gH hhL_receive RL 7 xcI 15 := by
  refine ⟨(tableOf hhL_receive).take 0, _, _, rfl, ?_, rfl, by decide, clL_13, cs_I, rfl⟩
  exact fun w hw => nomatch hw
theorem ghL_receive_2 : gH hhL_receive RL 7 xcA 19 := by
  refine ⟨(tableOf hhL_receive).take 1, _, _, rfl, ?_, rfl, by decide, clL_34, cs_A, rfl⟩
  intro w hw
  rcases List.mem_cons.mp hw with rfl | hw
  · exact ⟨by decide, xcI, clL_13, by decide⟩
  · cases hw
set_option maxRecDepth 20000 in
theorem ct_w_receive {T : gT} {I : gI} {J : gJ} {O : gO} {B ss : Nat} {S : Int → Int} {n : Int} {Rc Xt : Int → Int} {L : Int} (hW : WW B ss T I J O S n Rc Xt L) (hI : Inv S) {oa : Nat} {r f m : Int} (n0 : 0 ≤ n) (n1 : n ≤ 4) (h0 : in32 r) (h1 : in32 f) (h2 : in32 m) (ho : T.2 oa = some (.inr (3, 1))) (hoa : ss + 94 < oa ∧ oa ≤ B) : CtH yL_receive cL_receive 6 (some .int) hhL_receive [va_rf (some ss), VI r, VI f, VI m, va_rf (some oa)] 8 137 4 24 T I J O (wrQ ss oa T I J O (rcThr r f m) (fun T' I' J' O' z9 => z9 = i2L (gtN S r f m) ∧ WW B ss T' I' J' O' (gtS S r f m) (nEnd n) (rKeep Rc n (ctS S)) Xt L) (fun T' I' J' O' => WW B ss T' I' J' O' S n Rc Xt L)) := by
  refine CtH.of (by decide) [some (va_rf (some ss)), some (VI r), some (VI f), some (VI m), some (va_rf (some oa)), none] (gEn1 (List.forall_mem_cons.mpr ⟨cat_VR _, List.forall_mem_cons.mpr ⟨cat_VI _, List.forall_mem_cons.mpr ⟨cat_VI _, List.forall_mem_cons.mpr ⟨cat_VI _, List.forall_mem_cons.mpr ⟨cat_VR _, fun _ h => nomatch h⟩⟩⟩⟩⟩) rfl (Nat.le_of_ble_eq_true rfl) rfl) ?_
  intro X x en rm tb hr
  have hr0 := hr
  have hss := hW.1.1.z.m
  have hBt := hW.1.2.2
  have hrg : (rcThr r f m) = 0 ∨ (rcThr r f m) = 1 ∨ (rcThr r f m) = 2 := by
    unfold rcThr
    (repeat' split) <;> simp
  have hcat : ∀ cl T' I' J' O' (qa : Nat), cThr B ss T I J O (rcThr r f m) nIA S n Rc Xt L cl T' I' J' O' → ∃ hpc, gH hhL_receive RL 7 cl hpc ∧ G X hpc [some (va_rf (some ss)), some (VI r), some (VI f), some (VI m), some (va_rf (some oa)), none] [va_rf (some qa)] T' I' J' O' (0 + 4) (0 + 24) := by
    intro cl T' I' J' O' qa h9
    obtain ⟨hne, hcl, hF9, hW9⟩ := h9
    rcases hrg with e | e | e
    · exact absurd e hne
    · refine ⟨15, by rw [hcl, e]; exact ghL_receive_1, ?_⟩
      refine G_rg (fun hr => ?_)
      refine G_astore5 x eL_receive_15 ?_
      refine G_push x eL_receive_17 ?_
      refine G_ireturn x en eL_receive_18 (by omega) (by omega) ?_
      exact ⟨by rw [e], hF9.o, fun z => absurd z hne, fun _ => hW9⟩
    · refine ⟨19, by rw [hcl, e]; exact ghL_receive_2, ?_⟩
      refine G_rg (fun hr => ?_)
      refine G_astore5 x eL_receive_19 ?_
      refine G_push x eL_receive_21 ?_
      refine G_ireturn x en eL_receive_22 (by omega) (by omega) ?_
      exact ⟨by rw [e], hF9.o, fun z => absurd z hne, fun _ => hW9⟩
  refine G_aload4 x eL_receive_0 ?_
  refine G_push x eL_receive_2 ?_
  refine G_aload0 x eL_receive_3 ?_
  refine G_iload1 x eL_receive_4 ?_
  refine G_iload2 x eL_receive_5 ?_
  refine G_iload3 x eL_receive_6 ?_
  refine G_cVC x tb eL_receive_7 kL_70 ⟨im_yX10_receive, se_yX10_receive⟩ hss rm (ct_q_receive hW hI n0 n1 h0 h1 h2) hcat rfl (fun v9 T9 I9 J9 O9 p9 => ?_)
  refine G_rg (fun hr => ?_)
  obtain ⟨hth, rfl, hF9, hW9⟩ := p9
  have hoT : T9.2 oa = some (.inr (3, 1)) := by rw [(hF9.2 oa (by omega) (by omega)).1]; exact ho
  refine G_i2lg x eL_receive_10 ?_
  refine G_last x eL_receive_11 rfl hoT (by omega) (by omega) (by omega) ?_
  refine G_rg (fun hr => ?_)
  refine G_goto x eL_receive_12 ?_
  refine G_push x eL_receive_23 ?_
  refine G_ireturn x en eL_receive_24 (by omega) (by omega) ?_
  exact ⟨by rw [hth], hF9.oj, fun _ => ⟨uJ_s, hW9.j hoa⟩, fun z => absurd hth z⟩
theorem ghL_missing_1 : gH hhL_missing RL 5 xcI 13 := by
  refine ⟨(tableOf hhL_missing).take 0, _, _, rfl, ?_, rfl, by decide, clL_13, cs_I, rfl⟩
  exact fun w hw => nomatch hw
theorem ghL_missing_2 : gH hhL_missing RL 5 xcA 17 := by
  refine ⟨(tableOf hhL_missing).take 1, _, _, rfl, ?_, rfl, by decide, clL_34, cs_A, rfl⟩
  intro w hw
  rcases List.mem_cons.mp hw with rfl | hw
  · exact ⟨by decide, xcI, clL_13, by decide⟩
  · cases hw
set_option maxRecDepth 20000 in
theorem ct_w_missing {T : gT} {I : gI} {J : gJ} {O : gO} {B ss : Nat} {S : Int → Int} {n : Int} {Rc Xt : Int → Int} {L : Int} (hW : WW B ss T I J O S n Rc Xt L) (hI : Inv S) {oa : Nat} {r f : Int} (h0 : in32 r) (h1 : in32 f) (ho : T.2 oa = some (.inr (3, 1))) (hoa : ss + 94 < oa ∧ oa ≤ B) : CtH yL_missing cL_missing 5 (some .int) hhL_missing [va_rf (some ss), VI r, VI f, va_rf (some oa)] 8 135 3 18 T I J O (wrQ ss oa T I J O (msThr r f) (fun T' I' J' O' z9 => z9 = i2L (S f - S (cIx r f)) ∧ WW B ss T' I' J' O' S n Rc Xt L) (fun T' I' J' O' => WW B ss T' I' J' O' S n Rc Xt L)) := by
  refine CtH.of (by decide) [some (va_rf (some ss)), some (VI r), some (VI f), some (va_rf (some oa)), none] (gEn1 (List.forall_mem_cons.mpr ⟨cat_VR _, List.forall_mem_cons.mpr ⟨cat_VI _, List.forall_mem_cons.mpr ⟨cat_VI _, List.forall_mem_cons.mpr ⟨cat_VR _, fun _ h => nomatch h⟩⟩⟩⟩) rfl (Nat.le_of_ble_eq_true rfl) rfl) ?_
  intro X x en rm tb hr
  have hr0 := hr
  have hss := hW.1.1.z.m
  have hBt := hW.1.2.2
  have hrg : (msThr r f) = 0 ∨ (msThr r f) = 1 ∨ (msThr r f) = 2 := by
    unfold msThr
    (repeat' split) <;> simp
  have hcat : ∀ cl T' I' J' O' (qa : Nat), cThr B ss T I J O (msThr r f) nIA S n Rc Xt L cl T' I' J' O' → ∃ hpc, gH hhL_missing RL 5 cl hpc ∧ G X hpc [some (va_rf (some ss)), some (VI r), some (VI f), some (va_rf (some oa)), none] [va_rf (some qa)] T' I' J' O' (0 + 3) (0 + 18) := by
    intro cl T' I' J' O' qa h9
    obtain ⟨hne, hcl, hF9, hW9⟩ := h9
    rcases hrg with e | e | e
    · exact absurd e hne
    · refine ⟨13, by rw [hcl, e]; exact ghL_missing_1, ?_⟩
      refine G_rg (fun hr => ?_)
      refine G_astore4 x eL_missing_13 ?_
      refine G_push x eL_missing_15 ?_
      refine G_ireturn x en eL_missing_16 (by omega) (by omega) ?_
      exact ⟨by rw [e], hF9.o, fun z => absurd z hne, fun _ => hW9⟩
    · refine ⟨17, by rw [hcl, e]; exact ghL_missing_2, ?_⟩
      refine G_rg (fun hr => ?_)
      refine G_astore4 x eL_missing_17 ?_
      refine G_push x eL_missing_19 ?_
      refine G_ireturn x en eL_missing_20 (by omega) (by omega) ?_
      exact ⟨by rw [e], hF9.o, fun z => absurd z hne, fun _ => hW9⟩
  refine G_aload3 x eL_missing_0 ?_
  refine G_push x eL_missing_1 ?_
  refine G_aload0 x eL_missing_2 ?_
  refine G_iload1 x eL_missing_3 ?_
  refine G_iload2 x eL_missing_4 ?_
  refine G_cVC x tb eL_missing_5 kL_73 ⟨im_yX10_missing, se_yX10_missing⟩ hss rm (ct_q_missing hW hI h0 h1) hcat rfl (fun v9 T9 I9 J9 O9 p9 => ?_)
  refine G_rg (fun hr => ?_)
  obtain ⟨hth, rfl, hF9, hW9⟩ := p9
  have hoT : T9.2 oa = some (.inr (3, 1)) := by rw [(hF9.2 oa (by omega) (by omega)).1]; exact ho
  refine G_i2lg x eL_missing_8 ?_
  refine G_last x eL_missing_9 rfl hoT (by omega) (by omega) (by omega) ?_
  refine G_rg (fun hr => ?_)
  refine G_goto x eL_missing_10 ?_
  refine G_push x eL_missing_21 ?_
  refine G_ireturn x en eL_missing_22 (by omega) (by omega) ?_
  exact ⟨by rw [hth], hF9.oj, fun _ => ⟨uJ_s, hW9.j hoa⟩, fun z => absurd hth z⟩
theorem ghL_clock_1 : gH hhL_clock RL 4 xcI 12 := by
  refine ⟨(tableOf hhL_clock).take 0, _, _, rfl, ?_, rfl, by decide, clL_13, cs_I, rfl⟩
  exact fun w hw => nomatch hw
set_option maxRecDepth 20000 in
theorem ct_w_clock {T : gT} {I : gI} {J : gJ} {O : gO} {B ss : Nat} {S : Int → Int} {n : Int} {Rc Xt : Int → Int} {L : Int} (hW : WW B ss T I J O S n Rc Xt L) (hI : Inv S) {oa : Nat} {r : Int} (h0 : in32 r)  (ho : T.2 oa = some (.inr (3, 1))) (hoa : ss + 94 < oa ∧ oa ≤ B) : CtH yL_clock cL_clock 4 (some .int) hhL_clock [va_rf (some ss), VI r, va_rf (some oa)] 8 132 1 6 T I J O (wrQ ss oa T I J O (iThr r) (fun T' I' J' O' z9 => z9 = i2L (S (3843 + 270 * r)) ∧ WW B ss T' I' J' O' S n Rc Xt L) (fun T' I' J' O' => WW B ss T' I' J' O' S n Rc Xt L)) := by
  refine CtH.of (by decide) [some (va_rf (some ss)), some (VI r), some (va_rf (some oa)), none] (gEn1 (List.forall_mem_cons.mpr ⟨cat_VR _, List.forall_mem_cons.mpr ⟨cat_VI _, List.forall_mem_cons.mpr ⟨cat_VR _, fun _ h => nomatch h⟩⟩⟩) rfl (Nat.le_of_ble_eq_true rfl) rfl) ?_
  intro X x en rm tb hr
  have hr0 := hr
  have hss := hW.1.1.z.m
  have hBt := hW.1.2.2
  have hrg : (iThr r) = 0 ∨ (iThr r) = 1 := by
    unfold iThr
    (repeat' split) <;> simp
  have hcat : ∀ cl T' I' J' O' (qa : Nat), cThr B ss T I J O (iThr r) nIS S n Rc Xt L cl T' I' J' O' → ∃ hpc, gH hhL_clock RL 4 cl hpc ∧ G X hpc [some (va_rf (some ss)), some (VI r), some (va_rf (some oa)), none] [va_rf (some qa)] T' I' J' O' (0 + 1) (0 + 6) := by
    intro cl T' I' J' O' qa h9
    obtain ⟨hne, hcl, hF9, hW9⟩ := h9
    rcases hrg with e | e
    · exact absurd e hne
    · refine ⟨12, by rw [hcl, e]; exact ghL_clock_1, ?_⟩
      refine G_rg (fun hr => ?_)
      refine G_astore3 x eL_clock_12 ?_
      refine G_push x eL_clock_13 ?_
      refine G_ireturn x en eL_clock_14 (by omega) (by omega) ?_
      exact ⟨by rw [e], hF9.o, fun z => absurd z hne, fun _ => hW9⟩
  refine G_aload2 x eL_clock_0 ?_
  refine G_push x eL_clock_1 ?_
  refine G_aload0 x eL_clock_2 ?_
  refine G_iload1 x eL_clock_3 ?_
  refine G_cVC x tb eL_clock_4 kL_76 ⟨im_yX10_clock, se_yX10_clock⟩ hss rm (ct_q_clock hW hI h0) hcat rfl (fun v9 T9 I9 J9 O9 p9 => ?_)
  refine G_rg (fun hr => ?_)
  obtain ⟨hth, rfl, hF9, hW9⟩ := p9
  have hoT : T9.2 oa = some (.inr (3, 1)) := by rw [(hF9.2 oa (by omega) (by omega)).1]; exact ho
  refine G_i2lg x eL_clock_7 ?_
  refine G_last x eL_clock_8 rfl hoT (by omega) (by omega) (by omega) ?_
  refine G_rg (fun hr => ?_)
  refine G_goto x eL_clock_9 ?_
  refine G_push x eL_clock_15 ?_
  refine G_ireturn x en eL_clock_16 (by omega) (by omega) ?_
  exact ⟨by rw [hth], hF9.oj, fun _ => ⟨uJ_s, hW9.j hoa⟩, fun z => absurd hth z⟩
theorem ghL_operation_1 : gH hhL_operation RL 7 xcI 15 := by
  refine ⟨(tableOf hhL_operation).take 0, _, _, rfl, ?_, rfl, by decide, clL_13, cs_I, rfl⟩
  exact fun w hw => nomatch hw
theorem ghL_operation_2 : gH hhL_operation RL 7 xcA 19 := by
  refine ⟨(tableOf hhL_operation).take 1, _, _, rfl, ?_, rfl, by decide, clL_34, cs_A, rfl⟩
  intro w hw
  rcases List.mem_cons.mp hw with rfl | hw
  · exact ⟨by decide, xcI, clL_13, by decide⟩
  · cases hw
set_option maxRecDepth 20000 in
theorem ct_w_operation {T : gT} {I : gI} {J : gJ} {O : gO} {B ss : Nat} {S : Int → Int} {n : Int} {Rc Xt : Int → Int} {L : Int} (hW : WW B ss T I J O S n Rc Xt L) (hI : Inv S) {oa : Nat} {r k w : Int} (h0 : in32 r) (h1 : in32 k) (h2 : in32 w) (ho : T.2 oa = some (.inr (3, 1))) (hoa : ss + 94 < oa ∧ oa ≤ B) : CtH yL_operation cL_operation 6 (some .int) hhL_operation [va_rf (some ss), VI r, VI k, VI w, va_rf (some oa)] 8 137 2 12 T I J O (wrQ ss oa T I J O (aThr r w 4) (fun T' I' J' O' z9 => z9 = i2L (if 0 ≤ k ∧ k < S r then S (3 + 32 * (40 * r + k) + w) else -1) ∧ WW B ss T' I' J' O' S n Rc Xt L) (fun T' I' J' O' => WW B ss T' I' J' O' S n Rc Xt L)) := by
  refine CtH.of (by decide) [some (va_rf (some ss)), some (VI r), some (VI k), some (VI w), some (va_rf (some oa)), none] (gEn1 (List.forall_mem_cons.mpr ⟨cat_VR _, List.forall_mem_cons.mpr ⟨cat_VI _, List.forall_mem_cons.mpr ⟨cat_VI _, List.forall_mem_cons.mpr ⟨cat_VI _, List.forall_mem_cons.mpr ⟨cat_VR _, fun _ h => nomatch h⟩⟩⟩⟩⟩) rfl (Nat.le_of_ble_eq_true rfl) rfl) ?_
  intro X x en rm tb hr
  have hr0 := hr
  have hss := hW.1.1.z.m
  have hBt := hW.1.2.2
  have hrg : (aThr r w 4) = 0 ∨ (aThr r w 4) = 1 ∨ (aThr r w 4) = 2 := by
    unfold aThr
    (repeat' split) <;> simp
  have hcat : ∀ cl T' I' J' O' (qa : Nat), cThr B ss T I J O (aThr r w 4) nIA S n Rc Xt L cl T' I' J' O' → ∃ hpc, gH hhL_operation RL 7 cl hpc ∧ G X hpc [some (va_rf (some ss)), some (VI r), some (VI k), some (VI w), some (va_rf (some oa)), none] [va_rf (some qa)] T' I' J' O' (0 + 2) (0 + 12) := by
    intro cl T' I' J' O' qa h9
    obtain ⟨hne, hcl, hF9, hW9⟩ := h9
    rcases hrg with e | e | e
    · exact absurd e hne
    · refine ⟨15, by rw [hcl, e]; exact ghL_operation_1, ?_⟩
      refine G_rg (fun hr => ?_)
      refine G_astore5 x eL_operation_15 ?_
      refine G_push x eL_operation_17 ?_
      refine G_ireturn x en eL_operation_18 (by omega) (by omega) ?_
      exact ⟨by rw [e], hF9.o, fun z => absurd z hne, fun _ => hW9⟩
    · refine ⟨19, by rw [hcl, e]; exact ghL_operation_2, ?_⟩
      refine G_rg (fun hr => ?_)
      refine G_astore5 x eL_operation_19 ?_
      refine G_push x eL_operation_21 ?_
      refine G_ireturn x en eL_operation_22 (by omega) (by omega) ?_
      exact ⟨by rw [e], hF9.o, fun z => absurd z hne, fun _ => hW9⟩
  refine G_aload4 x eL_operation_0 ?_
  refine G_push x eL_operation_2 ?_
  refine G_aload0 x eL_operation_3 ?_
  refine G_iload1 x eL_operation_4 ?_
  refine G_iload2 x eL_operation_5 ?_
  refine G_iload3 x eL_operation_6 ?_
  refine G_cVC x tb eL_operation_7 kL_79 ⟨im_yX10_operation, se_yX10_operation⟩ hss rm (ct_q_operation hW hI h0 h1 h2) hcat rfl (fun v9 T9 I9 J9 O9 p9 => ?_)
  refine G_rg (fun hr => ?_)
  obtain ⟨hth, rfl, hF9, hW9⟩ := p9
  have hoT : T9.2 oa = some (.inr (3, 1)) := by rw [(hF9.2 oa (by omega) (by omega)).1]; exact ho
  refine G_i2lg x eL_operation_10 ?_
  refine G_last x eL_operation_11 rfl hoT (by omega) (by omega) (by omega) ?_
  refine G_rg (fun hr => ?_)
  refine G_goto x eL_operation_12 ?_
  refine G_push x eL_operation_23 ?_
  refine G_ireturn x en eL_operation_24 (by omega) (by omega) ?_
  exact ⟨by rw [hth], hF9.oj, fun _ => ⟨uJ_s, hW9.j hoa⟩, fun z => absurd hth z⟩
theorem ghL_areAlike_1 : gH hhL_areAlike RL 5 xcI 20 := by
  refine ⟨(tableOf hhL_areAlike).take 0, _, _, rfl, ?_, rfl, by decide, clL_13, cs_I, rfl⟩
  exact fun w hw => nomatch hw
set_option maxRecDepth 20000 in
theorem ct_w_areAlike {T : gT} {I : gI} {J : gJ} {O : gO} {B ss : Nat} {S : Int → Int} {n : Int} {Rc Xt : Int → Int} {L : Int} (hW : WW B ss T I J O S n Rc Xt L) (hI : Inv S) {oa : Nat} {a b : Int} (h0 : in32 a) (h1 : in32 b) (ho : T.2 oa = some (.inr (3, 1))) (hoa : ss + 94 < oa ∧ oa ≤ B) : CtH yL_areAlike cL_areAlike 5 (some .int) hhL_areAlike [va_rf (some ss), VI a, VI b, va_rf (some oa)] 8 179 2 12 T I J O (wrQ ss oa T I J O (jThr a b) (fun T' I' J' O' z9 => z9 = (if b01 (alK S a b) = 0 then 0 else 1) ∧ WW B ss T' I' J' O' S n Rc Xt L) (fun T' I' J' O' => WW B ss T' I' J' O' S n Rc Xt L)) := by
  refine CtH.of (by decide) [some (va_rf (some ss)), some (VI a), some (VI b), some (va_rf (some oa)), none] (gEn1 (List.forall_mem_cons.mpr ⟨cat_VR _, List.forall_mem_cons.mpr ⟨cat_VI _, List.forall_mem_cons.mpr ⟨cat_VI _, List.forall_mem_cons.mpr ⟨cat_VR _, fun _ h => nomatch h⟩⟩⟩⟩) rfl (Nat.le_of_ble_eq_true rfl) rfl) ?_
  intro X x en rm tb hr
  have hr0 := hr
  have hss := hW.1.1.z.m
  have hBt := hW.1.2.2
  have hrg : (jThr a b) = 0 ∨ (jThr a b) = 1 := by
    unfold jThr
    (repeat' split) <;> simp
  have hcat : ∀ cl T' I' J' O' (qa : Nat), cThr B ss T I J O (jThr a b) nIS S n Rc Xt L cl T' I' J' O' → ∃ hpc, gH hhL_areAlike RL 5 cl hpc ∧ G X hpc [some (va_rf (some ss)), some (VI a), some (VI b), some (va_rf (some oa)), none] [va_rf (some qa)] T' I' J' O' (0 + 2) (0 + 12) := by
    intro cl T' I' J' O' qa h9
    obtain ⟨hne, hcl, hF9, hW9⟩ := h9
    rcases hrg with e | e
    · exact absurd e hne
    · refine ⟨20, by rw [hcl, e]; exact ghL_areAlike_1, ?_⟩
      refine G_rg (fun hr => ?_)
      refine G_astore4 x eL_areAlike_20 ?_
      refine G_push x eL_areAlike_22 ?_
      refine G_ireturn x en eL_areAlike_23 (by omega) (by omega) ?_
      exact ⟨by rw [e], hF9.o, fun z => absurd z hne, fun _ => hW9⟩
  refine G_aload3 x eL_areAlike_0 ?_
  refine G_push x eL_areAlike_1 ?_
  refine G_aload0 x eL_areAlike_2 ?_
  refine G_iload1 x eL_areAlike_3 ?_
  refine G_iload2 x eL_areAlike_4 ?_
  refine G_cVC x tb eL_areAlike_5 kL_82 ⟨im_yX10_areAlike, se_yX10_areAlike⟩ hss rm (ct_q_areAlike hW hI h0 h1) hcat rfl (fun v9 T9 I9 J9 O9 p9 => ?_)
  refine G_rg (fun hr => ?_)
  obtain ⟨hth, rfl, hF9, hW9⟩ := p9
  have hoT : T9.2 oa = some (.inr (3, 1)) := by rw [(hF9.2 oa (by omega) (by omega)).1]; exact ho
  have hb := @b01_b (alK S a b)
  refine G_if_eq x eL_areAlike_8 (by omega) (fun c8 => ?_) (fun c8 => ?_)
  · refine G_lconst x eL_areAlike_15 ?_
    refine G_last x eL_areAlike_16 rfl hoT (by omega) (by omega) (by omega) ?_
    refine G_rg (fun hr => ?_)
    refine G_goto x eL_areAlike_17 ?_
    refine G_push x eL_areAlike_24 ?_
    refine G_ireturn x en eL_areAlike_25 (by omega) (by omega) ?_
    exact ⟨by rw [hth], hF9.oj, fun _ => ⟨by rw [uJ_s, if_pos c8]; rfl, hW9.j hoa⟩, fun z => absurd hth z⟩
  · refine G_lconst x eL_areAlike_11 ?_
    refine G_goto x eL_areAlike_12 ?_
    refine G_last x eL_areAlike_16 rfl hoT (by omega) (by omega) (by omega) ?_
    refine G_rg (fun hr => ?_)
    refine G_goto x eL_areAlike_17 ?_
    refine G_push x eL_areAlike_24 ?_
    refine G_ireturn x en eL_areAlike_25 (by omega) (by omega) ?_
    exact ⟨by rw [hth], hF9.oj, fun _ => ⟨by rw [uJ_s, if_neg c8]; rfl, hW9.j hoa⟩, fun z => absurd hth z⟩
theorem ghL_different_1 : gH hhL_different RL 5 xcI 13 := by
  refine ⟨(tableOf hhL_different).take 0, _, _, rfl, ?_, rfl, by decide, clL_13, cs_I, rfl⟩
  exact fun w hw => nomatch hw
set_option maxRecDepth 20000 in
theorem ct_w_different {T : gT} {I : gI} {J : gJ} {O : gO} {B ss : Nat} {S : Int → Int} {n : Int} {Rc Xt : Int → Int} {L : Int} (hW : WW B ss T I J O S n Rc Xt L) (hI : Inv S) {oa : Nat} {a b : Int} (h0 : in32 a) (h1 : in32 b) (ho : T.2 oa = some (.inr (3, 1))) (hoa : ss + 94 < oa ∧ oa ≤ B) : CtH yL_different cL_different 5 (some .int) hhL_different [va_rf (some ss), VI a, VI b, va_rf (some oa)] 8 137 2 12 T I J O (wrQ ss oa T I J O (jThr a b) (fun T' I' J' O' z9 => z9 = i2L (dfK S a b 144) ∧ WW B ss T' I' J' O' S n Rc Xt L) (fun T' I' J' O' => WW B ss T' I' J' O' S n Rc Xt L)) := by
  refine CtH.of (by decide) [some (va_rf (some ss)), some (VI a), some (VI b), some (va_rf (some oa)), none] (gEn1 (List.forall_mem_cons.mpr ⟨cat_VR _, List.forall_mem_cons.mpr ⟨cat_VI _, List.forall_mem_cons.mpr ⟨cat_VI _, List.forall_mem_cons.mpr ⟨cat_VR _, fun _ h => nomatch h⟩⟩⟩⟩) rfl (Nat.le_of_ble_eq_true rfl) rfl) ?_
  intro X x en rm tb hr
  have hr0 := hr
  have hss := hW.1.1.z.m
  have hBt := hW.1.2.2
  have hrg : (jThr a b) = 0 ∨ (jThr a b) = 1 := by
    unfold jThr
    (repeat' split) <;> simp
  have hcat : ∀ cl T' I' J' O' (qa : Nat), cThr B ss T I J O (jThr a b) nIS S n Rc Xt L cl T' I' J' O' → ∃ hpc, gH hhL_different RL 5 cl hpc ∧ G X hpc [some (va_rf (some ss)), some (VI a), some (VI b), some (va_rf (some oa)), none] [va_rf (some qa)] T' I' J' O' (0 + 2) (0 + 12) := by
    intro cl T' I' J' O' qa h9
    obtain ⟨hne, hcl, hF9, hW9⟩ := h9
    rcases hrg with e | e
    · exact absurd e hne
    · refine ⟨13, by rw [hcl, e]; exact ghL_different_1, ?_⟩
      refine G_rg (fun hr => ?_)
      refine G_astore4 x eL_different_13 ?_
      refine G_push x eL_different_15 ?_
      refine G_ireturn x en eL_different_16 (by omega) (by omega) ?_
      exact ⟨by rw [e], hF9.o, fun z => absurd z hne, fun _ => hW9⟩
  refine G_aload3 x eL_different_0 ?_
  refine G_push x eL_different_1 ?_
  refine G_aload0 x eL_different_2 ?_
  refine G_iload1 x eL_different_3 ?_
  refine G_iload2 x eL_different_4 ?_
  refine G_cVC x tb eL_different_5 kL_86 ⟨im_yX10_different, se_yX10_different⟩ hss rm (ct_q_different hW hI h0 h1) hcat rfl (fun v9 T9 I9 J9 O9 p9 => ?_)
  refine G_rg (fun hr => ?_)
  obtain ⟨hth, rfl, hF9, hW9⟩ := p9
  have hoT : T9.2 oa = some (.inr (3, 1)) := by rw [(hF9.2 oa (by omega) (by omega)).1]; exact ho
  refine G_i2lg x eL_different_8 ?_
  refine G_last x eL_different_9 rfl hoT (by omega) (by omega) (by omega) ?_
  refine G_rg (fun hr => ?_)
  refine G_goto x eL_different_10 ?_
  refine G_push x eL_different_17 ?_
  refine G_ireturn x en eL_different_18 (by omega) (by omega) ?_
  exact ⟨by rw [hth], hF9.oj, fun _ => ⟨uJ_s, hW9.j hoa⟩, fun z => absurd hth z⟩
theorem ghL_type_1 : gH hhL_type RL 4 xcA 12 := by
  refine ⟨(tableOf hhL_type).take 0, _, _, rfl, ?_, rfl, by decide, clL_34, cs_A, rfl⟩
  exact fun w hw => nomatch hw
theorem ghL_type_2 : gH hhL_type RL 4 xcS 15 := by
  refine ⟨(tableOf hhL_type).take 1, _, _, rfl, ?_, rfl, by decide, clL_15, cs_S, rfl⟩
  intro w hw
  rcases List.mem_cons.mp hw with rfl | hw
  · exact ⟨by decide, xcA, clL_34, by decide⟩
  · cases hw
set_option maxRecDepth 20000 in
theorem ct_w_type {T : gT} {I : gI} {J : gJ} {O : gO} {B ss : Nat} {S : Int → Int} {n : Int} {Rc Xt : Int → Int} {L : Int} (hW : WW B ss T I J O S n Rc Xt L) (hI : Inv S) {oa : Nat} {c : Int} (h0 : in32 c) (hX : txW Xt L) (ho : T.2 oa = some (.inr (3, 1))) (hoa : ss + 94 < oa ∧ oa ≤ B) : CtH yL_type cL_type 4 (some .int) hhL_type [va_rf (some ss), VI c, va_rf (some oa)] 8 133 2 12 T I J O (wrQ ss oa T I J O (tyThr L c) (fun T' I' J' O' z9 => z9 = i2L (L + 1) ∧ WW B ss T' I' J' O' S n Rc (sU Xt L c) (L + 1)) (fun T' I' J' O' => WW B ss T' I' J' O' S n Rc Xt L)) := by
  refine CtH.of (by decide) [some (va_rf (some ss)), some (VI c), some (va_rf (some oa)), none] (gEn1 (List.forall_mem_cons.mpr ⟨cat_VR _, List.forall_mem_cons.mpr ⟨cat_VI _, List.forall_mem_cons.mpr ⟨cat_VR _, fun _ h => nomatch h⟩⟩⟩) rfl (Nat.le_of_ble_eq_true rfl) rfl) ?_
  intro X x en rm tb hr
  have hr0 := hr
  have hss := hW.1.1.z.m
  have hBt := hW.1.2.2
  have hrg : (tyThr L c) = 0 ∨ (tyThr L c) = 1 ∨ (tyThr L c) = 2 := by
    unfold tyThr
    (repeat' split) <;> simp
  have hcat : ∀ cl T' I' J' O' (qa : Nat), cThr B ss T I J O (tyThr L c) nAS S n Rc Xt L cl T' I' J' O' → ∃ hpc, gH hhL_type RL 4 cl hpc ∧ G X hpc [some (va_rf (some ss)), some (VI c), some (va_rf (some oa)), none] [va_rf (some qa)] T' I' J' O' (0 + 2) (0 + 12) := by
    intro cl T' I' J' O' qa h9
    obtain ⟨hne, hcl, hF9, hW9⟩ := h9
    rcases hrg with e | e | e
    · exact absurd e hne
    · refine ⟨12, by rw [hcl, e]; exact ghL_type_1, ?_⟩
      refine G_rg (fun hr => ?_)
      refine G_astore3 x eL_type_12 ?_
      refine G_push x eL_type_13 ?_
      refine G_ireturn x en eL_type_14 (by omega) (by omega) ?_
      exact ⟨by rw [e], hF9.o, fun z => absurd z hne, fun _ => hW9⟩
    · refine ⟨15, by rw [hcl, e]; exact ghL_type_2, ?_⟩
      refine G_rg (fun hr => ?_)
      refine G_astore3 x eL_type_15 ?_
      refine G_push x eL_type_16 ?_
      refine G_ireturn x en eL_type_17 (by omega) (by omega) ?_
      exact ⟨by rw [e], hF9.o, fun z => absurd z hne, fun _ => hW9⟩
  refine G_aload2 x eL_type_0 ?_
  refine G_push x eL_type_1 ?_
  refine G_aload0 x eL_type_2 ?_
  refine G_iload1 x eL_type_3 ?_
  refine G_cVC x tb eL_type_4 kL_89 ⟨im_yX10_type, se_yX10_type⟩ hss rm (ct_q_type hW hI h0 hX) hcat rfl (fun v9 T9 I9 J9 O9 p9 => ?_)
  refine G_rg (fun hr => ?_)
  obtain ⟨hth, rfl, hF9, hW9⟩ := p9
  have hoT : T9.2 oa = some (.inr (3, 1)) := by rw [(hF9.2 oa (by omega) (by omega)).1]; exact ho
  refine G_i2lg x eL_type_7 ?_
  refine G_last x eL_type_8 rfl hoT (by omega) (by omega) (by omega) ?_
  refine G_rg (fun hr => ?_)
  refine G_goto x eL_type_9 ?_
  refine G_push x eL_type_18 ?_
  refine G_ireturn x en eL_type_19 (by omega) (by omega) ?_
  exact ⟨by rw [hth], hF9.oj, fun _ => ⟨uJ_s, hW9.j hoa⟩, fun z => absurd hth z⟩
theorem ghL_fault_1 : gH hhL_fault RL 4 xcI 12 := by
  refine ⟨(tableOf hhL_fault).take 0, _, _, rfl, ?_, rfl, by decide, clL_13, cs_I, rfl⟩
  exact fun w hw => nomatch hw
set_option maxRecDepth 20000 in
theorem ct_w_fault {T : gT} {I : gI} {J : gJ} {O : gO} {B ss : Nat} {S : Int → Int} {n : Int} {Rc Xt : Int → Int} {L : Int} (hW : WW B ss T I J O S n Rc Xt L) (hI : Inv S) {oa : Nat} {r : Int} (h0 : in32 r) (hX : txW Xt L) (ho : T.2 oa = some (.inr (3, 1))) (hoa : ss + 94 < oa ∧ oa ≤ B) : CtH yL_fault cL_fault 4 (some .int) hhL_fault [va_rf (some ss), VI r, va_rf (some oa)] 8 141 1 6 T I J O (wrQ ss oa T I J O (iThr r) (fun T' I' J' O' z9 => z9 = i2L (flS Xt L S r).1 ∧ WW B ss T' I' J' O' S n Rc Xt L) (fun T' I' J' O' => WW B ss T' I' J' O' S n Rc Xt L)) := by
  refine CtH.of (by decide) [some (va_rf (some ss)), some (VI r), some (va_rf (some oa)), none] (gEn1 (List.forall_mem_cons.mpr ⟨cat_VR _, List.forall_mem_cons.mpr ⟨cat_VI _, List.forall_mem_cons.mpr ⟨cat_VR _, fun _ h => nomatch h⟩⟩⟩) rfl (Nat.le_of_ble_eq_true rfl) rfl) ?_
  intro X x en rm tb hr
  have hr0 := hr
  have hss := hW.1.1.z.m
  have hBt := hW.1.2.2
  have hrg : (iThr r) = 0 ∨ (iThr r) = 1 := by
    unfold iThr
    (repeat' split) <;> simp
  have hcat : ∀ cl T' I' J' O' (qa : Nat), cThr B ss T I J O (iThr r) nIS S n Rc Xt L cl T' I' J' O' → ∃ hpc, gH hhL_fault RL 4 cl hpc ∧ G X hpc [some (va_rf (some ss)), some (VI r), some (va_rf (some oa)), none] [va_rf (some qa)] T' I' J' O' (0 + 1) (0 + 6) := by
    intro cl T' I' J' O' qa h9
    obtain ⟨hne, hcl, hF9, hW9⟩ := h9
    rcases hrg with e | e
    · exact absurd e hne
    · refine ⟨12, by rw [hcl, e]; exact ghL_fault_1, ?_⟩
      refine G_rg (fun hr => ?_)
      refine G_astore3 x eL_fault_12 ?_
      refine G_push x eL_fault_13 ?_
      refine G_ireturn x en eL_fault_14 (by omega) (by omega) ?_
      exact ⟨by rw [e], hF9.o, fun z => absurd z hne, fun _ => hW9⟩
  refine G_aload2 x eL_fault_0 ?_
  refine G_push x eL_fault_1 ?_
  refine G_aload0 x eL_fault_2 ?_
  refine G_iload1 x eL_fault_3 ?_
  refine G_cVC x tb eL_fault_4 kL_92 ⟨im_yX10_fault, se_yX10_fault⟩ hss rm (ct_q_fault hW hI h0 hX) hcat rfl (fun v9 T9 I9 J9 O9 p9 => ?_)
  refine G_rg (fun hr => ?_)
  obtain ⟨hth, rfl, hF9, hW9⟩ := p9
  have hoT : T9.2 oa = some (.inr (3, 1)) := by rw [(hF9.2 oa (by omega) (by omega)).1]; exact ho
  refine G_i2lg x eL_fault_7 ?_
  refine G_last x eL_fault_8 rfl hoT (by omega) (by omega) (by omega) ?_
  refine G_rg (fun hr => ?_)
  refine G_goto x eL_fault_9 ?_
  refine G_push x eL_fault_15 ?_
  refine G_ireturn x en eL_fault_16 (by omega) (by omega) ?_
  exact ⟨by rw [hth], hF9.oj, fun _ => ⟨uJ_s, hW9.j hoa⟩, fun z => absurd hth z⟩
theorem ghL_undo_1 : gH hhL_undo RL 3 xcS 11 := by
  refine ⟨(tableOf hhL_undo).take 0, _, _, rfl, ?_, rfl, by decide, clL_15, cs_S, rfl⟩
  exact fun w hw => nomatch hw
set_option maxRecDepth 20000 in
theorem ct_w_undo {T : gT} {I : gI} {J : gJ} {O : gO} {B ss : Nat} {S : Int → Int} {n : Int} {Rc Xt : Int → Int} {L : Int} (hW : WW B ss T I J O S n Rc Xt L) (hI : Inv S) {oa : Nat} {A9 : Int → Int} (n0 : 0 ≤ n) (n1 : n ≤ 4) (hA : n ≠ 0 → Inv A9 ∧ snL A9 S ∧ ∀ r f, 0 ≤ r → r ≤ 2 → 0 ≤ f → f ≤ 2 → Rc (9 * (n - 1) + 3 * r + f) = A9 (cIx r f)) (ho : T.2 oa = some (.inr (3, 1))) (hoa : ss + 94 < oa ∧ oa ≤ B) : CtH yL_undo cL_undo 3 (some .int) hhL_undo [va_rf (some ss), va_rf (some oa)] 7 133 1 6 T I J O (wrQ ss oa T I J O (unThr n) (fun T' I' J' O' z9 => z9 = i2L (n - 1) ∧ WW B ss T' I' J' O' A9 (n - 1) Rc Xt L) (fun T' I' J' O' => WW B ss T' I' J' O' S n Rc Xt L)) := by
  refine CtH.of (by decide) [some (va_rf (some ss)), some (va_rf (some oa)), none] (gEn1 (List.forall_mem_cons.mpr ⟨cat_VR _, List.forall_mem_cons.mpr ⟨cat_VR _, fun _ h => nomatch h⟩⟩) rfl (Nat.le_of_ble_eq_true rfl) rfl) ?_
  intro X x en rm tb hr
  have hr0 := hr
  have hss := hW.1.1.z.m
  have hBt := hW.1.2.2
  have hrg : (unThr n) = 0 ∨ (unThr n) = 1 := by
    unfold unThr
    (repeat' split) <;> simp
  have hcat : ∀ cl T' I' J' O' (qa : Nat), cThr B ss T I J O (unThr n) nS S n Rc Xt L cl T' I' J' O' → ∃ hpc, gH hhL_undo RL 3 cl hpc ∧ G X hpc [some (va_rf (some ss)), some (va_rf (some oa)), none] [va_rf (some qa)] T' I' J' O' (0 + 1) (0 + 6) := by
    intro cl T' I' J' O' qa h9
    obtain ⟨hne, hcl, hF9, hW9⟩ := h9
    rcases hrg with e | e
    · exact absurd e hne
    · refine ⟨11, by rw [hcl, e]; exact ghL_undo_1, ?_⟩
      refine G_rg (fun hr => ?_)
      refine G_astore2 x eL_undo_11 ?_
      refine G_push x eL_undo_12 ?_
      refine G_ireturn x en eL_undo_13 (by omega) (by omega) ?_
      exact ⟨by rw [e], hF9.o, fun z => absurd z hne, fun _ => hW9⟩
  refine G_aload1 x eL_undo_0 ?_
  refine G_push x eL_undo_1 ?_
  refine G_aload0 x eL_undo_2 ?_
  refine G_cVC x tb eL_undo_3 kL_95 ⟨im_yX10_undo, se_yX10_undo⟩ hss rm (ct_q_undo hW hI n0 n1 hA) hcat rfl (fun v9 T9 I9 J9 O9 p9 => ?_)
  refine G_rg (fun hr => ?_)
  obtain ⟨hth, rfl, hF9, hW9⟩ := p9
  have hoT : T9.2 oa = some (.inr (3, 1)) := by rw [(hF9.2 oa (by omega) (by omega)).1]; exact ho
  refine G_i2lg x eL_undo_6 ?_
  refine G_last x eL_undo_7 rfl hoT (by omega) (by omega) (by omega) ?_
  refine G_rg (fun hr => ?_)
  refine G_goto x eL_undo_8 ?_
  refine G_push x eL_undo_14 ?_
  refine G_ireturn x en eL_undo_15 (by omega) (by omega) ?_
  exact ⟨by rw [hth], hF9.oj, fun _ => ⟨uJ_s, hW9.j hoa⟩, fun z => absurd hth z⟩
