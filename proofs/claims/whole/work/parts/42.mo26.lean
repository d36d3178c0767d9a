theorem uI_o {I : gI} {a b : Nat} {k j x : Int} (h : b ≠ a ∨ j ≠ k) : uI I a k x b j = I b j := by
  unfold uI
  rw [if_neg (by omega)]
theorem uJ_o {I : gJ} {a b : Nat} {k j : Int} {x : Int64} (h : b ≠ a ∨ j ≠ k) : uJ I a k x b j = I b j := by
  unfold uJ
  rw [if_neg (by omega)]
def gaP (T : gT) (I : gI) (J : gJ) (O : gO) (mo : Nat) (r : Int) : gP := fun v T' I' J' O' => v = none ∧ T' = T ∧ O' = O ∧ gFr I I' mo ∧ gFj J J' mo ∧ gv1 I' J' mo (I (mo + 1)) r 144 ∧ gv2 I' mo (I (mo + 1)) r (I' mo 16) ∧ ∀ f, 0 ≤ f → f < I' mo 16 → I' (mo + 14) f = b01 (cyS (I (mo + 1)) r (I' (mo + 9) f)) ∧ I' (mo + 15) f = 0
set_option maxHeartbeats 8000000 in
set_option maxRecDepth 20000 in
theorem ct_X11_gathers {T : gT} {I : gI} {J : gJ} {O : gO} {mo : Nat} {r : Int} (hM : MoAt T O mo) (h0 : 0 ≤ r) (h1 : r ≤ 2) (hf : fmOk (I (mo + 1)) r) : Ct yX11_gathers cX11_gathers 6 none [va_rf (some mo), VI r] 4 92 0 0 T I J O (gaP T I J O mo r) := by
  refine Ct.of (by decide) [some (va_rf (some mo)), some (VI r), none, none, none, none] (gEn1 (List.forall_mem_cons.mpr ⟨cat_VR _, List.forall_mem_cons.mpr ⟨cat_VI _, fun _ h => nomatch h⟩⟩) rfl (Nat.le_of_ble_eq_true rfl) rfl) ?_
  intro X x en rm ini hr hz
  have hr0 := hr
  generalize hS : I (mo + 1) = S at *
  have hrS : ∀ (j : Int), in32 (S j) := fun j => by rw [← hS]; exact hr _ _
  have b1 := rwB S r 0 (-1)
  have b2 := rwB S r 1 (-1)
  -- the cycles
  have p3 : ∀ (d : Nat) (k : Int) (I1 : gI) (J1 : gJ) (o3 o4 o5 : Option Value), d = (I1 mo 16 - k).toNat → 0 ≤ k → k ≤ I1 mo 16 → gFr I I1 mo → gFj J J1 mo → gv1 I1 J1 mo S r 144 → gv2 I1 mo S r (I1 mo 16) → (∀ f, 0 ≤ f → f < k → I1 (mo + 14) f = b01 (cyS S r (I1 (mo + 9) f)) ∧ I1 (mo + 15) f = 0) → G X 195 [some (va_rf (some mo)), some (VI r), some (VI k), o3, o4, o5] [] T I1 J1 O 0 0 := by
    intro d
    induction d using Nat.strongRecOn with
    | ind d ih =>
    intro k I1 J1 o3 o4 o5 hd k0 k1 hF hJ hv1 hv2 hc
    have hn := hv1.2.1.n hf
    have hE := hv1.2.1
    refine G_iload2 x eX11_gathers_195 ?_
    refine G_aload0 x eX11_gathers_196 ?_
    refine G_geti x eX11_gathers_197 fX11_211 rfl rfl hM.m (fun h197 => ?_)
    refine G_icmp_ge x eX11_gathers_200 (by first | omega | exact hr _ _ | exact hr0 _ _ | exact hrS _) (by first | omega | exact hr _ _ | exact hr0 _ _ | exact hrS _) (fun c200 => ?_) (fun c200 => ?_)
    · refine G_return x en eX11_gathers_227 (by omega) (by omega) ?_
      rw [← hS] at *
      exact ⟨rfl, rfl, rfl, hF, hJ, hv1, hv2, fun f f0 f1 => hc f f0 (by omega)⟩
    · refine G_aload0 x eX11_gathers_203 ?_
      refine G_getq x eX11_gathers_204 fX11_51 rfl rfl hM.m hM.o_cyclic ?_
      refine G_iload2 x eX11_gathers_207 ?_
      refine G_aload0 x eX11_gathers_208 ?_
      refine G_iload2 x eX11_gathers_209 ?_
      refine G_cVg x eX11_gathers_210 kX11_220 im_yX11_comesBack se_yX11_comesBack rm hM.m (ct_X11_comesBack hM (by omega) (by omega) (by omega) (by omega) (fun g g0 g1 => ⟨(hE.2.2.2.1 g g0 g1).1, (hE.2.2.2.1 g g0 g1).2.1⟩)) rfl (fun v210 T210 I210 J210 O210 p210 => ?_)
      refine G_rg (fun hr => ?_)
      obtain ⟨rfl, rfl, rfl, hfr, rfl⟩ := p210
      have hb9 := b01_b (p := rch (mA I1 mo) (I1 mo 16) k k)
      rw [b01_e (gv2_r hv2 hE k0 (by omega) k0 (by omega))] at hb9 ⊢
      have e16 : (uI (uI I210 (mo + 14) k (b01 (cyS S r (I1 (mo + 9) k)))) (mo + 15) k 0) mo 16 = I1 mo 16 := by rw [uI_a (by omega), uI_a (by omega)]; exact hfr _ _ (by omega) (by omega)
      have e9 : ∀ j, (uI (uI I210 (mo + 14) k (b01 (cyS S r (I1 (mo + 9) k)))) (mo + 15) k 0) (mo + 9) j = I1 (mo + 9) j := fun j => by rw [uI_a (by omega), uI_a (by omega)]; exact hfr _ _ (by omega) (by omega)
      have eo : ∀ b j, b ≠ mo + 14 → b ≠ mo + 15 → b ≠ mo + 16 → b ≠ mo + 17 → (uI (uI I210 (mo + 14) k (b01 (cyS S r (I1 (mo + 9) k)))) (mo + 15) k 0) b j = I1 b j := fun b j q1 q2 q3 q4 => by rw [uI_a q2, uI_a q1]; exact hfr _ _ q3 q4
      have nx : G X 195 [some (va_rf (some mo)), some (VI r), some (VI (k + 1)), o3, o4, o5] [] T210 (uI (uI I210 (mo + 14) k (b01 (cyS S r (I1 (mo + 9) k)))) (mo + 15) k 0) J210 O210 0 0 := by
        refine ih _ (by omega) _ _ _ _ _ _ rfl (by omega) (by omega) (fun b j q => by rw [eo b j (by omega) (by omega) (by omega) (by omega)]; exact hF b j q) hJ ?_ ?_ (fun f f0 f1 => ?_)
        · refine ⟨hv1.1.c (fun j => eo _ _ (by omega) (by omega) (by omega) (by omega)) (fun j => eo _ _ (by omega) (by omega) (by omega) (by omega)) (fun j => eo _ _ (by omega) (by omega) (by omega) (by omega)) (eo _ _ (by omega) (by omega) (by omega) (by omega)) (eo _ _ (by omega) (by omega) (by omega) (by omega)), ?_, fun c hc hm => ?_⟩
          · rw [e16]; exact En.fc hE (fun i _ _ => e9 i)
          · rw [e16, e9, eo (mo + 10) _ (by omega) (by omega) (by omega) (by omega), eo (mo + 12) _ (by omega) (by omega) (by omega) (by omega)]
            exact hv1.2.2 c hc hm
        · rw [e16]
          intro f d f0 f1 d0 d1
          rw [e9, eo (mo + 13) _ (by omega) (by omega) (by omega) (by omega)]
          exact hv2 f d f0 f1 d0 d1
        · rw [e9]
          by_cases e : f = k
          · subst e
            exact ⟨by rw [uI_a (by omega), uI_s], uI_s⟩
          · rw [uI_a (by omega), uI_k e, uI_k e, hfr _ _ (by omega) (by omega), uI_a (by omega), hfr _ _ (by omega) (by omega)]
            exact hc f f0 (by omega)
      refine G_rg (fun hr => ?_)
      refine G_zast x eX11_gathers_213 rfl hM.t_cyclic (by omega) (by omega) (by omega) (by first | omega | exact hr _ _ | exact hr0 _ _ | exact hrS _) ?_
      refine G_rg (fun hr => ?_)
      refine G_aload0 x eX11_gathers_214 ?_
      refine G_getq x eX11_gathers_215 fX11_54 rfl rfl hM.m hM.o_known ?_
      refine G_iload2 x eX11_gathers_218 ?_
      refine G_push x eX11_gathers_219 ?_
      refine G_zast x eX11_gathers_220 rfl hM.t_known (by omega) (by omega) (by omega) (by first | omega | exact hr _ _ | exact hr0 _ _ | exact hrS _) ?_
      refine G_rg (fun hr => ?_)
      refine G_iinc2 x eX11_gathers_221 ?_
      refine G_goto x eX11_gathers_224 ?_
      exact nx
  -- what they refer to
  have p2 : ∀ (d : Nat) (k : Int) (I1 : gI) (J1 : gJ) (o3 o4 o5 : Option Value), d = (I1 mo 16 - k).toNat → 0 ≤ k → k ≤ I1 mo 16 → gFr I I1 mo → gFj J J1 mo → gv1 I1 J1 mo S r 144 → gv2 I1 mo S r k → G X 163 [some (va_rf (some mo)), some (VI r), some (VI k), o3, o4, o5] [] T I1 J1 O 0 0 := by
    intro d
    induction d using Nat.strongRecOn with
    | ind d ih =>
    intro k I1 J1 o3 o4 o5 hd k0 k1 hF hJ hv1 hv2
    have hn := hv1.2.1.n hf
    have hE := hv1.2.1
    refine G_iload2 x eX11_gathers_163 ?_
    refine G_aload0 x eX11_gathers_164 ?_
    refine G_geti x eX11_gathers_165 fX11_211 rfl rfl hM.m (fun h165 => ?_)
    refine G_icmp_ge x eX11_gathers_168 (by first | omega | exact hr _ _ | exact hr0 _ _ | exact hrS _) (by first | omega | exact hr _ _ | exact hr0 _ _ | exact hrS _) (fun c168 => ?_) (fun c168 => ?_)
    · refine G_rg (fun hr => ?_)
      refine G_push x eX11_gathers_193 ?_
      refine G_istore2 x eX11_gathers_194 ?_
      exact p3 _ _ _ _ _ _ _ rfl (by omega) (by omega) hF hJ hv1 (by rw [show I1 mo 16 = k by omega]; exact hv2) (fun f f0 f1 => by omega)
    · have q := hE.2.2.2.1 k k0 (by omega)
      have hid := hf.2.2 _ q.2.2.1
      have hid2 := q.2.2.2.1
      refine G_aload0 x eX11_gathers_171 ?_
      refine G_iload2 x eX11_gathers_172 ?_
      refine G_aload0 x eX11_gathers_173 ?_
      refine G_iload1 x eX11_gathers_174 ?_
      refine G_aload0 x eX11_gathers_175 ?_
      refine G_getq x eX11_gathers_176 fX11_34 rfl rfl hM.m hM.o_formulas ?_
      refine G_iload2 x eX11_gathers_179 ?_
      refine G_iald x eX11_gathers_180 rfl hM.t_formulas (by omega) (by omega) (by omega) (fun h180 => ?_)
      refine G_cV x eX11_gathers_181 kX11_214 im_yX11_opAt se_yX11_opAt rm hM.m (ct_X11_opAt hM hv1.1 h0 h1 q.2.2.1) rfl ?_
      refine G_cVv x eX11_gathers_184 kX11_217 im_yX11_refersTo se_yX11_refersTo rm hM.m (ct_X11_refersTo hM hv1.1 (by omega) (by omega) (by omega) (by omega) (hf.1 _ q.2.2)) rfl ?_
      have eo : ∀ b j, b ≠ mo + 13 → rfI I1 mo k (rfS S r (idS S r (I1 (mo + 9) k))) b j = I1 b j := fun b j hb => rfI_o (Or.inl hb)
      have e16 : rfI I1 mo k (rfS S r (idS S r (I1 (mo + 9) k))) mo 16 = I1 mo 16 := eo _ _ (by omega)
      have nx : G X 163 [some (va_rf (some mo)), some (VI r), some (VI (k + 1)), o3, o4, o5] [] T (rfI I1 mo k (rfS S r (idS S r (I1 (mo + 9) k)))) J1 O 0 0 := by
        refine ih _ (by omega) _ _ _ _ _ _ rfl (by omega) (by omega) (fun b j q => by rw [eo b j (by omega)]; exact hF b j q) hJ ?_ (fun f d f0 f1 d0 d1 => ?_)
        · refine ⟨hv1.1.c (fun j => eo _ _ (by omega)) (fun j => eo _ _ (by omega)) (fun j => eo _ _ (by omega)) (eo _ _ (by omega)) (eo _ _ (by omega)), ?_, fun c hc hm => ?_⟩
          · rw [e16]; exact En.fc hE (fun i _ _ => eo _ _ (by omega))
          · rw [e16, eo (mo + 9) _ (by omega), eo (mo + 10) _ (by omega), eo (mo + 12) _ (by omega)]
            exact hv1.2.2 c hc hm
        · rw [eo (mo + 9) _ (by omega)]
          by_cases e : f = k
          · subst e; exact rfI_i d0 d1
          · rw [rfI_o (by omega)]; exact hv2 f d f0 (by omega) d0 d1
      refine G_rg (fun hr => ?_)
      refine G_iinc2 x eX11_gathers_187 ?_
      refine G_goto x eX11_gathers_190 ?_
      exact nx
  have inner : ∀ (d : Nat) (row col : Int) (I1 : gI) (J1 : gJ) (o4 o5 : Option Value), d = (rwN S r 1 (-1) - col).toNat → 0 ≤ row → row < rwN S r 0 (-1) → 0 ≤ col → col ≤ rwN S r 1 (-1) → gFr I I1 mo → gFj J J1 mo → gv1 I1 J1 mo S r (12 * row + col) →
      (∀ (I1 : gI) (J1 : gJ) (o3 o4 o5 : Option Value), gFr I I1 mo → gFj J J1 mo → gv1 I1 J1 mo S r (12 * (row + 1)) → G X 12 [some (va_rf (some mo)), some (VI r), some (VI (row + 1)), o3, o4, o5] [] T I1 J1 O 0 0) →
      G X 22 [some (va_rf (some mo)), some (VI r), some (VI row), some (VI col), o4, o5] [] T I1 J1 O 0 0 := by
    intro d
    induction d using Nat.strongRecOn with
    | ind d ih =>
    intro row col I1 J1 o4 o5 hd r0 r1 q0 q1 hF hJ hv1 kk
    have e10 := hv1.1.2.2.1
    have hn := hv1.2.1.n hf
    have hn0 := hv1.2.1.1
    refine G_iload3 x eX11_gathers_22 ?_
    refine G_aload0 x eX11_gathers_23 ?_
    refine G_geti x eX11_gathers_24 fX11_102 rfl rfl hM.m (fun h24 => ?_)
    rw [e10]
    refine G_icmp_ge x eX11_gathers_27 (by first | omega | exact hr _ _ | exact hr0 _ _ | exact hrS _) (by first | omega | exact hr _ _ | exact hr0 _ _ | exact hrS _) (fun c27 => ?_) (fun c27 => ?_)
    · refine G_rg (fun hr => ?_)
      refine G_iinc2 x eX11_gathers_155 ?_
      refine G_goto x eX11_gathers_158 ?_
      exact kk _ _ _ _ _ hF hJ (hv1.up (by omega) (fun x a b c => by have := c.2.1; have := c.2.2; omega))
    · have hin : inC S r (12 * row + col) := ⟨by omega, by omega, by omega⟩
      have hid := hf.2.2 _ hin
      have ho := ct_X11_opAt (r := r) (J := J1) hM hv1.1 h0 h1 hin
      have hsv : (idS S r (12 * row + col) ≠ -1 ∧ S (3 + 32 * idS S r (12 * row + col) + 5) = 1 → valS S r (12 * row + col) = Int64.ofInt (S (3 + 32 * idS S r (12 * row + col) + 6))) ∧ (¬ (idS S r (12 * row + col) ≠ -1 ∧ S (3 + 32 * idS S r (12 * row + col) + 5) = 1) → valS S r (12 * row + col) = 0) := ⟨fun z => if_pos z, fun z => if_neg z⟩
      have nno := fun z => hv1.no z
      have nye := fun z => hv1.yes z
      have hnf : ¬ (idS S r (12 * row + col) ≠ -1 ∧ S (3 + 32 * idS S r (12 * row + col) + 5) = 2) → ¬ isFm S r (12 * row + col) := fun z w => z w.2
      have hyf : idS S r (12 * row + col) ≠ -1 → S (3 + 32 * idS S r (12 * row + col) + 5) = 2 → isFm S r (12 * row + col) := fun z w => ⟨hin, z, w⟩
      have hnn : isFm S r (12 * row + col) → I1 mo 16 < 120 := fun z => by
        have := (nye z).2.1.n hf
        rw [uI_s] at this
        omega
      generalize hidg : idS S r (12 * row + col) = id at *
      generalize hvg : valS S r (12 * row + col) = vv at *
      generalize hcg : 12 * row + col = c at *
      have fno : ¬ (id ≠ -1 ∧ S (3 + 32 * id + 5) = 2) → G X 22 [some (va_rf (some mo)), some (VI r), some (VI row), some (VI (col + 1)), some (VI c), some (VI id)] [] T (uI (uI I1 (mo + 10) c (-1)) (mo + 12) c 0) (uJ J1 (mo + 11) c vv) O 0 0 := fun z => ih _ (by omega) _ _ _ _ _ _ rfl r0 r1 (by omega) (by omega) (fun b j q => by rw [uI_a (by omega), uI_a (by omega)]; exact hF b j q) (fun b j q q2 => by rw [uJ_a q]; exact hJ b j q q2) (by rw [← Int.add_assoc, hcg]; exact nno (hnf z)) kk
      have fye : id ≠ -1 → S (3 + 32 * id + 5) = 2 → G X 22 [some (va_rf (some mo)), some (VI r), some (VI row), some (VI (col + 1)), some (VI c), some (VI id)] [] T (uI (uI (uI (uI (uI I1 (mo + 10) c (-1)) (mo + 12) c 0) (mo + 10) c (I1 mo 16)) (mo + 9) (I1 mo 16) c) mo 16 (I1 mo 16 + 1)) (uJ J1 (mo + 11) c vv) O 0 0 := fun z w => ih _ (by omega) _ _ _ _ _ _ rfl r0 r1 (by omega) (by omega) (fun b j q => by rw [show (uI (uI (uI (uI (uI I1 (mo + 10) c (-1)) (mo + 12) c 0) (mo + 10) c (I1 mo 16)) (mo + 9) (I1 mo 16) c) mo 16 (I1 mo 16 + 1)) b j = I1 b j by rw [uI_o (by omega), uI_o (by omega), uI_o (by omega), uI_o (by omega), uI_o (by omega)]]; exact hF b j q) (fun b j q q2 => by rw [uJ_a q]; exact hJ b j q q2) (by rw [← Int.add_assoc, hcg]; exact nye (hyf z w)) kk
      have es : (uI (uI I1 (mo + 10) c (-1)) (mo + 12) c 0) (mo + 1) = S := funext fun j => by rw [uI_a (by omega), uI_a (by omega), hv1.1.1]
      have g100 : G X 100 [some (va_rf (some mo)), some (VI r), some (VI row), some (VI col), some (VI c), some (VI id)] [] T (uI (uI I1 (mo + 10) c (-1)) (mo + 12) c 0) (uJ J1 (mo + 11) c vv) O 0 0 := by
        have e16 : (uI (uI I1 (mo + 10) c (-1)) (mo + 12) c 0) mo 16 = I1 mo 16 := by rw [uI_a (by omega), uI_a (by omega)]
        have e16b : (uI (uI (uI I1 (mo + 10) c (-1)) (mo + 12) c 0) (mo + 10) c (I1 mo 16)) mo 16 = I1 mo 16 := by rw [uI_a (by omega)]; exact e16
        have e16c : (uI (uI (uI (uI I1 (mo + 10) c (-1)) (mo + 12) c 0) (mo + 10) c (I1 mo 16)) (mo + 9) (I1 mo 16) c) mo 16 = I1 mo 16 := by rw [uI_a (by omega)]; exact e16b
        refine G_rg (fun hr => ?_)
        refine G_iload5 x eX11_gathers_100 ?_
        refine G_push x eX11_gathers_102 ?_
        refine G_icmp_eq x eX11_gathers_103 (by first | omega | exact hr _ _ | exact hr0 _ _ | exact hrS _) (by first | omega | exact hr _ _ | exact hr0 _ _ | exact hrS _) (fun c103 => ?_) (fun c103 => ?_)
        · refine G_iinc3 x eX11_gathers_149 ?_
          refine G_goto x eX11_gathers_152 ?_
          first | exact fye (by omega) (by omega) | exact fno (by omega)
        · refine G_aload0 x eX11_gathers_106 ?_
          refine G_iload5 x eX11_gathers_107 ?_
          refine G_push x eX11_gathers_109 ?_
          refine G_cV x eX11_gathers_110 kX11_105 im_yX11_op se_yX11_op rm hM.m (ct_X11_op hM (by omega) (by omega)) rfl ?_
          rw [es]
          refine G_push x eX11_gathers_113 ?_
          refine G_icmp_ne x eX11_gathers_114 (by first | omega | exact hr _ _ | exact hr0 _ _ | exact hrS _) (by first | omega | exact hr _ _ | exact hr0 _ _ | exact hrS _) (fun c114 => ?_) (fun c114 => ?_)
          · refine G_iinc3 x eX11_gathers_149 ?_
            refine G_goto x eX11_gathers_152 ?_
            first | exact fye (by omega) (by omega) | exact fno (by omega)
          · have hn9 := hnn (hyf (by omega) (by omega))
            refine G_aload0 x eX11_gathers_117 ?_
            refine G_getq x eX11_gathers_118 fX11_37 rfl rfl hM.m hM.o_formulaAt ?_
            refine G_iload4 x eX11_gathers_121 ?_
            refine G_aload0 x eX11_gathers_123 ?_
            refine G_geti x eX11_gathers_124 fX11_211 rfl rfl hM.m (fun h124 => ?_)
            rw [e16]
            refine G_iast x eX11_gathers_127 rfl hM.t_formulaAt (by omega) (by omega) (by omega) (by first | omega | exact hr _ _ | exact hr0 _ _ | exact hrS _) ?_
            refine G_rg (fun hr => ?_)
            refine G_aload0 x eX11_gathers_128 ?_
            refine G_getq x eX11_gathers_129 fX11_34 rfl rfl hM.m hM.o_formulas ?_
            refine G_aload0 x eX11_gathers_132 ?_
            refine G_geti x eX11_gathers_133 fX11_211 rfl rfl hM.m (fun h133 => ?_)
            rw [e16b]
            refine G_iload4 x eX11_gathers_136 ?_
            refine G_iast x eX11_gathers_138 rfl hM.t_formulas (by omega) (by omega) (by omega) (by first | omega | exact hr _ _ | exact hr0 _ _ | exact hrS _) ?_
            refine G_rg (fun hr => ?_)
            refine G_aload0 x eX11_gathers_139 ?_
            refine G_dup x eX11_gathers_140 (by first | rfl | exact cat_rf _) ?_
            refine G_geti x eX11_gathers_141 fX11_211 rfl rfl hM.m (fun h141 => ?_)
            rw [e16c]
            refine G_push x eX11_gathers_144 ?_
            refine G_iadd x eX11_gathers_145 ?_
            refine G_puti x eX11_gathers_146 fX11_211 rfl (Or.inl rfl) rfl hM.m (by first | omega | exact hr _ _ | exact hr0 _ _ | exact hrS _) ?_
            refine G_rg (fun hr => ?_)
            refine G_iinc3 x eX11_gathers_149 ?_
            refine G_goto x eX11_gathers_152 ?_
            first | exact fye (by omega) (by omega) | exact fno (by omega)
      refine G_rg (fun hr => ?_)
      refine G_push x eX11_gathers_30 ?_
      refine G_iload2 x eX11_gathers_32 ?_
      refine G_imul x eX11_gathers_33 ?_
      refine G_iload3 x eX11_gathers_34 ?_
      refine G_iadd x eX11_gathers_35 ?_
      rw [hcg]
      refine G_istore4 x eX11_gathers_36 ?_
      refine G_aload0 x eX11_gathers_38 ?_
      refine G_iload1 x eX11_gathers_39 ?_
      refine G_iload4 x eX11_gathers_40 ?_
      refine G_cV x eX11_gathers_42 kX11_214 im_yX11_opAt se_yX11_opAt rm hM.m ho rfl ?_
      refine G_istore5 x eX11_gathers_45 ?_
      refine G_aload0 x eX11_gathers_47 ?_
      refine G_getq x eX11_gathers_48 fX11_37 rfl rfl hM.m hM.o_formulaAt ?_
      refine G_iload4 x eX11_gathers_51 ?_
      refine G_push x eX11_gathers_53 ?_
      refine G_iast x eX11_gathers_54 rfl hM.t_formulaAt (by omega) (by omega) (by omega) (by first | omega | exact hr _ _ | exact hr0 _ _ | exact hrS _) ?_
      refine G_rg (fun hr => ?_)
      refine G_aload0 x eX11_gathers_55 ?_
      refine G_getq x eX11_gathers_56 fX11_44 rfl rfl hM.m hM.o_errors ?_
      refine G_iload4 x eX11_gathers_59 ?_
      refine G_push x eX11_gathers_61 ?_
      refine G_iast x eX11_gathers_62 rfl hM.t_errors (by omega) (by omega) (by omega) (by first | omega | exact hr _ _ | exact hr0 _ _ | exact hrS _) ?_
      refine G_rg (fun hr => ?_)
      refine G_aload0 x eX11_gathers_63 ?_
      refine G_getq x eX11_gathers_64 fX11_40 rfl rfl hM.m hM.o_values ?_
      refine G_iload4 x eX11_gathers_67 ?_
      refine G_iload5 x eX11_gathers_69 ?_
      refine G_push x eX11_gathers_71 ?_
      refine G_icmp_eq x eX11_gathers_72 (by first | omega | exact hr _ _ | exact hr0 _ _ | exact hrS _) (by first | omega | exact hr _ _ | exact hr0 _ _ | exact hrS _) (fun c72 => ?_) (fun c72 => ?_)
      · refine G_lconst x eX11_gathers_98 ?_
        refine G_last x eX11_gathers_99 rfl hM.t_values (by omega) (by omega) (by omega) ?_
        first | (rw [← hsv.1 (by omega)]; exact g100) | (have hv0 := hsv.2 (by omega); subst hv0; exact g100)
      · refine G_aload0 x eX11_gathers_75 ?_
        refine G_iload5 x eX11_gathers_76 ?_
        refine G_push x eX11_gathers_78 ?_
        refine G_cV x eX11_gathers_79 kX11_105 im_yX11_op se_yX11_op rm hM.m (ct_X11_op hM (by omega) (by omega)) rfl ?_
        rw [es]
        refine G_push x eX11_gathers_82 ?_
        refine G_icmp_ne x eX11_gathers_83 (by first | omega | exact hr _ _ | exact hr0 _ _ | exact hrS _) (by first | omega | exact hr _ _ | exact hr0 _ _ | exact hrS _) (fun c83 => ?_) (fun c83 => ?_)
        · refine G_lconst x eX11_gathers_98 ?_
          refine G_last x eX11_gathers_99 rfl hM.t_values (by omega) (by omega) (by omega) ?_
          first | (rw [← hsv.1 (by omega)]; exact g100) | (have hv0 := hsv.2 (by omega); subst hv0; exact g100)
        · refine G_aload0 x eX11_gathers_86 ?_
          refine G_iload5 x eX11_gathers_87 ?_
          refine G_push x eX11_gathers_89 ?_
          refine G_cV x eX11_gathers_91 kX11_105 im_yX11_op se_yX11_op rm hM.m (ct_X11_op hM (by omega) (by omega)) rfl ?_
          rw [es]
          refine G_i2l x eX11_gathers_94 (by first | omega | exact hr _ _ | exact hr0 _ _ | exact hrS _) ?_
          refine G_goto x eX11_gathers_95 ?_
          refine G_last x eX11_gathers_99 rfl hM.t_values (by omega) (by omega) (by omega) ?_
          first | (rw [← hsv.1 (by omega)]; exact g100) | (have hv0 := hsv.2 (by omega); subst hv0; exact g100)
  have outer : ∀ (d : Nat) (row : Int) (I1 : gI) (J1 : gJ) (o3 o4 o5 : Option Value), d = (rwN S r 0 (-1) - row).toNat → 0 ≤ row → row ≤ rwN S r 0 (-1) → gFr I I1 mo → gFj J J1 mo → gv1 I1 J1 mo S r (12 * row) → G X 12 [some (va_rf (some mo)), some (VI r), some (VI row), o3, o4, o5] [] T I1 J1 O 0 0 := by
    intro d
    induction d using Nat.strongRecOn with
    | ind d ih =>
    intro row I1 J1 o3 o4 o5 hd r0 r1 hF hJ hv1
    have e9 := hv1.1.2.1
    have hn0 := hv1.2.1.1
    refine G_iload2 x eX11_gathers_12 ?_
    refine G_aload0 x eX11_gathers_13 ?_
    refine G_geti x eX11_gathers_14 fX11_99 rfl rfl hM.m (fun h14 => ?_)
    rw [e9]
    refine G_rg (fun hr => ?_)
    refine G_icmp_ge x eX11_gathers_17 (by first | omega | exact hr _ _ | exact hr0 _ _ | exact hrS _) (by first | omega | exact hr _ _ | exact hr0 _ _ | exact hrS _) (fun c17 => ?_) (fun c17 => ?_)
    · refine G_push x eX11_gathers_161 ?_
      refine G_istore2 x eX11_gathers_162 ?_
      exact p2 _ _ _ _ _ _ _ rfl (by omega) (by omega) hF hJ (hv1.up (by omega) (fun x a b c => by have := c.2.1; omega)) (fun f d f0 f1 => by omega)
    · refine G_push x eX11_gathers_20 ?_
      refine G_istore3 x eX11_gathers_21 ?_
      exact inner _ _ _ _ _ _ _ rfl r0 (by omega) (by omega) (by omega) hF hJ (by rw [Int.add_zero]; exact hv1) (fun I1 J1 o3 o4 o5 a b c => ih _ (by omega) _ _ _ _ _ _ rfl (by omega) (by omega) a b c)
  refine G_aload0 x eX11_gathers_0 ?_
  refine G_iload1 x eX11_gathers_1 ?_
  refine G_cVg x eX11_gathers_2 kX11_155 im_yX11_looks se_yX11_looks rm hM.m (ct_X11_looks hM (by omega) (by omega)) rfl (fun v2 T2 I2 J2 O2 p2 => ?_)
  refine G_rg (fun hr => ?_)
  obtain ⟨rfl, rfl, rfl, rfl, hlk⟩ := looksP.lk p2
  obtain ⟨l1, l2, l3, l4, l5, l6⟩ := hlk
  rw [hS] at l3 l4 l5 l6
  have eo : ∀ b j, b ≠ mo + 5 → b ≠ mo + 6 → (b ≠ mo ∨ (j ≠ 9 ∧ j ≠ 10 ∧ j ≠ 16)) → (uI I2 mo 16 0) b j = I b j := fun b j q1 q2 q3 => by
    rw [uI_o (by omega)]
    by_cases e : b = mo
    · subst e; exact l2 j (by omega) (by omega)
    · exact l1 b q1 q2 e j
  have hv : gv1 (uI I2 mo 16 0) J2 mo S r 0 := ⟨⟨funext fun j => by rw [eo _ _ (by omega) (by omega) (by omega), hS], by rw [uI_k (by omega)]; exact l3, by rw [uI_k (by omega)]; exact l4, fun i i0 i1 => by rw [uI_a (by omega)]; exact l5 i i0 i1, fun i i0 i1 => by rw [uI_a (by omega)]; exact l6 i i0 i1⟩, by rw [uI_s]; exact En.zero, fun c hc hm => by have := hc.1; omega⟩
  refine G_rg (fun hr => ?_)
  refine G_aload0 x eX11_gathers_5 ?_
  refine G_push x eX11_gathers_6 ?_
  refine G_puti x eX11_gathers_7 fX11_211 rfl (Or.inl rfl) rfl hM.m (by first | omega | exact hr _ _ | exact hr0 _ _ | exact hrS _) ?_
  refine G_rg (fun hr => ?_)
  refine G_push x eX11_gathers_10 ?_
  refine G_istore2 x eX11_gathers_11 ?_
  exact outer _ _ _ _ _ _ _ rfl (by omega) (by omega) (fun b j q => eo b j (by omega) (by omega) (by omega)) (fun b j _ _ => rfl) hv
