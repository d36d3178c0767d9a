/-! the law: its loop, from its entry -/
theorem hdf_X10 : ∀ j, j < gN 10 → defaultValue (gty 10 j) = gVk (gK (gty 10 j)) 0 0 none := by decide
set_option maxRecDepth 20000 in
theorem hdf_X11 : ∀ j, j < gN 11 → defaultValue (gty 11 j) = gVk (gK (gty 11 j)) 0 0 none := by decide
theorem law_loop {X : gX} {b L ss mo oa : Nat} {xs : Nat → Int32} (Q : LawC X b L xs) (hL : L ≤ 2560) (fin : ∀ Ls T I J O k n, k ≤ 601024 → n ≤ 7293034 → G X 2203 Ls [VI 1] T I J O k n) : ∀ (d : Nat) (i : Int) (T : gT) (I : gI) (J : gJ) (O : gO) (o5 o6 : Option Value) (k n : Nat), (d : Int) = 2560 + 5 - i → 0 ≤ i → LI ss mo oa T I J O → (k : Int) ≤ 200 + 2 * i → (n : Int) ≤ 60000 + 28 * i → G X 23 (lwL b ss mo oa i o5 o6) [] T I J O k n := by
  intro d
  induction d using Nat.strongRecOn with
  | ind d ih =>
  intro i T I J O o5 o6 k n hd i0 h hk hn
  have Q0 := Q
  obtain ⟨x, rm, hnc, hs⟩ := Q
  refine G_iload4 x eL_law_23 ?_
  refine G_aload0 x eL_law_25 ?_
  refine G_slen x hs eL_law_26 ?_
  refine G_push x eL_law_27 ?_
  refine G_isub x eL_law_28 ?_
  refine G_icmp_gt x eL_law_29 ⟨by omega, by omega⟩ ⟨by omega, by omega⟩ (fun c => ?_) (fun c => ?_)
  · refine G_push x eL_law_2202 ?_
    exact fin _ _ _ _ _ _ _ (by omega) (by omega)
  · have kk : ∀ T' I' J' O' o5 o6 k' n', LI ss mo oa T' I' J' O' → k' ≤ k + 10 → n' ≤ n + 140 → G X 2196 (lwL b ss mo oa i o5 o6) [] T' I' J' O' k' n' := by
      intro T' I' J' O' o5 o6 k' n' h' hk' hn'
      refine G_iinc4 x eL_law_2196 ?_
      refine G_goto x eL_law_2199 ?_
      exact ih (d - 5) (by omega) (i + 5) T' I' J' O' o5 o6 k' n' (by omega) (by omega) h' (by omega) (by omega)
    refine G_aload0 x eL_law_32 ?_
    refine G_iload4 x eL_law_33 ?_
    refine G_sld x hs eL_law_35 i0 (by omega) ⟨by omega, by omega⟩ ?_
    refine G_push x eL_law_36 ?_
    refine G_iand31 x eL_law_38 (fun z z0 z1 => ?_)
    have Q := Q0
    rcases (show z = 0 ∨ z = 1 ∨ z = 2 ∨ z = 3 ∨ z = 4 ∨ z = 5 ∨ z = 6 ∨ z = 7 ∨ z = 8 ∨ z = 9 ∨ z = 10 ∨ z = 11 ∨ z = 12 ∨ z = 13 ∨ z = 14 ∨ z = 15 ∨ z = 16 ∨ z = 17 ∨ z = 18 ∨ z = 19 ∨ z = 20 ∨ z = 21 ∨ z = 22 ∨ z = 23 ∨ z = 24 ∨ z = 25 ∨ z = 26 ∨ z = 27 ∨ z = 28 ∨ 28 < z by omega) with rfl | rfl | rfl | rfl | rfl | rfl | rfl | rfl | rfl | rfl | rfl | rfl | rfl | rfl | rfl | rfl | rfl | rfl | rfl | rfl | rfl | rfl | rfl | rfl | rfl | rfl | rfl | rfl | rfl | hz
    · exact G_tableIn (tgt := 168) (off := 129) x eL_law_39 ⟨by decide, by decide⟩ (by decide) (by decide) rfl (by decide) (st_make Q hL h i0 (by omega) (by omega) (by omega) kk)
    · exact G_tableIn (tgt := 264) (off := 225) x eL_law_39 ⟨by decide, by decide⟩ (by decide) (by decide) rfl (by decide) (st_move Q hL h i0 (by omega) (by omega) (by omega) kk)
    · exact G_tableIn (tgt := 372) (off := 333) x eL_law_39 ⟨by decide, by decide⟩ (by decide) (by decide) rfl (by decide) (st_remove Q hL h i0 (by omega) (by omega) (by omega) kk)
    · exact G_tableIn (tgt := 468) (off := 429) x eL_law_39 ⟨by decide, by decide⟩ (by decide) (by decide) rfl (by decide) (st_shown Q hL h i0 (by omega) (by omega) (by omega) kk)
    · exact G_tableIn (tgt := 552) (off := 513) x eL_law_39 ⟨by decide, by decide⟩ (by decide) (by decide) rfl (by decide) (st_line Q hL h i0 (by omega) (by omega) (by omega) kk)
    · exact G_tableIn (tgt := 648) (off := 609) x eL_law_39 ⟨by decide, by decide⟩ (by decide) (by decide) rfl (by decide) (st_position Q hL h i0 (by omega) (by omega) (by omega) kk)
    · exact G_tableIn (tgt := 744) (off := 705) x eL_law_39 ⟨by decide, by decide⟩ (by decide) (by decide) rfl (by decide) (st_place Q hL h i0 (by omega) (by omega) (by omega) kk)
    · exact G_tableIn (tgt := 840) (off := 801) x eL_law_39 ⟨by decide, by decide⟩ (by decide) (by decide) rfl (by decide) (st_setNumber Q hL h i0 (by omega) (by omega) (by omega) kk)
    · exact G_tableIn (tgt := 932) (off := 893) x eL_law_39 ⟨by decide, by decide⟩ (by decide) (by decide) rfl (by decide) (st_clearCell Q hL h i0 (by omega) (by omega) (by omega) kk)
    · exact G_tableIn (tgt := 1012) (off := 973) x eL_law_39 ⟨by decide, by decide⟩ (by decide) (by decide) rfl (by decide) (st_setFormula Q hL h i0 (by omega) (by omega) (by omega) kk)
    · exact G_tableIn (tgt := 1092) (off := 1053) x eL_law_39 ⟨by decide, by decide⟩ (by decide) (by decide) rfl (by decide) (st_cell Q hL h i0 (by omega) (by omega) (by omega) kk)
    · exact G_tableIn (tgt := 1184) (off := 1145) x eL_law_39 ⟨by decide, by decide⟩ (by decide) (by decide) rfl (by decide) (st_value Q hL h i0 (by omega) (by omega) (by omega) kk)
    · exact G_tableIn (tgt := 1264) (off := 1225) x eL_law_39 ⟨by decide, by decide⟩ (by decide) (by decide) rfl (by decide) (st_error Q hL h i0 (by omega) (by omega) (by omega) kk)
    · exact G_tableIn (tgt := 1344) (off := 1305) x eL_law_39 ⟨by decide, by decide⟩ (by decide) (by decide) rfl (by decide) (st_write Q hL h i0 (by omega) (by omega) (by omega) kk)
    · exact G_tableIn (tgt := 1424) (off := 1385) x eL_law_39 ⟨by decide, by decide⟩ (by decide) (by decide) rfl (by decide) (st_cycles Q hL h i0 (by omega) (by omega) (by omega) kk)
    · exact G_tableIn (tgt := 1480) (off := 1441) x eL_law_39 ⟨by decide, by decide⟩ (by decide) (by decide) rfl (by decide) (st_order Q hL h i0 (by omega) (by omega) (by omega) kk)
    · exact G_tableIn (tgt := 1548) (off := 1509) x eL_law_39 ⟨by decide, by decide⟩ (by decide) (by decide) rfl (by decide) (st_receive Q hL h i0 (by omega) (by omega) (by omega) kk)
    · exact G_tableIn (tgt := 1628) (off := 1589) x eL_law_39 ⟨by decide, by decide⟩ (by decide) (by decide) rfl (by decide) (st_settle Q hL h i0 (by omega) (by omega) (by omega) kk)
    · exact G_tableIn (tgt := 1641) (off := 1602) x eL_law_39 ⟨by decide, by decide⟩ (by decide) (by decide) rfl (by decide) (st_missing Q hL h i0 (by omega) (by omega) (by omega) kk)
    · exact G_tableIn (tgt := 1709) (off := 1670) x eL_law_39 ⟨by decide, by decide⟩ (by decide) (by decide) rfl (by decide) (st_clock Q hL h i0 (by omega) (by omega) (by omega) kk)
    · exact G_tableIn (tgt := 1765) (off := 1726) x eL_law_39 ⟨by decide, by decide⟩ (by decide) (by decide) rfl (by decide) (st_operation Q hL h i0 (by omega) (by omega) (by omega) kk)
    · exact G_tableIn (tgt := 1845) (off := 1806) x eL_law_39 ⟨by decide, by decide⟩ (by decide) (by decide) rfl (by decide) (st_areAlike Q hL h i0 (by omega) (by omega) (by omega) kk)
    · exact G_tableIn (tgt := 1920) (off := 1881) x eL_law_39 ⟨by decide, by decide⟩ (by decide) (by decide) rfl (by decide) (st_different Q hL h i0 (by omega) (by omega) (by omega) kk)
    · exact G_tableIn (tgt := 1988) (off := 1949) x eL_law_39 ⟨by decide, by decide⟩ (by decide) (by decide) rfl (by decide) (st_type Q hL h i0 (by omega) (by omega) (by omega) kk)
    · exact G_tableIn (tgt := 2044) (off := 2005) x eL_law_39 ⟨by decide, by decide⟩ (by decide) (by decide) rfl (by decide) (st_clearText Q hL h i0 (by omega) (by omega) (by omega) kk)
    · exact G_tableIn (tgt := 2057) (off := 2018) x eL_law_39 ⟨by decide, by decide⟩ (by decide) (by decide) rfl (by decide) (st_fault Q hL h i0 (by omega) (by omega) (by omega) kk)
    · exact G_tableIn (tgt := 2113) (off := 2074) x eL_law_39 ⟨by decide, by decide⟩ (by decide) (by decide) rfl (by decide) (st_character Q hL h i0 (by omega) (by omega) (by omega) kk)
    · exact G_tableIn (tgt := 2138) (off := 2099) x eL_law_39 ⟨by decide, by decide⟩ (by decide) (by decide) rfl (by decide) (st_undo Q hL h i0 (by omega) (by omega) (by omega) kk)
    · exact G_tableIn (tgt := 2182) (off := 2143) x eL_law_39 ⟨by decide, by decide⟩ (by decide) (by decide) rfl (by decide) (st_checksum Q hL h i0 (by omega) (by omega) (by omega) kk)
    · exact G_tableOut (tgt := 2196) x eL_law_39 ⟨by omega, by omega⟩ (Or.inr hz) (by decide) (kk _ _ _ _ _ _ _ _ h (by omega) (by omega))
set_option maxRecDepth 20000 in
theorem law_go {X : gX} {b L ss : Nat} {xs : Nat → Int32} (Q : LawC X b L xs) (hL : L ≤ 2560) (fin : ∀ Ls T I J O k n, k ≤ 601024 → n ≤ 7293034 → G X 2203 Ls [VI 1] T I J O k n) : G X 0 [some (va_rf (some b)), none, none, none, none, none, none] [] (ss, fun _ => none) (fun _ _ => 0) (fun _ _ => 0) (fun _ _ => none) 0 0 := by
  have Q0 := Q
  obtain ⟨x, rm, hnc, hs⟩ := Q
  have g10 : gN 10 ≤ 100 := by decide
  have g11 : gN 11 ≤ 100 := by decide
  refine G_nw x eL_law_0 clL_8 itX10 ini_X10 rfl rm (by omega) (by omega) (fun _ _ _ => ?_) (hdf_X10)
  refine G_dup x eL_law_3 rfl ?_
  refine G_cI x eL_law_4 kL_99 im_yX10_init rm (ct_X10_init (B := ss + 116) (ss := ss) (gpush_at rfl) rfl (by omega)) rfl (fun v4 T4 I4 J4 O4 p4 => ?_)
  obtain ⟨rfl, t4, u4, w4, rfl, f4, r4, n4, x4⟩ := p4
  refine G_astore1 x eL_law_7 ?_
  refine G_nw x eL_law_8 clL_100 itX11 ini_X11 rfl rm (by omega) (by omega) (fun _ _ _ => ?_) (hdf_X11)
  rw [t4]
  refine G_dup x eL_law_11 rfl ?_
  refine G_cI x eL_law_12 kL_102 im_yX11_init rm (ct_X11_init (mo := ss + 95) (gpush_at t4.symm) (by show T4.1 + 1 = ss + 95 + 1; omega)) rfl (fun v12 T12 I12 J12 O12 p12 => ?_) (hmc := Nat.le_of_ble_eq_true rfl) (hms := Nat.le_of_ble_eq_true rfl)
  obtain ⟨rfl, t12, u12, w12, f12, s12, rfl, o12⟩ := p12
  refine G_astore2 x eL_law_15 ?_
  refine G_push x eL_law_16 ?_
  refine G_na_long (N := 1) x eL_law_17 rfl (by omega) rm (Nat.le_of_ble_eq_true rfl) (Nat.le_of_ble_eq_true rfl) (fun _ _ _ => ?_)
  rw [t12]
  refine G_astore3 x eL_law_19 ?_
  refine G_push x eL_law_20 ?_
  refine G_istore4 x eL_law_21 ?_
  have e1 : I12 (ss + 95 + 1) = S0 := funext s12
  have ei : ∀ b j, ss + 94 < b → b ≠ ss + 95 + 1 → I12 b j = 0 := fun b j b1 b2 => (f12 b j b2).trans (f4 b j (Or.inr b1)).1
  have h3 : I12 (ss + 95) 3 = 0 := ei _ _ (by omega) (by omega)
  have h5 : I12 (ss + 95) 5 = 0 := ei _ _ (by omega) (by omega)
  have el : ∀ b, ss ≤ b → b ≤ ss + 94 → (gpush T12 (.inr (3, 1))).2 b = T4.2 b ∧ (∀ j, I12 b j = I4 b j) ∧ ∀ j, O12 b j = O4 b j := fun b b1 b2 => ⟨by rw [gpush_k (by omega), u12 b (by omega), gpush_k (by omega)], fun j => f12 b j (by omega), fun j => o12 b j (by omega)⟩
  have hk : hiK (ss + 116) T4 (gpush T12 (.inr (3, 1))) I4 I12 O4 O12 := ⟨by rw [gpush_1]; omega, fun b b1 b2 => by omega⟩
  have hz : ∀ r : Int, 0 ≤ r → r ≤ 2 → S0 r = 0 := fun r r0 r1 => S0_o (by omega)
  refine law_loop (ss := ss) (mo := ss + 95) (oa := ss + 116) Q0 hL fin 2565 0 _ _ _ _ _ _ _ _ rfl (by omega) ?_ (by omega) (by omega)
  refine ⟨⟨rfl, rfl⟩, w12.mv (fun b b1 b2 => gpush_k (by omega)) (fun _ => rfl), gpush_at t12.symm, ?_, by rw [e1]; exact Inv.z, by omega, by rw [h5]; exact ⟨by omega, fun j j0 j1 => by omega⟩, by rw [h3]; exact fun k k0 k1 => by omega⟩
  rw [e1, h3, h5]
  refine ⟨⟨w4.mv (fun b b1 b2 => (el b b1 b2).1) (fun b j b1 b2 _ _ _ _ _ _ _ _ _ => (el b b1 b2).2.2 j), by omega, by rw [gpush_1]; omega⟩, fun r r0 r1 => ?_, ⟨by rw [(el (ss + 2) (by omega) (by omega)).2.1]; exact n4, fun j j0 j1 => by omega⟩, by rw [(el (ss + 4) (by omega) (by omega)).2.1]; exact x4, fun j j0 j1 => by omega⟩
  have hp : ss + 8 ≤ rpA ss r ∧ rpA ss r + 28 ≤ ss + 94 := by unfold rpA; omega
  refine ⟨(r4 r r0 r1).1.mv (by omega) hk (fun j _ b b1 b2 _ => (el b (by omega) (by omega)).2.1 j) (fun j b b1 b2 _ => (el b (by omega) (by omega)).2.1 j) (fun j b hb => (el b (by omega) (by omega)).2.2 j) (fun _ _ _ _ _ _ => rfl) (fun _ _ _ => rfl) rfl r0 r1, fun k k0 k1 => ?_, Or.inl ?_⟩
  · rw [hz r r0 r1] at k1; omega
  · rw [(el (rpA ss r + 15) (by omega) (by omega)).2.1]; exact (r4 r r0 r1).2
