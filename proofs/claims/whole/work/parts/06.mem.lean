theorem gtb_mem {w : Cond} (h : w ∈ lw_tbl) (hg : goodWord w = true) : w ∈ gtb := List.mem_filter.mpr ⟨h, hg⟩
theorem gtb_all {ws : List Cond} (h : ws.all (fun w => decide (w ∈ lw_tbl) && goodWord w) = true) : ∀ w ∈ ws, w ∈ gtb := fun w hw => by
  have h1 := List.all_eq_true.mp h w hw
  simp only [Bool.and_eq_true, decide_eq_true_eq] at h1
  exact gtb_mem h1.1 h1.2
set_option maxRecDepth 100000 in
theorem gin0 : ∀ w ∈ u_ws RX0 TX0 12, w ∈ gtb := gtb_all (by decide +kernel)
set_option maxRecDepth 100000 in
theorem gin1 : ∀ w ∈ u_ws RX1 TX1 1, w ∈ gtb := gtb_all (by decide +kernel)
set_option maxRecDepth 100000 in
theorem gin2 : ∀ w ∈ u_ws RX2 TX2 3, w ∈ gtb := gtb_all (by decide +kernel)
set_option maxRecDepth 100000 in
theorem gin3 : ∀ w ∈ u_ws RX3 TX3 1, w ∈ gtb := gtb_all (by decide +kernel)
set_option maxRecDepth 100000 in
theorem gin4 : ∀ w ∈ u_ws RX4 TX4 7, w ∈ gtb := gtb_all (by decide +kernel)
set_option maxRecDepth 100000 in
theorem gin5 : ∀ w ∈ u_ws RX5 TX5 7, w ∈ gtb := gtb_all (by decide +kernel)
set_option maxRecDepth 100000 in
theorem gin6 : ∀ w ∈ u_ws RX6 TX6 3, w ∈ gtb := gtb_all (by decide +kernel)
set_option maxRecDepth 100000 in
theorem gin7 : ∀ w ∈ u_ws RX7 TX7 2, w ∈ gtb := gtb_all (by decide +kernel)
set_option maxRecDepth 100000 in
theorem gin8 : ∀ w ∈ u_ws RX8 TX8 9, w ∈ gtb := gtb_all (by decide +kernel)
set_option maxRecDepth 100000 in
theorem gin9 : ∀ w ∈ u_ws RX9 TX9 2, w ∈ gtb := gtb_all (by decide +kernel)
set_option maxRecDepth 100000 in
theorem gin10 : ∀ w ∈ u_ws RX10 TX10 4, w ∈ gtb := gtb_all (by decide +kernel)
set_option maxRecDepth 100000 in
theorem gin11 : ∀ w ∈ u_ws RX11 TX11 31, w ∈ gtb := gtb_all (by decide +kernel)
theorem gin (ci : Nat) : ∀ w ∈ u_ws (gRn ci) (gTb ci) (gN ci), w ∈ gtb := by
  match ci with
  | 0 => exact gin0
  | 1 => exact gin1
  | 2 => exact gin2
  | 3 => exact gin3
  | 4 => exact gin4
  | 5 => exact gin5
  | 6 => exact gin6
  | 7 => exact gin7
  | 8 => exact gin8
  | 9 => exact gin9
  | 10 => exact gin10
  | _ + 11 => exact gin11
theorem gtyOk (ci : Nat) : ∀ k, k < gN ci → parseFieldDescriptor (gTb ci k).2.2.1 = some (gty ci k) := by
  match ci with
  | 0 => exact tyX0_ok
  | 1 => exact tyX1_ok
  | 2 => exact tyX2_ok
  | 3 => exact tyX3_ok
  | 4 => exact tyX4_ok
  | 5 => exact tyX5_ok
  | 6 => exact tyX6_ok
  | 7 => exact tyX7_ok
  | 8 => exact tyX8_ok
  | 9 => exact tyX9_ok
  | 10 => exact tyX10_ok
  | _ + 11 => exact tyX11_ok
theorem gnm (ci : Nat) : ∀ a, a < gN ci → ∀ b, b < gN ci → a ≠ b → (gTb ci a).2.1 ≠ (gTb ci b).2.1 := by
  match ci with
  | 0 => exact nmX0
  | 1 => exact nmX1
  | 2 => exact nmX2
  | 3 => exact nmX3
  | 4 => exact nmX4
  | 5 => exact nmX5
  | 6 => exact nmX6
  | 7 => exact nmX7
  | 8 => exact nmX8
  | 9 => exact nmX9
  | 10 => exact nmX10
  | _ + 11 => exact nmX11
theorem gfs_at {ci k : Nat} (I : gI) (J : gJ) (O : gO) (a : Nat) (hk : k < gN ci) : (gfs ci I J O a)[k]? = some (gVk (gK (gty ci k)) (I a k) (J a k) (O a k)) := by
  simp [gfs, hk]
theorem va_P1 {D : va_G} {cl : List vw_C} {q : Nat × va_E} {H : Heap} (h : va_at D cl q H) : va_P D cl [q] H := fun k x hx => by
  match k, hx with
  | 0, hx => cases hx; exact h
  | _ + 1, hx => cases hx
/-- a field, by its class's number and its place -/
def Lf (own : String) (idx ci kf : Nat) (kz : Int) : Prop := kf < gN ci ∧ vwCl[ci]? = some (gRn ci, gTb ci, gN ci) ∧ (gTb ci kf).1 = gRn ci ∧ Cond.fieldLink own idx (gRn ci) (gTb ci kf).2.1 (gTb ci kf).2.2.1 ∈ gtb ∧ (kf : Int) = kz
def Ini (X : gX) : Prop := X.2.2.2.2.2.2.2.2.1.name = "<init>"
section GM
variable {X : gX} {cc : ByteArray} {own : String} {pc q : Nat} {Ls : List (Option Value)} {st : List Value} {T : gT} {I : gI} {J : gJ} {O : gO} {k n : Nat}
theorem G_getV {idx ci kf a : Nat} {kz : Int} {o : Option Nat} (x : Ok X cc own) (d : Dc cc pc (.getfield idx) 3 q) (L : Lf own idx ci kf kz) (ho : o = some a) (hT : T.2 a = some (.inl ci)) (h : in32 (I a kz) → G X q Ls (gVk (gK (gty ci kf)) (I a kz) (J a kz) (O a kz) :: st) T I J O k n) : G X pc Ls (va_rf o :: st) T I J O k n := by
  obtain ⟨p, l, e, R, s, m, args, below, meth, c, E, Q⟩ := X
  intro H locs ls hW hS hL
  obtain ⟨d, rfl⟩ := d
  obtain ⟨hk, hc, h1, hl, rfl⟩ := L
  subst ho
  refine va_get (Ts := gtb) x.1 x.2.1 x.2.2.2.1 (gin ci) x.2.2.1 x.2.2.2.2.1.1 (va_P1 (hW.2.1 a _ hT).2) 0 rfl hc kf hk (x.2.2.2.1 _ hl) (fun y hy => by rw [← h1]; exact hy) (gfs_at I J O a hk) d ?_
  exact h (hW.2.2.1 a _) H locs ls hW hS hL
theorem G_geti {idx ci kf a : Nat} {kz : Int} {o : Option Nat} (x : Ok X cc own) (d : Dc cc pc (.getfield idx) 3 q) (L : Lf own idx ci kf kz) (hk : gK (gty ci kf) = 0) (ho : o = some a) (hT : T.2 a = some (.inl ci)) (h : in32 (I a kz) → G X q Ls (VI (I a kz) :: st) T I J O k n) : G X pc Ls (va_rf o :: st) T I J O k n :=
  G_getV x d L ho hT (by rw [hk]; exact h)
theorem G_getl {idx ci kf a : Nat} {kz : Int} {o : Option Nat} (x : Ok X cc own) (d : Dc cc pc (.getfield idx) 3 q) (L : Lf own idx ci kf kz) (hk : gK (gty ci kf) = 1) (ho : o = some a) (hT : T.2 a = some (.inl ci)) (h : G X q Ls (.long (J a kz) :: st) T I J O k n) : G X pc Ls (va_rf o :: st) T I J O k n :=
  G_getV x d L ho hT (by rw [hk]; exact fun _ => h)
theorem G_getr {idx ci kf a : Nat} {kz : Int} {o : Option Nat} (x : Ok X cc own) (d : Dc cc pc (.getfield idx) 3 q) (L : Lf own idx ci kf kz) (hk : gK (gty ci kf) = 2) (ho : o = some a) (hT : T.2 a = some (.inl ci)) (h : G X q Ls (va_rf (O a kz) :: st) T I J O k n) : G X pc Ls (va_rf o :: st) T I J O k n :=
  G_getV x d L ho hT (by rw [hk]; exact fun _ => h)
theorem G_putV {idx ci kf a : Nat} {kz : Int} {o : Option Nat} {v : Value} {I' : gI} {J' : gJ} {O' : gO} (x : Ok X cc own) (d : Dc cc pc (.putfield idx) 3 q) (L : Lf own idx ci kf kz) (hfin : (gTb ci kf).2.2.2 = false ∨ ((gTb ci kf).2.2.2 = true ∧ Ini X ∧ gRn ci = own)) (ho : o = some a) (hT : T.2 a = some (.inl ci))
    (hn : narrow (gty ci kf) v = v) (hfit : fits (gty ci kf) v = true) (hv : gVk (gK (gty ci kf)) (I' a kz) (J' a kz) (O' a kz) = v) (hoth : ∀ j : Int, j ≠ kz → I' a j = I a j ∧ J' a j = J a j ∧ O' a j = O a j)
    (hI : ∀ b, b ≠ a → ∀ k, I' b k = I b k) (hJ : ∀ b, b ≠ a → ∀ k, J' b k = J b k) (hO : ∀ b, b ≠ a → ∀ k, O' b k = O b k) (hr : (∀ a k, in32 (I a k)) → ∀ a k, in32 (I' a k)) (h : G X q Ls st T I' J' O' k n) : G X pc Ls (v :: va_rf o :: st) T I J O k n := by
  obtain ⟨p, l, e, R, s, m, args, below, meth, c, E, Q⟩ := X
  intro H locs ls hW hS hL
  obtain ⟨d, rfl⟩ := d
  obtain ⟨hk, hc, h1, hl, rfl⟩ := L
  subst ho
  have hts := x.2.2.2.1
  have hK := x.2.2.2.2.1.1
  have hap := va_apart (own := own) hts (gin ci) (gty ci) (gtyOk ci) (gnm ci) hK hc
  have hat := (hW.2.1 a _ hT)
  obtain ⟨r, g1, cell, q1, q2, q3, q4⟩ := hat.2
  have hr1 : r = (gRn ci, gTb ci, gN ci) := Option.some.inj (g1.symm.trans hc)
  subst hr1
  obtain ⟨hS5, hfc, kC, hkC, hkind⟩ := hK.1 ci _ hc
  obtain ⟨cf, kf5, fi, f, hi, hsl⟩ := hS5 kf hk
  have hlay := hts _ (gin ci _ (u_in_lay hk))
  have hst := (u_facts hfc hkC (u_lays hts (gin ci) hk) hi).1
  have hsame : s.fieldFound? (gRn ci) (gTb ci kf).2.1 (gTb ci kf).2.2.1 = some (cf, kf5, fi, f) := by rw [← h1]; exact hi
  have key : ∀ H' : Heap, H'[a]? = some (cell.setSlot f.slot v) → H'.size = H.size → (∀ q, q ≠ a → H'[q]? = H[q]?) → W p l e R s m args below meth c H' (locs ++ [⟨a, f.slot⟩]) k n Q (F0 m (pc + 3) ls st) := by
    intro H' e1 e2 e3
    rw [hsl] at e1
    refine h H' _ ls (hW.put hT e2 e3 ⟨_, hc, t_OB.to (V := updV (vp_V (gfs ci I J O a)) kf v) ⟨_, e1, q2, q3, t_set q4 hap hk v⟩ (fun j hj => ?_)⟩ hI hJ hO (hr hW.2.2.1)) (hS.put e2 e3 hat.1) hL
    show updV (vp_V (gfs ci I J O a)) kf v j = vp_V (gfs ci I' J' O' a) j
    simp only [updV, vp_V, List.getD_eq_getElem?_getD, gfs_at I' J' O' a hj, gfs_at I J O a hj, Option.getD_some]
    by_cases hjk : j = kf
    · subst hjk
      rw [if_pos rfl, hv]
    · rw [if_neg hjk]
      obtain ⟨z1, z2, z3⟩ := hoth (j : Int) (fun z => hjk (Int.ofNat_inj.mp z))
      rw [z1, z2, z3]
  rcases hfin with hfin | ⟨hfin, hini, hdecl⟩
  · unfold u_lay at hlay
    rw [if_neg (by rw [hfin]; decide)] at hlay
    have h6 := u_store hfc hkC hkind hlay hi (gtyOk ci kf hk) hn hfit
    exact W.putK x.1 x.2.1 (f := f) ⟨x.2.2.1, x.2.2.2.1 _ hl, ⟨_, _, _, hsame⟩, hst⟩ (by rw [q2]; exact h6) q1 q3 (by rw [hsl]; exact k2_hasslot (q4 kf hk)) rfl rfl d key
  · unfold u_lay at hlay
    rw [if_pos hfin] at hlay
    have hcf : m.cls = cf := by
      obtain ⟨_, _, c', _, _, _, -, -, hf', -, -, -, hown2, -⟩ := Cond.laysFinal_spec hlay
      have e1 : c' = cf := by have := hi.symm.trans hf'; simp at this; exact this.1.symm
      rw [h1, hdecl] at hown2
      rw [← e1]; exact Option.some.inj (x.2.2.1.symm.trans hown2)
    have h6 := u_fits hfc hkC hkind (Or.inr hlay) hi (gtyOk ci kf hk) hn hfit
    exact W.putFinK x.1 x.2.1 x.2.2.1 (x.2.2.2.1 _ hl) hsame hst hcf hini (by rw [q2]; exact h6) q1 q3 (by rw [hsl]; exact k2_hasslot (q4 kf hk)) rfl rfl d key
end GM
