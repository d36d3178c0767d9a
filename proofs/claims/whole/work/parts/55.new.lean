theorem mx1 {w : Cond} (h : w ∈ tables_1_1) (hg : gxk w = true) : w ∈ gxw := List.mem_filter.mpr ⟨List.mem_append_right _ (by unfold tables_1; exact List.mem_append_left _ h), hg⟩
theorem mx2 {w : Cond} (h : w ∈ tables_1_2) (hg : gxk w = true) : w ∈ gxw := List.mem_filter.mpr ⟨List.mem_append_right _ (by unfold tables_1; exact List.mem_append_right _ (List.mem_append_left _ h)), hg⟩
theorem mx3 {w : Cond} (h : w ∈ tables_1_3) (hg : gxk w = true) : w ∈ gxw := List.mem_filter.mpr ⟨List.mem_append_right _ (by unfold tables_1; exact List.mem_append_right _ (List.mem_append_right _ (List.mem_append_left _ h))), hg⟩
theorem mx4 {w : Cond} (h : w ∈ tables_1_4) (hg : gxk w = true) : w ∈ gxw := List.mem_filter.mpr ⟨List.mem_append_right _ (by unfold tables_1; exact List.mem_append_right _ (List.mem_append_right _ (List.mem_append_right _ (List.mem_append_left _ h)))), hg⟩
theorem mx5 {w : Cond} (h : w ∈ tables_1_5) (hg : gxk w = true) : w ∈ gxw := List.mem_filter.mpr ⟨List.mem_append_right _ (by unfold tables_1; exact List.mem_append_right _ (List.mem_append_right _ (List.mem_append_right _ (List.mem_append_right _ (List.mem_append_left _ h))))), hg⟩
theorem mx6 {w : Cond} (h : w ∈ tables_1_6) (hg : gxk w = true) : w ∈ gxw := List.mem_filter.mpr ⟨List.mem_append_right _ (by unfold tables_1; exact List.mem_append_right _ (List.mem_append_right _ (List.mem_append_right _ (List.mem_append_right _ (List.mem_append_right _ (List.mem_append_left _ h)))))), hg⟩
theorem mx7 {w : Cond} (h : w ∈ tables_1_7) (hg : gxk w = true) : w ∈ gxw := List.mem_filter.mpr ⟨List.mem_append_right _ (by unfold tables_1; exact List.mem_append_right _ (List.mem_append_right _ (List.mem_append_right _ (List.mem_append_right _ (List.mem_append_right _ (List.mem_append_right _ (h))))))), hg⟩
theorem clL_8 : Cond.classLink RL 8 (gRn 10) ∈ gtb := mt1 (List.mem_of_getElem? (i := 23) (by decide +kernel)) rfl
theorem itX10 : Cond.instantiable (gRn 10) (gN 10) ∈ gtb := mt1 (List.mem_of_getElem? (i := 24) (by decide +kernel)) rfl
theorem olX10 : Cond.methodLink RX10 3 Lib.objectInit ∈ gtb := mt1 (List.mem_of_getElem? (i := 28) (by decide +kernel)) rfl
theorem oi_i : Cond.instanceMethod Lib.objectInit ∈ gtb := mt1 (List.mem_of_getElem? (i := 29) (by decide +kernel)) rfl
set_option maxRecDepth 100000 in
theorem oi_c : Cond.code Lib.objectInit ⟨#[0xb1]⟩ 1 none ∈ gtb := mt1 (List.mem_of_getElem? (i := 30) rfl) rfl
theorem clX10_9 : Cond.classLink RX10 9 (gRn 8) ∈ gtb := mt1 (List.mem_of_getElem? (i := 31) (by decide +kernel)) rfl
theorem clX10_15 : Cond.classLink RX10 15 (gRn 7) ∈ gtb := mt1 (List.mem_of_getElem? (i := 33) (by decide +kernel)) rfl
theorem itX7 : Cond.instantiable (gRn 7) (gN 7) ∈ gtb := mt1 (List.mem_of_getElem? (i := 34) (by decide +kernel)) rfl
theorem knX10_17 : LkN RX10 17 yX7_init RX10 cX7_init 1 none 0 := ⟨mx1 (List.mem_of_getElem? (i := 35) (by decide +kernel)) rfl, ini_X7, cd_yX7_init, by decide, by decide, by decide +kernel⟩
theorem olX7 : Cond.methodLink RX7 3 Lib.objectInit ∈ gtb := mt1 (List.mem_of_getElem? (i := 38) (by decide +kernel)) rfl
theorem ac_int : Cond.arrayClass .int ∈ gtb := mt1 (List.mem_of_getElem? (i := 46) (by decide +kernel)) rfl
theorem clX10_22 : Cond.classLink RX10 22 (gRn 9) ∈ gtb := mt1 (List.mem_of_getElem? (i := 47) (by decide +kernel)) rfl
theorem itX9 : Cond.instantiable (gRn 9) (gN 9) ∈ gtb := mt1 (List.mem_of_getElem? (i := 48) (by decide +kernel)) rfl
theorem knX10_24 : LkN RX10 24 yX9_init RX10 cX9_init 1 none 0 := ⟨mx1 (List.mem_of_getElem? (i := 49) (by decide +kernel)) rfl, ini_X9, cd_yX9_init, by decide, by decide, by decide +kernel⟩
theorem olX9 : Cond.methodLink RX9 3 Lib.objectInit ∈ gtb := mt1 (List.mem_of_getElem? (i := 52) (by decide +kernel)) rfl
theorem ac_char : Cond.arrayClass .char ∈ gtb := mt1 (List.mem_of_getElem? (i := 60) (by decide +kernel)) rfl
theorem clX10_29 : Cond.classLink RX10 29 (gRn 6) ∈ gtb := mt1 (List.mem_of_getElem? (i := 61) (by decide +kernel)) rfl
theorem itX6 : Cond.instantiable (gRn 6) (gN 6) ∈ gtb := mt1 (List.mem_of_getElem? (i := 62) (by decide +kernel)) rfl
theorem knX10_31 : LkN RX10 31 yX6_init RX10 cX6_init 1 none 0 := ⟨mx1 (List.mem_of_getElem? (i := 63) (by decide +kernel)) rfl, ini_X6, cd_yX6_init, by decide, by decide, by decide +kernel⟩
theorem olX6 : Cond.methodLink RX6 3 Lib.objectInit ∈ gtb := mt1 (List.mem_of_getElem? (i := 66) (by decide +kernel)) rfl
theorem itX8 : Cond.instantiable (gRn 8) (gN 8) ∈ gtb := mt1 (List.mem_of_getElem? (i := 77) (by decide +kernel)) rfl
theorem olX8 : Cond.methodLink RX8 3 Lib.objectInit ∈ gtb := mt1 (List.mem_of_getElem? (i := 81) (by decide +kernel)) rfl
theorem clX8_9 : Cond.classLink RX8 9 (gRn 4) ∈ gtb := mt1 (List.mem_of_getElem? (i := 82) (by decide +kernel)) rfl
theorem itX4 : Cond.instantiable (gRn 4) (gN 4) ∈ gtb := mt1 (List.mem_of_getElem? (i := 83) (by decide +kernel)) rfl
theorem olX4 : Cond.methodLink RX4 3 Lib.objectInit ∈ gtb := mt1 (List.mem_of_getElem? (i := 87) (by decide +kernel)) rfl
theorem ac_boolean : Cond.arrayClass .boolean ∈ gtb := mt1 (List.mem_of_getElem? (i := 122) (by decide +kernel)) rfl
theorem clX8_21 : Cond.classLink RX8 21 (gRn 0) ∈ gtb := mt1 (List.mem_of_getElem? (i := 123) (by decide +kernel)) rfl
theorem itX0 : Cond.instantiable (gRn 0) (gN 0) ∈ gtb := mt1 (List.mem_of_getElem? (i := 124) (by decide +kernel)) rfl
theorem knX8_23 : LkN RX8 23 yX0_init RX10 cX0_init 1 none 0 := ⟨mx1 (List.mem_of_getElem? (i := 125) (by decide +kernel)) rfl, ini_X0, cd_yX0_init, by decide, by decide, by decide +kernel⟩
theorem olX0 : Cond.methodLink RX0 3 Lib.objectInit ∈ gtb := mt1 (List.mem_of_getElem? (i := 128) (by decide +kernel)) rfl
theorem clX0_21 : Cond.classLink RX0 21 (gRn 3) ∈ gtb := mt1 (List.mem_of_getElem? (i := 129) (by decide +kernel)) rfl
theorem clX0_30 : Cond.classLink RX0 30 (gRn 1) ∈ gtb := mt1 (List.mem_of_getElem? (i := 131) (by decide +kernel)) rfl
theorem itX1 : Cond.instantiable (gRn 1) (gN 1) ∈ gtb := mt1 (List.mem_of_getElem? (i := 132) (by decide +kernel)) rfl
theorem knX0_32 : LkN RX0 32 yX1_init RX10 cX1_init 1 none 0 := ⟨mx1 (List.mem_of_getElem? (i := 133) (by decide +kernel)) rfl, ini_X1, cd_yX1_init, by decide, by decide, by decide +kernel⟩
theorem olX1 : Cond.methodLink RX1 5 Lib.objectInit ∈ gtb := mt1 (List.mem_of_getElem? (i := 136) (by decide +kernel)) rfl
theorem ac_long : Cond.arrayClass .long ∈ gtb := mt1 (List.mem_of_getElem? (i := 141) (by decide +kernel)) rfl
theorem clX8_28 : Cond.classLink RX8 28 (gRn 5) ∈ gtb := mt1 (List.mem_of_getElem? (i := 179) (by decide +kernel)) rfl
theorem clX8_41 : Cond.classLink RX8 41 (gRn 2) ∈ gtb := mt1 (List.mem_of_getElem? (i := 181) (by decide +kernel)) rfl
theorem itX2 : Cond.instantiable (gRn 2) (gN 2) ∈ gtb := mt1 (List.mem_of_getElem? (i := 182) (by decide +kernel)) rfl
theorem olX2 : Cond.methodLink RX2 1 Lib.objectInit ∈ gtb := mt1 (List.mem_of_getElem? (i := 186) (by decide +kernel)) rfl
theorem knX8_125 : LkN RX8 125 yX10_isCell RX10 cX10_isCell 1 (some .boolean) 1 := ⟨mx2 (List.mem_of_getElem? (i := 59) (by decide +kernel)) rfl, ini_X10, cd_yX10_isCell, by decide, by decide, by decide +kernel⟩
theorem knX0_65 : LkN RX0 65 yX10_isCell RX10 cX10_isCell 1 (some .boolean) 1 := ⟨mx2 (List.mem_of_getElem? (i := 134) (by decide +kernel)) rfl, ini_X10, cd_yX10_isCell, by decide, by decide, by decide +kernel⟩
theorem knX1_31 : LkN RX1 31 yX10_isCell RX10 cX10_isCell 1 (some .boolean) 1 := ⟨mx2 (List.mem_of_getElem? (i := 176) (by decide +kernel)) rfl, ini_X10, cd_yX10_isCell, by decide, by decide, by decide +kernel⟩
theorem itX3 : Cond.instantiable (gRn 3) (gN 3) ∈ gtb := mt2 (List.mem_of_getElem? (i := 188) (by decide +kernel)) rfl
theorem clX10_280 : Cond.classLink RX10 280 (gRn 5) ∈ gtb := mt3 (List.mem_of_getElem? (i := 210) (by decide +kernel)) rfl
theorem itX5 : Cond.instantiable (gRn 5) (gN 5) ∈ gtb := mt3 (List.mem_of_getElem? (i := 211) (by decide +kernel)) rfl
theorem olX5 : Cond.methodLink RX5 1 Lib.objectInit ∈ gtb := mt3 (List.mem_of_getElem? (i := 219) (by decide +kernel)) rfl
theorem clX10_96 : Cond.classLink RX10 96 (gRn 2) ∈ gtb := mt4 (List.mem_of_getElem? (i := 98) (by decide +kernel)) rfl
theorem clX6_11 : Cond.classLink RX6 11 (gRn 3) ∈ gtb := mt4 (List.mem_of_getElem? (i := 157) (by decide +kernel)) rfl
theorem olX3 : Cond.methodLink RX3 3 Lib.objectInit ∈ gtb := mt4 (List.mem_of_getElem? (i := 173) (by decide +kernel)) rfl
theorem clL_100 : Cond.classLink RL 100 (gRn 11) ∈ gtb := mt5 (List.mem_of_getElem? (i := 132) (by decide +kernel)) rfl
theorem itX11 : Cond.instantiable (gRn 11) (gN 11) ∈ gtb := mt5 (List.mem_of_getElem? (i := 133) (by decide +kernel)) rfl
theorem olX11 : Cond.methodLink RX11 1 Lib.objectInit ∈ gtb := mt5 (List.mem_of_getElem? (i := 137) (by decide +kernel)) rfl
section GNA
variable {X : gX} {cc : ByteArray} {own : String} {pc q : Nat} {Ls : List (Option Value)} {st : List Value} {T : gT} {I : gI} {J : gJ} {O : gO} {k n : Nat}
theorem G_na_int {N fr0 lo0 mc0 ms0 : Nat} {z : Int} (x : Ok X cc own) (d : Dc cc pc (.newarray .int) 2 q) (hz : z = (N : Int)) (hN : N ≤ 100000) (rm : gRm X fr0 lo0 mc0 ms0) (hmc : k + 1 ≤ mc0) (hms : n + N ≤ ms0)
    (h : (∀ j, I T.1 j = 0) → (∀ j, J T.1 j = 0) → (∀ j, O T.1 j = none) → G X q Ls (va_rf (some T.1) :: st) (gpush T (.inr (0, N))) I J O (k + 1) (n + N)) : G X pc Ls (VI z :: st) T I J O k n :=
  G_newa (t := 0) x d ac_int (fun _ => rfl) (Or.inl rfl) (fun kA a hI hJ => by show arrV (kA 0) N (fun j => Value.int (Int32.ofInt (I a j))) = _; rw [hI]; rfl) hz hN rm hmc hms h
theorem G_na_boolean {N fr0 lo0 mc0 ms0 : Nat} {z : Int} (x : Ok X cc own) (d : Dc cc pc (.newarray .boolean) 2 q) (hz : z = (N : Int)) (hN : N ≤ 100000) (rm : gRm X fr0 lo0 mc0 ms0) (hmc : k + 1 ≤ mc0) (hms : n + N ≤ ms0)
    (h : (∀ j, I T.1 j = 0) → (∀ j, J T.1 j = 0) → (∀ j, O T.1 j = none) → G X q Ls (va_rf (some T.1) :: st) (gpush T (.inr (1, N))) I J O (k + 1) (n + N)) : G X pc Ls (VI z :: st) T I J O k n :=
  G_newa (t := 1) x d ac_boolean (fun _ => rfl) (Or.inr (Or.inl rfl)) (fun kA a hI hJ => by show arrV (kA 1) N (fun j => Value.int (Int32.ofInt (I a j))) = _; rw [hI]; rfl) hz hN rm hmc hms h
theorem G_na_char {N fr0 lo0 mc0 ms0 : Nat} {z : Int} (x : Ok X cc own) (d : Dc cc pc (.newarray .char) 2 q) (hz : z = (N : Int)) (hN : N ≤ 100000) (rm : gRm X fr0 lo0 mc0 ms0) (hmc : k + 1 ≤ mc0) (hms : n + N ≤ ms0)
    (h : (∀ j, I T.1 j = 0) → (∀ j, J T.1 j = 0) → (∀ j, O T.1 j = none) → G X q Ls (va_rf (some T.1) :: st) (gpush T (.inr (2, N))) I J O (k + 1) (n + N)) : G X pc Ls (VI z :: st) T I J O k n :=
  G_newa (t := 2) x d ac_char (fun _ => rfl) (Or.inr (Or.inr (Or.inl rfl))) (fun kA a hI hJ => by show arrV (kA 2) N (fun j => Value.int (Int32.ofInt (I a j))) = _; rw [hI]; rfl) hz hN rm hmc hms h
theorem G_na_long {N fr0 lo0 mc0 ms0 : Nat} {z : Int} (x : Ok X cc own) (d : Dc cc pc (.newarray .long) 2 q) (hz : z = (N : Int)) (hN : N ≤ 100000) (rm : gRm X fr0 lo0 mc0 ms0) (hmc : k + 1 ≤ mc0) (hms : n + N ≤ ms0)
    (h : (∀ j, I T.1 j = 0) → (∀ j, J T.1 j = 0) → (∀ j, O T.1 j = none) → G X q Ls (va_rf (some T.1) :: st) (gpush T (.inr (3, N))) I J O (k + 1) (n + N)) : G X pc Ls (VI z :: st) T I J O k n :=
  G_newa (t := 3) x d ac_long (fun _ => rfl) (Or.inr (Or.inr (Or.inr rfl))) (fun kA a hI hJ => by show arrV (kA 3) N (fun j => Value.long (J a j)) = _; rw [hJ]; rfl) hz hN rm hmc hms h
theorem G_oi {idx fr0 lo0 mc0 ms0 : Nat} {a : Nat} {rest : List Value} (x : Ok X cc own) (d : Dc cc pc (.invokespecial idx) 3 q) (hl : Cond.methodLink own idx Lib.objectInit ∈ gtb) (rm : gRm X fr0 lo0 mc0 ms0) (h : G X q Ls rest T I J O k n) (hr : rest.length ≤ 4 := by exact Nat.le_of_ble_eq_true rfl) (hfr : 1 ≤ fr0 := by exact Nat.le_of_ble_eq_true rfl) (hlo : 20 ≤ lo0 := by exact Nat.le_of_ble_eq_true rfl) : G X pc Ls (va_rf (some a) :: rest) T I J O k n := G_objInit x d hl ⟨oi_i, oi_c⟩ rfl rm hr hfr hlo h
theorem G_cI {idx np fr lo fr0 lo0 mc0 ms0 mc ms a : Nat} {P : gP} {y : MethodName} {cy : ByteArray} {maxL : Nat} {as rest : List Value} (x : Ok X cc own) (d : Dc cc pc (.invokespecial idx) 3 q) (L : Lk own idx y cy maxL none np) (hin : Cond.instanceMethod y ∈ gtb) (rm : gRm X fr0 lo0 mc0 ms0) (C : Ct y cy maxL none (va_rf (some a) :: as) fr lo mc ms T I J O P) (hstk : st = as.reverse ++ va_rf (some a) :: rest) (kk : ∀ v T' I' J' O', P v T' I' J' O' → G X q Ls (v.toList ++ rest) T' I' J' O' (k + mc) (n + ms)) (hy : y.name = "<init>" := by rfl) (hr : rest.length ≤ 4 := by exact Nat.le_of_ble_eq_true rfl) (hn : as.length = np := by rfl) (hfr : fr + 1 ≤ fr0 := by exact Nat.le_of_ble_eq_true rfl) (hlo : 8 + (maxL + 11) + lo ≤ lo0 := by exact Nat.le_of_ble_eq_true rfl) (hmc : k + mc ≤ mc0 := by omega) (hms : n + ms ≤ ms0 := by omega) : G X pc Ls st T I J O k n := G_callI x d L hin hy rfl rm hr hstk hn hfr hlo hmc hms C kk
theorem G_cIN {idx np fr lo fr0 lo0 mc0 ms0 mc ms a : Nat} {P : gP} {y : MethodName} {host : String} {cy : ByteArray} {maxL : Nat} {as rest : List Value} (x : Ok X cc own) (d : Dc cc pc (.invokespecial idx) 3 q) (L : LkN own idx y host cy maxL none np) (hin : Cond.instanceMethod y ∈ gtb) (rm : gRm X fr0 lo0 mc0 ms0) (C : Ct y cy maxL none (va_rf (some a) :: as) fr lo mc ms T I J O P) (hstk : st = as.reverse ++ va_rf (some a) :: rest) (kk : ∀ v T' I' J' O', P v T' I' J' O' → G X q Ls (v.toList ++ rest) T' I' J' O' (k + mc) (n + ms)) (hy : y.name = "<init>" := by rfl) (hr : rest.length ≤ 4 := by exact Nat.le_of_ble_eq_true rfl) (hn : as.length = np := by rfl) (hfr : fr + 1 ≤ fr0 := by exact Nat.le_of_ble_eq_true rfl) (hlo : 8 + (maxL + 11) + lo ≤ lo0 := by exact Nat.le_of_ble_eq_true rfl) (hmc : k + mc ≤ mc0 := by omega) (hms : n + ms ≤ ms0 := by omega) : G X pc Ls st T I J O k n := G_callIN x d L hin hy rfl rm hr hstk hn hfr hlo hmc hms C kk
theorem G_nw {idx ci fr0 lo0 mc0 ms0 : Nat} (x : Ok X cc own) (d : Dc cc pc (.new idx) 3 q) (hl : Cond.classLink own idx (gRn ci) ∈ gtb) (hi : Cond.instantiable (gRn ci) (gN ci) ∈ gtb) (hini : Cond.initialized (gRn ci) ∈ gtb) (hc : vwCl[ci]? = some (gRn ci, gTb ci, gN ci)) (rm : gRm X fr0 lo0 mc0 ms0) (hmc : k + 1 ≤ mc0) (hms : n + gN ci ≤ ms0)
    (h : (∀ j, I T.1 j = 0) → (∀ j, J T.1 j = 0) → (∀ j, O T.1 j = none) → G X q Ls (va_rf (some T.1) :: st) (gpush T (.inl ci)) I J O (k + 1) (n + gN ci)) (hdf : ∀ j, j < gN ci → defaultValue (gty ci j) = gVk (gK (gty ci j)) 0 0 none) : G X pc Ls st T I J O k n := G_new x d hl hi hini hc hdf rm hmc hms h
end GNA
theorem gpush_at {T : gT} {ty : gTy} {a : Nat} (h : a = T.1) : (gpush T ty).2 a = some ty := by subst h; exact gpush_s
theorem gpush_k {T : gT} {ty : gTy} {a : Nat} (h : a < T.1) : (gpush T ty).2 a = T.2 a := by
  simp only [gpush]
  rw [if_neg (by omega)]
theorem gpush_1 {T : gT} {ty : gTy} : (gpush T ty).1 = T.1 + 1 := rfl
