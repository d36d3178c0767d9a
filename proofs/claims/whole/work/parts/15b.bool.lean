section GB
variable {X : gX} {cc : ByteArray} {own : String} {pc q : Nat} {Ls : List (Option Value)} {st : List Value} {T : gT} {I : gI} {J : gJ} {O : gO} {k n : Nat}
theorem G_ifb_eq {p : Prop} {_ : Decidable p} {tgt : Nat} (x : Ok X cc own) (d : Db cc pc (.ifCond .eq) tgt q) (h1 : ¬ p → G X tgt Ls st T I J O k n) (h2 : p → G X q Ls st T I J O k n) : G X pc Ls (VI (if p then 1 else 0) :: st) T I J O k n := by
  by_cases hp : p
  · rw [if_pos hp]
    exact G_if_eq x d ⟨by decide, by decide⟩ (fun h => by omega) (fun _ => h2 hp)
  · rw [if_neg hp]
    exact G_if_eq x d ⟨by decide, by decide⟩ (fun _ => h1 hp) (fun h => by omega)
theorem G_ifb_ne {p : Prop} {_ : Decidable p} {tgt : Nat} (x : Ok X cc own) (d : Db cc pc (.ifCond .ne) tgt q) (h1 : p → G X tgt Ls st T I J O k n) (h2 : ¬ p → G X q Ls st T I J O k n) : G X pc Ls (VI (if p then 1 else 0) :: st) T I J O k n := by
  by_cases hp : p
  · rw [if_pos hp]
    exact G_if_ne x d ⟨by decide, by decide⟩ (fun _ => h1 hp) (fun h => by omega)
  · rw [if_neg hp]
    exact G_if_ne x d ⟨by decide, by decide⟩ (fun h => by omega) (fun _ => h2 hp)
/-- the ints of the cells are ints -/
theorem G_rg (h : (∀ a k, in32 (I a k)) → G X pc Ls st T I J O k n) : G X pc Ls st T I J O k n := by
  obtain ⟨p, l, e, R, s, m, args, below, meth, c, E, Q⟩ := X
  intro H locs ls hW hS hL
  exact h hW.2.2.1 H locs ls hW hS hL
theorem G_iadd0 {a : Int} (x : Ok X cc own) (d : Dc cc pc .iadd 1 q) (h : G X q Ls (VI a :: st) T I J O k n) : G X pc Ls (VI 0 :: VI a :: st) T I J O k n := G_iadd x d (by rw [Int.add_zero]; exact h)
theorem G_idivn {a b : Int} (x : Ok X cc own) (d : Dc cc pc .idiv 1 q) (h0 : 0 ≤ a) (ha : in32 a) (hb : 0 < b) (hb2 : in32 b) (h : G X q Ls (VI (a / b) :: st) T I J O k n) : G X pc Ls (VI b :: VI a :: st) T I J O k n := G_idiv x d ha hb hb2 (by rw [Int.tdiv_eq_ediv_of_nonneg h0]; exact h)
theorem G_iremn {a b : Int} (x : Ok X cc own) (d : Dc cc pc .irem 1 q) (h0 : 0 ≤ a) (ha : in32 a) (hb : 0 < b) (hb2 : in32 b) (h : G X q Ls (VI (a % b) :: st) T I J O k n) : G X pc Ls (VI b :: VI a :: st) T I J O k n := G_irem x d ha hb hb2 (by rw [Int.tmod_eq_emod_of_nonneg h0]; exact h)
end GB
