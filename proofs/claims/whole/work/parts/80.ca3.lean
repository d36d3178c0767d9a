/-! the class calculates as the model does -/
theorem smF_1 {V : Int → Int64} {E : Int → Int} {c : Int} (h : ¬ far (V c)) (c0 : 0 ≤ c) : (smF V E c c).1 = E c ∧ (E c = 0 → (smF V E c c).2 = V c) := by
  unfold smF
  rw [show (max (c % 12) (c % 12) - min (c % 12) (c % 12) + 1).toNat = 1 by omega, show (max (c / 12) (c / 12) - min (c / 12) (c / 12) + 1).toNat = 1 by omega, show min (c % 12) (c % 12) = c % 12 by omega, show min (c / 12) (c / 12) = c / 12 by omega]
  have hC : smC V E (c / 12) 1 (c % 12) 0 = if E c = 0 then (0, V c) else (E c, 0) := by
    show (if E (12 * (c / 12) + c % 12) = 0 then (if b01 (far (0 + V (12 * (c / 12) + c % 12))) = 1 then _ else _) else _) = _
    rw [show 12 * (c / 12) + c % 12 = c by omega, Int64.zero_add, b01_f h]
    rfl
  show (if (smC V E (c / 12) 1 (c % 12) 0).1 = 0 then ((0, (smC V E (c / 12) 1 (c % 12) 0).2) : Int × Int64) else smC V E (c / 12) 1 (c % 12) 0).1 = E c ∧ (E c = 0 → (if (smC V E (c / 12) 1 (c % 12) 0).1 = 0 then ((0, (smC V E (c / 12) 1 (c % 12) 0).2) : Int × Int64) else smC V E (c / 12) 1 (c % 12) 0).2 = V c)
  rw [hC]
  by_cases e : E c = 0
  · rw [if_pos e]
    exact ⟨e.symm, fun _ => rfl⟩
  · rw [if_neg e]
    have e2 : ¬ ((E c, (0 : Int64)) : Int × Int64).1 = 0 := e
    rw [if_neg e2]
    exact ⟨rfl, fun z => absurd z e⟩
/-- one factor, for both -/
theorem rk_fk {S : Int → Int} {r id : Int} {V : Int → Int64} {E : Int → Int} {k : Nat} {y : Int × Int × Int × Int} (hy : faOk y) (ht : tkA S id k (facT y.2.1 y.2.2.1 y.2.2.2)) (hV : ∀ c, inC S r c → ¬ far (V c)) : (rkF S r id V E k 0).1 = (k : Int) + ((facT y.2.1 y.2.2.1 y.2.2.2).length : Nat) ∧ (rkF S r id V E k 0).2.1 = (fkV S r V E y).1 ∧ ((fkV S r V E y).1 = 0 → (rkF S r id V E k 0).2.2 = (fkV S r V E y).2) := by
  obtain ⟨-, hy⟩ := hy
  rcases hy with ⟨e1, e2, e3⟩ | ⟨e1, e2, e3⟩ | ⟨e1, e2, e3⟩
  · have hf : facT y.2.1 y.2.2.1 y.2.2.2 = [y.2.2.1] := if_pos e1
    rw [hf] at ht ⊢
    have t0 : S (3 + 32 * id + (8 + (k : Int))) = y.2.2.1 := ht 0 _ rfl
    have hr : rkF S r id V E k 0 = ((k : Int) + 1, 0, Int64.ofInt y.2.2.1) := by
      unfold rkF
      rw [t0, if_neg (by omega), if_neg (by omega)]
    have hk : fkV S r V E y = (0, Int64.ofInt y.2.2.1) := if_pos e1
    rw [hr, hk]
    exact ⟨rfl, rfl, fun _ => rfl⟩
  · have hf : facT y.2.1 y.2.2.1 y.2.2.2 = [10000 + y.2.2.1] := by unfold facT; rw [if_neg (by omega), if_pos e1]
    rw [hf] at ht ⊢
    have t0 : S (3 + 32 * id + (8 + (k : Int))) = 10000 + y.2.2.1 := ht 0 _ rfl
    have hr : rkF S r id V E k 0 = ((k : Int) + 1, if snS S r (10000 + y.2.2.1) = -1 then (2, 0) else (E (snS S r (10000 + y.2.2.1)), V (snS S r (10000 + y.2.2.1)))) := by
      unfold rkF
      rw [t0, if_neg (by omega), if_pos (by omega)]
    have hk : fkV S r V E y = if snS S r (10000 + y.2.2.1) = -1 then (2, 0) else smV V E (snS S r (10000 + y.2.2.1)) (snS S r (10000 + y.2.2.1)) := by
      unfold fkV
      rw [if_neg (by omega), e3]
      by_cases q : snS S r (10000 + y.2.2.1) = -1
      · rw [if_pos (Or.inl q), if_pos q]
      · rw [if_neg (fun z => z.elim q q), if_neg q]
    rw [hr, hk]
    have hs := @snS_b S r (10000 + y.2.2.1)
    by_cases q : snS S r (10000 + y.2.2.1) = -1
    · rw [if_pos q, if_pos q]; exact ⟨rfl, rfl, fun _ => rfl⟩
    · rw [if_neg q, if_neg q]
      have hc := hs.resolve_left q
      obtain ⟨m1, m2⟩ := smF_1 (V := V) (E := E) (hV _ hc) hc.1
      refine ⟨rfl, m1.symm, fun z => ?_⟩
      show V _ = if (smF V E _ _).1 = 0 then (smF V E _ _).2 else 0
      have z : (smF V E (snS S r (10000 + y.2.2.1)) (snS S r (10000 + y.2.2.1))).1 = 0 := z
      rw [if_pos z]
      exact (m2 (m1.symm.trans z)).symm
  · have hf : facT y.2.1 y.2.2.1 y.2.2.2 = [-4, 10000 + y.2.2.1, 10000 + y.2.2.2] := by unfold facT; rw [if_neg (by omega), if_neg (by omega)]
    rw [hf] at ht ⊢
    have t0 : S (3 + 32 * id + (8 + (k : Int))) = -4 := ht 0 _ rfl
    have t1 : S (3 + 32 * id + (8 + (k : Int) + 1)) = 10000 + y.2.2.1 := by have := ht 1 _ rfl; rw [show (8 : Int) + ((k + 1 : Nat) : Int) = 8 + k + 1 by omega] at this; exact this
    have t2 : S (3 + 32 * id + (8 + (k : Int) + 2)) = 10000 + y.2.2.2 := by have := ht 2 _ rfl; rw [show (8 : Int) + ((k + 2 : Nat) : Int) = 8 + k + 2 by omega] at this; exact this
    have hr : rkF S r id V E k 0 = ((k : Int) + 3, if snS S r (10000 + y.2.2.1) = -1 ∨ snS S r (10000 + y.2.2.2) = -1 then (2, 0) else smF V E (snS S r (10000 + y.2.2.1)) (snS S r (10000 + y.2.2.2))) := by
      unfold rkF
      rw [t0, t1, t2, if_pos rfl]
    have hk : fkV S r V E y = if snS S r (10000 + y.2.2.1) = -1 ∨ snS S r (10000 + y.2.2.2) = -1 then (2, 0) else smV V E (snS S r (10000 + y.2.2.1)) (snS S r (10000 + y.2.2.2)) := by
      unfold fkV
      rw [if_neg (by omega)]
    rw [hr, hk]
    by_cases q : snS S r (10000 + y.2.2.1) = -1 ∨ snS S r (10000 + y.2.2.2) = -1
    · rw [if_pos q, if_pos q]; exact ⟨rfl, rfl, fun _ => rfl⟩
    · rw [if_neg q, if_neg q]
      refine ⟨rfl, rfl, fun z => ?_⟩
      show (smF V E _ _).2 = if (smF V E _ _).1 = 0 then (smF V E _ _).2 else 0
      exact (if_pos z).symm
abbrev cEq (x x' : Int × Int64) : Prop := x.1 = x'.1 ∧ (x.1 = 0 → x.2 = x'.2)
theorem clc_end {S : Int → Int} {r id : Int} {V : Int → Int64} {E : Int → Int} {d : Nat} {k fi bf : Int} {su pr : Int64} (h : ¬ k < S (3 + 32 * id + 7)) : clc S r id V E d k fi su pr bf = (0, su) := by
  cases d with
  | zero => rfl
  | succ d => unfold clc; rw [if_neg h]
/-- one step of the model's, the factor known -/
theorem clc_s {S : Int → Int} {r id : Int} {V : Int → Int64} {E : Int → Int} {d : Nat} {k fi bf q er sg : Int} {su pr v pr' su' : Int64} (h : k < S (3 + 32 * id + 7)) (hf : rkF S r id V E k 0 = (q, er, v)) (hp : pr' = if fi = 1 then v else pr * v) (hsg : sg = if q < S (3 + 32 * id + 7) then S (3 + 32 * id + (8 + q)) else -1) (hsu : su' = su + (if bf = -2 then -pr' else pr')) : clc S r id V E (d + 1) k fi su pr bf = if (if er = 0 ∧ fi = 0 ∧ b01 (far pr') = 1 then 3 else er) = 0 then (if sg = -3 then clc S r id V E d (q + 1) 0 su pr' bf else if b01 (far su') = 1 then (3, su') else clc S r id V E d (q + 1) 1 su' pr' sg) else ((if er = 0 ∧ fi = 0 ∧ b01 (far pr') = 1 then 3 else er), su) := by
  subst hp hsg hsu
  conv => lhs; unfold clc
  rw [if_pos h]
  simp only [hf]
theorem suN_e {su t : Int64} {sg bf : Int} (h : bf = -2 ↔ sg = 45) : su + (if bf = -2 then -t else t) = suN su t sg := by
  unfold suN
  by_cases q : bf = -2
  · rw [if_pos q, if_pos (h.mp q), Int64.sub_eq_add_neg]
  · rw [if_neg q, if_neg (fun z => q (h.mpr z))]
/-- behind a factor -/
theorem tks_n {y z : Int × Int × Int × Int} {l : List (Int × Int × Int × Int)} : tks (y :: z :: l) = facT y.2.1 y.2.2.1 y.2.2.2 ++ opT z.1 :: tks (z :: l) := rfl
theorem clc_st {S : Int → Int} {r id : Int} {V : Int → Int64} {E : Int → Int} (hV : ∀ c, inC S r c → ¬ far (V c)) {y : Int × Int × Int × Int} {l : List (Int × Int × Int × Int)} {d k : Nat} {su pr : Int64} {bf sg sgt : Int} (hy : faOk y) (ht : tkA S id k (facT y.2.1 y.2.2.1 y.2.2.2)) (hn : (k : Int) < S (3 + 32 * id + 7)) (hsg : sgt = if (k : Int) + ((facT y.2.1 y.2.2.1 y.2.2.2).length : Nat) < S (3 + 32 * id + 7) then S (3 + 32 * id + (8 + ((k : Int) + ((facT y.2.1 y.2.2.1 y.2.2.2).length : Nat)))) else -1)
    (beh : ∀ (t : Int64) (sgn bf : Int), (bf = -2 ↔ sgn = 45) → cEq (if sgt = -3 then clc S r id V E d ((k : Int) + ((facT y.2.1 y.2.2.1 y.2.2.2).length : Nat) + 1) 0 su t bf else if b01 (far (suN su t sgn)) = 1 then (3, suN su t sgn) else clc S r id V E d ((k : Int) + ((facT y.2.1 y.2.2.1 y.2.2.2).length : Nat) + 1) 1 (suN su t sgn) t sgt) (clA S r V E l (some (t, sgn)) su)) :
    ((bf = -2 ↔ y.1 = 45) → cEq (clc S r id V E (d + 1) k 1 su pr bf) (clA S r V E (y :: l) none su)) ∧ ((bf = -2 ↔ sg = 45) → y.1 = 42 → cEq (clc S r id V E (d + 1) k 0 su pr bf) (clA S r V E (y :: l) (some (pr, sg)) su)) := by
  obtain ⟨f1, f2, f3⟩ := rk_fk (E := E) hy ht hV
  have hrk : rkF S r id V E k 0 = ((k : Int) + ((facT y.2.1 y.2.2.1 y.2.2.2).length : Nat), (fkV S r V E y).1, (rkF S r id V E k 0).2.2) := by rw [← f1, ← f2]
  constructor
  · intro hb
    have hA : clA S r V E (y :: l) none su = if (fkV S r V E y).1 = 0 then clA S r V E l (some ((fkV S r V E y).2, y.1)) su else ((fkV S r V E y).1, su) := rfl
    rw [hA, clc_s (d := d) (fi := 1) (bf := bf) (su := su) (pr := pr) hn hrk rfl hsg rfl]
    rw [if_neg (c := (fkV S r V E y).1 = 0 ∧ (1 : Int) = 0 ∧ _) (fun z => by omega), if_pos (c := (1 : Int) = 1) rfl]
    by_cases q : (fkV S r V E y).1 = 0
    · rw [if_pos q, if_pos q, f3 q, suN_e hb]
      exact beh _ _ _ hb
    · rw [if_neg q, if_neg q]
      exact ⟨rfl, fun z => absurd z q⟩
  · intro hb h42
    have hA : clA S r V E (y :: l) (some (pr, sg)) su = if (fkV S r V E y).1 = 0 then (if b01 (far (pr * (fkV S r V E y).2)) = 1 then (3, su) else clA S r V E l (some (pr * (fkV S r V E y).2, sg)) su) else ((fkV S r V E y).1, su) := if_pos h42
    rw [hA, clc_s (d := d) (fi := 0) (bf := bf) (su := su) (pr := pr) hn hrk rfl hsg rfl, if_neg (c := (0 : Int) = 1) (by omega)]
    by_cases q : (fkV S r V E y).1 = 0
    · rw [if_pos (c := (fkV S r V E y).1 = 0) (t := if b01 (far (pr * (fkV S r V E y).2)) = 1 then (3, su) else _) q, f3 q]
      by_cases ef : b01 (far (pr * (fkV S r V E y).2)) = 1
      · rw [if_pos (c := (fkV S r V E y).1 = 0 ∧ (0 : Int) = 0 ∧ _) ⟨q, rfl, ef⟩, if_pos ef, if_neg (c := (3 : Int) = 0) (by omega)]
        exact ⟨rfl, fun z => by have z : (3 : Int) = 0 := z; omega⟩
      · rw [if_neg (c := (fkV S r V E y).1 = 0 ∧ (0 : Int) = 0 ∧ _) (fun z => ef z.2.2), if_neg ef, if_pos q, suN_e hb]
        exact beh _ _ _ hb
    · rw [if_neg (c := (fkV S r V E y).1 = 0 ∧ (0 : Int) = 0 ∧ _) (fun z => q z.1), if_neg q, if_neg q]
      exact ⟨rfl, fun z => absurd z q⟩
theorem opT_3 {c : Int} (h : isOp c) : (opT c = -3 ↔ c = 42) ∧ (opT c = -2 ↔ c = 45) := by
  unfold isOp at h
  unfold opT
  rcases h with rfl | rfl | rfl <;> decide
theorem clc_cl {S : Int → Int} {r id : Int} {V : Int → Int64} {E : Int → Int} (hV : ∀ c, inC S r c → ¬ far (V c)) (l : List (Int × Int × Int × Int)) : ∀ (y : Int × Int × Int × Int) (d k : Nat) (su pr : Int64) (bf sg : Int), (∀ z ∈ y :: l, faOk z) → l.length + 1 ≤ d → tkA S id k (tks (y :: l)) → (k : Int) + ((tks (y :: l)).length : Nat) = S (3 + 32 * id + 7) →
    ((bf = -2 ↔ y.1 = 45) → cEq (clc S r id V E d k 1 su pr bf) (clA S r V E (y :: l) none su)) ∧ ((bf = -2 ↔ sg = 45) → y.1 = 42 → cEq (clc S r id V E d k 0 su pr bf) (clA S r V E (y :: l) (some (pr, sg)) su)) := by
  induction l with
  | nil =>
    intro y d k su pr bf sg hok hd ht hn
    obtain ⟨d, rfl⟩ : ∃ d', d = d' + 1 := ⟨d - 1, by simp only [List.length_nil] at hd; omega⟩
    have hy := hok y List.mem_cons_self
    have ht : tkA S id k (facT y.2.1 y.2.2.1 y.2.2.2) := ht
    have hn : (k : Int) + ((facT y.2.1 y.2.2.1 y.2.2.2).length : Nat) = S (3 + 32 * id + 7) := hn
    have hl := facT_l y.2.1 y.2.2.1 y.2.2.2
    refine clc_st hV (sgt := -1) hy ht (by omega) (by rw [if_neg (by omega)]) (fun t sgn bf hb => ?_)
    rw [if_neg (by omega), clA_n (fun y' l' h => by cases h)]
    by_cases ef : b01 (far (suN su t sgn)) = 1
    · rw [if_pos ef, if_pos ef]
      exact ⟨rfl, fun z => by have z : (3 : Int) = 0 := z; omega⟩
    · rw [if_neg ef, if_neg ef, clc_end (by omega)]
      exact ⟨rfl, fun _ => rfl⟩
  | cons z l ih =>
    intro y d k su pr bf sg hok hd ht hn
    obtain ⟨d, rfl⟩ : ∃ d', d = d' + 1 := ⟨d - 1, by simp only [List.length_cons] at hd; omega⟩
    have hy := hok y List.mem_cons_self
    have hz := hok z (List.mem_cons_of_mem _ List.mem_cons_self)
    rw [tks_n] at ht hn
    have hl := facT_l y.2.1 y.2.2.1 y.2.2.2
    obtain ⟨ta, tb⟩ := ht.app
    have tc := tb 0 _ rfl
    rw [show (8 : Int) + ((k + (facT y.2.1 y.2.2.1 y.2.2.2).length + 0 : Nat) : Int) = 8 + ((k : Int) + ((facT y.2.1 y.2.2.1 y.2.2.2).length : Nat)) by omega] at tc
    have td : tkA S id (k + (facT y.2.1 y.2.2.1 y.2.2.2).length + 1) (tks (z :: l)) := fun i v hv => by
      have := tb (i + 1) v hv
      rw [show k + (facT y.2.1 y.2.2.1 y.2.2.2).length + (i + 1) = k + (facT y.2.1 y.2.2.1 y.2.2.2).length + 1 + i by omega] at this
      exact this
    rw [List.length_append, List.length_cons] at hn
    have lz : 1 ≤ (tks (z :: l)).length := by
      cases l with
      | nil => have := facT_l z.2.1 z.2.2.1 z.2.2.2; show 1 ≤ (facT z.2.1 z.2.2.1 z.2.2.2).length; omega
      | cons w l => rw [tks_n, List.length_append, List.length_cons]; omega
    have o3 := opT_3 hz.1
    have hok2 : ∀ w ∈ z :: l, faOk w := fun w hw => hok w (List.mem_cons_of_mem _ hw)
    refine clc_st hV (sgt := opT z.1) hy ta (by omega) (by rw [if_pos (by omega)]; exact tc.symm) (fun t sgn bf hb => ?_)
    have e1 : (k : Int) + ((facT y.2.1 y.2.2.1 y.2.2.2).length : Nat) + 1 = ((k + (facT y.2.1 y.2.2.1 y.2.2.2).length + 1 : Nat) : Int) := by omega
    rw [e1]
    by_cases q : z.1 = 42
    · rw [if_pos (o3.1.mpr q)]
      exact (ih z d _ su t bf sgn hok2 (by simp only [List.length_cons] at hd; omega) td (by omega)).2 hb q
    · rw [if_neg (fun w => q (o3.1.mp w)), clA_n (fun y' l' h => by cases h; exact q)]
      by_cases ef : b01 (far (suN su t sgn)) = 1
      · rw [if_pos ef, if_pos ef]
        exact ⟨rfl, fun z => by have z : (3 : Int) = 0 := z; omega⟩
      · rw [if_neg ef, if_neg ef]
        exact (ih z d _ (suN su t sgn) t (opT z.1) sgn hok2 (by simp only [List.length_cons] at hd; omega) td (by omega)).1 o3.2
/-- .. the whole formula -/
theorem clcF_A {S : Int → Int} {r id : Int} {V : Int → Int64} {E : Int → Int} {fl : List (Int × Int × Int × Int)} (hV : ∀ c, inC S r c → ¬ far (V c)) (h : fmlAt S id fl) (hl : fl.length ≤ 24) (h1 : ∀ y l, fl = y :: l → y.1 = 43) : cEq (clcF S r id V E) (clA S r V E fl none 0) := by
  obtain ⟨a1, a2, a3, a4, a5⟩ := h
  cases fl with
  | nil => exact absurd rfl a3
  | cons y l =>
    have := (clc_cl (E := E) hV l y 25 0 0 1 (-1) 0 a4 (by simp only [List.length_cons] at hl; omega) (fun i v hv => by rw [show 0 + i = i by omega]; exact a2 i v hv) (by rw [a1]; omega)).1
    refine this ⟨fun z => by omega, fun z => ?_⟩
    have := h1 y l rfl
    omega
