theorem i64_ (a : Int32) : a.toInt64.toInt = a.toInt := by simp
theorem i64d {x y : Int64} (hx : -4000000000 ≤ x.toInt ∧ x.toInt ≤ 4000000000) (hy : -4000000000 ≤ y.toInt ∧ y.toInt ≤ 4000000000) : (x - y).toInt = x.toInt - y.toInt := by
  rw [Int64.toInt_sub]; apply Int.bmod_eq_of_le <;> omega
theorem i32r (a : Int32) : -2147483648 ≤ a.toInt ∧ a.toInt ≤ 2147483647 := ⟨Int32.le_toInt a, by have := Int32.toInt_lt a; omega⟩
theorem i64e (a b : Int32) : (a.toInt64 - b.toInt64).toInt = a.toInt - b.toInt := by
  have := i32r a; have := i32r b
  rw [i64d (by rw [i64_]; omega) (by rw [i64_]; omega), i64_, i64_]
theorem si_p {x : Int} (h : 0 < x) : si_ x = 1 := by unfold si_; rw [if_pos h]
theorem si_n {x : Int} (h : x < 0) : si_ x = -1 := by unfold si_; rw [if_neg (by omega), if_pos h]
theorem si_z {x : Int} (h : x = 0) : si_ x = 0 := by unfold si_; rw [if_neg (by omega), if_neg (by omega)]
theorem si_m (x y : Int) : (0 : Int32) < si_ x * si_ y ↔ (0 < x ∧ 0 < y) ∨ (x < 0 ∧ y < 0) := by
  rcases Int.lt_trichotomy x 0 with h | h | h <;> rcases Int.lt_trichotomy y 0 with k | k | k
  · rw [si_n h, si_n k]; exact ⟨fun _ => Or.inr ⟨h, k⟩, fun _ => by decide⟩
  · rw [si_n h, si_z k]; exact ⟨fun q => absurd q (by decide), fun q => by omega⟩
  · rw [si_n h, si_p k]; exact ⟨fun q => absurd q (by decide), fun q => by omega⟩
  · rw [si_z h, si_n k]; exact ⟨fun q => absurd q (by decide), fun q => by omega⟩
  · rw [si_z h, si_z k]; exact ⟨fun q => absurd q (by decide), fun q => by omega⟩
  · rw [si_z h, si_p k]; exact ⟨fun q => absurd q (by decide), fun q => by omega⟩
  · rw [si_p h, si_n k]; exact ⟨fun q => absurd q (by decide), fun q => by omega⟩
  · rw [si_p h, si_z k]; exact ⟨fun q => absurd q (by decide), fun q => by omega⟩
  · rw [si_p h, si_p k]; exact ⟨fun _ => Or.inl ⟨h, k⟩, fun _ => by decide⟩
theorem si_0 (x : Int) : si_ x = 0 ↔ x = 0 := by
  unfold si_
  rcases Int.lt_trichotomy x 0 with h | h | h
  · rw [if_neg (by omega), if_pos h]; constructor; (· intro q; exact absurd q (by decide)); intro q; omega
  · rw [if_neg (by omega), if_neg (by omega)]; simp [h]
  · rw [if_pos h]; constructor; (· intro q; exact absurd q (by decide)); intro q; omega
theorem si_l (x : Int) : si_ x < 0 ↔ x < 0 := by
  rcases Int.lt_trichotomy x 0 with h | h | h
  · rw [si_n h]; exact ⟨fun _ => h, fun _ => by decide⟩
  · rw [si_z h]; exact ⟨fun q => absurd q (by decide), fun q => by omega⟩
  · rw [si_p h]; exact ⟨fun q => absurd q (by decide), fun q => by omega⟩
theorem si_g (x : Int) : 0 < si_ x ↔ 0 < x := by
  rcases Int.lt_trichotomy x 0 with h | h | h
  · rw [si_n h]; exact ⟨fun q => absurd q (by decide), fun q => by omega⟩
  · rw [si_z h]; exact ⟨fun q => absurd q (by decide), fun q => by omega⟩
  · rw [si_p h]; exact ⟨fun _ => h, fun _ => by decide⟩
/-- a place's part of a segment, as the reference has it -/
def pov_ (xs ys : Nat → Int32) (a b v : Nat) : Int64 := if (xs b).toInt64 - (xs a).toInt64 = 0 then (ys v).toInt64 - (ys a).toInt64 else (xs v).toInt64 - (xs a).toInt64
def pun_ (xs ys : Nat → Int32) (a b : Nat) : Int64 := if (xs b).toInt64 - (xs a).toInt64 = 0 then (ys b).toInt64 - (ys a).toInt64 else (xs b).toInt64 - (xs a).toInt64
def pcO_ (xs ys : Nat → Int32) (a b v : Nat) : Int64 := if pun_ xs ys a b < 0 then -pov_ xs ys a b v else pov_ xs ys a b v
def pcU_ (xs ys : Nat → Int32) (a b : Nat) : Int64 := if pun_ xs ys a b < 0 then -pun_ xs ys a b else pun_ xs ys a b
def lq_ (x : Int64) : Nat := x.toInt.toNat
theorem lq_e {x : Int64} (h : ¬ x < 0) : x = lN (lq_ x) ∧ lq_ x < 2 ^ 63 := by
  obtain ⟨k, hk, e⟩ := pk_lOf h
  have : lq_ x = k := by unfold lq_; rw [e, pk_lT hk]; rfl
  rw [this]; exact ⟨e, hk⟩
/-- the cut that a place makes -/
def cpq_ (xs ys : Nat → Int32) (a b v : Nat) : List (Nat × Nat) := if iso_ xs ys (xs v).toInt64 (ys v).toInt64 0 0 0 1 a b = 0 then [] else [(lq_ (pcO_ xs ys a b v), lq_ (pcU_ xs ys a b))]
def sqU_ (xs ys : Nat → Int32) (a b c d : Nat) : Int64 := ((xs b).toInt64 - (xs a).toInt64) * ((ys d).toInt64 - (ys c).toInt64) - ((ys b).toInt64 - (ys a).toInt64) * ((xs d).toInt64 - (xs c).toInt64)
def sqO_ (xs ys : Nat → Int32) (a c d : Nat) : Int64 := ((xs c).toInt64 - (xs a).toInt64) * ((ys d).toInt64 - (ys c).toInt64) - ((ys c).toInt64 - (ys a).toInt64) * ((xs d).toInt64 - (xs c).toInt64)
def sqT_ (xs ys : Nat → Int32) (a b c : Nat) : Int64 := ((xs c).toInt64 - (xs a).toInt64) * ((ys b).toInt64 - (ys a).toInt64) - ((ys c).toInt64 - (ys a).toInt64) * ((xs b).toInt64 - (xs a).toInt64)
def sgN_ (u x : Int64) : Int64 := if u < 0 then -x else x
def csc_ (o u t : Int64) : List (Nat × Nat) := if 0 < o ∧ o < u ∧ 0 < t ∧ t < u then [(lq_ o, lq_ u)] else []
/-- the cut that a segment makes -/
def csq_ (xs ys : Nat → Int32) (a b c d : Nat) : List (Nat × Nat) := csc_ (sgN_ (sqU_ xs ys a b c d) (sqO_ xs ys a c d)) (sgN_ (sqU_ xs ys a b c d) (sqU_ xs ys a b c d)) (sgN_ (sqU_ xs ys a b c d) (sqT_ xs ys a b c))
def rcp_ (xs ys : Nat → Int32) (a b s : Nat) : Nat → List (Nat × Nat)
  | 0 => []
  | n + 1 => rcp_ xs ys a b s n ++ cpq_ xs ys a b (2048 * s + n)
def rcq_ (xs ys : Nat → Int32) (a b : Nat) (PT : Nat → Nat) : Nat → List (Nat × Nat)
  | 0 => [(0, 1), (1, 1)]
  | s + 1 => rcq_ xs ys a b PT s ++ rcp_ xs ys a b s (PT s)
def rcs_ (xs ys : Nat → Int32) (a b : Nat) (L : List (Nat × Nat × Nat)) : List (Nat × Nat) := L.flatMap (fun w => csq_ xs ys a b w.1 w.2.1)
/-- the reference's cuts of one segment -/
def rcu_ (xs ys : Nat → Int32) (a b : Nat) (PT : Nat → Nat) (L : List (Nat × Nat × Nat)) : List (Nat × Nat) := (rcq_ xs ys a b PT 2 ++ rcs_ xs ys a b L).foldl ins_ []
def rng_ (xs ys : Nat → Int32) : Prop := ∀ i, (-500000000 ≤ (xs i).toInt ∧ (xs i).toInt ≤ 500000000) ∧ (-500000000 ≤ (ys i).toInt ∧ (ys i).toInt ≤ 500000000)
theorem i640 (a b : Int32) : a.toInt64 - b.toInt64 = 0 ↔ a = b := by
  constructor
  · intro h
    have : (a.toInt64 - b.toInt64).toInt = 0 := by rw [h]; decide
    rw [i64e] at this; exact Int32.toInt_inj.mp (by omega)
  · intro h; rw [h]; exact Int64.sub_self _
theorem i64l (x : Int64) : x < 0 ↔ x.toInt < 0 := by rw [Int64.lt_iff_toInt_lt]; rfl
theorem i64n {x : Int64} (h : -2147483648 * 4 ≤ x.toInt ∧ x.toInt ≤ 2147483648 * 4) : (-x).toInt = -x.toInt := by
  rw [Int64.toInt_neg]; apply Int.bmod_eq_of_le <;> omega
/-- a place on a segment cuts it between its ends -/
theorem pvd_ {xs ys : Nat → Int32} {a b v : Nat} (hn : ¬ (xs a = xs b ∧ ys a = ys b)) (h : ¬ iso_ xs ys (xs v).toInt64 (ys v).toInt64 0 0 0 1 a b = 0) : 0 ≤ (pcO_ xs ys a b v).toInt ∧ (pcO_ xs ys a b v).toInt ≤ (pcU_ xs ys a b).toInt ∧ 0 < (pcU_ xs ys a b).toInt ∧ (pcU_ xs ys a b).toInt < 2 ^ 33 := by
  have hi : ¬ 0 < ovx_ (xs v).toInt64 0 0 1 (xs a).toInt64 * ovx_ (xs v).toInt64 0 0 1 (xs b).toInt64 ∧ ¬ 0 < ovx_ (ys v).toInt64 0 0 1 (ys a).toInt64 * ovx_ (ys v).toInt64 0 0 1 (ys b).toInt64 := by
    by_cases q : ¬ 0 < ovx_ (xs v).toInt64 0 0 1 (xs a).toInt64 * ovx_ (xs v).toInt64 0 0 1 (xs b).toInt64 ∧ ¬ 0 < ovx_ (ys v).toInt64 0 0 1 (ys a).toInt64 * ovx_ (ys v).toInt64 0 0 1 (ys b).toInt64 ∧ sde_ xs ys (xs v).toInt64 (ys v).toInt64 0 0 0 1 a b = 0
    · exact ⟨q.1, q.2.1⟩
    · exact absurd (by unfold iso_; rw [if_neg q]) h
  obtain ⟨h1, h2⟩ := hi
  unfold ovx_ at h1 h2
  rw [si_m] at h1 h2
  simp only [i64e, Int.mul_zero, Int.add_zero, Int.mul_one] at h1 h2
  have n1 : ∀ p q : Int32, (-((p.toInt64) - q.toInt64)).toInt = -(p.toInt - q.toInt) := fun p q => by
    have := i32r p; have := i32r q
    rw [i64n (by rw [i64e]; omega), i64e]
  have r1 := i32r (xs a); have r2 := i32r (xs b); have r3 := i32r (xs v); have r4 := i32r (ys a); have r5 := i32r (ys b); have r6 := i32r (ys v)
  unfold pcO_ pcU_ pov_ pun_
  by_cases e : (xs b).toInt64 - (xs a).toInt64 = 0
  · simp only [if_pos e, i64l, i64e]
    have ex := (i640 _ _).mp e
    have ey : ¬ (ys a).toInt = (ys b).toInt := fun q => hn ⟨ex.symm, Int32.toInt_inj.mp q⟩
    by_cases s : (ys b).toInt - (ys a).toInt < 0
    · simp only [if_pos s, n1]; omega
    · simp only [if_neg s, i64e]; omega
  · simp only [if_neg e, i64l, i64e]
    have ex : ¬ (xs a).toInt = (xs b).toInt := fun q => e ((i640 _ _).mpr (Int32.toInt_inj.mp q).symm)
    by_cases s : (xs b).toInt - (xs a).toInt < 0
    · simp only [if_pos s, n1]; omega
    · simp only [if_neg s, i64e]; omega
theorem cpq_k {xs ys : Nat → Int32} {a b v : Nat} (hn : ¬ (xs a = xs b ∧ ys a = ys b)) (h : ¬ iso_ xs ys (xs v).toInt64 (ys v).toInt64 0 0 0 1 a b = 0) : pcO_ xs ys a b v = lN (lq_ (pcO_ xs ys a b v)) ∧ pcU_ xs ys a b = lN (lq_ (pcU_ xs ys a b)) ∧ lq_ (pcO_ xs ys a b v) < 2 ^ 63 ∧ 0 < lq_ (pcU_ xs ys a b) ∧ lq_ (pcU_ xs ys a b) < 2 ^ 63 := by
  obtain ⟨h1, h2, h3, h4⟩ := pvd_ hn h
  have k1 := lq_e (x := pcO_ xs ys a b v) (by rw [i64l]; omega)
  have k2 := lq_e (x := pcU_ xs ys a b) (by rw [i64l]; omega)
  exact ⟨k1.1, k2.1, k1.2, by unfold lq_; omega, k2.2⟩
theorem csc_k {o u : Int64} (h1 : 0 < o) (h2 : o < u) : o = lN (lq_ o) ∧ u = lN (lq_ u) ∧ lq_ o < 2 ^ 63 ∧ 0 < lq_ u ∧ lq_ u < 2 ^ 63 := by
  rw [Int64.lt_iff_toInt_lt] at h1 h2
  have h1 : 0 < o.toInt := h1
  have k1 := lq_e (x := o) (by rw [i64l]; omega)
  have k2 := lq_e (x := u) (by rw [i64l]; omega)
  exact ⟨k1.1, k2.1, k1.2, by unfold lq_; omega, k2.2⟩
theorem fok_a {C D : List (Nat × Nat)} (h1 : fok_ C) (h2 : fok_ D) : fok_ (C ++ D) := fun q hq => by
  rcases List.mem_append.mp hq with k | k
  · exact h1 q k
  · exact h2 q k
theorem fin_k : ∀ (C : List (Nat × Nat)) {F : List (Nat × Nat)}, fok_ C → fok_ F → fok_ (C.foldl ins_ F)
  | [], _, _, hF => hF
  | x :: C, _, hC, hF => fin_k C (fun q hq => hC q (List.mem_cons_of_mem _ hq)) (ins_f hF (hC x (List.mem_cons_self ..)))
theorem fin_l : ∀ (C : List (Nat × Nat)) {F : List (Nat × Nat)}, (C.foldl ins_ F).length ≤ F.length + C.length
  | [], _ => Nat.le_refl _
  | x :: C, F => by
    have h1 := fin_l C (F := ins_ F x); have h2 := ins_l (F := F) (x := x)
    show (C.foldl ins_ (ins_ F x)).length ≤ F.length + (C.length + 1)
    omega
theorem cpq_f {xs ys : Nat → Int32} {a b v : Nat} (hn : ¬ (xs a = xs b ∧ ys a = ys b)) : fok_ (cpq_ xs ys a b v) := fun q hq => by
  unfold cpq_ at hq; split at hq
  · exact absurd hq (by simp)
  · rename_i h; rw [List.mem_singleton.mp hq]; exact (cpq_k hn h).2.2
theorem cpq_l {xs ys : Nat → Int32} {a b v : Nat} : (cpq_ xs ys a b v).length ≤ 1 := by unfold cpq_; split <;> simp
theorem csq_f {xs ys : Nat → Int32} {a b c d : Nat} : fok_ (csq_ xs ys a b c d) := fun q hq => by
  unfold csq_ csc_ at hq; split at hq
  · rename_i h; rw [List.mem_singleton.mp hq]; exact (csc_k h.1 h.2.1).2.2
  · exact absurd hq (by simp)
theorem csq_l {xs ys : Nat → Int32} {a b c d : Nat} : (csq_ xs ys a b c d).length ≤ 1 := by unfold csq_ csc_; split <;> simp
theorem rcp_f {xs ys : Nat → Int32} {a b s : Nat} (hn : ¬ (xs a = xs b ∧ ys a = ys b)) : ∀ n, fok_ (rcp_ xs ys a b s n)
  | 0 => fun _ hq => absurd hq (by simp [rcp_])
  | n + 1 => fok_a (rcp_f hn n) (cpq_f hn)
theorem rcp_l {xs ys : Nat → Int32} {a b s : Nat} : ∀ n, (rcp_ xs ys a b s n).length ≤ n
  | 0 => Nat.le_refl _
  | n + 1 => by
    have h1 := rcp_l (xs := xs) (ys := ys) (a := a) (b := b) (s := s) n; have h2 := cpq_l (xs := xs) (ys := ys) (a := a) (b := b) (v := 2048 * s + n)
    rw [rcp_, List.length_append]; omega
theorem rcq_f {xs ys : Nat → Int32} {a b : Nat} {PT : Nat → Nat} (hn : ¬ (xs a = xs b ∧ ys a = ys b)) : ∀ n, fok_ (rcq_ xs ys a b PT n)
  | 0 => fun q hq => by
    rcases List.mem_cons.mp hq with k | k
    · rw [k]; decide
    · rw [List.mem_singleton.mp k]; decide
  | n + 1 => fok_a (rcq_f hn n) (rcp_f hn _)
theorem rcq_l {xs ys : Nat → Int32} {a b : Nat} {PT : Nat → Nat} (h : ∀ s, s < 2 → PT s ≤ 2048) : ∀ n, n ≤ 2 → (rcq_ xs ys a b PT n).length ≤ 2 + 2048 * n
  | 0, _ => Nat.le_refl _
  | n + 1, hn => by
    have h1 := rcq_l (xs := xs) (ys := ys) (a := a) (b := b) h n (by omega); have h2 := rcp_l (xs := xs) (ys := ys) (a := a) (b := b) (s := n) (PT n); have := h n (by omega)
    rw [rcq_, List.length_append]; omega
theorem rcs_f {xs ys : Nat → Int32} {a b : Nat} {L : List (Nat × Nat × Nat)} : fok_ (rcs_ xs ys a b L) := fun q hq => by
  unfold rcs_ at hq; obtain ⟨w, _, h⟩ := List.mem_flatMap.mp hq; exact csq_f q h
theorem rcs_l {xs ys : Nat → Int32} {a b : Nat} : ∀ (L : List (Nat × Nat × Nat)), (rcs_ xs ys a b L).length ≤ L.length
  | [] => Nat.le_refl _
  | w :: L => by
    have h1 := rcs_l (xs := xs) (ys := ys) (a := a) (b := b) L; have h2 := csq_l (xs := xs) (ys := ys) (a := a) (b := b) (c := w.1) (d := w.2.1)
    have e : rcs_ xs ys a b (w :: L) = csq_ xs ys a b w.1 w.2.1 ++ rcs_ xs ys a b L := rfl
    rw [e, List.length_append, List.length_cons]; omega
theorem rcs_s {xs ys : Nat → Int32} {a b : Nat} {L : List (Nat × Nat × Nat)} {j : Nat} (t : L.take (j + 1) = L.take j ++ [L.getD j (0, 0, 0)]) : rcs_ xs ys a b (L.take (j + 1)) = rcs_ xs ys a b (L.take j) ++ csq_ xs ys a b (L.getD j (0, 0, 0)).1 (L.getD j (0, 0, 0)).2.1 := by
  rw [t]; unfold rcs_; rw [List.flatMap_append]; simp
theorem fo_n {F : List (Nat × Nat)} {C : List (Nat × Nat)} {D : List (Nat × Nat)} (h : D = []) : (C ++ D).foldl ins_ F = C.foldl ins_ F := by rw [h, List.append_nil]
theorem fo_s {F : List (Nat × Nat)} {C : List (Nat × Nat)} {D : List (Nat × Nat)} {x : Nat × Nat} (h : D = [x]) : (C ++ D).foldl ins_ F = ins_ (C.foldl ins_ F) x := by rw [h, List.foldl_append]; rfl
section
variable {p : Program} {l : Launch} {e : Env} {R : Room} {s : State} {m : MethodId} {args : Array Value} {below : List Frame} {meth : Method} {c : Code} {H : Heap} {locs : List Loc} {cells slots : Nat} {Q : State → Prop}
theorem st2_ {x1 y1 x2 y2 : Int64} {pc : Nat} {ls : Array Slot} {rest : List Value} (h1 : y1 = x1) (h2 : y2 = x2) (k : W p l e R s m args below meth c H locs cells slots Q (F0 m pc ls (.long y1 :: .long y2 :: rest))) : W p l e R s m args below meth c H locs cells slots Q (F0 m pc ls (.long x1 :: .long x2 :: rest)) := h1 ▸ h2 ▸ k
end
abbrev nlq_ : List (Nat × Nat) := []
theorem fl2_0 {ov un : Nat → Int64} : fl2_ ov un nlq_ := fun _ h => absurd h (Nat.not_lt_zero _)
theorem fok_0 : fok_ nlq_ := fun _ h => absurd h (by simp)
theorem ix0_ (s : Nat) : nI (2048 * s + 0) = nI 2048 * nI s := by rw [Nat.add_zero, pk_mul]
