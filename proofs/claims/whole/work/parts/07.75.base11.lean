/-- what a fresh matrix is made of -/
def ref_ (kd1 kd2 ks1 ks2 : Int32) (xs1 ys1 : Nat → Int32) (sl1 : List (Nat × Nat)) (ml1 : List Nat) (xs2 ys2 : Nat → Int32) (sl2 : List (Nat × Nat)) (ml2 : List Nat) (nn1 nn2 : Nat) (mx mx2 : Nat → Int32) : Prop :=
  ∃ m0 m1 m2 m3 : Nat → Int32, m0 = rai_ (fil_ mx (-1) 9) 2 2 2 ∧ (m1 = if kd1 = 1 then vis_ kd1 xs1 ys1 sl1 ml1 kd2 xs2 ys2 sl2 ml2 xs1 ys1 m0 nn1 else m0) ∧ (m2 = if kd2 = 1 then vis_ kd1 xs1 ys1 sl1 ml1 kd2 xs2 ys2 sl2 ml2 xs2 ys2 m1 nn2 else m1) ∧
    chn_ (sgr_ kd1 kd2 ks1 ks2 xs1 ys1 sl1 ml1 xs2 ys2 sl2 ml2 xs1 ys1) sl1 m2 m3 ∧ chn_ (sgr_ kd1 kd2 ks1 ks2 xs1 ys1 sl1 ml1 xs2 ys2 sl2 ml2 xs2 ys2) sl2 m3 mx2
theorem sgs_q {xs ys : Nat → Int32} {S : List (Nat × Nat)} {t h n : Nat} (hS : ∀ q ∈ S, q.1 < n ∧ q.2 < n) (ht : t < n) (hh : h < n) : ∀ q ∈ sgs_ xs ys S t h, q.1 < n ∧ q.2 < n := by
  unfold sgs_; split
  · exact hS
  · intro q hq
    rcases List.mem_append.mp hq with k | k
    · exact hS q k
    · rw [List.mem_singleton.mp k]; exact ⟨ht, hh⟩
theorem psg_q {xs ys : Nat → Int32} {S : List (Nat × Nat)} {a n : Nat} (hS : ∀ q ∈ S, q.1 < n ∧ q.2 < n) : ∀ k, a + k < n → ∀ q ∈ psg_ xs ys S a k, q.1 < n ∧ q.2 < n
  | 0, _ => hS
  | k + 1, h => by rw [psg_]; exact sgs_q (psg_q hS k (by omega)) (by omega) (by omega)
theorem ppS_q {kd : Int32} {xs ys : Nat → Int32} {S : List (Nat × Nat)} {a z n : Nat} (hS : ∀ q ∈ S, q.1 < n ∧ q.2 < n) (hz : a ≤ z) (hn : z < n) : ∀ q ∈ ppS_ kd xs ys S a z, q.1 < n ∧ q.2 < n := by
  unfold ppS_; split
  · exact hS
  · split
    · exact sgs_q (psg_q hS _ (by omega)) hn (by omega)
    · exact psg_q hS _ (by omega)
theorem prS_q0 {kd : Int32} {xs ys : Nat → Int32} {sn : Nat → Nat} {P N : Nat} {st : Nat → Int32} (h : sta_ sn P N st) : ∀ k, k ≤ P → ∀ q ∈ prS_ kd xs ys sn P N k, q.1 < N ∧ q.2 < N
  | 0, _ => fun q hq => by simp [prS_] at hq
  | k + 1, hk => by
    have a := prS_q0 (kd := kd) (xs := xs) (ys := ys) h k (by omega)
    have e3 : pe_ sn P N k ≤ N := pe_n h
    rw [prS_]; split
    · exact ppS_q a (by omega) (by omega)
    · exact a
theorem prS_q {kd : Int32} {xs ys : Nat → Int32} {sn : Nat → Nat} {P N : Nat} {st : Nat → Int32} (h : sta_ sn P N st) : ∀ q ∈ prS_ kd xs ys sn P N P, q.1 < N ∧ q.2 < N := prS_q0 h P (Nat.le_refl _)
