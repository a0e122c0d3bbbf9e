theorem sl_0 {ta he : Nat → Int32} : sl_ ta he [] := fun i h => absurd h (Nat.not_lt_zero _)
theorem al_0 {f : Nat → Int32} : al_ f [] := fun i h => absurd h (Nat.not_lt_zero _)
/-- the parts' first points: as the row holds them, in order -/
def sta_ (sn : Nat → Nat) (P N : Nat) (st : Nat → Int32) : Prop := (∀ i, i < P → st i = nI (sn i) ∧ sn i ≤ N) ∧ (∀ i, i + 1 < P → sn i ≤ sn (i + 1)) ∧ (0 < P → sn 0 = 0)
def pe_ (sn : Nat → Nat) (P N k : Nat) : Nat := if k + 1 < P then sn (k + 1) else N
theorem pe_n {sn : Nat → Nat} {P N k : Nat} {st : Nat → Int32} (h : sta_ sn P N st) : pe_ sn P N k ≤ N := by
  unfold pe_; split
  · exact (h.1 _ (by assumption)).2
  · exact Nat.le_refl _
def prS_ (kd : Int32) (xs ys : Nat → Int32) (sn : Nat → Nat) (P N : Nat) : Nat → List (Nat × Nat)
  | 0 => []
  | k + 1 => if sn k < pe_ sn P N k then ppS_ kd xs ys (prS_ kd xs ys sn P N k) (sn k) (pe_ sn P N k - 1) else prS_ kd xs ys sn P N k
def prM_ (kd : Int32) (xs ys : Nat → Int32) (sn : Nat → Nat) (P N : Nat) : Nat → List Nat
  | 0 => []
  | k + 1 => if sn k < pe_ sn P N k then ppM_ kd xs ys (prM_ kd xs ys sn P N k) (sn k) (pe_ sn P N k - 1) else prM_ kd xs ys sn P N k
theorem psg_l {xs ys : Nat → Int32} {S : List (Nat × Nat)} {a : Nat} : ∀ n, (psg_ xs ys S a n).length ≤ S.length + n
  | 0 => Nat.le_refl _
  | n + 1 => by rw [psg_]; exact sgs_l (by have := psg_l (xs := xs) (ys := ys) (S := S) (a := a) n; omega)
theorem ppS_l {kd : Int32} {xs ys : Nat → Int32} {S : List (Nat × Nat)} {a z : Nat} (h : S.length ≤ a) (hz : a ≤ z) : (ppS_ kd xs ys S a z).length ≤ z + 1 := by
  have := psg_l (xs := xs) (ys := ys) (S := S) (a := a) (z - a)
  unfold ppS_; split
  · omega
  · split
    · exact sgs_l (by omega)
    · omega
theorem trn2_l {xs ys : Nat → Int32} {L : List Nat} {a z : Nat} (h : L.length ≤ a) (hz : a ≤ z) (hs : z < 2 ^ 30) : (trn_ xs ys (trn_ xs ys L a) z).length ≤ z + 1 := by
  have h1 := trn_l (xs := xs) (ys := ys) (L := L) (p := a)
  have h2 := trn_l (xs := xs) (ys := ys) (L := trn_ xs ys L a) (p := z)
  rcases Nat.lt_or_ge a z with k | k
  · omega
  · have e : a = z := by omega
    subst e
    by_cases c : mfi_ xs ys (xs a) (ys a) L 0 = -1
    · have c2 := mfi_a (xs := xs) (ys := ys) L 0 a (by omega) ⟨rfl, rfl⟩
      rw [trn_1 c]
      unfold trn_; rw [if_neg c2, List.length_take, List.length_set, List.length_append]; simp; omega
    · have : (trn_ xs ys L a).length ≤ L.length := by unfold trn_; rw [if_neg c, List.length_take, List.length_set]; omega
      omega
theorem ppM_l {kd : Int32} {xs ys : Nat → Int32} {M : List Nat} {a z : Nat} (h : M.length ≤ a) (hz : a ≤ z) (hs : z < 2 ^ 30) : (ppM_ kd xs ys M a z).length ≤ z + 1 := by
  unfold ppM_; split
  · rw [List.length_append, List.length_range']; omega
  · split
    · omega
    · exact trn2_l h hz hs
theorem ppM_q {kd : Int32} {xs ys : Nat → Int32} {M : List Nat} {a z n : Nat} (h : ∀ q ∈ M, q < n) (hz : a ≤ z) (hn : z < n) : ∀ q ∈ ppM_ kd xs ys M a z, q < n := by
  unfold ppM_; split
  · intro q hq
    rcases List.mem_append.mp hq with k | k
    · exact h q k
    · have := List.mem_range'_1.mp k; omega
  · split
    · exact h
    · exact trn_q (trn_q h (by omega)) hn
def bn_ (sn : Nat → Nat) (P N k : Nat) : Nat := if k < P then sn k else N
theorem bn_s {sn : Nat → Nat} {P N k : Nat} (h : k < P) : pe_ sn P N k = bn_ sn P N (k + 1) := by unfold pe_ bn_; rfl
theorem bn_m {sn : Nat → Nat} {P N k : Nat} {st : Nat → Int32} (h : sta_ sn P N st) (hk : k < P) : bn_ sn P N k ≤ bn_ sn P N (k + 1) := by
  unfold bn_; rw [if_pos hk]; split
  · exact h.2.1 k (by assumption)
  · exact (h.1 k hk).2
theorem prK_ {kd : Int32} {xs ys : Nat → Int32} {sn : Nat → Nat} {P N : Nat} {st : Nat → Int32} (h : sta_ sn P N st) (hN : N < 2 ^ 30) : ∀ k, k ≤ P → (prS_ kd xs ys sn P N k).length ≤ bn_ sn P N k ∧ (prM_ kd xs ys sn P N k).length ≤ bn_ sn P N k ∧ (∀ q ∈ prM_ kd xs ys sn P N k, q < N)
  | 0, _ => ⟨Nat.zero_le _, Nat.zero_le _, fun q hq => by simp [prM_] at hq⟩
  | k + 1, hk => by
    obtain ⟨a, b, c⟩ := prK_ (kd := kd) (xs := xs) (ys := ys) h hN k (by omega)
    have hm := bn_m h (k := k) (by omega)
    have e := bn_s (sn := sn) (P := P) (N := N) (k := k) (by omega)
    have e2 : bn_ sn P N k = sn k := by unfold bn_; rw [if_pos (by omega)]
    have e3 : pe_ sn P N k ≤ N := pe_n h
    rw [prS_, prM_]
    by_cases q : sn k < pe_ sn P N k
    · rw [if_pos q, if_pos q]
      have l1 := ppS_l (kd := kd) (xs := xs) (ys := ys) (S := prS_ kd xs ys sn P N k) (a := sn k) (z := pe_ sn P N k - 1) (by omega) (by omega)
      have l2 := ppM_l (kd := kd) (xs := xs) (ys := ys) (M := prM_ kd xs ys sn P N k) (a := sn k) (z := pe_ sn P N k - 1) (by omega) (by omega) (by omega)
      exact ⟨by omega, by omega, ppM_q c (by omega) (by omega)⟩
    · rw [if_neg q, if_neg q]; exact ⟨by omega, by omega, c⟩
theorem prL_ {kd : Int32} {xs ys : Nat → Int32} {sn : Nat → Nat} {P N k : Nat} {st : Nat → Int32} (h : sta_ sn P N st) (hk : k < P) (hN : N < 2 ^ 30) : (prS_ kd xs ys sn P N k).length ≤ sn k ∧ (prM_ kd xs ys sn P N k).length ≤ sn k ∧ (∀ q ∈ prM_ kd xs ys sn P N k, q < N) := by
  have := prK_ (kd := kd) (xs := xs) (ys := ys) h hN k (by omega)
  have e2 : bn_ sn P N k = sn k := by unfold bn_; rw [if_pos hk]
  rw [e2] at this; exact this
