def jn_ (xs ys : Nat → Int32) (L : List (Nat × Nat × Nat)) (p q s : Nat) : List (Nat × Nat × Nat) := if xs p = xs q ∧ ys p = ys q then L else L ++ [(p, q, s)]
theorem m3_p {fr to1 wh : Nat → Int32} {L : List (Nat × Nat × Nat)} {p q s : Nat} (h : ml3_ fr to1 wh L) : ml3_ (upd fr L.length (nI p)) (upd to1 L.length (nI q)) (upd wh L.length (nI s)) (L ++ [(p, q, s)]) := by
  intro i hi
  rw [List.length_append, List.length_singleton] at hi
  rcases Nat.lt_or_ge i L.length with k | k
  · rw [pk_un (by omega), pk_un (by omega), pk_un (by omega), (h i k).1, (h i k).2.1, (h i k).2.2]; simp [List.getD, List.getElem?_append_left k]
  · have e : i = L.length := by omega
    subst e; rw [pk_us, pk_us, pk_us]; simp [List.getD]
theorem jn_l {xs ys : Nat → Int32} {L : List (Nat × Nat × Nat)} {p q s n : Nat} (h : L.length + 1 ≤ n) : (jn_ xs ys L p q s).length ≤ n := by
  unfold jn_; split
  · omega
  · rw [List.length_append, List.length_singleton]; omega
def gsg_ (xs ys : Nat → Int32) (L : List (Nat × Nat × Nat)) (s a : Nat) : Nat → List (Nat × Nat × Nat)
  | 0 => L
  | n + 1 => jn_ xs ys (gsg_ xs ys L s a n) (a + n) (a + n + 1) s
theorem gsg_l {xs ys : Nat → Int32} {L : List (Nat × Nat × Nat)} {s a : Nat} : ∀ n, (gsg_ xs ys L s a n).length ≤ L.length + n
  | 0 => Nat.le_refl _
  | n + 1 => by rw [gsg_]; exact jn_l (by have := gsg_l (xs := xs) (ys := ys) (L := L) (s := s) (a := a) n; omega)
def gpt_ (kd : Int32) (xs ys : Nat → Int32) (L : List (Nat × Nat × Nat)) (s a b : Nat) : List (Nat × Nat × Nat) :=
  if kd = 3 ∧ a < b then jn_ xs ys (if 1 < kd then gsg_ xs ys L s a (b - 1 - a) else L) (b - 1) a s else (if 1 < kd then gsg_ xs ys L s a (b - 1 - a) else L)
theorem gpt_l {kd : Int32} {xs ys : Nat → Int32} {L : List (Nat × Nat × Nat)} {s a b : Nat} (h : a ≤ b) : (gpt_ kd xs ys L s a b).length ≤ L.length + (b - a) := by
  have hg := gsg_l (xs := xs) (ys := ys) (L := L) (s := s) (a := a) (b - 1 - a)
  unfold gpt_
  split
  · apply jn_l; split <;> omega
  · split <;> omega
def gsh_ (kd : Int32) (xs ys : Nat → Int32) (sn : Nat → Nat) (P N : Nat) (L : List (Nat × Nat × Nat)) (s : Nat) : Nat → List (Nat × Nat × Nat)
  | 0 => L
  | k + 1 => gpt_ kd xs ys (gsh_ kd xs ys sn P N L s k) s (2048 * s + sn k) (2048 * s + pe_ sn P N k)
/-- the parts begin in order -/
def mon_ (sn : Nat → Nat) (P N : Nat) : Prop := (∀ i, i + 1 < P → sn i ≤ sn (i + 1)) ∧ (∀ i, i < P → sn i ≤ N)
theorem pe_m {sn : Nat → Nat} {P N k : Nat} (h : mon_ sn P N) (hk : k < P) : sn k ≤ pe_ sn P N k ∧ pe_ sn P N k ≤ N := by
  unfold pe_; split
  · exact ⟨h.1 k (by assumption), h.2 _ (by assumption)⟩
  · exact ⟨h.2 k hk, Nat.le_refl _⟩
theorem gsh_l {kd : Int32} {xs ys : Nat → Int32} {sn : Nat → Nat} {P N s : Nat} {L : List (Nat × Nat × Nat)} (h : mon_ sn P N) : ∀ k, k ≤ P → (gsh_ kd xs ys sn P N L s k).length ≤ L.length + bn_ sn P N k
  | 0, _ => Nat.le_add_right _ _
  | k + 1, hk => by
    have ih := gsh_l (kd := kd) (xs := xs) (ys := ys) (s := s) (L := L) h k (by omega)
    have hp := pe_m h (k := k) (by omega)
    have e := bn_s (sn := sn) (P := P) (N := N) (k := k) (by omega)
    have e2 : bn_ sn P N k = sn k := by unfold bn_; rw [if_pos (by omega)]
    have := gpt_l (kd := kd) (xs := xs) (ys := ys) (L := gsh_ kd xs ys sn P N L s k) (s := s) (a := 2048 * s + sn k) (b := 2048 * s + pe_ sn P N k) (by omega)
    rw [gsh_]; omega
def alk_ (xs ys : Nat → Int32) (p q : Nat) : Int32 := if xs p = xs q ∧ ys p = ys q then 1 else 0
/-- the reference's segments of both shapes -/
def gat_ (kn : Nat → Int32) (xs ys : Nat → Int32) (SN : Nat → Nat → Nat) (PA PT : Nat → Nat) : List (Nat × Nat × Nat) :=
  gsh_ (kn 1) xs ys (SN 1) (PA 1) (PT 1) (gsh_ (kn 0) xs ys (SN 0) (PA 0) (PT 0) [] 0 (PA 0)) 1 (PA 1)
theorem jn_q {xs ys : Nat → Int32} {L : List (Nat × Nat × Nat)} {p q s : Nat} (h : ∀ w ∈ L, w.1 < 4096 ∧ w.2.1 < 4096 ∧ w.2.2 < 2) (hp : p < 4096) (hq : q < 4096) (hs : s < 2) : ∀ w ∈ jn_ xs ys L p q s, w.1 < 4096 ∧ w.2.1 < 4096 ∧ w.2.2 < 2 := by
  unfold jn_; split
  · exact h
  · intro w hw
    rcases List.mem_append.mp hw with k | k
    · exact h w k
    · rw [List.mem_singleton.mp k]; exact ⟨hp, hq, hs⟩
/-- the segments of the first n shapes -/
def sgl_ (kn : Nat → Int32) (xs ys : Nat → Int32) (SN : Nat → Nat → Nat) (PA PT : Nat → Nat) : Nat → List (Nat × Nat × Nat)
  | 0 => []
  | s + 1 => gsh_ (kn s) xs ys (SN s) (PA s) (PT s) (sgl_ kn xs ys SN PA PT s) s (PA s)
theorem sgl_s {kn : Nat → Int32} {xs ys : Nat → Int32} {SN : Nat → Nat → Nat} {PA PT : Nat → Nat} {s : Nat} (_ : s < 2) : gsh_ (kn s) xs ys (SN s) (PA s) (PT s) (sgl_ kn xs ys SN PA PT s) s (PA s) = sgl_ kn xs ys SN PA PT (s + 1) := rfl
theorem sgl_l {kn pt pa bg : Nat → Int32} {xs ys : Nat → Int32} {SN : Nat → Nat → Nat} {PA PT : Nat → Nat} (hst : mst_ pt pa bg PT PA SN) (hmo : ∀ s, s < 2 → mon_ (SN s) (PA s) (PT s)) : ∀ {s : Nat}, s ≤ 2 → (sgl_ kn xs ys SN PA PT s).length ≤ 2048 * s
  | 0, _ => Nat.le_refl _
  | s + 1, h => by
    have ih := sgl_l (kn := kn) (xs := xs) (ys := ys) hst hmo (s := s) (by omega)
    have hg := gsh_l (kd := kn s) (xs := xs) (ys := ys) (s := s) (L := sgl_ kn xs ys SN PA PT s) (hmo s (by omega)) (PA s) (Nat.le_refl _)
    have e : bn_ (SN s) (PA s) (PT s) (PA s) = PT s := by unfold bn_; rw [if_neg (Nat.lt_irrefl _)]
    have := (hst s (by omega)).2.2.1
    rw [e] at hg
    rw [sgl_]; omega
