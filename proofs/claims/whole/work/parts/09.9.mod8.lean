/-- a segment of the reference -/
def nd_ (xs ys : Nat → Int32) (w : Nat × Nat × Nat) : Prop := (w.1 < 4096 ∧ w.2.1 < 4096 ∧ w.2.2 < 2) ∧ ¬ (xs w.1 = xs w.2.1 ∧ ys w.1 = ys w.2.1)
theorem jn_n {xs ys : Nat → Int32} {L : List (Nat × Nat × Nat)} {p q s : Nat} (h : ∀ w ∈ L, nd_ xs ys w) (hp : p < 4096) (hq : q < 4096) (hs : s < 2) : ∀ w ∈ jn_ xs ys L p q s, nd_ xs ys w := by
  unfold jn_; split
  · exact h
  · rename_i hne
    intro w hw
    rcases List.mem_append.mp hw with k | k
    · exact h w k
    · rw [List.mem_singleton.mp k]; exact ⟨⟨hp, hq, hs⟩, hne⟩
theorem gsg_n {xs ys : Nat → Int32} {L : List (Nat × Nat × Nat)} {s a : Nat} (h : ∀ w ∈ L, nd_ xs ys w) (hs : s < 2) : ∀ n, (n = 0 ∨ a + n < 4096) → ∀ w ∈ gsg_ xs ys L s a n, nd_ xs ys w
  | 0, _ => h
  | n + 1, hn => by rw [gsg_]; exact jn_n (gsg_n h hs n (by omega)) (by omega) (by omega) hs
theorem gpt_n {kd : Int32} {xs ys : Nat → Int32} {L : List (Nat × Nat × Nat)} {s a b : Nat} (h : ∀ w ∈ L, nd_ xs ys w) (hs : s < 2) (hb : b ≤ 4096) : ∀ w ∈ gpt_ kd xs ys L s a b, nd_ xs ys w := by
  have h1 : ∀ w ∈ (if 1 < kd then gsg_ xs ys L s a (b - 1 - a) else L), nd_ xs ys w := by
    split
    · exact gsg_n h hs _ (by omega)
    · exact h
  unfold gpt_; split
  · exact jn_n h1 (by omega) (by omega) hs
  · exact h1
theorem gsh_n {kd : Int32} {xs ys : Nat → Int32} {sn : Nat → Nat} {P N s : Nat} {L : List (Nat × Nat × Nat)} (h : ∀ w ∈ L, nd_ xs ys w) (hm : mon_ sn P N) (hN : N ≤ 2048) (hs : s < 2) : ∀ k, k ≤ P → ∀ w ∈ gsh_ kd xs ys sn P N L s k, nd_ xs ys w
  | 0, _ => h
  | k + 1, hk => by
    have := pe_m hm (k := k) (by omega)
    rw [gsh_]; exact gpt_n (gsh_n h hm hN hs k (by omega)) hs (by omega)
theorem sgl_n {kn pt pa bg xs ys : Nat → Int32} {SN : Nat → Nat → Nat} {PA PT : Nat → Nat} (hst : mst_ pt pa bg PT PA SN) (hmo : ∀ s, s < 2 → mon_ (SN s) (PA s) (PT s)) : ∀ s, s ≤ 2 → ∀ w ∈ sgl_ kn xs ys SN PA PT s, nd_ xs ys w
  | 0, _ => fun w hw => absurd hw (by simp [sgl_])
  | s + 1, h => by
    rw [sgl_]; exact gsh_n (sgl_n hst hmo s (by omega)) (hmo s (by omega)) (hst s (by omega)).2.2.1 (by omega) _ (Nat.le_refl _)
theorem gat_n {kn pt pa bg xs ys : Nat → Int32} {SN : Nat → Nat → Nat} {PA PT : Nat → Nat} (hst : mst_ pt pa bg PT PA SN) (hmo : ∀ s, s < 2 → mon_ (SN s) (PA s) (PT s)) : ∀ w ∈ gat_ kn xs ys SN PA PT, nd_ xs ys w := sgl_n (kn := kn) hst hmo 2 (Nat.le_refl _)
theorem gat_l {kn pt pa bg xs ys : Nat → Int32} {SN : Nat → Nat → Nat} {PA PT : Nat → Nat} (hst : mst_ pt pa bg PT PA SN) (hmo : ∀ s, s < 2 → mon_ (SN s) (PA s) (PT s)) : (gat_ kn xs ys SN PA PT).length ≤ 4096 := sgl_l (kn := kn) (xs := xs) (ys := ys) hst hmo (s := 2) (Nat.le_refl _)
theorem rcu_k {xs ys : Nat → Int32} {a b : Nat} {PT : Nat → Nat} {L : List (Nat × Nat × Nat)} (hn : ¬ (xs a = xs b ∧ ys a = ys b)) : fok_ (rcu_ xs ys a b PT L) := fin_k _ (fok_a (rcq_f hn 2) rcs_f) fok_0
theorem rcu_l {xs ys : Nat → Int32} {a b : Nat} {PT : Nat → Nat} {L : List (Nat × Nat × Nat)} (h : ∀ s, s < 2 → PT s ≤ 2048) (hL : L.length ≤ 4096) : (rcu_ xs ys a b PT L).length ≤ 12400 := by
  have b1 := fin_l (rcq_ xs ys a b PT 2 ++ rcs_ xs ys a b L) (F := [])
  have b2 := rcq_l (xs := xs) (ys := ys) (a := a) (b := b) h 2 (Nat.le_refl _)
  have b3 := rcs_l (xs := xs) (ys := ys) (a := a) (b := b) L
  rw [List.length_append, List.length_nil] at b1
  unfold rcu_; omega
/-- the reference's matrix, and its areas -/
def lkM_ (kn xs ys : Nat → Int32) (SN : Nat → Nat → Nat) (PA PT : Nat → Nat) (mx : Nat → Int32) : Nat → Int32 :=
  lks_ kn xs ys (gat_ kn xs ys SN PA PT) PA PT SN (lkq_ kn xs ys (gat_ kn xs ys SN PA PT) PA PT SN (upd (fil_ mx (-1) 9) 8 2) 2) (gat_ kn xs ys SN PA PT).length
def lkH_ (kn xs ys : Nat → Int32) (SN : Nat → Nat → Nat) (PA PT : Nat → Nat) (ha : Nat → Int32) : Nat → Int32 :=
  lkh_ kn xs ys (gat_ kn xs ys SN PA PT) PT (upd (upd ha 0 0) 1 0) (gat_ kn xs ys SN PA PT).length
