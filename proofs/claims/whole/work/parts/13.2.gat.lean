/-! the reference's segments are the class's -/
def m3_ (s : Nat) (q : Nat × Nat) : Nat × Nat × Nat := (2048 * s + q.1, 2048 * s + q.2, s)
def xo_ (f : Nat → Int32) (s : Nat) : Nat → Int32 := fun i => f (2048 * s + i)
theorem jn_g {xs ys : Nat → Int32} {L0 : List (Nat × Nat × Nat)} {S : List (Nat × Nat)} {s t h : Nat} : jn_ xs ys (L0 ++ S.map (m3_ s)) (2048 * s + t) (2048 * s + h) s = L0 ++ (sgs_ (xo_ xs s) (xo_ ys s) S t h).map (m3_ s) := by
  unfold jn_ sgs_ xo_
  split
  · rfl
  · rw [List.map_append, ← List.append_assoc]; rfl
theorem gsg_g {xs ys : Nat → Int32} {L0 : List (Nat × Nat × Nat)} {S : List (Nat × Nat)} {s a : Nat} : ∀ n, gsg_ xs ys (L0 ++ S.map (m3_ s)) s (2048 * s + a) n = L0 ++ (psg_ (xo_ xs s) (xo_ ys s) S a n).map (m3_ s)
  | 0 => rfl
  | n + 1 => by
    rw [gsg_, psg_, gsg_g n, Nat.add_assoc (2048 * s) a n, Nat.add_assoc (2048 * s) (a + n) 1, jn_g]
theorem gpt_g {kd : Int32} (hk : kd = 1 ∨ kd = 2 ∨ kd = 3) {xs ys : Nat → Int32} {L0 : List (Nat × Nat × Nat)} {S : List (Nat × Nat)} {s a b : Nat} (h : a ≤ b) :
    gpt_ kd xs ys (L0 ++ S.map (m3_ s)) s (2048 * s + a) (2048 * s + b) = L0 ++ (if a < b then ppS_ kd (xo_ xs s) (xo_ ys s) S a (b - 1) else S).map (m3_ s) := by
  have e : 2048 * s + b - 1 - (2048 * s + a) = b - 1 - a := by omega
  unfold gpt_ ppS_
  rw [e]
  rcases hk with k | k | k
  · subst k
    rw [if_neg (fun z => absurd z.1 (by decide)), if_neg (show ¬ (1 : Int32) < 1 by decide), if_pos (show (1 : Int32) = 1 from rfl)]; split <;> rfl
  · subst k
    rw [if_neg (fun z => absurd z.1 (by decide)), if_pos (show (1 : Int32) < 2 by decide), gsg_g]
    by_cases q : a < b
    · rw [if_pos q, if_neg (show ¬ (2 : Int32) = 1 by decide), if_neg (show ¬ (2 : Int32) = 3 by decide)]
    · rw [if_neg q, show b - 1 - a = 0 by omega]; rfl
  · subst k
    by_cases q : a < b
    · rw [if_pos (show (3 : Int32) = 3 ∧ 2048 * s + a < 2048 * s + b from ⟨rfl, by omega⟩), if_pos (show (1 : Int32) < 3 by decide), if_pos q, if_neg (show ¬ (3 : Int32) = 1 by decide), if_pos (show (3 : Int32) = 3 from rfl), gsg_g, show 2048 * s + b - 1 = 2048 * s + (b - 1) by omega, jn_g, show b - 1 - a = b - 1 - a from rfl]
    · rw [if_neg (fun z => q (by have := z.2; omega)), if_pos (show (1 : Int32) < 3 by decide), if_neg q, gsg_g, show b - 1 - a = 0 by omega]; rfl
theorem gsh_g {kd : Int32} (hk : kd = 1 ∨ kd = 2 ∨ kd = 3) {xs ys : Nat → Int32} {L0 : List (Nat × Nat × Nat)} {sn : Nat → Nat} {P N s : Nat} (hm : mon_ sn P N) : ∀ k, k ≤ P → gsh_ kd xs ys sn P N L0 s k = L0 ++ (prS_ kd (xo_ xs s) (xo_ ys s) sn P N k).map (m3_ s)
  | 0, _ => by rw [gsh_, prS_]; simp
  | k + 1, h => by
    rw [gsh_, prS_, gsh_g hk hm k (by omega), gpt_g hk (pe_m hm (by omega)).1]
theorem sgs_x {xs ys xs' ys' : Nat → Int32} {S : List (Nat × Nat)} {t h : Nat} (h1 : xs t = xs' t ∧ ys t = ys' t) (h2 : xs h = xs' h ∧ ys h = ys' h) : sgs_ xs ys S t h = sgs_ xs' ys' S t h := by
  unfold sgs_; rw [h1.1, h1.2, h2.1, h2.2]
theorem psg_x {xs ys xs' ys' : Nat → Int32} {S : List (Nat × Nat)} {a N : Nat} (he : ∀ i, i < N → xs i = xs' i ∧ ys i = ys' i) : ∀ n, (n = 0 ∨ a + n < N) → psg_ xs ys S a n = psg_ xs' ys' S a n
  | 0, _ => rfl
  | n + 1, h => by rw [psg_, psg_, psg_x he n (by omega), sgs_x (he _ (by omega)) (he _ (by omega))]
/-- only the points that there are count -/
theorem prS_x {kd : Int32} {xs ys xs' ys' : Nat → Int32} {sn : Nat → Nat} {P N : Nat} (hm : mon_ sn P N) (he : ∀ i, i < N → xs i = xs' i ∧ ys i = ys' i) : ∀ k, k ≤ P → prS_ kd xs ys sn P N k = prS_ kd xs' ys' sn P N k
  | 0, _ => rfl
  | k + 1, h => by
    have hp := pe_m hm (k := k) (by omega)
    rw [prS_, prS_, prS_x hm he k (by omega)]
    split
    · unfold ppS_
      split
      · rfl
      · split
        · rw [psg_x he _ (by omega), sgs_x (he _ (by omega)) (he _ (by omega))]
        · rw [psg_x he _ (by omega)]
    · rfl
theorem gat_g {kn xs ys : Nat → Int32} {SN : Nat → Nat → Nat} {PA PT : Nat → Nat} (hk : ∀ s, s < 2 → kn s = 1 ∨ kn s = 2 ∨ kn s = 3) (hm : ∀ s, s < 2 → mon_ (SN s) (PA s) (PT s)) :
    gat_ kn xs ys SN PA PT = (prS_ (kn 0) (xo_ xs 0) (xo_ ys 0) (SN 0) (PA 0) (PT 0) (PA 0)).map (m3_ 0) ++ (prS_ (kn 1) (xo_ xs 1) (xo_ ys 1) (SN 1) (PA 1) (PT 1) (PA 1)).map (m3_ 1) := by
  unfold gat_
  rw [gsh_g (hk 1 (by decide)) (hm 1 (by decide)) (PA 1) (Nat.le_refl _), gsh_g (hk 0 (by decide)) (hm 0 (by decide)) (PA 0) (Nat.le_refl _), List.nil_append]
theorem cp_m {S0 S1 : List (Nat × Nat)} {f : Nat × Nat × Nat → Bool} {s : Nat} (hs : s < 2) (hf : ∀ w, ¬ w.2.2 = s → f w = false) : (S0.map (m3_ 0) ++ S1.map (m3_ 1)).countP f = sm_ (fun q => if f (m3_ s q) = true then 1 else 0) (if s = 0 then S0 else S1) := by
  rw [List.countP_append, List.countP_map, List.countP_map]
  have z : ∀ (r : Nat) (S : List (Nat × Nat)), ¬ r = s → S.countP (f ∘ m3_ r) = 0 := fun r S h => by
    rw [List.countP_eq_zero]; intro q _; show ¬ f (m3_ r q) = true
    rw [hf (m3_ r q) h]; decide
  rcases (show s = 0 ∨ s = 1 by omega) with e | e
  · subst e; rw [z 1 S1 (by decide), Nat.add_zero, sm_c, if_pos rfl]; rfl
  · subst e; rw [z 0 S0 (by decide), Nat.zero_add, sm_c, if_neg (by decide)]; rfl
