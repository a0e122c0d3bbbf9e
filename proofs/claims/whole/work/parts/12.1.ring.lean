/-! sums over segments; rings -/
def sm_ (F : Nat × Nat → Nat) : List (Nat × Nat) → Nat
  | [] => 0
  | q :: S => F q + sm_ F S
theorem sm_a {F : Nat × Nat → Nat} : ∀ (S T : List (Nat × Nat)), sm_ F (S ++ T) = sm_ F S + sm_ F T
  | [], T => by rw [List.nil_append, sm_, Nat.zero_add]
  | q :: S, T => by rw [List.cons_append, sm_, sm_, sm_a S T, Nat.add_assoc]
theorem sm_m {F G : Nat × Nat → Nat} : ∀ (S : List (Nat × Nat)), (∀ q ∈ S, (F q + G q) % 2 = 0) → (sm_ F S + sm_ G S) % 2 = 0
  | [], _ => rfl
  | q :: S, h => by
    have h1 := h q (List.mem_cons_self ..)
    have h2 := sm_m S (fun z hz => h z (List.mem_cons_of_mem _ hz))
    rw [sm_, sm_]; omega
theorem sm_e {F G : Nat × Nat → Nat} : ∀ (S : List (Nat × Nat)), (∀ q ∈ S, F q = G q) → sm_ F S = sm_ G S
  | [], _ => rfl
  | q :: S, h => by rw [sm_, sm_, h q (List.mem_cons_self ..), sm_e S (fun z hz => h z (List.mem_cons_of_mem _ hz))]
theorem sm_s {F G : Nat × Nat → Nat} : ∀ (S : List (Nat × Nat)), sm_ (fun q => F q + G q) S = sm_ F S + sm_ G S
  | [] => rfl
  | q :: S => by rw [sm_, sm_, sm_, sm_s S]; omega
theorem sm_k {F : Nat × Nat → Nat} {c : Nat} : ∀ (S : List (Nat × Nat)), sm_ (fun q => c * F q) S = c * sm_ F S
  | [] => rfl
  | q :: S => by rw [sm_, sm_, sm_k S, Nat.mul_add]
theorem sm_0 {F : Nat × Nat → Nat} : ∀ (S : List (Nat × Nat)), 0 < sm_ F S → ∃ q ∈ S, 0 < F q
  | [], h => absurd h (Nat.lt_irrefl _)
  | q :: S, h => by
    rcases Nat.eq_zero_or_pos (F q) with k | k
    · rw [sm_, k, Nat.zero_add] at h
      obtain ⟨z, hz, hk⟩ := sm_0 S h
      exact ⟨z, List.mem_cons_of_mem _ hz, hk⟩
    · exact ⟨q, List.mem_cons_self .., k⟩
theorem sm_g {F : Nat × Nat → Nat} : ∀ (S : List (Nat × Nat)) (q : Nat × Nat), q ∈ S → 0 < F q → 0 < sm_ F S
  | [], _, h, _ => absurd h (by simp)
  | z :: S, q, h, k => by
    rw [sm_]
    rcases List.mem_cons.mp h with e | e
    · subst e; omega
    · have := sm_g S q e k; omega
theorem sm_c {f : Nat × Nat → Bool} : ∀ (S : List (Nat × Nat)), S.countP f = sm_ (fun q => if f q = true then 1 else 0) S
  | [] => rfl
  | q :: S => by
    rw [List.countP_cons, sm_, sm_c S, Nat.add_comm]
section
variable {xs ys : Nat → Int32} {φ : Nat → Nat}
theorem sgs_e (hφ : ∀ i j, xs i = xs j → ys i = ys j → φ i = φ j) {S : List (Nat × Nat)} {t h : Nat} : sm_ (fun q => φ q.1 + φ q.2) (sgs_ xs ys S t h) % 2 = (sm_ (fun q => φ q.1 + φ q.2) S + (φ t + φ h)) % 2 := by
  unfold sgs_; split
  · rename_i e; rw [hφ t h e.1 e.2]; omega
  · rw [sm_a, sm_, sm_, Nat.add_zero]
theorem psg_e (hφ : ∀ i j, xs i = xs j → ys i = ys j → φ i = φ j) {S : List (Nat × Nat)} {a : Nat} : ∀ n, sm_ (fun q => φ q.1 + φ q.2) (psg_ xs ys S a n) % 2 = (sm_ (fun q => φ q.1 + φ q.2) S + (φ a + φ (a + n))) % 2
  | 0 => by rw [psg_, Nat.add_zero]; omega
  | n + 1 => by
    have := psg_e hφ (S := S) (a := a) n
    rw [psg_, sgs_e hφ]
    have e : a + (n + 1) = a + n + 1 := rfl
    rw [e]; omega
theorem ppS_e (hφ : ∀ i j, xs i = xs j → ys i = ys j → φ i = φ j) {S : List (Nat × Nat)} {a z : Nat} (h : a ≤ z) : sm_ (fun q => φ q.1 + φ q.2) (ppS_ 3 xs ys S a z) % 2 = sm_ (fun q => φ q.1 + φ q.2) S % 2 := by
  unfold ppS_; rw [if_neg (by decide), if_pos rfl, sgs_e hφ]
  have := psg_e hφ (S := S) (a := a) (z - a)
  rw [show a + (z - a) = z by omega] at this
  omega
/-- a ring's ends come in twos -/
theorem prS_e (hφ : ∀ i j, xs i = xs j → ys i = ys j → φ i = φ j) {sn : Nat → Nat} {P N : Nat} : ∀ k, sm_ (fun q => φ q.1 + φ q.2) (prS_ 3 xs ys sn P N k) % 2 = 0
  | 0 => rfl
  | k + 1 => by
    rw [prS_]; split
    · rw [ppS_e hφ (by omega)]; exact prS_e hφ k
    · exact prS_e hφ k
end
theorem prS_1 {xs ys : Nat → Int32} {sn : Nat → Nat} {P N : Nat} : ∀ k, prS_ 1 xs ys sn P N k = []
  | 0 => rfl
  | k + 1 => by
    rw [prS_]; split
    · unfold ppS_; rw [if_pos rfl]; exact prS_1 k
    · exact prS_1 k
theorem prM_3 {xs ys : Nat → Int32} {sn : Nat → Nat} {P N : Nat} : ∀ k, prM_ 3 xs ys sn P N k = []
  | 0 => rfl
  | k + 1 => by
    rw [prM_]; split
    · unfold ppM_; rw [if_neg (by decide), if_pos rfl]; exact prM_3 k
    · exact prM_3 k
/-- a segment is no point -/
theorem sgs_d {xs ys : Nat → Int32} {S : List (Nat × Nat)} {t h : Nat} (hS : ∀ q ∈ S, ¬ (xs q.1 = xs q.2 ∧ ys q.1 = ys q.2)) : ∀ q ∈ sgs_ xs ys S t h, ¬ (xs q.1 = xs q.2 ∧ ys q.1 = ys q.2) := by
  unfold sgs_; split
  · exact hS
  · rename_i e
    intro q hq
    rcases List.mem_append.mp hq with k | k
    · exact hS q k
    · rw [List.mem_singleton.mp k]; exact e
theorem psg_d {xs ys : Nat → Int32} {S : List (Nat × Nat)} {a : Nat} (hS : ∀ q ∈ S, ¬ (xs q.1 = xs q.2 ∧ ys q.1 = ys q.2)) : ∀ n, ∀ q ∈ psg_ xs ys S a n, ¬ (xs q.1 = xs q.2 ∧ ys q.1 = ys q.2)
  | 0 => hS
  | n + 1 => by rw [psg_]; exact sgs_d (psg_d hS n)
theorem prS_d {kd : Int32} {xs ys : Nat → Int32} {sn : Nat → Nat} {P N : Nat} : ∀ k, ∀ q ∈ prS_ kd xs ys sn P N k, ¬ (xs q.1 = xs q.2 ∧ ys q.1 = ys q.2)
  | 0 => fun q hq => by simp [prS_] at hq
  | k + 1 => by
    rw [prS_]; split
    · unfold ppS_; split
      · exact prS_d k
      · split
        · exact sgs_d (psg_d (prS_d k) _)
        · exact psg_d (prS_d k) _
    · exact prS_d k
