/-! what the reference raises -/
section
variable (kn xs ys : Nat → Int32) (L : List (Nat × Nat × Nat)) (PA PT : Nat → Nat) (SN : Nat → Nat → Nat) (x0 y0 dx dy : Int64)
/-- at a place -/
def wT0_ (N D : Int) (e : Int32) (x y d : Int32) : Prop := x = wr_ kn xs ys L PA PT SN x0 y0 dx dy N D 0 ∧ y = wr_ kn xs ys L PA PT SN x0 y0 dx dy N D 1 ∧ d = e
def bT0_ (N D : Int) (ot : Int32) (x y d : Int32) : Prop := x = bsr_ (kn 0) (bsn_ xs ys x0 y0 dx dy N D L 0 ot) ∧ y = bsr_ (kn 1) (bsn_ xs ys x0 y0 dx dy N D L 1 ot) ∧ d = 2
def cT_ (F : List (Nat × Nat)) (c : Nat) (x y d : Int32) : Prop :=
  wT0_ kn xs ys L PA PT SN x0 y0 dx dy ((F.getD c (0, 1)).1 : Int) ((F.getD c (0, 1)).2 : Int) 0 x y d ∨
  (c + 1 < F.length ∧ (wT0_ kn xs ys L PA PT SN x0 y0 dx dy (mdN_ (F.getD c (0, 1)) (F.getD (c + 1) (0, 1))) (mdD_ (F.getD c (0, 1)) (F.getD (c + 1) (0, 1))) 1 x y d ∨ bT0_ kn xs ys L x0 y0 dx dy (mdN_ (F.getD c (0, 1)) (F.getD (c + 1) (0, 1))) (mdD_ (F.getD c (0, 1)) (F.getD (c + 1) (0, 1))) 0 x y d ∨ bT0_ kn xs ys L x0 y0 dx dy (mdN_ (F.getD c (0, 1)) (F.getD (c + 1) (0, 1))) (mdD_ (F.getD c (0, 1)) (F.getD (c + 1) (0, 1))) 1 x y d))
end
section
variable {kn xs ys : Nat → Int32} {L : List (Nat × Nat × Nat)} {PA PT : Nat → Nat} {SN : Nat → Nat → Nat} {x0 y0 dx dy : Int64}
theorem t3_wr {N D : Int} {s : Nat} : t3_ (wr_ kn xs ys L PA PT SN x0 y0 dx dy N D s) := t3_whr
theorem cm_z {F : List (Nat × Nat)} {c : Nat} {mx : Nat → Int32} : rz_ (cT_ kn xs ys L PA PT SN x0 y0 dx dy F c) mx (cm_ kn xs ys L PA PT SN x0 y0 dx dy F c mx) := by
  unfold cm_
  by_cases h : c + 1 < F.length
  · rw [if_pos h]
    refine rz_w (rz_t (rz_t (rz_t (rz_1 t3_wr t3_wr) (rz_1 t3_wr t3_wr)) (rz_1 t3_bsr t3_bsr)) (rz_1 t3_bsr t3_bsr)) (fun x y d => ?_)
    unfold cT_ wT0_ bT0_
    constructor
    · rintro (((q | q) | q) | q)
      · exact Or.inl q
      · exact Or.inr ⟨h, Or.inl q⟩
      · exact Or.inr ⟨h, Or.inr (Or.inl q)⟩
      · exact Or.inr ⟨h, Or.inr (Or.inr q)⟩
    · rintro (q | ⟨-, q | q | q⟩)
      · exact Or.inl (Or.inl (Or.inl q))
      · exact Or.inl (Or.inl (Or.inr q))
      · exact Or.inl (Or.inr q)
      · exact Or.inr q
  · rw [if_neg h]
    refine rz_w (rz_1 t3_wr t3_wr) (fun x y d => ?_)
    unfold cT_ wT0_
    exact ⟨Or.inl, fun q => q.resolve_right (fun z => h z.1)⟩
theorem sgm_z {F : List (Nat × Nat)} {mx : Nat → Int32} : ∀ n, rz_ (fun x y d => ∃ c, c < n ∧ cT_ kn xs ys L PA PT SN x0 y0 dx dy F c x y d) mx (sgm_ kn xs ys L PA PT SN x0 y0 dx dy F mx n)
  | 0 => rz_w rz_0 (fun _ _ _ => ⟨fun h => h.elim, fun ⟨c, h, _⟩ => absurd h (Nat.not_lt_zero _)⟩)
  | n + 1 => by
    rw [sgm_]
    refine rz_w (rz_t (sgm_z n) cm_z) (fun x y d => ?_)
    constructor
    · rintro (⟨c, h1, h2⟩ | h)
      · exact ⟨c, by omega, h2⟩
      · exact ⟨n, by omega, h⟩
    · rintro ⟨c, h1, h2⟩
      rcases Nat.lt_or_ge c n with q | q
      · exact Or.inl ⟨c, q, h2⟩
      · rw [show c = n by omega] at h2; exact Or.inr h2
end
section
variable (kn xs ys : Nat → Int32) (L : List (Nat × Nat × Nat)) (PA PT : Nat → Nat) (SN : Nat → Nat → Nat)
/-- a beam's triples -/
def bmT_ (w : Nat × Nat × Nat) (x y d : Int32) : Prop := ∃ c, c < (rcu_ xs ys w.1 w.2.1 PT L).length ∧ cT_ kn xs ys L PA PT SN (xs w.1).toInt64 (ys w.1).toInt64 ((xs w.2.1).toInt64 - (xs w.1).toInt64) ((ys w.2.1).toInt64 - (ys w.1).toInt64) (rcu_ xs ys w.1 w.2.1 PT L) c x y d
def ptT_ (s n : Nat) (x y d : Int32) : Prop := wT0_ kn xs ys L PA PT SN (xs (2048 * s + n)).toInt64 (ys (2048 * s + n)).toInt64 0 0 0 1 0 x y d
end
section
variable {kn xs ys : Nat → Int32} {L : List (Nat × Nat × Nat)} {PA PT : Nat → Nat} {SN : Nat → Nat → Nat}
theorem lks_z {mx : Nat → Int32} : ∀ n, n ≤ L.length → rz_ (fun x y d => ∃ w ∈ L.take n, bmT_ kn xs ys L PA PT SN w x y d) mx (lks_ kn xs ys L PA PT SN mx n)
  | 0, _ => rz_w rz_0 (fun _ _ _ => ⟨fun h => h.elim, fun ⟨c, h, _⟩ => absurd h (by simp)⟩)
  | n + 1, h => by
    rw [lks_]
    refine rz_w (rz_t (lks_z n (by omega)) (sgm_z _)) (fun x y d => ?_)
    rw [m3_t (by omega)]
    constructor
    · rintro (⟨c, h1, h2⟩ | h)
      · exact ⟨c, List.mem_append_left _ h1, h2⟩
      · exact ⟨_, List.mem_append_right _ (List.mem_singleton.mpr rfl), h⟩
    · rintro ⟨c, h1, h2⟩
      rcases List.mem_append.mp h1 with k | k
      · exact Or.inl ⟨c, k, h2⟩
      · rw [List.mem_singleton.mp k] at h2; exact Or.inr h2
theorem lkp_z {s : Nat} {mx : Nat → Int32} : ∀ n, rz_ (fun x y d => ∃ i, i < n ∧ ptT_ kn xs ys L PA PT SN s i x y d) mx (lkp_ kn xs ys L PA PT SN s mx n)
  | 0 => rz_w rz_0 (fun _ _ _ => ⟨fun h => h.elim, fun ⟨c, h, _⟩ => absurd h (Nat.not_lt_zero _)⟩)
  | n + 1 => by
    rw [lkp_]
    refine rz_w (rz_t (lkp_z n) (rz_1 t3_wr t3_wr)) (fun x y d => ?_)
    constructor
    · rintro (⟨c, h1, h2⟩ | h)
      · exact ⟨c, by omega, h2⟩
      · exact ⟨n, by omega, h⟩
    · rintro ⟨c, h1, h2⟩
      rcases Nat.lt_or_ge c n with q | q
      · exact Or.inl ⟨c, q, h2⟩
      · rw [show c = n by omega] at h2; exact Or.inr h2
theorem lkq_z {mx : Nat → Int32} : ∀ n, rz_ (fun x y d => ∃ s, s < n ∧ ∃ i, i < PT s ∧ ptT_ kn xs ys L PA PT SN s i x y d) mx (lkq_ kn xs ys L PA PT SN mx n)
  | 0 => rz_w rz_0 (fun _ _ _ => ⟨fun h => h.elim, fun ⟨c, h, _⟩ => absurd h (Nat.not_lt_zero _)⟩)
  | n + 1 => by
    rw [lkq_]
    refine rz_w (rz_t (lkq_z n) (lkp_z (PT n))) (fun x y d => ?_)
    constructor
    · rintro (⟨c, h1, h2⟩ | h)
      · exact ⟨c, by omega, h2⟩
      · exact ⟨n, by omega, h⟩
    · rintro ⟨c, h1, h2⟩
      rcases Nat.lt_or_ge c n with q | q
      · exact Or.inl ⟨c, q, h2⟩
      · rw [show c = n by omega] at h2; exact Or.inr h2
end
/-- the reference's matrix is raised by its points and its beams -/
theorem lkM_z {kn xs ys : Nat → Int32} {PA PT : Nat → Nat} {SN : Nat → Nat → Nat} {mx : Nat → Int32} :
    rz_ (fun x y d => (∃ s, s < 2 ∧ ∃ i, i < PT s ∧ ptT_ kn xs ys (gat_ kn xs ys SN PA PT) PA PT SN s i x y d) ∨ (∃ w ∈ gat_ kn xs ys SN PA PT, bmT_ kn xs ys (gat_ kn xs ys SN PA PT) PA PT SN w x y d)) (upd (fil_ mx (-1) 9) 8 2) (lkM_ kn xs ys SN PA PT mx) := by
  unfold lkM_
  refine rz_w (rz_t (lkq_z 2) (lks_z _ (Nat.le_refl _))) (fun x y d => ?_)
  rw [List.take_length]
theorem m0_e {mx : Nat → Int32} {a b : Int32} (ha : t3_ a) (hb : t3_ b) : mat_ (upd (fil_ mx (-1) 9) 8 2) a b = if a = 2 ∧ b = 2 then 2 else -1 := by
  unfold mat_ upd fil_
  rcases ha with h | h | h <;> rcases hb with k | k | k <;> subst h <;> subst k <;> rfl
theorem m0_c {mx : Nat → Int32} {a b : Int32} (ha : t3_ a) (hb : t3_ b) : mat_ (rai_ (fil_ mx (-1) 9) 2 2 2) a b = if a = 2 ∧ b = 2 then 2 else -1 := by
  have e : rai_ (fil_ mx (-1) 9) 2 2 2 = upd (fil_ mx (-1) 9) 8 2 := by
    unfold rai_
    rw [if_pos (by unfold mat_ fil_; rw [if_pos (by decide)]; decide)]; rfl
  rw [e]; exact m0_e ha hb
