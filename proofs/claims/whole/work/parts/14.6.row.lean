/-! rows and columns of the matrix: of what dimension a shape's inside and rim are -/
theorem mxl {a b : Int32} : a ≤ mx_ a b := by
  unfold mx_
  by_cases h : a < b
  · rw [if_pos h]; exact Int32.le_of_lt h
  · rw [if_neg h]; exact Int32.le_refl _
theorem mxr {a b : Int32} : b ≤ mx_ a b := by
  unfold mx_
  by_cases h : a < b
  · rw [if_pos h]; exact Int32.le_refl _
  · rw [if_neg h]; exact Int32.not_lt.mp h
theorem mxu {a b c : Int32} (h1 : a ≤ c) (h2 : b ≤ c) : mx_ a b ≤ c := by
  unfold mx_; split
  · exact h2
  · exact h1
theorem dif_v {T : Int32 → Int32 → Int32 → Prop} {m0 m : Nat → Int32} {a v : Int32} (hz : rz_ T m0 m) (h0 : ∀ a b, t3_ a → t3_ b → mat_ m0 a b = if a = 2 ∧ b = 2 then 2 else -1) (ha : a = 0 ∨ a = 1) (hv : -1 ≤ v) (hu : ∀ y d, T a y d → d ≤ v) (hl : v = -1 ∨ ∃ y d, T a y d ∧ v ≤ d) : dif_ m a = v := by
  have a3 : t3_ a := ha.imp id Or.inl
  have up : ∀ y, t3_ y → mat_ m a y ≤ v := fun y hy => by
    rcases hz.2.2 a y a3 hy with k | k
    · rw [k, h0 a y a3 hy, if_neg (fun z => by rcases ha with h | h <;> rw [h] at z <;> exact absurd z.1 (by decide))]; exact hv
    · exact hu y _ k
  have lo : ∀ y, t3_ y → mat_ m a y ≤ dif_ m a := fun y hy => by
    unfold dif_
    rcases hy with k | k | k
    · rw [k]; exact mxl
    · rw [k]; exact Int32.le_trans mxl mxr
    · rw [k]; exact Int32.le_trans mxr mxr
  apply Int32.le_antisymm
  · unfold dif_; exact mxu (up 0 t3_0) (mxu (up 1 t3_1) (up 2 t3_2))
  · rcases hl with k | ⟨y, d, k1, k2⟩
    · rw [k]
      have g := hz.1 a 0 a3 t3_0
      rw [h0 a 0 a3 t3_0, if_neg (fun z => absurd z.2 (by decide))] at g
      exact Int32.le_trans g (lo 0 t3_0)
    · obtain ⟨_, hy, hd⟩ := hz.2.1 a y d k1
      exact Int32.le_trans k2 (Int32.le_trans hd (lo y hy))
theorem dis_v {T : Int32 → Int32 → Int32 → Prop} {m0 m : Nat → Int32} {b v : Int32} (hz : rz_ T m0 m) (h0 : ∀ a b, t3_ a → t3_ b → mat_ m0 a b = if a = 2 ∧ b = 2 then 2 else -1) (hb : b = 0 ∨ b = 1) (hv : -1 ≤ v) (hu : ∀ x d, T x b d → d ≤ v) (hl : v = -1 ∨ ∃ x d, T x b d ∧ v ≤ d) : dis_ m b = v := by
  have b3 : t3_ b := hb.imp id Or.inl
  have up : ∀ x, t3_ x → mat_ m x b ≤ v := fun x hx => by
    rcases hz.2.2 x b hx b3 with k | k
    · rw [k, h0 x b hx b3, if_neg (fun z => by rcases hb with h | h <;> rw [h] at z <;> exact absurd z.2 (by decide))]; exact hv
    · exact hu x _ k
  have lo : ∀ x, t3_ x → mat_ m x b ≤ dis_ m b := fun x hx => by
    unfold dis_
    rcases hx with k | k | k
    · rw [k]; exact mxl
    · rw [k]; exact Int32.le_trans mxl mxr
    · rw [k]; exact Int32.le_trans mxr mxr
  apply Int32.le_antisymm
  · unfold dis_; exact mxu (up 0 t3_0) (mxu (up 1 t3_1) (up 2 t3_2))
  · rcases hl with k | ⟨x, d, k1, k2⟩
    · rw [k]
      have g := hz.1 0 b t3_0 b3
      rw [h0 0 b t3_0 b3, if_neg (fun z => absurd z.1 (by decide))] at g
      exact Int32.le_trans g (lo 0 t3_0)
    · obtain ⟨hx, _, hd⟩ := hz.2.1 x b d k1
      exact Int32.le_trans k2 (Int32.le_trans hd (lo x hx))
/-- areas -/
theorem bsh_v {kd : Int32} {n s t : Nat} {ha : Nat → Int32} : ¬ bsh_ kd n s ha t = 0 ↔ (¬ ha t = 0 ∨ (t = s ∧ ¬ kd < 3 ∧ n % 2 = 1)) := by
  unfold bsh_
  by_cases c : kd < 3
  · rw [if_pos c]; exact ⟨Or.inl, fun h => h.resolve_right (fun z => z.2.1 c)⟩
  · rw [if_neg c]
    by_cases d : n % 2 = 1
    · rw [if_pos d]
      by_cases e : t = s
      · rw [e, pk_us]; exact ⟨fun _ => Or.inr ⟨rfl, c, d⟩, fun _ => by decide⟩
      · rw [pk_un e]; exact ⟨Or.inl, fun h => h.resolve_right (fun z => e z.1)⟩
    · rw [if_neg d]; exact ⟨Or.inl, fun h => h.resolve_right (fun z => d z.2.2)⟩
section
variable {kn xs ys : Nat → Int32} {L : List (Nat × Nat × Nat)} {x0 y0 dx dy : Int64}
theorem mhb_v {N D : Int} {ot : Int32} {ha : Nat → Int32} {t : Nat} (ht : t < 2) : ¬ mhb_ kn xs ys L x0 y0 dx dy N D ot ha t = 0 ↔ (¬ ha t = 0 ∨ (¬ kn t < 3 ∧ bsn_ xs ys x0 y0 dx dy N D L t ot % 2 = 1)) := by
  unfold mhb_
  rw [bsh_v, bsh_v]
  rcases (show t = 0 ∨ t = 1 by omega) with e | e
  · subst e
    exact ⟨fun h => by
      rcases h with (h | h) | h
      · exact Or.inl h
      · exact Or.inr h.2
      · exact absurd h.1 (by decide), fun h => by
      rcases h with h | h
      · exact Or.inl (Or.inl h)
      · exact Or.inl (Or.inr ⟨rfl, h⟩)⟩
  · subst e
    exact ⟨fun h => by
      rcases h with (h | h) | h
      · exact Or.inl h
      · exact absurd h.1 (by decide)
      · exact Or.inr h.2, fun h => by
      rcases h with h | h
      · exact Or.inl (Or.inl h)
      · exact Or.inr ⟨rfl, h⟩⟩
/-- an odd number beside, between cut c and the next -/
def oB_ (kn xs ys : Nat → Int32) (L : List (Nat × Nat × Nat)) (x0 y0 dx dy : Int64) (F : List (Nat × Nat)) (t c : Nat) : Prop :=
  c + 1 < F.length ∧ ¬ kn t < 3 ∧ ∃ ot : Int32, (ot = 0 ∨ ot = 1) ∧ bsn_ xs ys x0 y0 dx dy (mdN_ (F.getD c (0, 1)) (F.getD (c + 1) (0, 1))) (mdD_ (F.getD c (0, 1)) (F.getD (c + 1) (0, 1))) L t ot % 2 = 1
theorem sgh_v {F : List (Nat × Nat)} {ha : Nat → Int32} {t : Nat} (ht : t < 2) : ∀ n, ¬ sgh_ kn xs ys L x0 y0 dx dy F ha n t = 0 ↔ (¬ ha t = 0 ∨ ∃ c, c < n ∧ oB_ kn xs ys L x0 y0 dx dy F t c)
  | 0 => ⟨Or.inl, fun h => h.resolve_right (fun ⟨c, h, _⟩ => absurd h (Nat.not_lt_zero _))⟩
  | n + 1 => by
    have ih := sgh_v (F := F) (ha := ha) ht n
    rw [sgh_]
    have key : ¬ ch_ kn xs ys L x0 y0 dx dy F n (sgh_ kn xs ys L x0 y0 dx dy F ha n) t = 0 ↔ (¬ sgh_ kn xs ys L x0 y0 dx dy F ha n t = 0 ∨ oB_ kn xs ys L x0 y0 dx dy F t n) := by
      unfold ch_ oB_
      by_cases c : n + 1 < F.length
      · rw [if_pos c, mhb_v ht, mhb_v ht]
        constructor
        · rintro ((h | h) | h)
          · exact Or.inl h
          · exact Or.inr ⟨c, h.1, 0, Or.inl rfl, h.2⟩
          · exact Or.inr ⟨c, h.1, 1, Or.inr rfl, h.2⟩
        · rintro (h | ⟨_, h1, ot, h2, h3⟩)
          · exact Or.inl (Or.inl h)
          · rcases h2 with e | e
            · rw [e] at h3; exact Or.inl (Or.inr ⟨h1, h3⟩)
            · rw [e] at h3; exact Or.inr ⟨h1, h3⟩
      · rw [if_neg c]; exact ⟨Or.inl, fun h => h.resolve_right (fun z => c z.1)⟩
    rw [key, ih]
    constructor
    · rintro ((h | ⟨c, h1, h2⟩) | h)
      · exact Or.inl h
      · exact Or.inr ⟨c, by omega, h2⟩
      · exact Or.inr ⟨n, by omega, h⟩
    · rintro (h | ⟨c, h1, h2⟩)
      · exact Or.inl (Or.inl h)
      · rcases Nat.lt_or_ge c n with q | q
        · exact Or.inl (Or.inr ⟨c, q, h2⟩)
        · rw [show c = n by omega] at h2; exact Or.inr h2
end
section
variable {kn xs ys : Nat → Int32} {L : List (Nat × Nat × Nat)} {PT : Nat → Nat}
theorem lkh_v {ha : Nat → Int32} {t : Nat} (ht : t < 2) : ∀ n, n ≤ L.length → (¬ lkh_ kn xs ys L PT ha n t = 0 ↔ (¬ ha t = 0 ∨ ∃ w ∈ L.take n, ∃ c, c < (rcu_ xs ys w.1 w.2.1 PT L).length ∧ oB_ kn xs ys L (xs w.1).toInt64 (ys w.1).toInt64 ((xs w.2.1).toInt64 - (xs w.1).toInt64) ((ys w.2.1).toInt64 - (ys w.1).toInt64) (rcu_ xs ys w.1 w.2.1 PT L) t c))
  | 0, _ => ⟨Or.inl, fun h => h.resolve_right (fun ⟨c, h, _⟩ => absurd h (by simp))⟩
  | n + 1, h => by
    rw [lkh_, sgh_v ht, lkh_v ht n (by omega), m3_t (by omega)]
    constructor
    · rintro ((h | ⟨w, h1, h2⟩) | h)
      · exact Or.inl h
      · exact Or.inr ⟨w, List.mem_append_left _ h1, h2⟩
      · exact Or.inr ⟨_, List.mem_append_right _ (List.mem_singleton.mpr rfl), h⟩
    · rintro (h | ⟨w, h1, h2⟩)
      · exact Or.inl (Or.inl h)
      · rcases List.mem_append.mp h1 with k | k
        · exact Or.inl (Or.inr ⟨w, k, h2⟩)
        · rw [List.mem_singleton.mp k] at h2; exact Or.inr h2
end
/-- the reference has seen an area of shape t -/
theorem lkH_v {kn xs ys : Nat → Int32} {PA PT : Nat → Nat} {SN : Nat → Nat → Nat} {ha : Nat → Int32} {t : Nat} (ht : t < 2) : ¬ lkH_ kn xs ys SN PA PT ha t = 0 ↔ ∃ w ∈ gat_ kn xs ys SN PA PT, ∃ c, c < (rcu_ xs ys w.1 w.2.1 PT (gat_ kn xs ys SN PA PT)).length ∧ oB_ kn xs ys (gat_ kn xs ys SN PA PT) (xs w.1).toInt64 (ys w.1).toInt64 ((xs w.2.1).toInt64 - (xs w.1).toInt64) ((ys w.2.1).toInt64 - (ys w.1).toInt64) (rcu_ xs ys w.1 w.2.1 PT (gat_ kn xs ys SN PA PT)) t c := by
  unfold lkH_
  rw [lkh_v ht _ (Nat.le_refl _), List.take_length]
  have z : upd (upd ha 0 0) 1 0 t = 0 := by
    rcases (show t = 0 ∨ t = 1 by omega) with e | e
    · subst e; rw [pk_un (by decide), pk_us]
    · subst e; rw [pk_us]
  exact ⟨fun h => h.resolve_left (fun w => w z), Or.inr⟩
