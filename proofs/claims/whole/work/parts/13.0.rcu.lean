/-! the reference's cuts lie in order -/
def fl_ (x y : Nat × Nat) : Prop := x.1 * y.2 < y.1 * x.2
def fe_ (x y : Nat × Nat) : Prop := x.1 * y.2 = y.1 * x.2
theorem fl_t {x y z : Nat × Nat} (hx : 0 < x.2) (hy : 0 < y.2) (hz : 0 < z.2) (h1 : x.1 * y.2 ≤ y.1 * x.2) (h2 : fl_ y z) : fl_ x z := by
  unfold fl_ at *
  apply Nat.lt_of_mul_lt_mul_left (a := y.2)
  calc y.2 * (x.1 * z.2) = (x.1 * y.2) * z.2 := by grind
    _ ≤ (y.1 * x.2) * z.2 := Nat.mul_le_mul_right _ h1
    _ = (y.1 * z.2) * x.2 := by grind
    _ < (z.1 * y.2) * x.2 := Nat.mul_lt_mul_of_pos_right h2 hx
    _ = y.2 * (z.1 * x.2) := by grind
theorem fl_t2 {x y z : Nat × Nat} (hx : 0 < x.2) (hy : 0 < y.2) (hz : 0 < z.2) (h1 : fl_ x y) (h2 : y.1 * z.2 ≤ z.1 * y.2) : fl_ x z := by
  unfold fl_ at *
  apply Nat.lt_of_mul_lt_mul_left (a := y.2)
  calc y.2 * (x.1 * z.2) = (x.1 * y.2) * z.2 := by grind
    _ < (y.1 * x.2) * z.2 := Nat.mul_lt_mul_of_pos_right h1 hz
    _ = (y.1 * z.2) * x.2 := by grind
    _ ≤ (z.1 * y.2) * x.2 := Nat.mul_le_mul_right _ h2
    _ = y.2 * (z.1 * x.2) := by grind
theorem fk_s {F : List (Nat × Nat)} {x : Nat × Nat} : ∀ k j, fk_ F x k = some j → j ≤ k ∧ (∀ i, j ≤ i → i < k → fl_ x (F.getD i (0, 1))) ∧ (0 < j → fl_ (F.getD (j - 1) (0, 1)) x)
  | 0, j, h => by
    rw [fk_] at h; injection h with h; subst h
    exact ⟨Nat.le_refl _, fun i _ h => absurd h (Nat.not_lt_zero _), fun h => absurd h (Nat.lt_irrefl _)⟩
  | k + 1, j, h => by
    rw [fk_] at h
    split at h
    · exact absurd h (by simp)
    · split at h
      · rename_i h1 h2
        obtain ⟨i1, i2, i3⟩ := fk_s k j h
        refine ⟨by omega, fun i hi hk => ?_, i3⟩
        rcases Nat.lt_or_ge i k with q | q
        · exact i2 i hi q
        · rw [show i = k by omega]
          unfold fcm_ at h2; unfold fl_
          refine Nat.lt_of_not_le (fun z => ?_)
          exact absurd (cq_il.mpr z) (Int32.not_le.mpr h2)
      · rename_i h1 h2
        injection h with h; subst h
        refine ⟨Nat.le_refl _, fun i h1 h2 => by omega, fun _ => ?_⟩
        rw [show k + 1 - 1 = k by omega]
        unfold fcm_ at h1 h2; unfold fl_
        have a := cq_il.mp (Int32.not_lt.mp h2)
        have b : ¬ x.1 * (F.getD k (0, 1)).2 = (F.getD k (0, 1)).1 * x.2 := fun z => h1 (cq_i0.mpr z)
        omega
theorem fk_n {F : List (Nat × Nat)} {x : Nat × Nat} : ∀ k, fk_ F x k = none → ∃ i, i < k ∧ fe_ (F.getD i (0, 1)) x
  | 0, h => by rw [fk_] at h; exact absurd h (by simp)
  | k + 1, h => by
    rw [fk_] at h
    split at h
    · rename_i h1
      exact ⟨k, by omega, (cq_i0.mp h1).symm⟩
    · split at h
      · obtain ⟨i, h1, h2⟩ := fk_n k h; exact ⟨i, by omega, h2⟩
      · exact absurd h (by simp)
def fok0_ (F : List (Nat × Nat)) : Prop := ∀ q ∈ F, 0 < q.2
theorem gd_m {F : List (Nat × Nat)} {i : Nat} (h : i < F.length) : F.getD i (0, 1) ∈ F := by simp [List.getD, List.getElem?_eq_getElem h]
theorem gd_e {F : List (Nat × Nat)} {i : Nat} (h : i < F.length) : F[i] = F.getD i (0, 1) := by simp [List.getD, List.getElem?_eq_getElem h]
theorem ins_w {F : List (Nat × Nat)} {x : Nat × Nat} (hF : F.Pairwise fl_) (h0 : fok0_ F) (hx : 0 < x.2) : (ins_ F x).Pairwise fl_ ∧ fok0_ (ins_ F x) ∧ (∃ q ∈ ins_ F x, fe_ q x) ∧ (∀ q ∈ F, q ∈ ins_ F x) := by
  unfold ins_
  cases hk : fk_ F x F.length with
  | none =>
    obtain ⟨i, h1, h2⟩ := fk_n _ hk
    exact ⟨hF, h0, ⟨_, gd_m h1, h2⟩, fun q hq => hq⟩
  | some j =>
    obtain ⟨h1, h2, h3⟩ := fk_s _ j hk
    show (F.take j ++ x :: F.drop j).Pairwise fl_ ∧ fok0_ (F.take j ++ x :: F.drop j) ∧ (∃ q ∈ F.take j ++ x :: F.drop j, fe_ q x) ∧ (∀ q ∈ F, q ∈ F.take j ++ x :: F.drop j)
    have td : ∀ q ∈ F, q ∈ F.take j ∨ q ∈ F.drop j := fun q hq => by
      rw [← List.take_append_drop j F] at hq; exact List.mem_append.mp hq
    have ht : ∀ q ∈ F.take j, fl_ q x := by
      intro q hq
      obtain ⟨i, hi, e⟩ := List.mem_iff_getElem.mp hq
      rw [List.length_take] at hi
      rw [List.getElem_take] at e
      have j0 : 0 < j := by omega
      have l := h3 j0
      rcases Nat.lt_or_ge i (j - 1) with w | w
      · have p := List.pairwise_iff_getElem.mp hF i (j - 1) (by omega) (by omega) w
        rw [e, gd_e] at p
        exact fl_t2 (h0 q (by rw [← e]; exact List.getElem_mem _)) (h0 _ (gd_m (by omega))) hx p (Nat.le_of_lt l)
      · rw [← e, gd_e, show i = j - 1 by omega]; exact l
    have hd : ∀ q ∈ F.drop j, fl_ x q := by
      intro q hq
      obtain ⟨i, hi, e⟩ := List.mem_iff_getElem.mp hq
      rw [List.length_drop] at hi
      rw [List.getElem_drop, gd_e (by omega)] at e
      rw [← e]; exact h2 _ (by omega) (by omega)
    have pw := List.pairwise_append.mp (by rw [List.take_append_drop]; exact hF : (F.take j ++ F.drop j).Pairwise fl_)
    refine ⟨?_, ?_, ⟨x, List.mem_append_right _ (List.mem_cons_self ..), rfl⟩, fun q hq => ?_⟩
    · rw [List.pairwise_append, List.pairwise_cons]
      refine ⟨pw.1, ⟨hd, pw.2.1⟩, fun a ha b hb => ?_⟩
      rcases List.mem_cons.mp hb with e | e
      · rw [e]; exact ht a ha
      · exact pw.2.2 a ha b e
    · intro q hq
      rcases List.mem_append.mp hq with k | k
      · exact h0 q (List.mem_of_mem_take k)
      · rcases List.mem_cons.mp k with e | e
        · rw [e]; exact hx
        · exact h0 q (List.mem_of_mem_drop e)
    · rcases td q hq with k | k
      · exact List.mem_append_left _ k
      · exact List.mem_append_right _ (List.mem_cons_of_mem _ k)
theorem fin_w : ∀ (G F : List (Nat × Nat)), fok0_ G → F.Pairwise fl_ → fok0_ F → (G.foldl ins_ F).Pairwise fl_ ∧ fok0_ (G.foldl ins_ F) ∧ (∀ x ∈ G, ∃ q ∈ G.foldl ins_ F, fe_ q x) ∧ (∀ q ∈ F, q ∈ G.foldl ins_ F) ∧ (∀ q ∈ G.foldl ins_ F, q ∈ F ∨ q ∈ G)
  | [], F, _, h1, h2 => ⟨h1, h2, fun x h => absurd h (by simp), fun q h => h, fun q h => Or.inl h⟩
  | x :: G, F, hG, h1, h2 => by
    obtain ⟨a1, a2, ⟨z, hz, ez⟩, a4⟩ := ins_w h1 h2 (hG x (List.mem_cons_self ..))
    obtain ⟨b1, b2, b3, b4, b5⟩ := fin_w G (ins_ F x) (fun q hq => hG q (List.mem_cons_of_mem _ hq)) a1 a2
    rw [List.foldl_cons]
    refine ⟨b1, b2, fun y hy => ?_, fun q hq => b4 q (a4 q hq), fun q hq => ?_⟩
    · rcases List.mem_cons.mp hy with e | e
      · rw [e]; exact ⟨z, b4 z hz, ez⟩
      · exact b3 y e
    · rcases b5 q hq with e | e
      · rcases ins_m e with k | k
        · exact Or.inr (by rw [k]; exact List.mem_cons_self ..)
        · exact Or.inl k
      · exact Or.inr (List.mem_cons_of_mem _ e)
/-- all that the reference cuts at -/
def rcg_ (xs ys : Nat → Int32) (a b : Nat) (PT : Nat → Nat) (L : List (Nat × Nat × Nat)) : List (Nat × Nat) := rcq_ xs ys a b PT 2 ++ rcs_ xs ys a b L
theorem rcu_w {xs ys : Nat → Int32} {a b : Nat} {PT : Nat → Nat} {L : List (Nat × Nat × Nat)} (hn : ¬ (xs a = xs b ∧ ys a = ys b)) : (rcu_ xs ys a b PT L).Pairwise fl_ ∧ fok0_ (rcu_ xs ys a b PT L) ∧ (∀ x ∈ rcg_ xs ys a b PT L, ∃ q ∈ rcu_ xs ys a b PT L, fe_ q x) ∧ (∀ q ∈ rcu_ xs ys a b PT L, q ∈ rcg_ xs ys a b PT L) := by
  have k : fok_ (rcq_ xs ys a b PT 2 ++ rcs_ xs ys a b L) := fok_a (rcq_f hn 2) rcs_f
  obtain ⟨h1, h2, h3, h4, h5⟩ := fin_w (rcq_ xs ys a b PT 2 ++ rcs_ xs ys a b L) [] (fun q hq => (k q hq).2.1) List.Pairwise.nil (fun q hq => absurd hq (by simp))
  exact ⟨h1, h2, h3, fun q hq => (h5 q hq).resolve_left (by simp)⟩
theorem rcp_m {xs ys : Nat → Int32} {a b s : Nat} : ∀ n i, i < n → ∀ q ∈ cpq_ xs ys a b (2048 * s + i), q ∈ rcp_ xs ys a b s n
  | 0, i, h => absurd h (Nat.not_lt_zero _)
  | n + 1, i, h => fun q hq => by
    rw [rcp_]
    rcases Nat.lt_or_ge i n with k | k
    · exact List.mem_append_left _ (rcp_m n i k q hq)
    · rw [show i = n by omega] at hq; exact List.mem_append_right _ hq
theorem rcq_m {xs ys : Nat → Int32} {a b : Nat} {PT : Nat → Nat} {s i : Nat} (hs : s < 2) (hi : i < PT s) : ∀ q ∈ cpq_ xs ys a b (2048 * s + i), q ∈ rcq_ xs ys a b PT 2 := fun q hq => by
  have k := rcp_m (xs := xs) (ys := ys) (a := a) (b := b) (s := s) (PT s) i hi q hq
  rw [rcq_, rcq_, rcq_]
  rcases (show s = 0 ∨ s = 1 by omega) with rfl | rfl
  · exact List.mem_append_left _ (List.mem_append_right _ k)
  · exact List.mem_append_right _ k
theorem rcq_0 {xs ys : Nat → Int32} {a b : Nat} {PT : Nat → Nat} : (0, 1) ∈ rcq_ xs ys a b PT 2 ∧ (1, 1) ∈ rcq_ xs ys a b PT 2 := by
  rw [rcq_, rcq_, rcq_]
  exact ⟨List.mem_append_left _ (List.mem_append_left _ (List.mem_cons_self ..)), List.mem_append_left _ (List.mem_append_left _ (List.mem_cons_of_mem _ (List.mem_singleton.mpr rfl)))⟩
/-- all lie between 0 and 1 -/
theorem rcg_1 {xs ys : Nat → Int32} {a b : Nat} {PT : Nat → Nat} {L : List (Nat × Nat × Nat)} (hn : ¬ (xs a = xs b ∧ ys a = ys b)) : ∀ q ∈ rcg_ xs ys a b PT L, q.1 ≤ q.2 := by
  have hp : ∀ v, ∀ q ∈ cpq_ xs ys a b v, q.1 ≤ q.2 := fun v q hq => by
    unfold cpq_ at hq; split at hq
    · exact absurd hq (by simp)
    · rename_i h
      rw [List.mem_singleton.mp hq]
      obtain ⟨h1, h2, h3, h4⟩ := pvd_ hn h
      show lq_ _ ≤ lq_ _
      unfold lq_; omega
  have hr : ∀ s n, ∀ q ∈ rcp_ xs ys a b s n, q.1 ≤ q.2 := fun s n => by
    induction n with
    | zero => exact fun q hq => absurd hq (by simp [rcp_])
    | succ n ih =>
      intro q hq
      rw [rcp_] at hq
      rcases List.mem_append.mp hq with k | k
      · exact ih q k
      · exact hp _ q k
  intro q hq
  rcases List.mem_append.mp hq with k | k
  · rw [rcq_, rcq_, rcq_] at k
    rcases List.mem_append.mp k with k | k
    · rcases List.mem_append.mp k with k | k
      · rcases List.mem_cons.mp k with e | e
        · rw [e]; decide
        · rw [List.mem_singleton.mp e]; decide
      · exact hr _ _ q k
    · exact hr _ _ q k
  · obtain ⟨w, _, h⟩ := List.mem_flatMap.mp k
    unfold csq_ csc_ at h
    split at h
    · rename_i c
      rw [List.mem_singleton.mp h]
      have c1 := c.1; have c2 := c.2.1
      rw [Int64.lt_iff_toInt_lt] at c1 c2
      have z : (0 : Int64).toInt = 0 := by decide
      show lq_ _ ≤ lq_ _
      unfold lq_; omega
    · exact absurd h (by simp)
