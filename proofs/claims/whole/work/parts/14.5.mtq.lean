/-! the two matrices are alike: the proof -/
section
variable {kn xs ys : Nat → Int32} {PA PT : Nat → Nat} {SN : Nat → Nat → Nat} {xs1 ys1 xs2 ys2 : Nat → Int32}
/-- the reference's triples -/
def reT_ (kn xs ys : Nat → Int32) (SN : Nat → Nat → Nat) (PA PT : Nat → Nat) (x y d : Int32) : Prop :=
  (∃ s, s < 2 ∧ ∃ i, i < PT s ∧ ptT_ kn xs ys (gat_ kn xs ys SN PA PT) PA PT SN s i x y d) ∨ (∃ w ∈ gat_ kn xs ys SN PA PT, bmT_ kn xs ys (gat_ kn xs ys SN PA PT) PA PT SN w x y d)
theorem gat_m (h : shs_ kn xs ys SN PA PT) {w : Nat × Nat × Nat} : w ∈ gat_ kn xs ys SN PA PT ↔ ∃ s, s < 2 ∧ ∃ q ∈ SS_ kn xs ys SN PA PT s, w = m3_ s q := by
  rw [gat_2 h, List.mem_append, List.mem_map, List.mem_map]
  constructor
  · rintro (⟨q, hq, e⟩ | ⟨q, hq, e⟩)
    · exact ⟨0, by decide, q, hq, e.symm⟩
    · exact ⟨1, by decide, q, hq, e.symm⟩
  · rintro ⟨s, hs, q, hq, e⟩
    rcases (show s = 0 ∨ s = 1 by omega) with z | z
    · subst z; exact Or.inl ⟨q, hq, e.symm⟩
    · subst z; exact Or.inr ⟨q, hq, e.symm⟩
theorem cl_re (h : shs_ kn xs ys SN PA PT) {x y d : Int32} (ht : clT_ kn xs ys SN PA PT x y d) : reT_ kn xs ys SN PA PT x y d := by
  rcases ht with ⟨s, hs, hk, i, hi, ht⟩ | ⟨s, hs, q, hq, ht⟩
  · exact Or.inl ⟨s, hs, i, hi, (ptT_e h hs hi).mpr ((pcT_e h hs hi).mp ht)⟩
  · exact Or.inr ⟨_, (gat_m h).mpr ⟨s, hs, q, hq, rfl⟩, TC_u h hs hq ht⟩
theorem on_e {vx vy wx wy : Int} (h : (vx = 0 ∧ vy = 0) ∨ (wx = 0 ∧ wy = 0)) : on_ vx vy wx wy = 1 := by
  rw [on_1]
  rcases h with ⟨h1, h2⟩ | ⟨h1, h2⟩
  · subst h1; subst h2; omega
  · subst h1; subst h2; omega
theorem re_cl (h : shs_ kn xs ys SN PA PT) {x y d : Int32} (ht : reT_ kn xs ys SN PA PT x y d) : (x = 2 ∧ y = 2 ∧ d ≤ 2) ∨ ∃ d2, clT_ kn xs ys SN PA PT x y d2 ∧ d ≤ d2 := by
  rcases ht with ⟨s, hs, i, hi, ht⟩ | ⟨w, hw, ht⟩
  · by_cases c1 : kn s = 1
    · exact Or.inr ⟨d, Or.inl ⟨s, hs, c1, i, hi, (pcT_e h hs hi).mpr ((ptT_e h hs hi).mp ht)⟩, Int32.le_refl _⟩
    by_cases c2 : ∃ s0, s0 < 2 ∧ ∃ q0 ∈ SS_ kn xs ys SN PA PT s0, onq_ (xo_ xs s0) (xo_ ys s0) (xo_ xs s i).toInt (xo_ ys s i).toInt 0 0 0 1 q0 = 1
    · obtain ⟨s0, hs0, q0, hq0, ho⟩ := c2
      obtain ⟨d2, a, b⟩ := TC_d h hs0 hq0 (pt_b h hs hi hs0 hq0 ho ht)
      exact Or.inr ⟨d2, Or.inr ⟨s0, hs0, q0, hq0, a⟩, b⟩
    obtain ⟨e1, e2, e3⟩ := (ptT_e h hs hi).mp ht
    have on0 : ∀ s2, s2 < 2 → sm_ (onq_ (xo_ xs s2) (xo_ ys s2) (xo_ xs s i).toInt (xo_ ys s i).toInt 0 0 0 1) (SS_ kn xs ys SN PA PT s2) = 0 := fun s2 h2 => by
      rcases Nat.eq_zero_or_pos (sm_ (onq_ (xo_ xs s2) (xo_ ys s2) (xo_ xs s i).toInt (xo_ ys s i).toInt 0 0 0 1) (SS_ kn xs ys SN PA PT s2)) with z | z
      · exact z
      · obtain ⟨q, hq, k⟩ := sm_0 _ z
        have : onq_ (xo_ xs s2) (xo_ ys s2) (xo_ xs s i).toInt (xo_ ys s i).toInt 0 0 0 1 q ≤ 1 := pn_b
        exact absurd ⟨s2, h2, q, hq, by omega⟩ c2
    by_cases c3 : ∃ s2, s2 < 2 ∧ kn s2 = 1 ∧ (MM_ kn xs ys SN PA PT s2).any (atp_ (xo_ xs s2) (xo_ ys s2) (xo_ xs s i).toInt (xo_ ys s i).toInt 0 0 0 1) = true
    · obtain ⟨s2, h2, k2, a⟩ := c3
      obtain ⟨j, hj, aj⟩ := List.any_eq_true.mp a
      have jl := MM_l h h2 hj
      unfold atp_ at aj
      rw [decide_eq_true_eq, rv_1, rv_1] at aj
      have ex : (xo_ xs s2 j).toInt = (xo_ xs s i).toInt := by omega
      have ey : (xo_ ys s2 j).toInt = (xo_ ys s i).toInt := by omega
      exact Or.inr ⟨d, Or.inl ⟨s2, h2, k2, j, jl, (pcT_e h h2 jl).mpr (by rw [ex, ey]; exact ⟨e1, e2, e3⟩)⟩, Int32.le_refl _⟩
    have mk0 : ∀ s2, s2 < 2 → (MM_ kn xs ys SN PA PT s2).any (atp_ (xo_ xs s2) (xo_ ys s2) (xo_ xs s i).toInt (xo_ ys s i).toInt 0 0 0 1) = false := fun s2 h2 => by
      rcases (h s2 h2).1 with k | k | k
      · cases r : (MM_ kn xs ys SN PA PT s2).any (atp_ (xo_ xs s2) (xo_ ys s2) (xo_ xs s i).toInt (xo_ ys s i).toInt 0 0 0 1)
        · rfl
        · exact absurd ⟨s2, h2, k, r⟩ c3
      · have hn : ∀ q ∈ SS_ kn xs ys SN PA PT s2, atp_ (xo_ xs s2) (xo_ ys s2) (xo_ xs s i).toInt (xo_ ys s i).toInt 0 0 0 1 q.1 = false ∧ atp_ (xo_ xs s2) (xo_ ys s2) (xo_ xs s i).toInt (xo_ ys s i).toInt 0 0 0 1 q.2 = false := fun q hq => by
          constructor
          · cases r : atp_ (xo_ xs s2) (xo_ ys s2) (xo_ xs s i).toInt (xo_ ys s i).toInt 0 0 0 1 q.1
            · rfl
            · exact absurd ⟨s2, h2, q, hq, on_e (Or.inl (of_decide_eq_true r))⟩ c2
          · cases r : atp_ (xo_ xs s2) (xo_ ys s2) (xo_ xs s i).toInt (xo_ ys s i).toInt 0 0 0 1 q.2
            · rfl
            · exact absurd ⟨s2, h2, q, hq, on_e (Or.inr (of_decide_eq_true r))⟩ c2
        unfold MM_ sM_
        unfold SS_ sS_ at hn
        rw [k] at hn ⊢
        exact mk2_ (fun i j => atp_f) (fun i j => atp_g (by decide)) (shr_s (h s2 h2)) (by have := (h s2 h2).2.2.2.2.1; omega) hn
      · have := (shr_f (h s2 h2)).2.2.1 k
        unfold MM_; rw [this]; rfl
    have pw : ∀ s2, s2 < 2 → PW_ kn xs ys SN PA PT (xo_ xs s i).toInt (xo_ ys s i).toInt s2 = bI_ (kn s2) (sm_ (cyq_ (xo_ xs s2) (xo_ ys s2) (xo_ xs s i).toInt (xo_ ys s i).toInt 0 0 0 1) (SS_ kn xs ys SN PA PT s2)) := fun s2 h2 => by
      unfold PW_; rw [on0 s2 h2, mk0 s2 h2]; exact wI_m (h s2 h2).1
    rw [pw 0 (by decide)] at e1; rw [pw 1 (by decide)] at e2
    by_cases c4 : ∃ s2, s2 < 2 ∧ kn s2 = 3 ∧ sm_ (cyq_ (xo_ xs s2) (xo_ ys s2) (xo_ xs s i).toInt (xo_ ys s i).toInt 0 0 0 1) (SS_ kn xs ys SN PA PT s2) % 2 = 1
    · obtain ⟨t, ht2, hk3, hodd⟩ := c4
      obtain ⟨x', y', hT, u0, v0, u1, v1⟩ := J_t h (fun s => decide (kn s = 3)) (fun s hs => of_decide_eq_true hs) (D0 := 1) (by decide) (fun s2 h2 _ q hq z => c2 ⟨s2, h2, q, hq, z⟩) ht2 (decide_eq_true hk3) hodd
      have b2 : ∀ (kd : Int32) (n : Nat), ¬ kd = 3 → bI_ kd n = 2 := fun kd n h => by unfold bI_; rw [if_neg (fun z => h z.1)]
      have ex : x = x' := by
        by_cases z : kn 0 = 3
        · rw [u0 (decide_eq_true z)]; exact e1
        · rw [v0 z, e1, b2 _ _ z]
      have ey : y = y' := by
        by_cases z : kn 1 = 3
        · rw [u1 (decide_eq_true z)]; exact e2
        · rw [v1 z, e2, b2 _ _ z]
      rw [← ex, ← ey] at hT
      exact Or.inr ⟨2, Or.inr hT, by rw [e3]; decide⟩
    · have b2 : ∀ s2, s2 < 2 → bI_ (kn s2) (sm_ (cyq_ (xo_ xs s2) (xo_ ys s2) (xo_ xs s i).toInt (xo_ ys s i).toInt 0 0 0 1) (SS_ kn xs ys SN PA PT s2)) = 2 := fun s2 h2 => by
        unfold bI_; rw [if_neg (fun z => c4 ⟨s2, h2, z.1, z.2⟩)]
      rw [b2 0 (by decide)] at e1; rw [b2 1 (by decide)] at e2
      exact Or.inl ⟨e1, e2, by rw [e3]; decide⟩
  · obtain ⟨s, hs, q, hq, e⟩ := (gat_m h).mp hw
    subst e
    obtain ⟨d2, a, b⟩ := TC_d h hs hq ht
    exact Or.inr ⟨d2, Or.inr ⟨s, hs, q, hq, a⟩, b⟩
/-- the class's matrix is the reference's -/
theorem mat_q (h : shs_ kn xs ys SN PA PT) (e1 : agr_ xs ys 0 (PT 0) xs1 ys1) (e2 : agr_ xs ys 1 (PT 1) xs2 ys2) {mx mx2 mr : Nat → Int32}
    (hr : ref_ (kn 0) (kn 1) 0 64 xs1 ys1 (prS_ (kn 0) xs1 ys1 (SN 0) (PA 0) (PT 0) (PA 0)) (prM_ (kn 0) xs1 ys1 (SN 0) (PA 0) (PT 0) (PA 0)) xs2 ys2 (prS_ (kn 1) xs2 ys2 (SN 1) (PA 1) (PT 1) (PA 1)) (prM_ (kn 1) xs2 ys2 (SN 1) (PA 1) (PT 1) (PA 1)) (PT 0) (PT 1) mx mx2) :
    ∀ a b, t3_ a → t3_ b → mat_ mx2 a b = mat_ (lkM_ kn xs ys SN PA PT mr) a b :=
  rz_q (ref_z h e1 e2 hr) (U := reT_ kn xs ys SN PA PT) (n0 := upd (fil_ mr (-1) 9) 8 2) lkM_z (fun a b ha hb => (m0_c ha hb).trans (m0_e ha hb).symm) (fun a b d ht => Or.inr ⟨d, cl_re h ht, Int32.le_refl _⟩) (fun a b d ht => by
    rcases re_cl h ht with ⟨x, y, z⟩ | z
    · refine Or.inl ?_
      rw [x, y, m0_c t3_2 t3_2, if_pos ⟨rfl, rfl⟩]; exact z
    · exact Or.inr z)
/-- as rows of nine -/
theorem mat_9 {m n : Nat → Int32} (h : ∀ a b, t3_ a → t3_ b → mat_ m a b = mat_ n a b) : ∀ i, i < 9 → m i = n i := fun i hi => by
  have k := h (nI (i / 3)) (nI (i % 3)) (t3_n (by omega)) (t3_n (by omega))
  rw [mt_n (by omega) (by omega), mt_n (by omega) (by omega), show 3 * (i / 3) + i % 3 = i by omega] at k
  exact k
end
