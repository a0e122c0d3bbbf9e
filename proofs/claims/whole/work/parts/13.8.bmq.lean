/-! a beam raises the same in the class and in the reference: the two ways -/
section
variable {kn xs ys : Nat → Int32} {PA PT : Nat → Nat} {SN : Nat → Nat → Nat} {s0 : Nat} {q0 : Nat × Nat} {N D : Int}
theorem he_c (h : shs_ kn xs ys SN PA PT) (hs0 : s0 < 2) (hq0 : q0 ∈ SS_ kn xs ys SN PA PT s0) (hD : 0 < D) (hN : 0 ≤ N) (hND : N ≤ D) :
    he_ (kn 0) (stt_ ow1_ (ct_ kn xs ys SN PA PT s0 q0 0) N D (CC_ kn xs ys SN PA PT s0 q0)) = WH_ kn xs ys SN PA PT s0 q0 0 N D ∧ he_ (kn 1) (stt_ ow2_ (ct_ kn xs ys SN PA PT s0 q0 1) N D (CC_ kn xs ys SN PA PT s0 q0)) = WH_ kn xs ys SN PA PT s0 q0 1 N D := by
  have hB := bm_q h hs0 hq0
  have o1 := own_g (p := clt3 N D) (A := cc_ kn xs ys SN PA PT s0 q0 0 0) (B := cc_ kn xs ys SN PA PT s0 q0 1 64) (ccl_o (Or.inl rfl)) (ccl_o (Or.inr rfl))
  have o2 := own_g (p := ceq3 N D) (A := cc_ kn xs ys SN PA PT s0 q0 0 0) (B := cc_ kn xs ys SN PA PT s0 q0 1 64) (ccl_o (Or.inl rfl)) (ccl_o (Or.inr rfl))
  constructor
  · unfold stt_ he_
    rw [o1.1.1, o1.1.2.1, o2.1.2.2, o2.1.2.2]
    exact crs_h (shr_f (h 0 (by decide))) hB (Or.inl rfl) hD hN hND
  · unfold stt_ he_
    rw [o1.2.1, o1.2.2.1, o2.2.2.2, o2.2.2.2]
    exact crs_h (shr_f (h 1 (by decide))) hB (Or.inr rfl) hD hN hND
theorem ra_c (h : shs_ kn xs ys SN PA PT) (hs0 : s0 < 2) (hq0 : q0 ∈ SS_ kn xs ys SN PA PT s0) (hD : 0 < D) (hN : 0 ≤ N) (hND : N < D)
    (hno : ∀ s, s < 2 → hno_ (xo_ xs s) (xo_ ys s) (SS_ kn xs ys SN PA PT s) (aX_ xs s0 q0) (aX_ ys s0 q0) (dX_ xs s0 q0) (dX_ ys s0 q0) N D) {c : CT3_}
    (hc : ∀ e ∈ CC_ kn xs ys SN PA PT s0 q0, cle3 N D e = cle3 c.1.toInt c.2.1.toInt e) (x y d : Int32) :
    raT_ (kn 0) (kn 1) (gz_ (fun e => ow1_ e && cle3 c.1.toInt c.2.1.toInt e) (CC_ kn xs ys SN PA PT s0 q0)) (ct_ kn xs ys SN PA PT s0 q0 0 ^^^ xz_ (fun e => ow1_ e && cle3 c.1.toInt c.2.1.toInt e) (CC_ kn xs ys SN PA PT s0 q0)) (gz_ (fun e => ow2_ e && cle3 c.1.toInt c.2.1.toInt e) (CC_ kn xs ys SN PA PT s0 q0)) (ct_ kn xs ys SN PA PT s0 q0 1 ^^^ xz_ (fun e => ow2_ e && cle3 c.1.toInt c.2.1.toInt e) (CC_ kn xs ys SN PA PT s0 q0)) x y d ↔ AT_ kn xs ys SN PA PT s0 q0 N D x y d := by
  have hB := bm_q h hs0 hq0
  have g1 := gx_c (p := fun e => ow1_ e && cle3 c.1.toInt c.2.1.toInt e) (q := fun e => ow1_ e && cle3 N D e) (CC_ kn xs ys SN PA PT s0 q0) (fun e he => by rw [hc e he])
  have g2 := gx_c (p := fun e => ow2_ e && cle3 c.1.toInt c.2.1.toInt e) (q := fun e => ow2_ e && cle3 N D e) (CC_ kn xs ys SN PA PT s0 q0) (fun e he => by rw [hc e he])
  have o1 := own_g (p := cle3 N D) (A := cc_ kn xs ys SN PA PT s0 q0 0 0) (B := cc_ kn xs ys SN PA PT s0 q0 1 64) (ccl_o (Or.inl rfl)) (ccl_o (Or.inr rfl))
  rw [g1.1, g1.2, g2.1, g2.2, o1.1.1, o1.1.2.1, o1.2.1, o1.2.2.1]
  obtain ⟨a1, a2, a3⟩ := crs_a (ks := 0) (shr_f (h 0 (by decide))) hB (Or.inl rfl) hD hN hND (hno 0 (by decide))
  obtain ⟨b1, b2, b3⟩ := crs_a (ks := 64) (shr_f (h 1 (by decide))) hB (Or.inr rfl) hD hN hND (hno 1 (by decide))
  unfold raT_ AT_
  show (x = pah_ _ _ _ ∧ y = pah_ _ _ _ ∧ d = 1) ∨ (x = pbs_ _ _ 16 ∧ y = pbs_ _ _ 16 ∧ d = 2) ∨ (x = pbs_ _ _ 32 ∧ y = pbs_ _ _ 32 ∧ d = 2) ↔ _
  have cs : cs_ (dX_ xs s0 q0) (dX_ ys s0 q0) = 0 ∨ cs_ (dX_ xs s0 q0) (dX_ ys s0 q0) = 1 := by
    unfold cs_ pn_; split
    · exact Or.inr rfl
    · exact Or.inl rfl
  rcases cs with e | e
  · rw [e, Nat.zero_mul, Nat.add_zero] at a2 b2
    rw [e, Nat.sub_zero, Nat.one_mul] at a3 b3
    refine ⟨?_, ?_⟩
    · rintro (⟨p1, p2, p3⟩ | ⟨p1, p2, p3⟩ | ⟨p1, p2, p3⟩)
      · exact Or.inl ⟨p1.trans a1, p2.trans b1, p3⟩
      · exact Or.inr (Or.inl ⟨p1.trans a2, p2.trans b2, p3⟩)
      · exact Or.inr (Or.inr ⟨p1.trans a3, p2.trans b3, p3⟩)
    · rintro (⟨p1, p2, p3⟩ | ⟨p1, p2, p3⟩ | ⟨p1, p2, p3⟩)
      · exact Or.inl ⟨p1.trans a1.symm, p2.trans b1.symm, p3⟩
      · exact Or.inr (Or.inl ⟨p1.trans a2.symm, p2.trans b2.symm, p3⟩)
      · exact Or.inr (Or.inr ⟨p1.trans a3.symm, p2.trans b3.symm, p3⟩)
  · rw [e, Nat.one_mul] at a2 b2
    rw [e, Nat.sub_self, Nat.zero_mul, Nat.add_zero] at a3 b3
    refine ⟨?_, ?_⟩
    · rintro (⟨p1, p2, p3⟩ | ⟨p1, p2, p3⟩ | ⟨p1, p2, p3⟩)
      · exact Or.inl ⟨p1.trans a1, p2.trans b1, p3⟩
      · exact Or.inr (Or.inr ⟨p1.trans a2, p2.trans b2, p3⟩)
      · exact Or.inr (Or.inl ⟨p1.trans a3, p2.trans b3, p3⟩)
    · rintro (⟨p1, p2, p3⟩ | ⟨p1, p2, p3⟩ | ⟨p1, p2, p3⟩)
      · exact Or.inl ⟨p1.trans a1.symm, p2.trans b1.symm, p3⟩
      · exact Or.inr (Or.inr ⟨p1.trans a3.symm, p2.trans b3.symm, p3⟩)
      · exact Or.inr (Or.inl ⟨p1.trans a2.symm, p2.trans b2.symm, p3⟩)
/-- where the reference doesn't cut, nothing ends, crosses or is marked -/
theorem no_f (h : shs_ kn xs ys SN PA PT) (hs0 : s0 < 2) (hq0 : q0 ∈ SS_ kn xs ys SN PA PT s0) (hD : 0 < D) (hN : 0 ≤ N) (hND : N ≤ D) (hf : ¬ ∃ f ∈ FF_ kn xs ys SN PA PT s0 q0, (f.1 : Int) * D = N * (f.2 : Int)) :
    (∀ s, s < 2 → hno_ (xo_ xs s) (xo_ ys s) (SS_ kn xs ys SN PA PT s) (aX_ xs s0 q0) (aX_ ys s0 q0) (dX_ xs s0 q0) (dX_ ys s0 q0) N D) ∧ (∀ s, s < 2 → kk_ kn xs ys SN PA PT s0 q0 s N D = false) := by
  constructor
  · intro s hs q hq ho
    have hl := SS_l h hs hq
    have col : sdp_ (xo_ xs s) (xo_ ys s) (aX_ xs s0 q0) (aX_ ys s0 q0) (dX_ xs s0 q0) (dX_ ys s0 q0) N D q.1 = 0 ∧ sdp_ (xo_ xs s) (xo_ ys s) (aX_ xs s0 q0) (aX_ ys s0 q0) (dX_ xs s0 q0) (dX_ ys s0 q0) N D q.2 = 0 := Decidable.byContradiction (fun z => hf (PF_ h hs0 hq0 hD hN hND (Or.inr (Or.inr (Or.inr ⟨s, hs, q, hq, ho, z⟩)))))
    exact ⟨col.1, col.2, fun z => hf (PF_ h hs0 hq0 hD hN hND (Or.inr (Or.inr (Or.inl ⟨s, hs, q.1, hl.1, decide_eq_true z⟩)))), fun z => hf (PF_ h hs0 hq0 hD hN hND (Or.inr (Or.inr (Or.inl ⟨s, hs, q.2, hl.2, decide_eq_true z⟩))))⟩
  · intro s hs
    cases r : kk_ kn xs ys SN PA PT s0 q0 s N D
    · rfl
    · obtain ⟨i, hi, e⟩ := List.any_eq_true.mp r
      exact absurd (PF_ h hs0 hq0 hD hN hND (Or.inr (Or.inr (Or.inl ⟨s, hs, i, MM_l h hs hi, e⟩)))) hf
/-- between two cuts of the reference -/
theorem FF_m (h : shs_ kn xs ys SN PA PT) (hs0 : s0 < 2) (hq0 : q0 ∈ SS_ kn xs ys SN PA PT s0) {k : Nat} (hk : k + 1 < (FF_ kn xs ys SN PA PT s0 q0).length) {x y : Nat × Nat} (hx : (FF_ kn xs ys SN PA PT s0 q0).getD k (0, 1) = x) (hy : (FF_ kn xs ys SN PA PT s0 q0).getD (k + 1) (0, 1) = y) :
    0 < mdD_ x y ∧ 0 ≤ mdN_ x y ∧ mdN_ x y < mdD_ x y ∧ (¬ ∃ f ∈ FF_ kn xs ys SN PA PT s0 q0, (f.1 : Int) * mdD_ x y = mdN_ x y * (f.2 : Int)) ∧
    (∀ j, j < (FF_ kn xs ys SN PA PT s0 q0).length → (j ≤ k → (((FF_ kn xs ys SN PA PT s0 q0).getD j (0, 1)).1 : Int) * mdD_ x y < mdN_ x y * (((FF_ kn xs ys SN PA PT s0 q0).getD j (0, 1)).2 : Int)) ∧ (k < j → mdN_ x y * (((FF_ kn xs ys SN PA PT s0 q0).getD j (0, 1)).2 : Int) < (((FF_ kn xs ys SN PA PT s0 q0).getD j (0, 1)).1 : Int) * mdD_ x y)) := by
  obtain ⟨w1, w2, w3, w4⟩ := rcu_w (PT := PT) (L := gat_ kn xs ys SN PA PT) (SS_d h hs0 hq0)
  have pw := List.pairwise_iff_getElem.mp w1
  generalize eF : FF_ kn xs ys SN PA PT s0 q0 = F at *
  have w1' : ∀ i j, i < j → j < F.length → fl_ (F.getD i (0, 1)) (F.getD j (0, 1)) := fun i j hij hj => by
    have e : FF_ kn xs ys SN PA PT s0 q0 = rcu_ xs ys (2048 * s0 + q0.1) (2048 * s0 + q0.2) PT (gat_ kn xs ys SN PA PT) := rfl
    rw [e] at eF; subst eF
    have := pw i j (by omega) hj hij
    rw [gd_e, gd_e] at this; exact this
  have hpos : ∀ j, j < F.length → 0 < (F.getD j (0, 1)).2 := fun j hj => by
    have e : FF_ kn xs ys SN PA PT s0 q0 = rcu_ xs ys (2048 * s0 + q0.1) (2048 * s0 + q0.2) PT (gat_ kn xs ys SN PA PT) := rfl
    rw [e] at eF; subst eF; exact w2 _ (gd_m hj)
  have h1 : y.1 ≤ y.2 := by
    have e : FF_ kn xs ys SN PA PT s0 q0 = rcu_ xs ys (2048 * s0 + q0.1) (2048 * s0 + q0.2) PT (gat_ kn xs ys SN PA PT) := rfl
    rw [e] at eF; subst eF
    rw [← hy]; exact rcg_1 (SS_d h hs0 hq0) _ (w4 _ (gd_m hk))
  have px : 0 < x.2 := by rw [← hx]; exact hpos k (by omega)
  have py : 0 < y.2 := by rw [← hy]; exact hpos (k + 1) hk
  have lxy : fl_ x y := by rw [← hx, ← hy]; exact w1' k (k + 1) (by omega) hk
  clear pw w1 w2 w3 w4
  have xb : ∀ f : Nat × Nat, 0 < f.2 → f.1 * x.2 ≤ x.1 * f.2 → (f.1 : Int) * mdD_ x y < mdN_ x y * (f.2 : Int) := fun f pf hf => by
    have l1 : f.1 * (x.2 * y.2 + x.2 * y.2) < (x.1 * y.2 + y.1 * x.2) * f.2 := by
      unfold fl_ at lxy
      have a1 : f.1 * x.2 * y.2 ≤ x.1 * f.2 * y.2 := Nat.mul_le_mul_right _ hf
      have a2 : x.1 * y.2 * f.2 < y.1 * x.2 * f.2 := Nat.mul_lt_mul_of_pos_right lxy pf
      have e1 : f.1 * (x.2 * y.2 + x.2 * y.2) = f.1 * x.2 * y.2 + f.1 * x.2 * y.2 := by grind
      have e2 : (x.1 * y.2 + y.1 * x.2) * f.2 = x.1 * f.2 * y.2 + y.1 * x.2 * f.2 := by grind
      have e3 : x.1 * y.2 * f.2 = x.1 * f.2 * y.2 := by grind
      omega
    unfold mdD_ mdN_; exact_mod_cast l1
  have yb : ∀ f : Nat × Nat, 0 < f.2 → y.1 * f.2 ≤ f.1 * y.2 → mdN_ x y * (f.2 : Int) < (f.1 : Int) * mdD_ x y := fun f pf hf => by
    have l1 : (x.1 * y.2 + y.1 * x.2) * f.2 < f.1 * (x.2 * y.2 + x.2 * y.2) := by
      unfold fl_ at lxy
      have a1 : y.1 * f.2 * x.2 ≤ f.1 * y.2 * x.2 := Nat.mul_le_mul_right _ hf
      have a2 : x.1 * y.2 * f.2 < y.1 * x.2 * f.2 := Nat.mul_lt_mul_of_pos_right lxy pf
      have e1 : f.1 * (x.2 * y.2 + x.2 * y.2) = f.1 * y.2 * x.2 + f.1 * y.2 * x.2 := by grind
      have e2 : (x.1 * y.2 + y.1 * x.2) * f.2 = x.1 * y.2 * f.2 + y.1 * f.2 * x.2 := by grind
      have e3 : y.1 * x.2 * f.2 = y.1 * f.2 * x.2 := by grind
      omega
    unfold mdD_ mdN_; exact_mod_cast l1
  have hD : 0 < mdD_ x y := by
    have := Int.mul_pos (show (0 : Int) < x.2 by omega) (show (0 : Int) < y.2 by omega)
    unfold mdD_; omega
  have hN : 0 ≤ mdN_ x y := by
    have a := Int.mul_nonneg (show (0 : Int) ≤ x.1 by omega) (show (0 : Int) ≤ y.2 by omega)
    have b := Int.mul_nonneg (show (0 : Int) ≤ y.1 by omega) (show (0 : Int) ≤ x.2 by omega)
    unfold mdN_; omega
  have all : ∀ j, j < F.length → (j ≤ k → ((F.getD j (0, 1)).1 : Int) * mdD_ x y < mdN_ x y * ((F.getD j (0, 1)).2 : Int)) ∧ (k < j → mdN_ x y * ((F.getD j (0, 1)).2 : Int) < ((F.getD j (0, 1)).1 : Int) * mdD_ x y) := fun j hj => by
    constructor
    · intro l
      apply xb _ (hpos j hj)
      rcases Nat.lt_or_ge j k with w | w
      · rw [← hx]; exact Nat.le_of_lt (w1' j k w (by omega))
      · rw [show j = k by omega, hx]; exact Nat.le_refl _
    · intro l
      apply yb _ (hpos j hj)
      rcases Nat.lt_or_ge (k + 1) j with w | w
      · rw [← hy]; exact Nat.le_of_lt (w1' (k + 1) j w hj)
      · rw [show j = k + 1 by omega, hy]; exact Nat.le_refl _
  refine ⟨hD, hN, ?_, ?_, all⟩
  · have := yb (1, 1) (by decide) (by show y.1 * 1 ≤ 1 * y.2; omega)
    simp at this; omega
  · rintro ⟨f, hf, e⟩
    obtain ⟨j, hj, ej⟩ := List.mem_iff_getElem.mp hf
    rw [gd_e hj] at ej
    have a := all j hj
    rw [ej] at a
    rcases Nat.lt_or_ge k j with w | w
    · have := a.2 w; omega
    · have := a.1 w; omega
end
