/-! a place inside has a beam beside it -/
theorem sc4_ {e vx vy wx wy vx' vy' wx' wy' : Int} (he : 0 < e) (h1 : e * vx = vx') (h2 : e * vy = vy') (h3 : e * wx = wx') (h4 : e * wy = wy') : on_ vx vy wx wy = on_ vx' vy' wx' wy' ∧ CL_ vy wy (vx * wy - vy * wx) = CL_ vy' wy' (vx' * wy' - vy' * wx') := by
  have o : (0 : Int) < 1 := by decide
  have s1 := sgz3 (x := vx) (y := vx') he o (by omega); have s2 := sgz3 (x := vy) (y := vy') he o (by omega)
  have s3 := sgz3 (x := wx) (y := wx') he o (by omega); have s4 := sgz3 (x := wy) (y := wy') he o (by omega)
  have sk := sgz3 (p := e * e) (q := 1) (x := vx * wy - vy * wx) (y := vx' * wy' - vy' * wx') (Int.mul_pos he he) o (by subst h1; subst h2; subst h3; subst h4; grind)
  unfold on_ CL_
  constructor
  · apply pn_c; rw [s1.1, s1.2.1, s2.1, s2.2.1, s3.1, s3.2.1, s4.1, s4.2.1, sk.2.2]
  · apply pn_c; rw [s2.1, s4.1, sk.1, sk.2.1]
def sf_ : List (Nat × Nat) → Nat
  | [] => 0
  | f :: L => f.2 + sf_ L
theorem sf_m : ∀ (L : List (Nat × Nat)) (f : Nat × Nat), f ∈ L → f.2 ≤ sf_ L
  | [], f, h => absurd h (by simp)
  | g :: L, f, h => by
    rw [sf_]
    rcases List.mem_cons.mp h with e | e
    · rw [e]; omega
    · have := sf_m L f e; omega
/-- the lower and the upper end -/
def lo_ (wy a b : Int) : Int := if 0 < wy then a else b
theorem ndv_ {K z f : Int} (h1 : 0 < f) (h2 : f < K) : ¬ K * z = f := fun h => by
  rcases (show z ≤ 0 ∨ 1 ≤ z by omega) with c | c
  · have := Int.mul_nonpos_of_nonneg_of_nonpos (show 0 ≤ K by omega) c; omega
  · have : K * 1 ≤ K * z := Int.mul_le_mul_of_nonneg_left c (by omega)
    omega
/-- the place of a crossing segment a little above: as a part of it -/
theorem lu_ {K ax ay bx by1 e : Int} {AX AY BX BY QX QY : Int} (he : 0 < e) (hK : 2 ≤ K) (ha : ax = e * AX - QX) (hb : bx = e * BX - QX) (hc : ay = e * AY - QY) (hd : by1 = e * BY - QY) (hs : ¬ (0 < ay ↔ 0 < by1)) :
    ∃ N D : Int, 0 < D ∧ 0 ≤ N ∧ N < D ∧ (∀ X, e * (D * (X - AX) - N * (BX - AX)) = rx2_ K (lo_ by1 ax bx) (lo_ by1 ay by1) (lo_ by1 bx ax) (lo_ by1 by1 ay) (e * X - QX)) ∧ (∀ Y, e * (D * (Y - AY) - N * (BY - AY)) = ry2_ K (lo_ by1 ay by1) (lo_ by1 by1 ay) (e * Y - QY)) ∧ (∀ f1 f2 : Int, 0 < f2 → f2 < K → ¬ f1 * D = N * f2) := by
  by_cases c : 0 < by1
  · have ay0 : ay ≤ 0 := by omega
    unfold lo_
    simp only [if_pos c]
    have kb : 2 * 1 ≤ K * by1 := Int.mul_le_mul hK c (by omega) (by omega)
    have ka : K * ay ≤ 0 := Int.mul_nonpos_of_nonneg_of_nonpos (by omega) ay0
    have kd : K * (by1 - ay) = K * by1 - K * ay := by grind
    refine ⟨1 - K * ay, K * (by1 - ay), by omega, by omega, by omega, fun X => ?_, fun Y => ?_, fun f1 f2 p1 p2 h => ?_⟩
    · unfold rx2_; subst ha; subst hb; subst hc; subst hd; grind
    · unfold ry2_; subst ha; subst hb; subst hc; subst hd; grind
    · exact ndv_ (K := K) (z := f1 * (by1 - ay) + ay * f2) p1 p2 (by grind)
  · have ay0 : 0 < ay := by omega
    unfold lo_
    simp only [if_neg c]
    have ka : 2 * 1 ≤ K * ay := Int.mul_le_mul hK ay0 (by omega) (by omega)
    have kb : K * by1 ≤ 0 := Int.mul_nonpos_of_nonneg_of_nonpos (by omega) (by omega)
    have kd : K * (ay - by1) = K * ay - K * by1 := by grind
    refine ⟨K * ay - 1, K * (ay - by1), by omega, by omega, by omega, fun X => ?_, fun Y => ?_, fun f1 f2 p1 p2 h => ?_⟩
    · unfold rx2_; subst ha; subst hb; subst hc; subst hd; grind
    · unfold ry2_; subst ha; subst hb; subst hc; subst hd; grind
    · exact ndv_ (K := K) (z := ay * f2 - f1 * (ay - by1)) p1 p2 (by grind)
section
variable {kn xs ys : Nat → Int32} {PA PT : Nat → Nat} {SN : Nat → Nat → Nat} {X0 Y0 DX0 DY0 N0 D0 : Int}
theorem J_ (h : shs_ kn xs ys SN PA PT) (U : Nat → Bool) (hD0 : 0 < D0) (hon : ∀ s, s < 2 → U s = true → ∀ q ∈ SS_ kn xs ys SN PA PT s, ¬ onq_ (xo_ xs s) (xo_ ys s) X0 Y0 DX0 DY0 N0 D0 q = 1)
    (hex : ∃ s, s < 2 ∧ U s = true ∧ ∃ q ∈ SS_ kn xs ys SN PA PT s, cyq_ (xo_ xs s) (xo_ ys s) X0 Y0 DX0 DY0 N0 D0 q = 1) :
    ∃ s0, s0 < 2 ∧ ∃ q0 ∈ SS_ kn xs ys SN PA PT s0, ∃ N D : Int, 0 < D ∧ 0 ≤ N ∧ N < D ∧ (¬ ∃ f ∈ FF_ kn xs ys SN PA PT s0 q0, (f.1 : Int) * D = N * (f.2 : Int)) ∧
      ∀ s, s < 2 → U s = true → yy_ kn xs ys SN PA PT s0 q0 s N D + oo_ kn xs ys SN PA PT s0 q0 s N D = sm_ (cyq_ (xo_ xs s) (xo_ ys s) X0 Y0 DX0 DY0 N0 D0) (SS_ kn xs ys SN PA PT s) := by
  -- all segments, and a number larger than what may disturb
  obtain ⟨all, eall⟩ : ∃ all, all = (SS_ kn xs ys SN PA PT 0).map (fun q => (0, q)) ++ (SS_ kn xs ys SN PA PT 1).map (fun q => (1, q)) := ⟨_, rfl⟩
  have mall : ∀ s, s < 2 → ∀ q ∈ SS_ kn xs ys SN PA PT s, (s, q) ∈ all := fun s hs q hq => by
    rw [eall]
    rcases (show s = 0 ∨ s = 1 by omega) with e | e
    · subst e; exact List.mem_append_left _ (List.mem_map.mpr ⟨q, hq, rfl⟩)
    · subst e; exact List.mem_append_right _ (List.mem_map.mpr ⟨q, hq, rfl⟩)
  have mal2 : ∀ e ∈ all, e.1 < 2 ∧ e.2 ∈ SS_ kn xs ys SN PA PT e.1 := fun e he => by
    rw [eall] at he
    rcases List.mem_append.mp he with k | k
    · obtain ⟨q, hq, r⟩ := List.mem_map.mp k; rw [← r]; exact ⟨Nat.lt_of_lt_of_le (Nat.lt_succ_self _) (Nat.le_of_ble_eq_true rfl), hq⟩
    · obtain ⟨q, hq, r⟩ := List.mem_map.mp k; rw [← r]; exact ⟨Nat.lt_of_lt_of_le (Nat.lt_succ_self _) (Nat.le_of_ble_eq_true rfl), hq⟩
  clear eall
  obtain ⟨VX, eVX⟩ : ∃ VX : Nat → Nat → Int, ∀ s i, VX s i = rv_ X0 DX0 N0 D0 (xo_ xs s i).toInt := ⟨_, fun _ _ => rfl⟩
  obtain ⟨VY, eVY⟩ : ∃ VY : Nat → Nat → Int, ∀ s i, VY s i = rv_ Y0 DY0 N0 D0 (xo_ ys s i).toInt := ⟨_, fun _ _ => rfl⟩
  obtain ⟨K1, hK1⟩ := bd_ (g := fun e : Nat × Nat × Nat => (VX e.1 e.2.2 - VX e.1 e.2.1).natAbs) all
  obtain ⟨K2, hK2⟩ := bd_ (g := fun e : Nat × Nat × Nat => sf_ (FF_ kn xs ys SN PA PT e.1 e.2)) all
  obtain ⟨K, eK⟩ : ∃ K : Int, K = (K1 : Int) + K2 + 2 := ⟨_, rfl⟩
  have hK : 2 ≤ K := by omega
  obtain ⟨nE, enE⟩ : ∃ nE : Nat × Nat × Nat → Int, ∀ e, nE e = A2_ K (lo_ (VY e.1 e.2.2) (VX e.1 e.2.1) (VX e.1 e.2.2)) (lo_ (VY e.1 e.2.2) (VY e.1 e.2.1) (VY e.1 e.2.2)) (lo_ (VY e.1 e.2.2) (VX e.1 e.2.2) (VX e.1 e.2.1)) (lo_ (VY e.1 e.2.2) (VY e.1 e.2.2) (VY e.1 e.2.1)) := ⟨_, fun _ => rfl⟩
  obtain ⟨dE, edE⟩ : ∃ dE : Nat × Nat × Nat → Int, ∀ e, dE e = lo_ (VY e.1 e.2.2) (VY e.1 e.2.2) (VY e.1 e.2.1) - lo_ (VY e.1 e.2.2) (VY e.1 e.2.1) (VY e.1 e.2.2) := ⟨_, fun _ => rfl⟩
  obtain ⟨E, eE⟩ : ∃ E, E = all.filter (fun e => U e.1 && decide (cyq_ (xo_ xs e.1) (xo_ ys e.1) X0 Y0 DX0 DY0 N0 D0 e.2 = 1)) := ⟨_, rfl⟩
  have mE : ∀ e, e ∈ E ↔ e ∈ all ∧ U e.1 = true ∧ cyq_ (xo_ xs e.1) (xo_ ys e.1) X0 Y0 DX0 DY0 N0 D0 e.2 = 1 := fun e => by
    rw [eE, List.mem_filter, Bool.and_eq_true, decide_eq_true_eq]
  have cyE : ∀ (s : Nat) (q : Nat × Nat), cyq_ (xo_ xs s) (xo_ ys s) X0 Y0 DX0 DY0 N0 D0 q = 1 ↔ ((0 < VY s q.1 ∧ ¬ 0 < VY s q.2 ∧ VX s q.1 * VY s q.2 - VY s q.1 * VX s q.2 < 0) ∨ (¬ 0 < VY s q.1 ∧ 0 < VY s q.2 ∧ 0 < VX s q.1 * VY s q.2 - VY s q.1 * VX s q.2)) := fun s q => by
    rw [eVX, eVX, eVY, eVY]; exact pn_1
  have nE0 : ¬ E = [] := fun z => by
    obtain ⟨s, hs, hu, q, hq, hc⟩ := hex
    have : (s, q) ∈ E := (mE (s, q)).mpr ⟨mall s hs q hq, hu, hc⟩
    rw [z] at this; exact absurd this (by simp)
  have dpos : ∀ e ∈ E, 0 < dE e := fun e he => by
    have c := (cyE e.1 e.2).mp ((mE e).mp he).2.2
    rw [edE]
    unfold lo_
    by_cases z : 0 < VY e.1 e.2.2
    · rw [if_pos z, if_pos z]; omega
    · rw [if_neg z, if_neg z]; omega
  have bK : ∀ e ∈ all, (((VX e.1 e.2.2 - VX e.1 e.2.1).natAbs : Nat) : Int) < K := fun e he => by
    have h9 : (VX e.1 e.2.2 - VX e.1 e.2.1).natAbs ≤ K1 := hK1 e he
    omega
  have npos : ∀ e ∈ E, 0 < nE e := fun e he => by
    have c := (cyE e.1 e.2).mp ((mE e).mp he).2.2
    have b := bK e ((mE e).mp he).1
    rw [enE]
    unfold A2_ lo_
    by_cases z : 0 < VY e.1 e.2.2
    · simp only [if_pos z]
      exact (gr_ (by omega)).1 (by omega)
    · simp only [if_neg z]
      have g := c.resolve_right (fun w => z w.2.1)
      have e9 : VX e.1 e.2.2 * VY e.1 e.2.1 - VY e.1 e.2.2 * VX e.1 e.2.1 = -(VX e.1 e.2.1 * VY e.1 e.2.2 - VY e.1 e.2.1 * VX e.1 e.2.2) := by grind
      refine (gr_ (by omega)).1 ?_
      rw [e9]; omega
  obtain ⟨⟨s0, q0⟩, he0, hmin⟩ := mn_q (n := nE) (d := dE) E dpos nE0
  obtain ⟨ha0, hu0, hc0⟩ := (mE (s0, q0)).mp he0
  obtain ⟨hs0, hq0⟩ := mal2 _ ha0
  have c0 := (cyE s0 q0).mp hc0
  have vxe : ∀ s i, VX s i = D0 * (xo_ xs s i).toInt - (D0 * X0 + N0 * DX0) := fun s i => by rw [eVX]; unfold rv_; grind
  have vye : ∀ s i, VY s i = D0 * (xo_ ys s i).toInt - (D0 * Y0 + N0 * DY0) := fun s i => by rw [eVY]; unfold rv_; grind
  obtain ⟨N, D, hD, hN, hND, ex, ey, hf⟩ := lu_ (K := K) (ax := VX s0 q0.1) (ay := VY s0 q0.1) (bx := VX s0 q0.2) (by1 := VY s0 q0.2) (e := D0) (AX := (xo_ xs s0 q0.1).toInt) (AY := (xo_ ys s0 q0.1).toInt) (BX := (xo_ xs s0 q0.2).toInt) (BY := (xo_ ys s0 q0.2).toInt) hD0 hK (vxe _ _) (vxe _ _) (vye _ _) (vye _ _) (by omega)
  refine ⟨s0, hs0, q0, hq0, N, D, hD, hN, hND, ?_, fun s hs hu => ?_⟩
  · rintro ⟨f, hfm, e⟩
    have pf := (FF_p h hs0 hq0 f hfm).1
    have h9 : sf_ (FF_ kn xs ys SN PA PT s0 q0) ≤ K2 := hK2 (s0, q0) ha0
    have h8 := sf_m _ f hfm
    exact hf f.1 f.2 (by omega) (by omega) e
  · show sm_ _ _ + sm_ _ _ = _
    rw [← sm_s]
    apply sm_e
    intro q hq
    have hno := hon s hs hu q hq
    have hall := mall s hs q hq
    have b := bK (s, q) hall
    have sc := sc4_ (e := D0) (vx := rv_ (aX_ xs s0 q0) (dX_ xs s0 q0) N D (xo_ xs s q.1).toInt) (vy := rv_ (aX_ ys s0 q0) (dX_ ys s0 q0) N D (xo_ ys s q.1).toInt) (wx := rv_ (aX_ xs s0 q0) (dX_ xs s0 q0) N D (xo_ xs s q.2).toInt) (wy := rv_ (aX_ ys s0 q0) (dX_ ys s0 q0) N D (xo_ ys s q.2).toInt) hD0
      ((ex (xo_ xs s q.1).toInt).trans (by rw [← vxe])) ((ey (xo_ ys s q.1).toInt).trans (by rw [← vye])) ((ex (xo_ xs s q.2).toInt).trans (by rw [← vxe])) ((ey (xo_ ys s q.2).toInt).trans (by rw [← vye]))
    have g1 : cyq_ (xo_ xs s) (xo_ ys s) (aX_ xs s0 q0) (aX_ ys s0 q0) (dX_ xs s0 q0) (dX_ ys s0 q0) N D q = CL_ (rv_ (aX_ ys s0 q0) (dX_ ys s0 q0) N D (xo_ ys s q.1).toInt) (rv_ (aX_ ys s0 q0) (dX_ ys s0 q0) N D (xo_ ys s q.2).toInt) (rv_ (aX_ xs s0 q0) (dX_ xs s0 q0) N D (xo_ xs s q.1).toInt * rv_ (aX_ ys s0 q0) (dX_ ys s0 q0) N D (xo_ ys s q.2).toInt - rv_ (aX_ ys s0 q0) (dX_ ys s0 q0) N D (xo_ ys s q.1).toInt * rv_ (aX_ xs s0 q0) (dX_ xs s0 q0) N D (xo_ xs s q.2).toInt) := rfl
    have g2 : onq_ (xo_ xs s) (xo_ ys s) (aX_ xs s0 q0) (aX_ ys s0 q0) (dX_ xs s0 q0) (dX_ ys s0 q0) N D q = on_ (rv_ (aX_ xs s0 q0) (dX_ xs s0 q0) N D (xo_ xs s q.1).toInt) (rv_ (aX_ ys s0 q0) (dX_ ys s0 q0) N D (xo_ ys s q.1).toInt) (rv_ (aX_ xs s0 q0) (dX_ xs s0 q0) N D (xo_ xs s q.2).toInt) (rv_ (aX_ ys s0 q0) (dX_ ys s0 q0) N D (xo_ ys s q.2).toInt) := rfl
    have g3 : cyq_ (xo_ xs s) (xo_ ys s) X0 Y0 DX0 DY0 N0 D0 q = CL_ (VY s q.1) (VY s q.2) (VX s q.1 * VY s q.2 - VY s q.1 * VX s q.2) := by rw [eVX, eVX, eVY, eVY]; rfl
    have hno' : ¬ on_ (VX s q.1) (VY s q.1) (VX s q.2) (VY s q.2) = 1 := by rw [eVX, eVX, eVY, eVY]; exact hno
    have inE : cyq_ (xo_ xs s) (xo_ ys s) X0 Y0 DX0 DY0 N0 D0 q = 1 → nE (s0, q0) * dE (s, q) ≤ nE (s, q) * dE (s0, q0) := fun c => hmin (s, q) ((mE (s, q)).mpr ⟨hall, hu, c⟩)
    have nf1 : 0 < VY s q.2 → nE (s, q) = (VX s q.1 * VY s q.2 - VY s q.1 * VX s q.2) * K + (VX s q.2 - VX s q.1) ∧ dE (s, q) = VY s q.2 - VY s q.1 := fun z => by
      rw [enE, edE]; unfold A2_ lo_; simp only [if_pos z]; exact ⟨trivial, trivial⟩
    have nf2 : ¬ 0 < VY s q.2 → nE (s, q) = -(VX s q.1 * VY s q.2 - VY s q.1 * VX s q.2) * K + (VX s q.1 - VX s q.2) ∧ dE (s, q) = VY s q.1 - VY s q.2 := fun z => by
      rw [enE, edE]; unfold A2_ lo_; simp only [if_neg z]; exact ⟨by grind, trivial⟩
    have d9 := dpos _ he0; have n9 := npos _ he0
    have cyq9 := cyE s q
    show cyq_ (xo_ xs s) (xo_ ys s) (aX_ xs s0 q0) (aX_ ys s0 q0) (dX_ xs s0 q0) (dX_ ys s0 q0) N D q + onq_ (xo_ xs s) (xo_ ys s) (aX_ xs s0 q0) (aX_ ys s0 q0) (dX_ xs s0 q0) (dX_ ys s0 q0) N D q = _
    rw [g1, g2, g3, sc.1, sc.2]
    rw [enE (s0, q0), edE (s0, q0)] at inE
    rw [edE (s0, q0)] at d9; rw [enE (s0, q0)] at n9
    have b9 : (((VX s q.2 - VX s q.1).natAbs : Nat) : Int) < K := b
    clear ex ey hf sc g1 g2 g3 hmin npos dpos bK cyE mE enE edE hno
    dsimp only at inE d9 n9 ⊢
    generalize lo_ (VY s0 q0.2) (VX s0 q0.1) (VX s0 q0.2) = lx at *
    generalize lo_ (VY s0 q0.2) (VY s0 q0.1) (VY s0 q0.2) = ly at *
    generalize lo_ (VY s0 q0.2) (VX s0 q0.2) (VX s0 q0.1) = ux at *
    generalize lo_ (VY s0 q0.2) (VY s0 q0.2) (VY s0 q0.1) = uy at *
    refine js2_ (K := K) hK d9 n9 hno' (fun a1 a2 a3 => ?_) (fun a1 a2 a3 => ?_) (fun a1 a2 a3 => ?_) (fun a1 a2 a3 => ?_)
    · have w := inE (cyq9.mpr (Or.inr ⟨by omega, a2, a3⟩))
      rw [(nf1 a2).1, (nf1 a2).2] at w; exact w
    · exact (gr_ (by omega)).2 a3
    · have w := inE (cyq9.mpr (Or.inl ⟨a2, by omega, a3⟩))
      rw [(nf2 (by omega)).1, (nf2 (by omega)).2] at w; exact w
    · exact (gr_ (by omega)).2 (by omega)
end
