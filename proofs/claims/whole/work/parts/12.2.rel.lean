/-! the reference's questions, relative to the place -/
/-- an end relative to the place N / D along the way -/
def rv_ (x0 dx N D X : Int) : Int := D * (X - x0) - N * dx
/-- the turn of a segment round the place -/
def kv_ (vx vy wx wy : Int) : Int := vx * wy - vy * wx
theorem mB_ {x y B C : Int} (h1 : -B ≤ x) (h2 : x ≤ B) (h3 : -C ≤ y) (h4 : y ≤ C) : -(B * C) ≤ x * y ∧ x * y ≤ B * C := by
  have a : x.natAbs * y.natAbs ≤ B.natAbs * C.natAbs := Nat.mul_le_mul (by omega) (by omega)
  rw [← Int.natAbs_mul, ← Int.natAbs_mul] at a
  have b : 0 ≤ B * C := Int.mul_nonneg (by omega) (by omega)
  omega
/-- two products' difference, within the long numbers -/
theorem jd_ {p q r s : Int64} {P Q R S : Int} (h1 : p.toInt = P) (h2 : q.toInt = Q) (h3 : r.toInt = R) (h4 : s.toInt = S) (b1 : -1000000000 ≤ P ∧ P ≤ 1000000000) (b2 : -1000000000 ≤ Q ∧ Q ≤ 1000000000) (b3 : -1000000000 ≤ R ∧ R ≤ 1000000000) (b4 : -1000000000 ≤ S ∧ S ≤ 1000000000) :
    (p * q - r * s).toInt = P * Q - R * S ∧ -2000000000000000000 ≤ P * Q - R * S ∧ P * Q - R * S ≤ 2000000000000000000 := by
  have m1 := mB_ b1.1 b1.2 b2.1 b2.2
  have m2 := mB_ b3.1 b3.2 b4.1 b4.2
  have e1 : (p * q).toInt = P * Q := by rw [jmu (by rw [h1, h2]; omega) (by rw [h1, h2]; omega), h1, h2]
  have e2 : (r * s).toInt = R * S := by rw [jmu (by rw [h3, h4]; omega) (by rw [h3, h4]; omega), h3, h4]
  refine ⟨?_, by omega, by omega⟩
  rw [jsu (by rw [e1, e2]; omega) (by rw [e1, e2]; omega), e1, e2]
def r5_ (x : Int32) : Prop := -500000000 ≤ x.toInt ∧ x.toInt ≤ 500000000
theorem i6s {a : Int32} {x : Int64} {X : Int} (h : x.toInt = X) (b : -2000000000 ≤ X ∧ X ≤ 2000000000) : (x - a.toInt64).toInt = X - a.toInt ∧ (a.toInt64 - x).toInt = a.toInt - X := by
  have := i32r a
  constructor
  · rw [i64d (by rw [h]; omega) (by rw [i64_]; omega), h, i64_]
  · rw [i64d (by rw [i64_]; omega) (by rw [h]; omega), h, i64_]
theorem ovx_v {x0 dx : Int64} {X0 DX N D : Int} {v : Int32} (h1 : x0.toInt = X0) (h2 : dx.toInt = DX) (b : -500000000 ≤ X0 ∧ X0 ≤ 500000000) : ovx_ x0 dx N D v.toInt64 = si_ (-(rv_ X0 DX N D v.toInt)) := by
  unfold ovx_ rv_
  rw [(i6s (a := v) h1 (by omega)).1, h2]; congr 1; grind
section
variable {xs ys : Nat → Int32} {x0 y0 dx dy : Int64} {X0 Y0 DX DY N D : Int} {p q : Nat}
theorem sde_v (h1 : x0.toInt = X0) (h2 : y0.toInt = Y0) (h3 : dx.toInt = DX) (h4 : dy.toInt = DY) (b1 : -500000000 ≤ X0 ∧ X0 ≤ 500000000) (b2 : -500000000 ≤ Y0 ∧ Y0 ≤ 500000000) (b3 : -1000000000 ≤ DX ∧ DX ≤ 1000000000) (b4 : -1000000000 ≤ DY ∧ DY ≤ 1000000000)
    (r1 : r5_ (xs p)) (r2 : r5_ (ys p)) (r3 : r5_ (xs q)) (r4 : r5_ (ys q)) :
    ∃ z, sde_ xs ys x0 y0 dx dy N D p q = si_ z ∧ D * z = kv_ (rv_ X0 DX N D (xs p).toInt) (rv_ Y0 DY N D (ys p).toInt) (rv_ X0 DX N D (xs q).toInt) (rv_ Y0 DY N D (ys q).toInt) := by
  unfold r5_ at r1 r2 r3 r4
  have e1 := (jd_ (p := (xs q).toInt64 - (xs p).toInt64) (q := y0 - (ys p).toInt64) (r := (ys q).toInt64 - (ys p).toInt64) (s := x0 - (xs p).toInt64) (i64e _ _) (i6s h2 (by omega)).1 (i64e _ _) (i6s h1 (by omega)).1 (by omega) (by omega) (by omega) (by omega)).1
  have e2 := (jd_ (p := (xs q).toInt64 - (xs p).toInt64) (q := dy) (r := (ys q).toInt64 - (ys p).toInt64) (s := dx) (i64e _ _) h4 (i64e _ _) h3 (by omega) (by omega) (by omega) (by omega)).1
  unfold sde_ sdA_ sdB_
  rw [e1, e2]
  refine ⟨_, rfl, ?_⟩
  unfold kv_ rv_; grind
theorem si_o {z k D : Int} (hD : 0 < D) (h : D * z = k) : (0 < z ↔ 0 < k) ∧ (z < 0 ↔ k < 0) ∧ (z = 0 ↔ k = 0) := by
  have := mt_ D z
  rw [h] at this
  omega
theorem if10 {c : Prop} [Decidable c] : ¬ (if c then (1 : Int32) else 0) = 0 ↔ c := by
  by_cases q : c
  · rw [if_pos q]; exact ⟨fun _ => q, fun _ => by decide⟩
  · rw [if_neg q]; exact ⟨fun h => absurd rfl h, fun h => absurd h q⟩
/-- the place is on a segment -/
theorem iso_b (hD : 0 < D) (h1 : x0.toInt = X0) (h2 : y0.toInt = Y0) (h3 : dx.toInt = DX) (h4 : dy.toInt = DY) (b1 : -500000000 ≤ X0 ∧ X0 ≤ 500000000) (b2 : -500000000 ≤ Y0 ∧ Y0 ≤ 500000000) (b3 : -1000000000 ≤ DX ∧ DX ≤ 1000000000) (b4 : -1000000000 ≤ DY ∧ DY ≤ 1000000000)
    (r1 : r5_ (xs p)) (r2 : r5_ (ys p)) (r3 : r5_ (xs q)) (r4 : r5_ (ys q)) :
    ¬ iso_ xs ys x0 y0 dx dy N D p q = 0 ↔ on_ (rv_ X0 DX N D (xs p).toInt) (rv_ Y0 DY N D (ys p).toInt) (rv_ X0 DX N D (xs q).toInt) (rv_ Y0 DY N D (ys q).toInt) = 1 := by
  obtain ⟨z, e, hz⟩ := sde_v (N := N) (D := D) h1 h2 h3 h4 b1 b2 b3 b4 r1 r2 r3 r4
  have s := si_o hD hz
  rw [on_1]
  unfold iso_
  rw [if10, e, ovx_v h1 h3 b1, ovx_v h1 h3 b1, ovx_v h2 h4 b2, ovx_v h2 h4 b2, si_m, si_m, si_0]
  unfold kv_ at s
  generalize rv_ X0 DX N D (xs p).toInt = vx at *; generalize rv_ Y0 DY N D (ys p).toInt = vy at *
  generalize rv_ X0 DX N D (xs q).toInt = wx at *; generalize rv_ Y0 DY N D (ys q).toInt = wy at *
  rw [s.2.2]
  generalize vx * wy - vy * wx = k at *
  exact ⟨fun h => ⟨h.2.2, by omega, by omega⟩, fun h => ⟨by omega, by omega, h.1⟩⟩
theorem bo_1 {c : Prop} [Decidable c] : (bo_ c = 0 ↔ ¬ c) ∧ (¬ bo_ c = 0 ↔ c) := by
  unfold bo_
  by_cases q : c
  · rw [if_pos q]; exact ⟨⟨fun h => absurd h (by decide), fun h => absurd q h⟩, ⟨fun _ => q, fun _ => by decide⟩⟩
  · rw [if_neg q]; exact ⟨⟨fun _ => q, fun _ => rfl⟩, ⟨fun h => absurd rfl h, fun h => absurd h q⟩⟩
theorem bo_e {c d : Prop} [Decidable c] [Decidable d] : bo_ c = bo_ d ↔ (c ↔ d) := by
  unfold bo_
  by_cases q : c <;> by_cases r : d
  · simp [q, r]
  · rw [if_pos q, if_neg r]; exact ⟨fun h => absurd h (by decide), fun h => absurd (h.mp q) r⟩
  · rw [if_neg q, if_pos r]; exact ⟨fun h => absurd h (by decide), fun h => absurd (h.mpr r) q⟩
  · simp [q, r]
/-- the way to the right crosses a segment -/
theorem crx_b (hD : 0 < D) (h1 : x0.toInt = X0) (h2 : y0.toInt = Y0) (h3 : dx.toInt = DX) (h4 : dy.toInt = DY) (b1 : -500000000 ≤ X0 ∧ X0 ≤ 500000000) (b2 : -500000000 ≤ Y0 ∧ Y0 ≤ 500000000) (b3 : -1000000000 ≤ DX ∧ DX ≤ 1000000000) (b4 : -1000000000 ≤ DY ∧ DY ≤ 1000000000)
    (r1 : r5_ (xs p)) (r2 : r5_ (ys p)) (r3 : r5_ (xs q)) (r4 : r5_ (ys q)) :
    ¬ crx_ xs ys x0 y0 dx dy N D p q = 0 ↔ CL_ (rv_ Y0 DY N D (ys p).toInt) (rv_ Y0 DY N D (ys q).toInt) (kv_ (rv_ X0 DX N D (xs p).toInt) (rv_ Y0 DY N D (ys p).toInt) (rv_ X0 DX N D (xs q).toInt) (rv_ Y0 DY N D (ys q).toInt)) = 1 := by
  obtain ⟨z, e, hz⟩ := sde_v (N := N) (D := D) h1 h2 h3 h4 b1 b2 b3 b4 r1 r2 r3 r4
  obtain ⟨z2, e2, hz2⟩ := sde_v (N := N) (D := D) h1 h2 h3 h4 b1 b2 b3 b4 r3 r4 r1 r2
  have s := si_o hD hz
  have s2 := si_o hD hz2
  unfold CL_
  rw [pn_1]
  unfold crx_
  rw [e, e2, ovx_v h2 h4 b2, ovx_v h2 h4 b2]
  unfold kv_ at *
  generalize rv_ X0 DX N D (xs p).toInt = vx at *; generalize rv_ Y0 DY N D (ys p).toInt = vy at *
  generalize rv_ X0 DX N D (xs q).toInt = wx at *; generalize rv_ Y0 DY N D (ys q).toInt = wy at *
  have k2 : wx * vy - wy * vx = -(vx * wy - vy * wx) := by grind
  rw [k2] at s2
  generalize vx * wy - vy * wx = k at *
  have l1 : -vy < 0 ↔ 0 < vy := by omega
  have l2 : -wy < 0 ↔ 0 < wy := by omega
  by_cases c : 0 < vy ↔ 0 < wy
  · rw [if_pos (bo_e.mpr (by rw [si_l, si_l, l1, l2]; exact c))]; exact ⟨fun h => absurd rfl h, fun h => by omega⟩
  · rw [if_neg (fun h => c (by have := bo_e.mp h; rw [si_l, si_l, l1, l2] at this; exact this))]
    by_cases c2 : ¬ 0 < vy
    · rw [if_pos (bo_1.1.mpr (by rw [si_l, l1]; exact c2)), bo_1.2, si_g, s.1]; omega
    · rw [if_neg (fun h => c2 (by have := bo_1.1.mp h; rw [si_l, l1] at this; exact this)), bo_1.2, si_g, s2.1]; omega
end
