/-! to the right of a place lies a segment that is nearest: what is beside it is what is at the place -/
section
variable {K lx ly ux uy : Int}
/-- an end seen from the place of the nearest segment a little above -/
def rx2_ (K lx ly ux uy X : Int) : Int := K * (uy - ly) * (X - lx) - (1 - K * ly) * (ux - lx)
def ry2_ (K ly uy Y : Int) : Int := (uy - ly) * (K * Y - 1)
/-- how far to the right that place is -/
def A2_ (K lx ly ux uy : Int) : Int := (lx * uy - ly * ux) * K + (ux - lx)
theorem js1_ {vx vy wx wy : Int} : rx2_ K lx ly ux uy vx * ry2_ K ly uy wy - ry2_ K ly uy vy * rx2_ K lx ly ux uy wx = K * (uy - ly) * (((vx * wy - vy * wx) * K + (wx - vx)) * (uy - ly) - A2_ K lx ly ux uy * (wy - vy)) := by
  unfold rx2_ ry2_ A2_; grind
theorem ry2_s (hK : 2 ≤ K) (hd : 0 < uy - ly) {Y : Int} : (0 < Y ∧ 0 < ry2_ K ly uy Y) ∨ (Y ≤ 0 ∧ ry2_ K ly uy Y < 0) := by
  unfold ry2_
  have m := mt_ (uy - ly) (K * Y - 1)
  generalize uy - ly = d at *
  rcases (show 0 < Y ∨ Y ≤ 0 by omega) with h | h
  · have : 2 * 1 ≤ K * Y := Int.mul_le_mul hK h (by omega) (by omega)
    generalize K * Y = z at *
    generalize d * (z - 1) = r at *
    omega
  · have : K * Y ≤ 0 := Int.mul_nonpos_of_nonneg_of_nonpos (by omega) h
    generalize K * Y = z at *
    generalize d * (z - 1) = r at *
    omega
theorem js2_ {vx vy wx wy : Int} (hK : 2 ≤ K) (hd : 0 < uy - ly) (hA : 0 < A2_ K lx ly ux uy) (hno : ¬ on_ vx vy wx wy = 1)
    (hR1 : vy ≤ 0 → 0 < wy → 0 < vx * wy - vy * wx → A2_ K lx ly ux uy * (wy - vy) ≤ ((vx * wy - vy * wx) * K + (wx - vx)) * (uy - ly))
    (hL1 : vy ≤ 0 → 0 < wy → vx * wy - vy * wx < 0 → (vx * wy - vy * wx) * K + (wx - vx) < 0)
    (hR2 : wy ≤ 0 → 0 < vy → vx * wy - vy * wx < 0 → A2_ K lx ly ux uy * (vy - wy) ≤ (-(vx * wy - vy * wx) * K + (vx - wx)) * (uy - ly))
    (hL2 : wy ≤ 0 → 0 < vy → 0 < vx * wy - vy * wx → -(vx * wy - vy * wx) * K + (vx - wx) < 0) :
    CL_ (ry2_ K ly uy vy) (ry2_ K ly uy wy) (rx2_ K lx ly ux uy vx * ry2_ K ly uy wy - ry2_ K ly uy vy * rx2_ K lx ly ux uy wx) + on_ (rx2_ K lx ly ux uy vx) (ry2_ K ly uy vy) (rx2_ K lx ly ux uy wx) (ry2_ K ly uy wy) = CL_ vy wy (vx * wy - vy * wx) := by
  have sv := ry2_s (K := K) (ly := ly) (uy := uy) hK hd (Y := vy)
  have sw := ry2_s (K := K) (ly := ly) (uy := uy) hK hd (Y := wy)
  have oC : ¬ (0 < ry2_ K ly uy vy ↔ 0 < ry2_ K ly uy wy) → (on_ (rx2_ K lx ly ux uy vx) (ry2_ K ly uy vy) (rx2_ K lx ly ux uy wx) (ry2_ K ly uy wy) = 1 ↔ rx2_ K lx ly ux uy vx * ry2_ K ly uy wy - ry2_ K ly uy vy * rx2_ K lx ly ux uy wx = 0) := fun h => onC (dx := 1) (dy := 0) (fun z => h (by have := z.1; omega))
  have o01 := on_01 (vx := rx2_ K lx ly ux uy vx) (vy := ry2_ K ly uy vy) (wx := rx2_ K lx ly ux uy wx) (wy := ry2_ K ly uy wy)
  have oS : (0 < ry2_ K ly uy vy ∧ 0 < ry2_ K ly uy wy) ∨ (ry2_ K ly uy vy < 0 ∧ ry2_ K ly uy wy < 0) → on_ (rx2_ K lx ly ux uy vx) (ry2_ K ly uy vy) (rx2_ K lx ly ux uy wx) (ry2_ K ly uy wy) = 0 := fun h => by
    rcases o01 with z | z
    · exact absurd h (on_1.mp z).2.2
    · exact z
  have kn : ¬ (0 < vy ↔ 0 < wy) → ¬ vx * wy - vy * wx = 0 := fun h z => hno ((onC (dx := 1) (dy := 0) (vx := vx) (vy := vy) (wx := wx) (wy := wy) (fun w => h (by have := w.1; omega))).mpr z)
  rw [js1_] at oC ⊢
  have hKd : 0 < K * (uy - ly) := Int.mul_pos (by omega) hd
  have mG := mt_ (K * (uy - ly)) (((vx * wy - vy * wx) * K + (wx - vx)) * (uy - ly) - A2_ K lx ly ux uy * (wy - vy))
  generalize on_ (rx2_ K lx ly ux uy vx) (ry2_ K ly uy vy) (rx2_ K lx ly ux uy wx) (ry2_ K ly uy wy) = O at *
  generalize ry2_ K ly uy vy = rv at *; generalize ry2_ K ly uy wy = rw at *
  rcases (show 0 < vy ∨ vy ≤ 0 by omega) with a | a <;> rcases (show 0 < wy ∨ wy ≤ 0 by omega) with b | b
  · unfold CL_; rw [pn_n (by omega), pn_n (by omega), oS (by omega)]
  · have k0 := kn (by omega)
    have oo := oC (by omega)
    have e : A2_ K lx ly ux uy * (vy - wy) = -(A2_ K lx ly ux uy * (wy - vy)) := by grind
    have e2 : (-(vx * wy - vy * wx) * K + (vx - wx)) * (uy - ly) = -(((vx * wy - vy * wx) * K + (wx - vx)) * (uy - ly)) := by grind
    rcases (show vx * wy - vy * wx < 0 ∨ 0 < vx * wy - vy * wx by omega) with c | c
    · have r := hR2 b a c
      rw [e, e2] at r
      generalize K * (uy - ly) * (((vx * wy - vy * wx) * K + (wx - vx)) * (uy - ly) - A2_ K lx ly ux uy * (wy - vy)) = G at *
      generalize ((vx * wy - vy * wx) * K + (wx - vx)) * (uy - ly) = g1 at *; generalize A2_ K lx ly ux uy * (wy - vy) = g2 at *
      unfold CL_
      rw [pn_y (c := (0 < vy ∧ ¬ 0 < wy ∧ vx * wy - vy * wx < 0) ∨ _) (Or.inl ⟨a, by omega, c⟩)]
      rcases (show G < 0 ∨ G = 0 by omega) with w | w
      · rw [pn_y (by omega)]; omega
      · rw [pn_n (by omega)]; have := oo.mpr w; omega
    · have r := hL2 b a c
      have m1 := mt_ (-(vx * wy - vy * wx) * K + (vx - wx)) (uy - ly)
      have m2 := mt_ (A2_ K lx ly ux uy) (vy - wy)
      rw [e2] at m1; rw [e] at m2
      generalize K * (uy - ly) * (((vx * wy - vy * wx) * K + (wx - vx)) * (uy - ly) - A2_ K lx ly ux uy * (wy - vy)) = G at *
      generalize ((vx * wy - vy * wx) * K + (wx - vx)) * (uy - ly) = g1 at *; generalize A2_ K lx ly ux uy * (wy - vy) = g2 at *
      have G0 : 0 < G := by omega
      unfold CL_
      rw [pn_n (c := (0 < vy ∧ ¬ 0 < wy ∧ vx * wy - vy * wx < 0) ∨ _) (by omega), pn_n (by omega)]
      have : ¬ O = 1 := fun z => by have := oo.mp z; omega
      omega
  · have k0 := kn (by omega)
    have oo := oC (by omega)
    rcases (show vx * wy - vy * wx < 0 ∨ 0 < vx * wy - vy * wx by omega) with c | c
    · have r := hL1 a b c
      have m1 := mt_ ((vx * wy - vy * wx) * K + (wx - vx)) (uy - ly)
      have m2 := mt_ (A2_ K lx ly ux uy) (wy - vy)
      generalize K * (uy - ly) * (((vx * wy - vy * wx) * K + (wx - vx)) * (uy - ly) - A2_ K lx ly ux uy * (wy - vy)) = G at *
      generalize ((vx * wy - vy * wx) * K + (wx - vx)) * (uy - ly) = g1 at *; generalize A2_ K lx ly ux uy * (wy - vy) = g2 at *
      have G0 : G < 0 := by omega
      unfold CL_
      rw [pn_n (c := (0 < vy ∧ ¬ 0 < wy ∧ vx * wy - vy * wx < 0) ∨ _) (by omega), pn_n (by omega)]
      have : ¬ O = 1 := fun z => by have := oo.mp z; omega
      omega
    · have r := hR1 a b c
      generalize K * (uy - ly) * (((vx * wy - vy * wx) * K + (wx - vx)) * (uy - ly) - A2_ K lx ly ux uy * (wy - vy)) = G at *
      generalize ((vx * wy - vy * wx) * K + (wx - vx)) * (uy - ly) = g1 at *; generalize A2_ K lx ly ux uy * (wy - vy) = g2 at *
      unfold CL_
      rw [pn_y (c := (0 < vy ∧ ¬ 0 < wy ∧ vx * wy - vy * wx < 0) ∨ _) (Or.inr ⟨by omega, b, c⟩)]
      rcases (show 0 < G ∨ G = 0 by omega) with w | w
      · rw [pn_y (by omega)]; omega
      · rw [pn_n (by omega)]; have := oo.mpr w; omega
  · unfold CL_; rw [pn_n (by omega), pn_n (by omega), oS (by omega)]
end
/-- the least of some fractions -/
theorem mn_q {α : Type} {n d : α → Int} : ∀ E : List α, (∀ e ∈ E, 0 < d e) → ¬ E = [] → ∃ e ∈ E, ∀ f ∈ E, n e * d f ≤ n f * d e
  | [], _, h => absurd rfl h
  | [e], _, _ => ⟨e, List.mem_singleton.mpr rfl, fun f hf => by rw [List.mem_singleton.mp hf]; exact Int.le_refl _⟩
  | e :: g :: E, hd, _ => by
    obtain ⟨x, hx, hm⟩ := mn_q (n := n) (g :: E) (fun z hz => hd z (List.mem_cons_of_mem _ hz)) (by simp)
    have de := hd e (List.mem_cons_self ..); have dx := hd x (List.mem_cons_of_mem _ hx)
    rcases (show n e * d x ≤ n x * d e ∨ n x * d e < n e * d x by omega) with c | c
    · refine ⟨e, List.mem_cons_self .., fun f hf => ?_⟩
      rcases List.mem_cons.mp hf with k | k
      · rw [k]; exact Int.le_refl _
      · have df := hd f hf
        have h1 := hm f k
        have i : d x * (n f * d e - n e * d f) = d e * (n f * d x - n x * d f) + d f * (n x * d e - n e * d x) := by grind
        have m1 := mt_ (d e) (n f * d x - n x * d f); have m2 := mt_ (d f) (n x * d e - n e * d x); have m3 := mt_ (d x) (n f * d e - n e * d f)
        rw [i] at m3
        generalize d e * (n f * d x - n x * d f) = r1 at *; generalize d f * (n x * d e - n e * d x) = r2 at *
        omega
    · refine ⟨x, List.mem_cons_of_mem _ hx, fun f hf => ?_⟩
      rcases List.mem_cons.mp hf with k | k
      · rw [k]; omega
      · exact hm f k
theorem bd_ {α : Type} {g : α → Nat} : ∀ L : List α, ∃ K, ∀ x ∈ L, g x ≤ K
  | [] => ⟨0, fun x h => absurd h (by simp)⟩
  | a :: L => by
    obtain ⟨K, hK⟩ := bd_ (g := g) L
    refine ⟨K + g a, fun x hx => ?_⟩
    rcases List.mem_cons.mp hx with e | e
    · rw [e]; omega
    · have := hK x e; omega
/-- a number grows with K, but for a small one beside it -/
theorem gr_ {k b K : Int} (hb : (b.natAbs : Int) < K) : (0 < k → 0 < k * K + b) ∧ (k < 0 → k * K + b < 0) := by
  constructor
  · intro h
    have : 1 * K ≤ k * K := Int.mul_le_mul_of_nonneg_right h (by omega)
    omega
  · intro h
    have : k * K ≤ -1 * K := Int.mul_le_mul_of_nonneg_right (by omega) (by omega)
    omega
