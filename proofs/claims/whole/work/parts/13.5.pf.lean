/-! what the reference cuts a beam at -/
section
variable {xs ys : Nat → Int32} {a b : Nat} {N D : Int} {PT : Nat → Nat} {L : List (Nat × Nat × Nat)}
/-- the beam from point a to point b -/
def bX_ (xs : Nat → Int32) (a b : Nat) : Int := (xs b).toInt - (xs a).toInt
theorem rc_e {P Q : Int64} {p q : Int} (hP : P.toInt = p) (hQ : Q.toInt = q) (h1 : 0 ≤ p) (h2 : 0 < q) (he : p * D = N * q) {f : Nat × Nat} (hf : fe_ f (lq_ P, lq_ Q)) : (f.1 : Int) * D = N * (f.2 : Int) := by
  unfold fe_ lq_ at hf
  rw [hP, hQ] at hf
  have e1 : ((p.toNat : Nat) : Int) = p := by omega
  have e2 : ((q.toNat : Nat) : Int) = q := by omega
  have hf2 : (f.1 : Int) * q = p * (f.2 : Int) := by
    have := congrArg (fun n : Nat => (n : Int)) hf
    simp only [Int.natCast_mul] at this
    rw [e1, e2] at this; exact this
  have : q * ((f.1 : Int) * D - N * (f.2 : Int)) = 0 := by grind
  rcases Int.mul_eq_zero.mp this with w | w <;> omega
/-- a point of a shape on the beam -/
theorem pf_p (hn : ¬ (xs a = xs b ∧ ys a = ys b)) (ra : r5_ (xs a) ∧ r5_ (ys a)) (rb : r5_ (xs b) ∧ r5_ (ys b)) (hD : 0 < D) (hN : 0 ≤ N) (hND : N ≤ D) {v : Nat} (rv : r5_ (xs v) ∧ r5_ (ys v))
    (h1 : rv_ (xs a).toInt (bX_ xs a b) N D (xs v).toInt = 0) (h2 : rv_ (ys a).toInt (bX_ ys a b) N D (ys v).toInt = 0) :
    ∃ x ∈ cpq_ xs ys a b v, ∀ f : Nat × Nat, fe_ f x → (f.1 : Int) * D = N * (f.2 : Int) := by
  unfold r5_ at *
  unfold rv_ bX_ at h1 h2
  have i : ¬ iso_ xs ys (xs v).toInt64 (ys v).toInt64 0 0 0 1 a b = 0 := by
    have k := iso_b (xs := xs) (ys := ys) (x0 := (xs v).toInt64) (y0 := (ys v).toInt64) (dx := 0) (dy := 0) (DX := 0) (DY := 0) (N := 0) (D := 1) (p := a) (q := b) (by decide) (i64_ _) (i64_ _) (rfl : (0 : Int64).toInt = 0) (rfl : (0 : Int64).toInt = 0) rv.1 rv.2 (by decide) (by decide) ra.1 ra.2 rb.1 rb.2
    rw [k, on_1]
    have e : ∀ A B : Int, rv_ B 0 0 1 A = A - B := fun A B => by unfold rv_; omega
    rw [e, e, e, e]
    generalize (xs a).toInt = XA at *; generalize (ys a).toInt = YA at *; generalize (xs b).toInt = XB at *; generalize (ys b).toInt = YB at *; generalize (xs v).toInt = XV at *; generalize (ys v).toInt = YV at *
    have a1 : D * (XA - XV) = -(N * (XB - XA)) := by grind
    have a2 : D * (XB - XV) = (D - N) * (XB - XA) := by grind
    have a3 : D * (YA - YV) = -(N * (YB - YA)) := by grind
    have a4 : D * (YB - YV) = (D - N) * (YB - YA) := by grind
    refine ⟨?_, ?_, ?_⟩
    · have : D * (D * ((XA - XV) * (YB - YV) - (YA - YV) * (XB - XV))) = 0 := by grind
      rcases Int.mul_eq_zero.mp this with q | q
      · omega
      · rcases Int.mul_eq_zero.mp q with q | q
        · omega
        · exact q
    · have m1 := mt_ D (XA - XV); have m2 := mt_ D (XB - XV); have m3 := mt_ N (XB - XA); have m4 := mt_ (D - N) (XB - XA)
      rw [a1] at m1; rw [a2] at m2
      generalize N * (XB - XA) = r1 at *; generalize (D - N) * (XB - XA) = r2 at *
      omega
    · have m1 := mt_ D (YA - YV); have m2 := mt_ D (YB - YV); have m3 := mt_ N (YB - YA); have m4 := mt_ (D - N) (YB - YA)
      rw [a3] at m1; rw [a4] at m2
      generalize N * (YB - YA) = r1 at *; generalize (D - N) * (YB - YA) = r2 at *
      omega
  refine ⟨_, by unfold cpq_; rw [if_neg i]; exact List.mem_singleton.mpr rfl, fun f hf => ?_⟩
  obtain ⟨v1, v2, v3, v4⟩ := pvd_ hn i
  refine rc_e rfl rfl v1 v3 ?_ hf
  have n1 : ∀ p q : Int32, (-((p.toInt64) - q.toInt64)).toInt = -(p.toInt - q.toInt) := fun p q => by
    have := i32r p; have := i32r q
    rw [i64n (by rw [i64e]; omega), i64e]
  unfold pcO_ pcU_ pov_ pun_
  by_cases c : (xs b).toInt64 - (xs a).toInt64 = 0
  · simp only [if_pos c]
    split
    · rw [n1, n1]; grind
    · rw [i64e, i64e]; grind
  · simp only [if_neg c]
    split
    · rw [n1, n1]; grind
    · rw [i64e, i64e]; grind
/-- a segment that crosses the beam -/
theorem pf_s (ra : r5_ (xs a) ∧ r5_ (ys a)) (rb : r5_ (xs b) ∧ r5_ (ys b)) (hD : 0 < D) (hN : 0 < N) (hND : N < D) {c d : Nat} (rc : r5_ (xs c) ∧ r5_ (ys c)) (rd : r5_ (xs d) ∧ r5_ (ys d))
    {A B : Int} (hA : A = bX_ xs a b * ((ys c).toInt - (ys a).toInt) - bX_ ys a b * ((xs c).toInt - (xs a).toInt)) (hB : B = bX_ xs a b * ((ys d).toInt - (ys a).toInt) - bX_ ys a b * ((xs d).toInt - (xs a).toInt))
    (hs : (A < 0 ∧ 0 < B) ∨ (0 < A ∧ B < 0)) (hk : D * (((xs c).toInt - (xs a).toInt) * ((ys d).toInt - (ys c).toInt) - ((ys c).toInt - (ys a).toInt) * ((xs d).toInt - (xs c).toInt)) - N * (B - A) = 0) :
    ∃ x ∈ csq_ xs ys a b c d, ∀ f : Nat × Nat, fe_ f x → (f.1 : Int) * D = N * (f.2 : Int) := by
  unfold r5_ at *
  unfold bX_ at hA hB
  have eU := jd_ (i64e (xs b) (xs a)) (i64e (ys d) (ys c)) (i64e (ys b) (ys a)) (i64e (xs d) (xs c)) (by omega) (by omega) (by omega) (by omega)
  have eO := jd_ (i64e (xs c) (xs a)) (i64e (ys d) (ys c)) (i64e (ys c) (ys a)) (i64e (xs d) (xs c)) (by omega) (by omega) (by omega) (by omega)
  have eT := jd_ (i64e (xs c) (xs a)) (i64e (ys b) (ys a)) (i64e (ys c) (ys a)) (i64e (xs b) (xs a)) (by omega) (by omega) (by omega) (by omega)
  have hU : (sqU_ xs ys a b c d).toInt = B - A := by unfold sqU_; rw [eU.1, hA, hB]; grind
  have hT : (sqT_ xs ys a b c).toInt = -A := by unfold sqT_; rw [eT.1, hA]; grind
  obtain ⟨o, ho⟩ : ∃ o, o = ((xs c).toInt - (xs a).toInt) * ((ys d).toInt - (ys c).toInt) - ((ys c).toInt - (ys a).toInt) * ((xs d).toInt - (xs c).toInt) := ⟨_, rfl⟩
  have hO : (sqO_ xs ys a c d).toInt = o := by unfold sqO_; rw [eO.1, ho]
  have bU : -2000000000000000000 ≤ B - A ∧ B - A ≤ 2000000000000000000 := by
    have e : B - A = (((xs b).toInt - (xs a).toInt) * ((ys d).toInt - (ys c).toInt) - ((ys b).toInt - (ys a).toInt) * ((xs d).toInt - (xs c).toInt)) := by rw [hA, hB]; grind
    omega
  have bT : -2000000000000000000 ≤ A ∧ A ≤ 2000000000000000000 := by
    have e : -A = (((xs c).toInt - (xs a).toInt) * ((ys b).toInt - (ys a).toInt) - ((ys c).toInt - (ys a).toInt) * ((xs b).toInt - (xs a).toInt)) := by rw [hA]; grind
    omega
  have bO := eO.2; rw [← ho] at bO hk
  clear hA hB eU eO eT ho ra rb rc rd
  have m1 := mt_ D o; have m2 := mt_ N (B - A)
  have m3 := mt_ D (o - (B - A)); have m4 := mt_ (D - N) (B - A)
  have e3 : D * (o - (B - A)) = -((D - N) * (B - A)) := by grind
  rw [e3] at m3
  have e1 : D * o = N * (B - A) := by omega
  rw [e1] at m1
  have hoo : (0 < B - A ∧ 0 < o ∧ o < B - A) ∨ (B - A < 0 ∧ o < 0 ∧ B - A < o) := by
    generalize N * (B - A) = r1 at *; generalize (D - N) * (B - A) = r2 at *
    omega
  unfold csq_ csc_ sgN_
  have l := l0_ (sqU_ xs ys a b c d)
  rw [hU] at l
  have z0 : (0 : Int64).toInt = 0 := by decide
  rcases hoo with ⟨w1, w2, w3⟩ | ⟨w1, w2, w3⟩
  · have g : ¬ sqU_ xs ys a b c d < 0 := fun z => by have := l.2.1.mp z; omega
    simp only [if_neg g]
    have cond : (0 : Int64) < sqO_ xs ys a c d ∧ sqO_ xs ys a c d < sqU_ xs ys a b c d ∧ 0 < sqT_ xs ys a b c ∧ sqT_ xs ys a b c < sqU_ xs ys a b c d := by
      simp only [Int64.lt_iff_toInt_lt, z0, hO, hU, hT]; omega
    rw [if_pos cond]
    exact ⟨_, List.mem_singleton.mpr rfl, fun f hf => rc_e hO hU (by omega) w1 (by grind) hf⟩
  · have g : sqU_ xs ys a b c d < 0 := l.2.1.mpr w1
    simp only [if_pos g]
    have nO : (-sqO_ xs ys a c d).toInt = -o := l64n hO (by omega)
    have nU : (-sqU_ xs ys a b c d).toInt = -(B - A) := l64n hU (by omega)
    have nT : (-sqT_ xs ys a b c).toInt = -(-A) := l64n hT (by omega)
    have cond : (0 : Int64) < -sqO_ xs ys a c d ∧ -sqO_ xs ys a c d < -sqU_ xs ys a b c d ∧ 0 < -sqT_ xs ys a b c ∧ -sqT_ xs ys a b c < -sqU_ xs ys a b c d := by
      simp only [Int64.lt_iff_toInt_lt, z0, nO, nU, nT]; omega
    rw [if_pos cond]
    exact ⟨_, List.mem_singleton.mpr rfl, fun f hf => rc_e nO nU (by omega) (by omega) (by grind) hf⟩
end
