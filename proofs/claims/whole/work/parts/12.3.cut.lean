/-! the class's cuts of one segment, and where they lie -/
theorem l0_ (x : Int64) : (0 < x ↔ 0 < x.toInt) ∧ (x < 0 ↔ x.toInt < 0) ∧ (x = 0 ↔ x.toInt = 0) ∧ (0 ≤ x ↔ 0 ≤ x.toInt) := by
  have z : (0 : Int64).toInt = 0 := by decide
  refine ⟨by rw [Int64.lt_iff_toInt_lt, z], by rw [Int64.lt_iff_toInt_lt, z], ⟨fun h => by rw [h, z], fun h => Int64.toInt_inj.mp (by rw [h, z])⟩, by rw [Int64.le_iff_toInt_le, z]⟩
/-- a segment that lies on one side isn't met -/
theorem onA {dx dy vx vy wx wy : Int} (h : (0 < dx * vy - dy * vx ∧ 0 < dx * wy - dy * wx) ∨ (dx * vy - dy * vx < 0 ∧ dx * wy - dy * wx < 0)) : ¬ on_ vx vy wx wy = 1 := by
  intro o
  obtain ⟨k, hx, hy⟩ := on_1.mp o
  have e1 : (dx * vy - dy * vx) * wx = (dx * wy - dy * wx) * vx := by grind
  have e2 : (dx * vy - dy * vx) * wy = (dx * wy - dy * wx) * vy := by grind
  have v0 : ¬ (vx = 0 ∧ vy = 0) := fun q => by
    obtain ⟨q1, q2⟩ := q; rw [q1, q2] at h; omega
  have s1 : (0 < vx ↔ 0 < wx) ∧ (vx < 0 ↔ wx < 0) := by
    rcases h with h | h
    · exact sgq_ h.1 h.2 e1
    · exact sgq_ (p := -(dx * vy - dy * vx)) (q := -(dx * wy - dy * wx)) (by omega) (by omega) (by rw [Int.neg_mul, Int.neg_mul, e1])
  have s2 : (0 < vy ↔ 0 < wy) ∧ (vy < 0 ↔ wy < 0) := by
    rcases h with h | h
    · exact sgq_ h.1 h.2 e2
    · exact sgq_ (p := -(dx * vy - dy * vx)) (q := -(dx * wy - dy * wx)) (by omega) (by omega) (by rw [Int.neg_mul, Int.neg_mul, e2])
  omega
/-- how far an end is ahead, on the way -/
def zt_ (dx dy vx vy : Int) : Int := if dx = 0 then (if 0 < dy then vy else -vy) else (if 0 < dx then vx else -vx)
theorem zt_0 {dx dy vx vy : Int} (hd : ¬ (dx = 0 ∧ dy = 0)) (ha : dx * vy - dy * vx = 0) : zt_ dx dy vx vy = 0 ↔ vx = 0 ∧ vy = 0 := by
  unfold zt_
  by_cases c : dx = 0
  · rw [if_pos c]
    subst c
    have : dy * vx = 0 := by omega
    have h0 : vx = 0 := by rcases Int.mul_eq_zero.mp this with q | q <;> omega
    split <;> omega
  · rw [if_neg c]
    constructor
    · intro h
      have v0 : vx = 0 := by split at h <;> omega
      subst v0
      have : dx * vy = 0 := by omega
      exact ⟨rfl, by rcases Int.mul_eq_zero.mp this with q | q <;> omega⟩
    · intro h; rw [h.1]; split <;> rfl
theorem onB {dx dy vx vy wx wy : Int} (hd : ¬ (dx = 0 ∧ dy = 0)) (ha : dx * vy - dy * vx = 0) (hb : dx * wy - dy * wx = 0) :
    on_ vx vy wx wy = 1 ↔ ¬ (0 < zt_ dx dy vx vy ∧ 0 < zt_ dx dy wx wy) ∧ ¬ (zt_ dx dy vx vy < 0 ∧ zt_ dx dy wx wy < 0) := by
  rw [on_1]
  unfold zt_
  by_cases c : dx = 0
  · subst c
    have v0 : vx = 0 := by
      have : dy * vx = 0 := by omega
      rcases Int.mul_eq_zero.mp this with q | q <;> omega
    have w0 : wx = 0 := by
      have : dy * wx = 0 := by omega
      rcases Int.mul_eq_zero.mp this with q | q <;> omega
    subst v0; subst w0
    rw [if_pos rfl, if_pos rfl, Int.zero_mul, Int.mul_zero]
    split <;> omega
  · rw [if_neg c, if_neg c]
    have k0 : vx * wy - vy * wx = 0 := by
      have : dx * (vx * wy - vy * wx) = 0 := by grind
      rcases Int.mul_eq_zero.mp this with q | q
      · omega
      · exact q
    have e1 : dx * vy = dy * vx := by omega
    have e2 : dx * wy = dy * wx := by omega
    have m1 := mt_ dx vy; have m2 := mt_ dy vx; have m3 := mt_ dx wy; have m4 := mt_ dy wx
    rw [e1] at m1; rw [e2] at m3
    generalize dy * vx = r1 at *; generalize dy * wx = r2 at *
    have hs : ((0 < vy ∧ 0 < wy) ∨ (vy < 0 ∧ wy < 0)) → ((0 < vx ∧ 0 < wx) ∨ (vx < 0 ∧ wx < 0)) := by omega
    constructor
    · intro h; split <;> omega
    · intro h
      have : ¬ ((0 < vx ∧ 0 < wx) ∨ (vx < 0 ∧ wx < 0)) := by split at h <;> omega
      exact ⟨k0, this, fun q => this (hs q)⟩
/-- a segment with its ends on two sides, or with one on the line -/
theorem onC {dx dy vx vy wx wy : Int} (h : ¬ ((0 < dx * vy - dy * vx ↔ 0 < dx * wy - dy * wx) ∧ (dx * vy - dy * vx < 0 ↔ dx * wy - dy * wx < 0))) : on_ vx vy wx wy = 1 ↔ vx * wy - vy * wx = 0 := by
  rw [on_1]
  constructor
  · exact fun q => q.1
  · intro k
    refine ⟨k, fun q => h ?_, fun q => h ?_⟩
    · rcases q with q | q
      · exact sgq_ q.1 q.2 (by grind)
      · exact sgq_ (p := -vx) (q := -wx) (by omega) (by omega) (by grind)
    · rcases q with q | q
      · exact sgq_ q.1 q.2 (by grind)
      · exact sgq_ (p := -vy) (q := -wy) (by omega) (by omega) (by grind)
abbrev CT3_ : Type := Int64 × Int64 × Int32
/-- a cut's place against N / D -/
def cle3 (N D : Int) (c : CT3_) : Bool := decide (c.1.toInt * D ≤ N * c.2.1.toInt)
def clt3 (N D : Int) (c : CT3_) : Bool := decide (c.1.toInt * D < N * c.2.1.toInt)
def ceq3 (N D : Int) (c : CT3_) : Bool := decide (c.1.toInt * D = N * c.2.1.toInt)
def ga_ (c : Int32) : Int32 := (if c &&& 4 = 0 then 0 else 1) - (if c &&& 8 = 0 then 0 else 1)
theorem arc_g {cg c : Int32} : arc_ cg c = cg + ga_ c := by
  unfold arc_ ga_
  by_cases h1 : c &&& 4 = 0 <;> by_cases h2 : c &&& 8 = 0 <;> simp only [h1, h2, if_true, if_false] <;> grind
/-- covers and turns of some of the cuts -/
def gz_ (p : CT3_ → Bool) : List CT3_ → Int32
  | [] => 0
  | c :: C => (if p c = true then ga_ c.2.2 else 0) + gz_ p C
def xz_ (p : CT3_ → Bool) : List CT3_ → Int32
  | [] => 0
  | c :: C => (if p c = true then c.2.2 &&& 48 else 0) ^^^ xz_ p C
theorem gz_a {p : CT3_ → Bool} : ∀ C E : List CT3_, gz_ p (C ++ E) = gz_ p C + gz_ p E
  | [], E => by rw [List.nil_append, gz_, Int32.zero_add]
  | c :: C, E => by rw [List.cons_append, gz_, gz_, gz_a C E, Int32.add_assoc]
theorem xz_a {p : CT3_ → Bool} : ∀ C E : List CT3_, xz_ p (C ++ E) = xz_ p C ^^^ xz_ p E
  | [], E => by rw [List.nil_append, xz_, Int32.zero_xor]
  | c :: C, E => by rw [List.cons_append, xz_, xz_, xz_a C E, Int32.xor_assoc]
theorem gz_p {p : CT3_ → Bool} {C E : List CT3_} (h : C.Perm E) : gz_ p C = gz_ p E := by
  induction h with
  | nil => rfl
  | cons x _ ih => rw [gz_, gz_, ih]
  | swap x y l => rw [gz_, gz_, gz_, gz_, ← Int32.add_assoc, ← Int32.add_assoc, Int32.add_comm (if p y = true then _ else _)]
  | trans _ _ i1 i2 => rw [i1, i2]
theorem xz_p {p : CT3_ → Bool} {C E : List CT3_} (h : C.Perm E) : xz_ p C = xz_ p E := by
  induction h with
  | nil => rfl
  | cons x _ ih => rw [xz_, xz_, ih]
  | swap x y l => rw [xz_, xz_, xz_, xz_, ← Int32.xor_assoc, ← Int32.xor_assoc, Int32.xor_comm (if p y = true then _ else _)]
  | trans _ _ i1 i2 => rw [i1, i2]
/-- two parities as turns -/
def en2_ (l r : Nat) : Int32 := (if l % 2 = 1 then 16 else 0) ||| (if r % 2 = 1 then 32 else 0)
theorem en2_x (l r l2 r2 : Nat) : en2_ l r ^^^ en2_ l2 r2 = en2_ (l + l2) (r + r2) := by
  unfold en2_
  rcases (show l % 2 = 0 ∨ l % 2 = 1 by omega) with a | a <;> rcases (show r % 2 = 0 ∨ r % 2 = 1 by omega) with b | b <;> rcases (show l2 % 2 = 0 ∨ l2 % 2 = 1 by omega) with c | c <;> rcases (show r2 % 2 = 0 ∨ r2 % 2 = 1 by omega) with d | d <;>
    rw [Nat.add_mod l, Nat.add_mod r, a, b, c, d] <;> decide
theorem en2_l {l r : Nat} : ¬ en2_ l r &&& 16 = 0 ↔ l % 2 = 1 := by
  unfold en2_
  rcases (show l % 2 = 0 ∨ l % 2 = 1 by omega) with a | a <;> rcases (show r % 2 = 0 ∨ r % 2 = 1 by omega) with b | b <;> rw [a, b] <;> decide
theorem en2_r {l r : Nat} : ¬ en2_ l r &&& 32 = 0 ↔ r % 2 = 1 := by
  unfold en2_
  rcases (show l % 2 = 0 ∨ l % 2 = 1 by omega) with a | a <;> rcases (show r % 2 = 0 ∨ r % 2 = 1 by omega) with b | b <;> rw [a, b] <;> decide
theorem if01 {c : Prop} [Decidable c] : (if c then (0 : Int32) else 1) = 0 ↔ c := by
  by_cases q : c
  · rw [if_pos q]; exact ⟨fun _ => q, fun _ => rfl⟩
  · rw [if_neg q]; exact ⟨fun h => absurd h (by decide), fun h => absurd h q⟩
theorem tl_e {a64 b64 : Int64} {a b : Int} (ha : a64.toInt = a) (hb : b64.toInt = b) : tl_ a64 b64 = 0 ↔ (0 < a ↔ 0 < b) := by
  unfold tl_; rw [if01, bo_e, (l0_ a64).1, (l0_ b64).1, ha, hb]
theorem tr_e {a64 b64 : Int64} {a b : Int} (ha : a64.toInt = a) (hb : b64.toInt = b) : tr_ a64 b64 = 0 ↔ (a < 0 ↔ b < 0) := by
  unfold tr_; rw [if01, bo_e, (l0_ a64).2.1, (l0_ b64).2.1, ha, hb]
theorem tns_e {a64 b64 : Int64} {a b : Int} (ha : a64.toInt = a) (hb : b64.toInt = b) : tns_ a64 b64 = en2_ (pn_ (¬ (0 < a ↔ 0 < b))) (pn_ (¬ (a < 0 ↔ b < 0))) := by
  have e1 := tl_e ha hb
  have e2 := tr_e ha hb
  unfold tns_ en2_
  by_cases q1 : 0 < a ↔ 0 < b <;> by_cases q2 : a < 0 ↔ b < 0
  · rw [if_pos (e1.mpr q1), if_pos (e2.mpr q2), pn_n (fun h => h q1), pn_n (fun h => h q2)]; decide
  · rw [if_pos (e1.mpr q1), if_neg (fun h => q2 (e2.mp h)), pn_n (fun h => h q1), pn_y q2]; decide
  · rw [if_neg (fun h => q1 (e1.mp h)), if_pos (e2.mpr q2), pn_y q1, pn_n (fun h => h q2)]; decide
  · rw [if_neg (fun h => q1 (e1.mp h)), if_neg (fun h => q2 (e2.mp h)), pn_y q1, pn_y q2]; decide
theorem tlr_e {a64 b64 : Int64} {a b : Int} (ha : a64.toInt = a) (hb : b64.toInt = b) : (tl_ a64 b64 = 0 ∧ tr_ a64 b64 = 0) ↔ ((0 < a ↔ 0 < b) ∧ (a < 0 ↔ b < 0)) := by
  rw [tl_e ha hb, tr_e ha hb]
theorem l64n {x : Int64} {X : Int} (h : x.toInt = X) (b : -4000000000000000000 ≤ X ∧ X ≤ 4000000000000000000) : (-x).toInt = -X := by
  rw [Int64.toInt_neg, h]; apply Int.bmod_eq_of_le <;> omega
theorem ou_e {a64 b64 o64 : Int64} {a b o : Int} (ha : a64.toInt = a) (hb : b64.toInt = b) (ho : o64.toInt = o) (h1 : -2000000000000000000 ≤ b - a ∧ b - a ≤ 2000000000000000000) (h2 : -2000000000000000000 ≤ o ∧ o ≤ 2000000000000000000) :
    (ovr_ a64 b64 o64).toInt = (if b - a < 0 then -o else o) ∧ (und_ a64 b64).toInt = (if 0 < b - a then b - a else -(b - a)) := by
  have e : (b64 - a64).toInt = b - a := by rw [jsu (by rw [ha, hb]; omega) (by rw [ha, hb]; omega), ha, hb]
  unfold ovr_ und_
  constructor
  · by_cases q : b - a < 0
    · rw [if_pos ((l0_ _).2.1.mpr (by rw [e]; exact q)), if_pos q, l64n ho (by omega)]
    · rw [if_neg (fun h => q (by have := (l0_ _).2.1.mp h; omega)), if_neg q, ho]
  · by_cases q : 0 < b - a
    · rw [if_pos ((l0_ _).1.mpr (by rw [e]; exact q)), if_pos q, e]
    · rw [if_neg (fun h => q (by have := (l0_ _).1.mp h; omega)), if_neg q, l64n e (by omega)]
theorem ks_b {ks : Int32} (h : ks = 0 ∨ ks = 64) : ((ks ||| 1) ||| 4) &&& 48 = 0 ∧ ((ks ||| 1) ||| 8) &&& 48 = 0 ∧ (ks ||| 2) &&& 48 = 0 ∧ ga_ ((ks ||| 1) ||| 4) = 1 ∧ ga_ ((ks ||| 1) ||| 8) = -1 ∧ ga_ (ks ||| 2) = 0 ∧ ((ks ||| 1) ||| 0) &&& 48 = 0 ∧ ga_ ((ks ||| 1) ||| 0) = 0 := by
  rcases h with h | h <;> subst h <;> decide
theorem ks_t {ks : Int32} (h : ks = 0 ∨ ks = 64) (l r : Nat) : ((ks ||| 1) ||| en2_ l r) &&& 48 = en2_ l r ∧ ga_ ((ks ||| 1) ||| en2_ l r) = 0 := by
  unfold en2_
  rcases (show l % 2 = 0 ∨ l % 2 = 1 by omega) with a | a <;> rcases (show r % 2 = 0 ∨ r % 2 = 1 by omega) with b | b <;> rw [a, b] <;> rcases h with h | h <;> subst h <;> decide
