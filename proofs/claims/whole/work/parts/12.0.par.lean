/-! how often a way ahead is crossed: any way tells the same as one to the right -/
/-- 1 if so -/
def pn_ (c : Prop) [Decidable c] : Nat := if c then 1 else 0
theorem pn_y {c : Prop} [Decidable c] (h : c) : pn_ c = 1 := by unfold pn_; rw [if_pos h]
theorem pn_n {c : Prop} [Decidable c] (h : ¬ c) : pn_ c = 0 := by unfold pn_; rw [if_neg h]
theorem pn_c {c d : Prop} [Decidable c] [Decidable d] (h : c ↔ d) : pn_ c = pn_ d := by
  by_cases q : c
  · rw [pn_y q, pn_y (h.mp q)]
  · rw [pn_n q, pn_n (fun k => q (h.mpr k))]
theorem pn_1 {c : Prop} [Decidable c] : pn_ c = 1 ↔ c := by
  by_cases q : c
  · rw [pn_y q]; exact ⟨fun _ => q, fun _ => rfl⟩
  · rw [pn_n q]; exact ⟨fun h => absurd h (by decide), fun h => absurd h q⟩
theorem pn_01 {c : Prop} [Decidable c] : (c ∧ pn_ c = 1) ∨ (¬ c ∧ pn_ c = 0) := by
  by_cases q : c
  · exact Or.inl ⟨q, pn_y q⟩
  · exact Or.inr ⟨q, pn_n q⟩
/-- does a segment cross the way ahead, moved to the left (or to the right); a, b: the sides of its ends, k: the turn -/
def CL_ (a b k : Int) : Nat := pn_ ((0 < a ∧ ¬ 0 < b ∧ k < 0) ∨ (¬ 0 < a ∧ 0 < b ∧ 0 < k))
def CR_ (a b k : Int) : Nat := pn_ ((a < 0 ∧ ¬ b < 0 ∧ 0 < k) ∨ (¬ a < 0 ∧ b < 0 ∧ k < 0))
/-- the place lies on the segment (all relative to the place) -/
def on_ (vx vy wx wy : Int) : Nat := pn_ (vx * wy - vy * wx = 0 ∧ ¬ ((0 < vx ∧ 0 < wx) ∨ (vx < 0 ∧ wx < 0)) ∧ ¬ ((0 < vy ∧ 0 < wy) ∨ (vy < 0 ∧ wy < 0)))
/-- the sector of an end -/
def fs_ (dx dy vx vy : Int) : Nat := if 0 < dy then pn_ (0 < vy ∧ ¬ 0 < dx * vy - dy * vx) else if dy < 0 then pn_ (0 < dx * vy - dy * vx ∧ ¬ 0 < vy) else if 0 < dx then 0 else pn_ (0 < vy ∨ (vy = 0 ∧ vx < 0))
theorem fs_p {dx dy vx vy : Int} (h : 0 < dy) : fs_ dx dy vx vy = pn_ (0 < vy ∧ ¬ 0 < dx * vy - dy * vx) := by unfold fs_; rw [if_pos h]
theorem fs_m {dx dy vx vy : Int} (h : dy < 0) : fs_ dx dy vx vy = pn_ (0 < dx * vy - dy * vx ∧ ¬ 0 < vy) := by unfold fs_; rw [if_neg (by omega), if_pos h]
theorem fs_zp {dx dy vx vy : Int} (h : dy = 0) (k : 0 < dx) : fs_ dx dy vx vy = 0 := by unfold fs_; rw [if_neg (by omega), if_neg (by omega), if_pos k]
theorem fs_zn {dx dy vx vy : Int} (h : dy = 0) (k : ¬ 0 < dx) : fs_ dx dy vx vy = pn_ (0 < vy ∨ (vy = 0 ∧ vx < 0)) := by unfold fs_; rw [if_neg (by omega), if_neg (by omega), if_neg k]
def cs_ (dx dy : Int) : Nat := pn_ (0 < dy ∨ (dy = 0 ∧ dx < 0))
def gs_ (dx dy vx vy : Int) : Nat := pn_ (dx * vy - dy * vx = 0 ∧ 0 < dx * vx + dy * vy)
theorem mp_ (x y : Int) : (0 < x → 0 < y → 0 < x * y) ∧ (0 < x → y < 0 → x * y < 0) ∧ (x < 0 → 0 < y → x * y < 0) ∧ (x < 0 → y < 0 → 0 < x * y) :=
  ⟨Int.mul_pos, Int.mul_neg_of_pos_of_neg, Int.mul_neg_of_neg_of_pos, Int.mul_pos_of_neg_of_neg⟩
theorem ml_ (x y : Int) : (0 < x ∧ 0 < y ∧ 0 < x * y) ∨ (0 < x ∧ y ≤ 0 ∧ x * y ≤ 0) ∨ (x ≤ 0 ∧ 0 < y ∧ x * y ≤ 0) ∨ (x ≤ 0 ∧ y ≤ 0 ∧ 0 ≤ x * y) := by
  have h := mp_ x y
  rcases Int.lt_trichotomy x 0 with s | s | s <;> rcases Int.lt_trichotomy y 0 with t | t | t
  · have := h.2.2.2 s t; omega
  · rw [t, Int.mul_zero]; omega
  · have := h.2.2.1 s t; omega
  · rw [s, Int.zero_mul]; omega
  · rw [s, Int.zero_mul]; omega
  · rw [s, Int.zero_mul]; omega
  · have := h.2.1 s t; omega
  · rw [t, Int.mul_zero]; omega
  · have := h.1 s t; omega
theorem mt_ (x y : Int) : (0 < x ∧ 0 < y ∧ 0 < x * y) ∨ (0 < x ∧ y < 0 ∧ x * y < 0) ∨ (x < 0 ∧ 0 < y ∧ x * y < 0) ∨ (x < 0 ∧ y < 0 ∧ 0 < x * y) ∨ ((x = 0 ∨ y = 0) ∧ x * y = 0) := by
  have h := mp_ x y
  rcases Int.lt_trichotomy x 0 with s | s | s <;> rcases Int.lt_trichotomy y 0 with t | t | t
  · have := h.2.2.2 s t; omega
  · rw [t, Int.mul_zero]; omega
  · have := h.2.2.1 s t; omega
  · rw [s, Int.zero_mul]; omega
  · rw [s, Int.zero_mul]; omega
  · rw [s, Int.zero_mul]; omega
  · have := h.2.1 s t; omega
  · rw [t, Int.mul_zero]; omega
  · have := h.1 s t; omega
theorem pl6_ {r p q k y1 y2 a b : Int} (hk : (0 < k ∧ 0 < r) ∨ (k < 0 ∧ r < 0)) (h : r = p - q)
    (h2 : (0 < y1 ∧ 0 < b ∧ 0 < p) ∨ (0 < y1 ∧ b ≤ 0 ∧ p ≤ 0) ∨ (y1 ≤ 0 ∧ 0 < b ∧ p ≤ 0) ∨ (y1 ≤ 0 ∧ b ≤ 0 ∧ 0 ≤ p))
    (h3 : (0 < y2 ∧ 0 < a ∧ 0 < q) ∨ (0 < y2 ∧ a ≤ 0 ∧ q ≤ 0) ∨ (y2 ≤ 0 ∧ 0 < a ∧ q ≤ 0) ∨ (y2 ≤ 0 ∧ a ≤ 0 ∧ 0 ≤ q)) :
    (CL_ y1 y2 k + CL_ a b k + pn_ (0 < y1 ∧ ¬ 0 < a) + pn_ (0 < y2 ∧ ¬ 0 < b)) % 2 = 0 := by
  unfold CL_
  have e1 := pn_01 (c := (0 < y1 ∧ ¬ 0 < y2 ∧ k < 0) ∨ (¬ 0 < y1 ∧ 0 < y2 ∧ 0 < k))
  have e2 := pn_01 (c := (0 < a ∧ ¬ 0 < b ∧ k < 0) ∨ (¬ 0 < a ∧ 0 < b ∧ 0 < k))
  have e3 := pn_01 (c := 0 < y1 ∧ ¬ 0 < a)
  have e4 := pn_01 (c := 0 < y2 ∧ ¬ 0 < b)
  generalize pn_ ((0 < y1 ∧ ¬ 0 < y2 ∧ k < 0) ∨ (¬ 0 < y1 ∧ 0 < y2 ∧ 0 < k)) = n1 at *
  generalize pn_ ((0 < a ∧ ¬ 0 < b ∧ k < 0) ∨ (¬ 0 < a ∧ 0 < b ∧ 0 < k)) = n2 at *
  generalize pn_ (0 < y1 ∧ ¬ 0 < a) = n3 at *
  generalize pn_ (0 < y2 ∧ ¬ 0 < b) = n4 at *
  rcases hk with hk | hk <;> rcases h2 with h2 | h2 | h2 | h2 <;> rcases h3 with h3 | h3 | h3 | h3 <;> omega
theorem pl5_ {e k y1 y2 a b : Int} (he : 0 < e) (hk : ¬ k = 0) (h : e * k = y1 * b - y2 * a) :
    (CL_ y1 y2 k + CL_ a b k + pn_ (0 < y1 ∧ ¬ 0 < a) + pn_ (0 < y2 ∧ ¬ 0 < b)) % 2 = 0 := by
  refine pl6_ (r := e * k) ?_ h (ml_ y1 b) (ml_ y2 a)
  rcases mt_ e k with q | q | q | q | q <;> omega
theorem sgq_ {p q x y : Int} (hp : 0 < p) (hq : 0 < q) (h : p * y = q * x) : (0 < x ↔ 0 < y) ∧ (x < 0 ↔ y < 0) := by
  have h1 := mt_ p y; have h2 := mt_ q x
  rw [h] at h1
  generalize q * x = r at *
  omega
/-- the sides are turned with the way -/
theorem pl0p {dx x : Int} (h : 0 < dx) : (0 < dx * x ↔ 0 < x) ∧ (dx * x < 0 ↔ x < 0) := by
  have := mt_ dx x
  generalize dx * x = r at *
  omega
theorem pl0n {dx x : Int} (h : dx < 0) : (0 < dx * x ↔ x < 0) ∧ (dx * x < 0 ↔ 0 < x) := by
  have := mt_ dx x
  generalize dx * x = r at *
  omega
theorem pl7_ {vx vy wx wy k p q a b : Int} (hk : ¬ k = 0) (h : k = p - q) (h1 : (0 < a ↔ vy < 0) ∧ (a < 0 ↔ 0 < vy)) (h2 : (0 < b ↔ wy < 0) ∧ (b < 0 ↔ 0 < wy))
    (hp : (0 < vx ∧ 0 < wy ∧ 0 < p) ∨ (0 < vx ∧ wy < 0 ∧ p < 0) ∨ (vx < 0 ∧ 0 < wy ∧ p < 0) ∨ (vx < 0 ∧ wy < 0 ∧ 0 < p) ∨ ((vx = 0 ∨ wy = 0) ∧ p = 0))
    (hq : (0 < vy ∧ 0 < wx ∧ 0 < q) ∨ (0 < vy ∧ wx < 0 ∧ q < 0) ∨ (vy < 0 ∧ 0 < wx ∧ q < 0) ∨ (vy < 0 ∧ wx < 0 ∧ 0 < q) ∨ ((vy = 0 ∨ wx = 0) ∧ q = 0)) :
    (CL_ vy wy k + CL_ a b k + pn_ (0 < vy ∨ (vy = 0 ∧ vx < 0)) + pn_ (0 < wy ∨ (wy = 0 ∧ wx < 0))) % 2 = 0 := by
  unfold CL_
  have e1 := pn_01 (c := (0 < vy ∧ ¬ 0 < wy ∧ k < 0) ∨ (¬ 0 < vy ∧ 0 < wy ∧ 0 < k))
  have e2 := pn_01 (c := (0 < a ∧ ¬ 0 < b ∧ k < 0) ∨ (¬ 0 < a ∧ 0 < b ∧ 0 < k))
  have e3 := pn_01 (c := 0 < vy ∨ (vy = 0 ∧ vx < 0))
  have e4 := pn_01 (c := 0 < wy ∨ (wy = 0 ∧ wx < 0))
  generalize pn_ ((0 < vy ∧ ¬ 0 < wy ∧ k < 0) ∨ (¬ 0 < vy ∧ 0 < wy ∧ 0 < k)) = n1 at *
  generalize pn_ ((0 < a ∧ ¬ 0 < b ∧ k < 0) ∨ (¬ 0 < a ∧ 0 < b ∧ 0 < k)) = n2 at *
  generalize pn_ (0 < vy ∨ (vy = 0 ∧ vx < 0)) = n3 at *
  generalize pn_ (0 < wy ∨ (wy = 0 ∧ wx < 0)) = n4 at *
  rcases hp with hp | hp | hp | hp | hp <;> rcases hq with hq | hq | hq | hq | hq <;> omega
theorem pl1_ {dx dy vx vy wx wy : Int} (hd : ¬ (dx = 0 ∧ dy = 0)) (hk : ¬ vx * wy - vy * wx = 0) :
    (CL_ vy wy (vx * wy - vy * wx) + CL_ (dx * vy - dy * vx) (dx * wy - dy * wx) (vx * wy - vy * wx) + fs_ dx dy vx vy + fs_ dx dy wx wy) % 2 = 0 := by
  rcases Int.lt_trichotomy dy 0 with s | s | s
  · rw [fs_m s, fs_m s]
    have h := pl5_ (e := -dy) (k := vx * wy - vy * wx) (y1 := dx * vy - dy * vx) (y2 := dx * wy - dy * wx) (a := vy) (b := wy) (by omega) hk (by grind)
    rw [Nat.add_comm (CL_ (dx * vy - dy * vx) _ _)] at h; exact h
  · rcases Int.lt_trichotomy dx 0 with t | t | t
    · rw [fs_zn s (by omega), fs_zn s (by omega), s, Int.zero_mul, Int.zero_mul, Int.sub_zero, Int.sub_zero]
      exact pl7_ hk rfl (pl0n t) (pl0n t) (mt_ vx wy) (mt_ vy wx)
    · exact absurd ⟨t, s⟩ hd
    · rw [fs_zp s t, fs_zp s t, s, Int.zero_mul, Int.zero_mul, Int.sub_zero, Int.sub_zero]
      have e : CL_ (dx * vy) (dx * wy) (vx * wy - vy * wx) = CL_ vy wy (vx * wy - vy * wx) := by
        unfold CL_; apply pn_c; rw [(pl0p (x := vy) t).1, (pl0p (x := wy) t).1]
      rw [e]; omega
  · rw [fs_p s, fs_p s]
    exact pl5_ (e := dy) s hk (by grind)
theorem CL_0 {a b : Int} : CL_ a b 0 = 0 := pn_n (by omega)
theorem CR_0 {a b : Int} : CR_ a b 0 = 0 := pn_n (by omega)
/-- two ends on the same way from the place -/
theorem pl2_ {dx dy vx vy wx wy : Int} (hk : vx * wy - vy * wx = 0) (h : ((0 < vx ∧ 0 < wx) ∨ (vx < 0 ∧ wx < 0)) ∨ ((0 < vy ∧ 0 < wy) ∨ (vy < 0 ∧ wy < 0))) : fs_ dx dy vx vy = fs_ dx dy wx wy := by
  have key : ((0 < vx ↔ 0 < wx) ∧ (vx < 0 ↔ wx < 0)) ∧ ((0 < vy ↔ 0 < wy) ∧ (vy < 0 ↔ wy < 0)) ∧ ((0 < dx * vy - dy * vx ↔ 0 < dx * wy - dy * wx) ∧ (dx * vy - dy * vx < 0 ↔ dx * wy - dy * wx < 0)) := by
    rcases h with (h | h) | (h | h)
    · exact ⟨by omega, sgq_ h.1 h.2 (by grind), sgq_ h.1 h.2 (by grind)⟩
    · exact ⟨by omega, sgq_ (p := -vx) (q := -wx) (by omega) (by omega) (by grind), sgq_ (p := -vx) (q := -wx) (by omega) (by omega) (by grind)⟩
    · exact ⟨sgq_ h.1 h.2 (by grind), by omega, sgq_ h.1 h.2 (by grind)⟩
    · exact ⟨sgq_ (p := -vy) (q := -wy) (by omega) (by omega) (by grind), by omega, sgq_ (p := -vy) (q := -wy) (by omega) (by omega) (by grind)⟩
  obtain ⟨k1, k2, k3⟩ := key
  have z : vy = 0 ↔ wy = 0 := by omega
  unfold fs_
  split
  · exact pn_c (by rw [k2.1, k3.1])
  · split
    · exact pn_c (by rw [k2.1, k3.1])
    · split
      · rfl
      · exact pn_c (by rw [k2.1, k1.2, z])
theorem on_1 {vx vy wx wy : Int} : on_ vx vy wx wy = 1 ↔ (vx * wy - vy * wx = 0 ∧ ¬ ((0 < vx ∧ 0 < wx) ∨ (vx < 0 ∧ wx < 0)) ∧ ¬ ((0 < vy ∧ 0 < wy) ∨ (vy < 0 ∧ wy < 0))) := pn_1
theorem on_01 {vx vy wx wy : Int} : on_ vx vy wx wy = 1 ∨ on_ vx vy wx wy = 0 := by
  rcases pn_01 (c := (vx * wy - vy * wx = 0 ∧ ¬ ((0 < vx ∧ 0 < wx) ∨ (vx < 0 ∧ wx < 0)) ∧ ¬ ((0 < vy ∧ 0 < wy) ∨ (vy < 0 ∧ wy < 0)))) with h | h
  · exact Or.inl h.2
  · exact Or.inr h.2
/-- a segment along the way, over the place -/
theorem pl3_ {dx dy vx vy wx wy : Int} (hd : ¬ (dx = 0 ∧ dy = 0)) (ha : dx * vy - dy * vx = 0) (hb : dx * wy - dy * wx = 0) (hv : ¬ (vx = 0 ∧ vy = 0)) (hw : ¬ (wx = 0 ∧ wy = 0))
    (hx : ¬ ((0 < vx ∧ 0 < wx) ∨ (vx < 0 ∧ wx < 0))) (hy : ¬ ((0 < vy ∧ 0 < wy) ∨ (vy < 0 ∧ wy < 0))) : (cs_ dx dy + fs_ dx dy vx vy + fs_ dx dy wx wy) % 2 = 0 := by
  unfold cs_
  rcases Int.lt_trichotomy dy 0 with s | s | s
  · rw [fs_m s, fs_m s, pn_n (by omega), pn_n (by omega), pn_n (by omega)]
  · have v0 : vy = 0 := by
      rw [s, Int.zero_mul, Int.sub_zero] at ha
      rcases Int.mul_eq_zero.mp ha with q | q <;> omega
    have w0 : wy = 0 := by
      rw [s, Int.zero_mul, Int.sub_zero] at hb
      rcases Int.mul_eq_zero.mp hb with q | q <;> omega
    by_cases t : 0 < dx
    · rw [fs_zp s t, fs_zp s t, pn_n (by omega)]
    · rw [fs_zn s t, fs_zn s t, pn_y (by omega)]
      rcases Int.lt_trichotomy vx 0 with u | u | u
      · rw [pn_y (by omega), pn_n (by omega)]
      · omega
      · rw [pn_n (by omega), pn_y (by omega)]
  · rw [fs_p s, fs_p s, pn_y (Or.inl s)]
    have v0 : ¬ vy = 0 := fun q => by
      rw [q, Int.mul_zero] at ha
      have : dy * vx = 0 := by omega
      rcases Int.mul_eq_zero.mp this with q | q <;> omega
    have w0 : ¬ wy = 0 := fun q => by
      rw [q, Int.mul_zero] at hb
      have : dy * wx = 0 := by omega
      rcases Int.mul_eq_zero.mp this with q | q <;> omega
    rcases Int.lt_trichotomy vy 0 with t | t | t
    · rw [pn_n (by omega), pn_y (by omega)]
    · exact absurd t v0
    · rw [pn_y (by omega), pn_n (by omega)]
/-- the way to the right and the way ahead, moved to the left: one segment -/
theorem pl_ {dx dy vx vy wx wy : Int} (hd : ¬ (dx = 0 ∧ dy = 0)) (ho : on_ vx vy wx wy = 1 → dx * vy - dy * vx = 0 ∧ dx * wy - dy * wx = 0 ∧ ¬ (vx = 0 ∧ vy = 0) ∧ ¬ (wx = 0 ∧ wy = 0)) :
    (CL_ vy wy (vx * wy - vy * wx) + CL_ (dx * vy - dy * vx) (dx * wy - dy * wx) (vx * wy - vy * wx) + cs_ dx dy * on_ vx vy wx wy + (fs_ dx dy vx vy + fs_ dx dy wx wy)) % 2 = 0 := by
  by_cases hk : vx * wy - vy * wx = 0
  · rw [hk, CL_0, CL_0]
    rcases on_01 (vx := vx) (vy := vy) (wx := wx) (wy := wy) with h | h
    · obtain ⟨a1, a2, a3, a4⟩ := ho h
      have h3 := pl3_ hd a1 a2 a3 a4 (on_1.mp h).2.1 (on_1.mp h).2.2
      rw [h]; omega
    · have hs : ((0 < vx ∧ 0 < wx) ∨ (vx < 0 ∧ wx < 0)) ∨ ((0 < vy ∧ 0 < wy) ∨ (vy < 0 ∧ wy < 0)) := by
        refine Decidable.byContradiction (fun q => ?_)
        have : on_ vx vy wx wy = 1 := on_1.mpr ⟨hk, fun z => q (Or.inl z), fun z => q (Or.inr z)⟩
        omega
      rw [h, pl2_ (dx := dx) (dy := dy) hk hs]; omega
  · have h : on_ vx vy wx wy = 0 := by
      rcases on_01 (vx := vx) (vy := vy) (wx := wx) (wy := wy) with h | h
      · exact absurd (on_1.mp h).1 hk
      · exact h
    rw [h]
    have := pl1_ hd hk
    omega
theorem pr5_ {M r p q k m n a b : Int} (hM : 0 < M) (hk : (0 < M ∧ 0 < k ∧ 0 < r) ∨ (0 < M ∧ k < 0 ∧ r < 0) ∨ (M < 0 ∧ 0 < k ∧ r < 0) ∨ (M < 0 ∧ k < 0 ∧ 0 < r) ∨ ((M = 0 ∨ k = 0) ∧ r = 0)) (h : r = p - q) (hab : ¬ (a = 0 ∧ b = 0))
    (hp : (0 < m ∧ 0 < b ∧ 0 < p) ∨ (0 < m ∧ b < 0 ∧ p < 0) ∨ (m < 0 ∧ 0 < b ∧ p < 0) ∨ (m < 0 ∧ b < 0 ∧ 0 < p) ∨ ((m = 0 ∨ b = 0) ∧ p = 0))
    (hq : (0 < n ∧ 0 < a ∧ 0 < q) ∨ (0 < n ∧ a < 0 ∧ q < 0) ∨ (n < 0 ∧ 0 < a ∧ q < 0) ∨ (n < 0 ∧ a < 0 ∧ 0 < q) ∨ ((n = 0 ∨ a = 0) ∧ q = 0)) :
    (CL_ a b k + CR_ a b k + (pn_ (a = 0 ∧ 0 < m) + pn_ (b = 0 ∧ 0 < n))) % 2 = 0 := by
  unfold CL_ CR_
  have e1 := pn_01 (c := (0 < a ∧ ¬ 0 < b ∧ k < 0) ∨ (¬ 0 < a ∧ 0 < b ∧ 0 < k))
  have e2 := pn_01 (c := (a < 0 ∧ ¬ b < 0 ∧ 0 < k) ∨ (¬ a < 0 ∧ b < 0 ∧ k < 0))
  have e3 := pn_01 (c := a = 0 ∧ 0 < m)
  have e4 := pn_01 (c := b = 0 ∧ 0 < n)
  generalize pn_ ((0 < a ∧ ¬ 0 < b ∧ k < 0) ∨ (¬ 0 < a ∧ 0 < b ∧ 0 < k)) = n1 at *
  generalize pn_ ((a < 0 ∧ ¬ b < 0 ∧ 0 < k) ∨ (¬ a < 0 ∧ b < 0 ∧ k < 0)) = n2 at *
  generalize pn_ (a = 0 ∧ 0 < m) = n3 at *
  generalize pn_ (b = 0 ∧ 0 < n) = n4 at *
  rcases hp with hp | hp | hp | hp | hp <;> rcases hq with hq | hq | hq | hq | hq <;> omega
theorem sq_p {dx dy : Int} (hd : ¬ (dx = 0 ∧ dy = 0)) : 0 < dx * dx + dy * dy := by
  have h1 := mt_ dx dx; have h2 := mt_ dy dy
  generalize dx * dx = p at *; generalize dy * dy = q at *
  omega
theorem sgz3 {p q x y : Int} (hp : 0 < p) (hq : 0 < q) (h : p * x = q * y) : (0 < x ↔ 0 < y) ∧ (x < 0 ↔ y < 0) ∧ (x = 0 ↔ y = 0) := by
  have h1 := mt_ p x; have h2 := mt_ q y
  rw [h] at h1
  generalize q * y = r at *
  omega
/-- the ends of a segment along the way: on which side of the place -/
theorem sgw_ {M m d v : Int} (hM : 0 < M) (h : M * v = m * d) : (0 < m → (0 < v ↔ 0 < d) ∧ (v < 0 ↔ d < 0) ∧ (v = 0 ↔ d = 0)) ∧ (m < 0 → (0 < v ↔ d < 0) ∧ (v < 0 ↔ 0 < d) ∧ (v = 0 ↔ d = 0)) ∧ (m = 0 → v = 0) := by
  refine ⟨fun hm => sgz3 hM hm h, fun hm => ?_, fun hm => ?_⟩
  · have := sgz3 (p := M) (q := -m) (x := v) (y := -d) hM (by omega) (by rw [h, Int.neg_mul_neg])
    omega
  · rw [hm, Int.zero_mul] at h
    rcases Int.mul_eq_zero.mp h with q | q <;> omega
theorem pr6_ {dx dy vx vy wx wy m n : Int} {O : Nat} (hd : ¬ (dx = 0 ∧ dy = 0)) (hv : ¬ (vx = 0 ∧ vy = 0)) (hw : ¬ (wx = 0 ∧ wy = 0))
    (a1 : (0 < m → (0 < vx ↔ 0 < dx) ∧ (vx < 0 ↔ dx < 0) ∧ (vx = 0 ↔ dx = 0)) ∧ (m < 0 → (0 < vx ↔ dx < 0) ∧ (vx < 0 ↔ 0 < dx) ∧ (vx = 0 ↔ dx = 0)) ∧ (m = 0 → vx = 0))
    (a2 : (0 < m → (0 < vy ↔ 0 < dy) ∧ (vy < 0 ↔ dy < 0) ∧ (vy = 0 ↔ dy = 0)) ∧ (m < 0 → (0 < vy ↔ dy < 0) ∧ (vy < 0 ↔ 0 < dy) ∧ (vy = 0 ↔ dy = 0)) ∧ (m = 0 → vy = 0))
    (a3 : (0 < n → (0 < wx ↔ 0 < dx) ∧ (wx < 0 ↔ dx < 0) ∧ (wx = 0 ↔ dx = 0)) ∧ (n < 0 → (0 < wx ↔ dx < 0) ∧ (wx < 0 ↔ 0 < dx) ∧ (wx = 0 ↔ dx = 0)) ∧ (n = 0 → wx = 0))
    (a4 : (0 < n → (0 < wy ↔ 0 < dy) ∧ (wy < 0 ↔ dy < 0) ∧ (wy = 0 ↔ dy = 0)) ∧ (n < 0 → (0 < wy ↔ dy < 0) ∧ (wy < 0 ↔ 0 < dy) ∧ (wy = 0 ↔ dy = 0)) ∧ (n = 0 → wy = 0))
    (o : (O = 1 ∧ ¬ ((0 < vx ∧ 0 < wx) ∨ (vx < 0 ∧ wx < 0)) ∧ ¬ ((0 < vy ∧ 0 < wy) ∨ (vy < 0 ∧ wy < 0))) ∨ (O = 0 ∧ (((0 < vx ∧ 0 < wx) ∨ (vx < 0 ∧ wx < 0)) ∨ ((0 < vy ∧ 0 < wy) ∨ (vy < 0 ∧ wy < 0))))) :
    (O + (pn_ (0 < m) + pn_ (0 < n))) % 2 = 0 := by
  rcases Int.lt_trichotomy m 0 with s | s | s
  · have b1 := a1.2.1 s; have b2 := a2.2.1 s
    clear a1 a2
    rw [pn_n (by omega)]
    rcases Int.lt_trichotomy n 0 with t | t | t
    · have b3 := a3.2.1 t; have b4 := a4.2.1 t
      clear a3 a4
      rw [pn_n (by omega)]
      rcases o with o | o
      · exfalso
        rcases Int.lt_trichotomy dx 0 with u | u | u <;> rcases Int.lt_trichotomy dy 0 with z | z | z <;> omega
      · omega
    · exact absurd ⟨a3.2.2 t, a4.2.2 t⟩ hw
    · have b3 := a3.1 t; have b4 := a4.1 t
      clear a3 a4
      rw [pn_y t]
      rcases o with o | o
      · omega
      · exfalso; omega
  · exact absurd ⟨a1.2.2 s, a2.2.2 s⟩ hv
  · have b1 := a1.1 s; have b2 := a2.1 s
    clear a1 a2
    rw [pn_y s]
    rcases Int.lt_trichotomy n 0 with t | t | t
    · have b3 := a3.2.1 t; have b4 := a4.2.1 t
      clear a3 a4
      rw [pn_n (by omega)]
      rcases o with o | o
      · omega
      · exfalso; omega
    · exact absurd ⟨a3.2.2 t, a4.2.2 t⟩ hw
    · have b3 := a3.1 t; have b4 := a4.1 t
      clear a3 a4
      rw [pn_y t]
      rcases o with o | o
      · exfalso
        rcases Int.lt_trichotomy dx 0 with u | u | u <;> rcases Int.lt_trichotomy dy 0 with z | z | z <;> omega
      · omega
/-- to the left and to the right: one segment -/
theorem pr_ {dx dy vx vy wx wy : Int} (hd : ¬ (dx = 0 ∧ dy = 0)) (ho : on_ vx vy wx wy = 1 → dx * vy - dy * vx = 0 ∧ dx * wy - dy * wx = 0 ∧ ¬ (vx = 0 ∧ vy = 0) ∧ ¬ (wx = 0 ∧ wy = 0)) :
    (CL_ (dx * vy - dy * vx) (dx * wy - dy * wx) (vx * wy - vy * wx) + CR_ (dx * vy - dy * vx) (dx * wy - dy * wx) (vx * wy - vy * wx) + on_ vx vy wx wy + (gs_ dx dy vx vy + gs_ dx dy wx wy)) % 2 = 0 := by
  have hM := sq_p hd
  by_cases hab : dx * vy - dy * vx = 0 ∧ dx * wy - dy * wx = 0
  · obtain ⟨ha, hb⟩ := hab
    have v1 : (dx * dx + dy * dy) * vx = (dx * vx + dy * vy) * dx := by grind
    have v2 : (dx * dx + dy * dy) * vy = (dx * vx + dy * vy) * dy := by grind
    have w1 : (dx * dx + dy * dy) * wx = (dx * wx + dy * wy) * dx := by grind
    have w2 : (dx * dx + dy * dy) * wy = (dx * wx + dy * wy) * dy := by grind
    have hk : vx * wy - vy * wx = 0 := by
      have : (dx * dx + dy * dy) * (vx * wy - vy * wx) = 0 := by grind
      rcases Int.mul_eq_zero.mp this with q | q
      · omega
      · exact q
    have hn0 : on_ 0 0 wx wy = 1 := on_1.mpr ⟨by omega, by omega, by omega⟩
    have hn1 : on_ vx vy 0 0 = 1 := on_1.mpr ⟨by omega, by omega, by omega⟩
    have hv : ¬ (vx = 0 ∧ vy = 0) := fun q => by
      obtain ⟨q1, q2⟩ := q; subst q1; subst q2; exact (ho hn0).2.2.1 ⟨rfl, rfl⟩
    have hw : ¬ (wx = 0 ∧ wy = 0) := fun q => by
      obtain ⟨q1, q2⟩ := q; subst q1; subst q2; exact (ho hn1).2.2.2 ⟨rfl, rfl⟩
    have o : (on_ vx vy wx wy = 1 ∧ ¬ ((0 < vx ∧ 0 < wx) ∨ (vx < 0 ∧ wx < 0)) ∧ ¬ ((0 < vy ∧ 0 < wy) ∨ (vy < 0 ∧ wy < 0))) ∨ (on_ vx vy wx wy = 0 ∧ (((0 < vx ∧ 0 < wx) ∨ (vx < 0 ∧ wx < 0)) ∨ ((0 < vy ∧ 0 < wy) ∨ (vy < 0 ∧ wy < 0)))) := by
      rcases on_01 (vx := vx) (vy := vy) (wx := wx) (wy := wy) with z | z
      · exact Or.inl ⟨z, (on_1.mp z).2⟩
      · refine Or.inr ⟨z, Decidable.byContradiction (fun q => ?_)⟩
        have : on_ vx vy wx wy = 1 := on_1.mpr ⟨hk, fun w => q (Or.inl w), fun w => q (Or.inr w)⟩
        omega
    have fin := pr6_ hd hv hw (sgw_ hM v1) (sgw_ hM v2) (sgw_ hM w1) (sgw_ hM w2) o
    unfold gs_
    rw [ha, hb, hk, CL_0, CR_0]
    have g1 : pn_ ((0 : Int) = 0 ∧ 0 < dx * vx + dy * vy) = pn_ (0 < dx * vx + dy * vy) := pn_c ⟨fun h => h.2, fun h => ⟨rfl, h⟩⟩
    have g2 : pn_ ((0 : Int) = 0 ∧ 0 < dx * wx + dy * wy) = pn_ (0 < dx * wx + dy * wy) := pn_c ⟨fun h => h.2, fun h => ⟨rfl, h⟩⟩
    rw [g1, g2]; omega
  · have h0 : on_ vx vy wx wy = 0 := by
      rcases on_01 (vx := vx) (vy := vy) (wx := wx) (wy := wy) with h | h
      · exact absurd ⟨(ho h).1, (ho h).2.1⟩ hab
      · exact h
    rw [h0]; unfold gs_
    exact pr5_ (M := dx * dx + dy * dy) (r := (dx * dx + dy * dy) * (vx * wy - vy * wx)) (p := (dx * vx + dy * vy) * (dx * wy - dy * wx)) (q := (dx * wx + dy * wy) * (dx * vy - dy * vx)) hM (mt_ _ _) (by grind) hab (mt_ _ _) (mt_ _ _)
