def cq_ (x y : Nat) : Int32 := if x < y then -1 else if y < x then 1 else 0
theorem cq_lt {a b c d : Nat} (hb : 0 < b) (hd : 0 < d) (h : a / b < c / d) : a * d < c * b := by
  have h1 : a < b * (a / b + 1) := Nat.lt_mul_div_succ a hb
  have h2 : d * (c / d) ≤ c := Nat.mul_div_le c d
  calc a * d < b * (a / b + 1) * d := Nat.mul_lt_mul_of_pos_right h1 hd
    _ ≤ b * (c / d) * d := Nat.mul_le_mul_right _ (Nat.mul_le_mul_left _ h)
    _ = (d * (c / d)) * b := by grind
    _ ≤ c * b := Nat.mul_le_mul_right _ h2
theorem cq_st {a b c d : Nat} (h : a / b = c / d) : cq_ (a * d) (c * b) = cq_ (a % b * d) (c % d * b) := by
  have e1 : a * d = b * (a / b) * d + a % b * d := by rw [← Nat.add_mul, Nat.div_add_mod]
  have e2 : c * b = d * (c / d) * b + c % d * b := by rw [← Nat.add_mul, Nat.div_add_mod]
  have e3 : d * (c / d) * b = b * (a / b) * d := by rw [h]; grind
  rw [e3] at e2
  unfold cq_
  rw [e1, e2]; simp only [Nat.add_lt_add_iff_left]
theorem cq_n (x y : Nat) : cq_ x y = - cq_ y x := by
  unfold cq_
  by_cases h1 : x < y
  · rw [if_pos h1, if_neg (by omega), if_pos h1]
  · by_cases h2 : y < x
    · rw [if_neg h1, if_pos h2, if_pos h2]; decide
    · rw [if_neg h1, if_neg h2, if_neg h2, if_neg h1]; decide
theorem cq_l {x y : Nat} (h : x < y) : cq_ x y = -1 := by unfold cq_; rw [if_pos h]
theorem cq_g {x y : Nat} (h : y < x) : cq_ x y = 1 := by unfold cq_; rw [if_neg (by omega), if_pos h]
theorem cq_e (x : Nat) : cq_ x x = 0 := by unfold cq_; rw [if_neg (by omega), if_neg (by omega)]
theorem cq_i0 {x y : Nat} : cq_ x y = 0 ↔ x = y := by
  constructor
  · intro h
    rcases Nat.lt_trichotomy x y with q | q | q
    · rw [cq_l q] at h; exact absurd h (by decide)
    · exact q
    · rw [cq_g q] at h; exact absurd h (by decide)
  · intro h; rw [h]; exact cq_e y
theorem cq_il {x y : Nat} : 0 ≤ cq_ x y ↔ y ≤ x := by
  constructor
  · intro h
    rcases Nat.lt_or_ge x y with q | q
    · rw [cq_l q] at h; exact absurd h (by decide)
    · exact q
  · intro h
    rcases Nat.lt_or_ge y x with q | q
    · rw [cq_g q]; decide
    · rw [show x = y by omega, cq_e]; decide
/-- one round of comparing two fractions -/
theorem er_l {a b c d : Nat} {sg tg : Int32} (hb : 0 < b) (hd : 0 < d) (h : tg = sg * cq_ (a * d) (c * b)) (k : a / b < c / d) : -sg = tg := by
  rw [h, cq_l (cq_lt hb hd k), Int32.mul_neg, Int32.mul_one]
theorem er_g {a b c d : Nat} {sg tg : Int32} (hb : 0 < b) (hd : 0 < d) (h : tg = sg * cq_ (a * d) (c * b)) (k : c / d < a / b) : sg = tg := by
  rw [h, cq_g (cq_lt hd hb k), Int32.mul_one]
theorem er_0 {a b c d : Nat} {sg tg : Int32} (h : tg = sg * cq_ (a * d) (c * b)) (k : a / b = c / d) (h1 : a % b = 0) (h2 : c % d = 0) : 0 = tg := by
  rw [h, cq_st k, h1, h2, Nat.zero_mul, Nat.zero_mul, cq_e, Int32.mul_zero]
theorem er_1 {a b c d : Nat} {sg tg : Int32} (hb : 0 < b) (h : tg = sg * cq_ (a * d) (c * b)) (k : a / b = c / d) (h1 : a % b = 0) (h2 : ¬ c % d = 0) : -sg = tg := by
  rw [h, cq_st k, h1, Nat.zero_mul, cq_l (Nat.mul_pos (by omega) hb), Int32.mul_neg, Int32.mul_one]
theorem er_2 {a b c d : Nat} {sg tg : Int32} (hd : 0 < d) (h : tg = sg * cq_ (a * d) (c * b)) (k : a / b = c / d) (h1 : ¬ a % b = 0) (h2 : c % d = 0) : sg = tg := by
  rw [h, cq_st k, h2, Nat.zero_mul, cq_g (Nat.mul_pos (by omega) hd), Int32.mul_one]
theorem er_3 {a b c d : Nat} {sg tg : Int32} (h : tg = sg * cq_ (a * d) (c * b)) (k : a / b = c / d) : tg = -sg * cq_ (b * (c % d)) (d * (a % b)) := by
  rw [h, cq_st k, cq_n, Nat.mul_comm b, Nat.mul_comm d, Int32.mul_neg, Int32.neg_mul]
/-- the reference's cuts -/
def fl2_ (ov un : Nat → Int64) (F : List (Nat × Nat)) : Prop := ∀ i, i < F.length → ov i = lN (F.getD i (0, 1)).1 ∧ un i = lN (F.getD i (0, 1)).2
def fok_ (F : List (Nat × Nat)) : Prop := ∀ q ∈ F, q.1 < 2 ^ 63 ∧ 0 < q.2 ∧ q.2 < 2 ^ 63
def fcm_ (x y : Nat × Nat) : Int32 := cq_ (x.1 * y.2) (y.1 * x.2)
def fk_ (F : List (Nat × Nat)) (x : Nat × Nat) : Nat → Option Nat
  | 0 => some 0
  | k + 1 => if fcm_ x (F.getD k (0, 1)) = 0 then none else if fcm_ x (F.getD k (0, 1)) < 0 then fk_ F x k else some (k + 1)
def ins_ (F : List (Nat × Nat)) (x : Nat × Nat) : List (Nat × Nat) := match fk_ F x F.length with | none => F | some k => F.take k ++ x :: F.drop k
theorem ins_n {F : List (Nat × Nat)} {x : Nat × Nat} (h : fk_ F x F.length = none) : ins_ F x = F := by unfold ins_; rw [h]
theorem ins_s {F : List (Nat × Nat)} {x : Nat × Nat} {k : Nat} (h : fk_ F x F.length = some k) : ins_ F x = F.take k ++ x :: F.drop k := by unfold ins_; rw [h]
theorem ins_m {F : List (Nat × Nat)} {x q : Nat × Nat} (h : q ∈ ins_ F x) : q = x ∨ q ∈ F := by
  unfold ins_ at h; split at h
  · exact Or.inr h
  · rcases List.mem_append.mp h with k | k
    · exact Or.inr (List.mem_of_mem_take k)
    · rcases List.mem_cons.mp k with k | k
      · exact Or.inl k
      · exact Or.inr (List.mem_of_mem_drop k)
theorem ins_f {F : List (Nat × Nat)} {x : Nat × Nat} (h : fok_ F) (hx : x.1 < 2 ^ 63 ∧ 0 < x.2 ∧ x.2 < 2 ^ 63) : fok_ (ins_ F x) := fun q hq => by
  rcases ins_m hq with e | e
  · rw [e]; exact hx
  · exact h q e
theorem ins_l {F : List (Nat × Nat)} {x : Nat × Nat} : (ins_ F x).length ≤ F.length + 1 := by
  unfold ins_; split
  · omega
  · rw [List.length_append, List.length_cons, List.length_take, List.length_drop]; omega
theorem f2_m {F : List (Nat × Nat)} {i : Nat} (h : i < F.length) : F.getD i (0, 1) ∈ F := by simp [List.getD, List.getElem?_eq_getElem h]
/-- shifted from i up to n -/
def shf_ (f : Nat → Int64) (i n : Nat) : Nat → Int64 := fun j => if i < j ∧ j ≤ n then f (j - 1) else f j
theorem shf_0 {f : Nat → Int64} {n : Nat} : shf_ f n n = f := by funext j; unfold shf_; rw [if_neg (by omega)]
theorem shf_e {f : Nat → Int64} {i n : Nat} : shf_ f i n i = f i := by unfold shf_; rw [if_neg (by omega)]
theorem shf_p {f : Nat → Int64} {i n : Nat} : shf_ f (i + 1) n i = f i := by unfold shf_; rw [if_neg (by omega)]
theorem shf_s {f : Nat → Int64} {i n : Nat} (h : i + 1 ≤ n) : vp_updL (shf_ f (i + 1) n) (i + 1) (f i) = shf_ f i n := by
  funext j; unfold vp_updL shf_
  by_cases e : j = i + 1
  · rw [if_pos e, if_pos (by omega), e]; rfl
  · rw [if_neg e]
    by_cases q : i + 1 < j ∧ j ≤ n
    · rw [if_pos q, if_pos (by omega)]
    · rw [if_neg q, if_neg (by omega)]
theorem shf_l {f : Nat → Int64} {v : Int64} {F : List (Nat × Nat)} {k : Nat} {x : Nat × Nat} {pr : Nat × Nat → Nat} (h : ∀ i, i < F.length → f i = lN (pr (F.getD i (0, 1)))) (hk : k ≤ F.length) (hv : v = lN (pr x)) :
    ∀ i, i < (F.take k ++ x :: F.drop k).length → vp_updL (shf_ f k F.length) k v i = lN (pr ((F.take k ++ x :: F.drop k).getD i (0, 1))) := by
  intro i hi
  have tl : (F.take k).length = k := by rw [List.length_take]; omega
  rw [List.length_append, List.length_cons, tl, List.length_drop] at hi
  unfold vp_updL shf_
  rcases Nat.lt_trichotomy i k with q | q | q
  · have e : (F.take k ++ x :: F.drop k).getD i (0, 1) = F.getD i (0, 1) := by
      simp only [List.getD]; rw [List.getElem?_append_left (by omega), List.getElem?_take_of_lt q]
    rw [if_neg (by omega), if_neg (by omega), e]; exact h i (by omega)
  · subst q
    have e : (F.take i ++ x :: F.drop i).getD i (0, 1) = x := by
      simp only [List.getD]; rw [List.getElem?_append_right (by omega), tl, Nat.sub_self]; rfl
    rw [if_pos rfl, e]; exact hv
  · have e : (F.take k ++ x :: F.drop k).getD i (0, 1) = F.getD (i - 1) (0, 1) := by
      simp only [List.getD]; rw [List.getElem?_append_right (by omega), tl, show i - k = (i - 1 - k) + 1 by omega, List.getElem?_cons_succ, List.getElem?_drop, show k + (i - 1 - k) = i - 1 by omega]
    rw [if_neg (by omega), if_pos (by omega), e]; exact h (i - 1) (by omega)
theorem lc_e {x y : Nat} (hx : x < 2 ^ 63) (hy : y < 2 ^ 63) : lg_cmp (lN x) (lN y) = 0 ↔ x = y := by rw [lg_cmp_eq, pk_lEQ hx hy]
theorem lc_g {x y : Nat} (hx : x < 2 ^ 63) (hy : y < 2 ^ 63) : 0 ≤ lg_cmp (lN x) (lN y) ↔ y ≤ x := by rw [lg_cmp_ge, pk_lLE hy hx]
theorem mk_s {mx : Nat → Int32} {i : Nat} {d : Int32} (h : ¬ mx i < d) : upd mx i (mx i) = mx := by
  funext j; unfold upd; split
  · rename_i e; rw [e]
  · rfl
theorem mk_a {mx : Nat → Int32} {a b d : Int32} (ha : t3_ a) (hb : t3_ b) (c : mat_ mx a b ≤ d) : upd mx (3 * a + b).toNatClampNeg d = rai_ mx a b d := by
  unfold rai_
  by_cases h : mat_ mx a b < d
  · rw [if_pos h]
  · rw [if_neg h]
    have e : mat_ mx a b = d := by
      rw [Int32.le_iff_toInt_le] at c; rw [Int32.lt_iff_toInt_lt] at h; exact Int32.toInt_inj.mp (by omega)
    funext j; unfold upd; split
    · rename_i q; rw [← e, q]; rfl
    · rfl
theorem mk_b {mx : Nat → Int32} {a b d : Int32} (c : ¬ mat_ mx a b ≤ d) : upd mx (3 * a + b).toNatClampNeg (mat_ mx a b) = rai_ mx a b d := by
  unfold rai_
  rw [if_neg (fun h => c (Int32.le_of_lt h))]
  funext j; unfold upd; split
  · rename_i q; rw [q]; rfl
  · rfl
theorem m1s_ (k : Nat) : nI k = nI (k + 1) - 1 := (pk_sub (a := k + 1) (b := 1) (by omega)).symm
