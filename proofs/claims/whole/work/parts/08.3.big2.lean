theorem tn1_ {x C d c : Int} (e : x + C = d + c * 16777216) (h1 : -8388608 ≤ d) (h2 : d < 8388608) (hx : -33554432 ≤ x ∧ x ≤ 33554432) (hC : -4 ≤ C ∧ C ≤ 4) : -4 ≤ c ∧ c ≤ 4 := by omega
theorem tn2_ {C d c : Int} (e : 0 + C = d + c * 16777216) (h1 : -8388608 ≤ d) (h2 : d < 8388608) (hC : -4 ≤ C ∧ C ≤ 4) : c = 0 := by omega
/-- settling small numbers: one more digit at most -/
theorem stl_w {z : Nat → Int64} {a L : Nat} (hz : lm_ z a L 33554432) : ∀ n, n ≤ 16 → (-4 ≤ (stl_ z a n).2.toInt ∧ (stl_ z a n).2.toInt ≤ 4) ∧ (L + 1 ≤ n → (stl_ z a n).2 = 0) ∧ (∀ k, L + 1 ≤ k → k < n → (stl_ z a n).1 (a + k) = 0)
  | 0, _ => ⟨by show -4 ≤ (0 : Int64).toInt ∧ (0 : Int64).toInt ≤ 4; decide, fun h => absurd h (by omega), fun k _ h => absurd h (Nat.not_lt_zero _)⟩
  | n + 1, hn => by
    obtain ⟨i3, i5, i6⟩ := stl_w hz n (by omega)
    have hzn := hz n (by omega)
    have hs : (stl_ z a n).1 (a + n) = z (a + n) := stl_f n (a + n) (Or.inr (Nat.le_refl _))
    have ev : ((stl_ z a n).1 (a + n) + (stl_ z a n).2).toInt = (z (a + n)).toInt + (stl_ z a n).2.toInt := by rw [hs]; exact jad (by omega) (by omega)
    obtain ⟨d, c, ed, ec, evd, hd1, hd2⟩ := stp_ (v := (stl_ z a n).1 (a + n) + (stl_ z a n).2) (by rw [ev]; omega)
    have en : ∀ k, k < n → (stl_ z a (n + 1)).1 (a + k) = (stl_ z a n).1 (a + k) := fun k hk => by rw [stl_]; exact pk_uLn (by omega)
    have e9 : (stl_ z a (n + 1)).1 (a + n) = ((stl_ z a n).1 (a + n) + (stl_ z a n).2 + 8388608 &&& 16777215) - 8388608 := by rw [stl_]; exact pk_uLs
    have e8 : (stl_ z a (n + 1)).2.toInt = c := ec
    have e7 : ((stl_ z a (n + 1)).1 (a + n)).toInt = d := by rw [e9]; exact ed
    rw [ev] at evd
    have z0 : (0 : Int64).toInt = 0 := by decide
    refine ⟨by rw [e8]; exact tn1_ evd hd1 hd2 hzn.1 i3, ?_, ?_⟩
    · intro h
      rw [hzn.2 (by omega), z0] at evd
      apply Int64.toInt_inj.mp; rw [e8, z0]; exact tn2_ evd hd1 hd2 i3
    · intro k h1 h2
      rcases Nat.lt_or_ge k n with q | q
      · rw [en k q]; exact i6 k h1 q
      · have : k = n := by omega
        subst this
        rw [hzn.2 (by omega), i5 (by omega), z0] at evd
        apply Int64.toInt_inj.mp; rw [e7, z0]; exact sn4_ evd hd1 hd2
theorem vl_s (z : Nat → Int64) (a n : Nat) : vl_ z a (n + 1) = vl_ z a n + (z (a + n)).toInt * 16777216 ^ n := rfl
theorem vl_u {z : Nat → Int64} {a m : Nat} {x : Int64} : ∀ n, vl_ (vp_updL z (a + m) x) a n = vl_ z a n + (if m < n then (x.toInt - (z (a + m)).toInt) * 16777216 ^ m else 0)
  | 0 => by simp [vl_]
  | n + 1 => by
    rw [vl_, vl_, vl_u n]
    by_cases h : m = n
    · subst h; rw [pk_uLs, if_neg (by omega), if_pos (by omega), Int.sub_mul]; omega
    · rw [pk_uLn (by omega)]
      by_cases h2 : m < n
      · rw [if_pos h2, if_pos (by omega)]; omega
      · rw [if_neg h2, if_neg (by omega)]; omega
theorem vl_z {z : Nat → Int64} {a L : Nat} : ∀ n, L ≤ n → (∀ k, L ≤ k → k < n → z (a + k) = 0) → vl_ z a n = vl_ z a L
  | 0, h, _ => by rw [show L = 0 by omega]
  | n + 1, h, hz => by
    rcases Nat.lt_or_ge n L with q | q
    · rw [show L = n + 1 by omega]
    · rw [vl_, vl_z n q (fun k h1 h2 => hz k h1 (by omega)), hz n q (by omega)]
      have z0 : (0 : Int64).toInt = 0 := by decide
      rw [z0]; omega
theorem cl_f {z : Nat → Int64} {a n j : Nat} (h : j < a ∨ a + n ≤ j) : cl_ z a n j = z j := by unfold cl_; rw [if_neg (by omega)]
theorem cl_i {z : Nat → Int64} {a n k : Nat} (h : k < n) : cl_ z a n (a + k) = 0 := by unfold cl_; rw [if_pos (by omega)]
theorem lm_c {z : Nat → Int64} {a : Nat} : lm_ (cl_ z a 16) a 0 0 := fun k hk => by
  rw [cl_i hk]; exact ⟨by decide, fun _ => rfl⟩
theorem vl_c {z : Nat → Int64} {a : Nat} : vl_ (cl_ z a 16) a 16 = 0 := by
  rw [vl_z (L := 0) 16 (Nat.zero_le _) (fun k _ hk => cl_i hk)]; rfl
/-- a long number set to v -/
theorem set_b {z : Nat → Int64} {r : Nat} {v : Int64} : bg_ (set_ z r v) r 4 v.toInt := by
  obtain ⟨Z, eZ⟩ : ∃ Z, Z = vp_updL (vp_updL (vp_updL (cl_ z (16 * r) 16) (16 * r + 0) (v &&& 16777215)) (16 * r + 1) ((v >>> ((24 : Int32).toInt64 &&& 63)) &&& 16777215)) (16 * r + 2) (v >>> ((48 : Int32).toInt64 &&& 63)) := ⟨_, rfl⟩
  have m0 := jmask v
  have m1 := jmask (v >>> ((24 : Int32).toInt64 &&& 63))
  have s1 : (v >>> ((24 : Int32).toInt64 &&& 63)).toInt = v.toInt / 16777216 := by rw [jshr (d := 24) _ (by decide)]; rfl
  have s2 : (v >>> ((48 : Int32).toInt64 &&& 63)).toInt = v.toInt / 281474976710656 := by rw [jshr (d := 48) _ (by decide)]; rfl
  rw [s1] at m1
  have hv1 : -9223372036854775808 ≤ v.toInt := Int64.le_toInt v
  have hv2 : v.toInt < 9223372036854775808 := Int64.toInt_lt v
  have l0 : Z (16 * r + 0) = v &&& 16777215 := by rw [eZ, pk_uLn (by omega), pk_uLn (by omega), pk_uLs]
  have l1 : Z (16 * r + 1) = (v >>> ((24 : Int32).toInt64 &&& 63)) &&& 16777215 := by rw [eZ, pk_uLn (by omega), pk_uLs]
  have l2 : Z (16 * r + 2) = v >>> ((48 : Int32).toInt64 &&& 63) := by rw [eZ, pk_uLs]
  have l3 : ∀ k, 3 ≤ k → k < 16 → Z (16 * r + k) = 0 := fun k h1 h2 => by rw [eZ, pk_uLn (by omega), pk_uLn (by omega), pk_uLn (by omega)]; exact cl_i h2
  have hl : lm_ Z (16 * r) 3 33554432 := by
    intro k hk
    refine ⟨?_, fun h => l3 k h hk⟩
    rcases (show k = 0 ∨ k = 1 ∨ k = 2 ∨ 3 ≤ k by omega) with rfl | rfl | rfl | h
    · rw [l0, m0]; omega
    · rw [l1, m1]; omega
    · rw [l2, s2]; omega
    · rw [l3 k h hk]; decide
  have hval : vl_ Z (16 * r) 16 = v.toInt := by
    rw [vl_z (L := 3) 16 (by omega) l3]
    simp only [vl_]
    rw [l0, l1, l2, m0, m1, s2]
    have p1 : (16777216 : Int) ^ 0 = 1 := by decide
    have p2 : (16777216 : Int) ^ 1 = 16777216 := by decide
    have p3 : (16777216 : Int) ^ 2 = 281474976710656 := by decide
    rw [p1, p2, p3]; omega
  have hb := stl_b (r := r) (L := 3) (by omega) (lm_w hl (Nat.le_refl _) (by decide))
  obtain ⟨-, -, w3⟩ := stl_w hl 16 (Nat.le_refl _)
  have e : set_ z r v = (stl_ Z (16 * r) 16).1 := by rw [eZ]; rfl
  rw [e]
  exact ⟨fun k hk => ⟨(hb.1 k hk).1, fun h => w3 k h hk⟩, hb.2.trans hval⟩
theorem set_f {z : Nat → Int64} {r : Nat} {v : Int64} {j : Nat} (h : j < 16 * r ∨ 16 * r + 16 ≤ j) : set_ z r v j = z j := by
  unfold set_; rw [stl_f 16 j (by omega), pk_uLn (by omega), pk_uLn (by omega), pk_uLn (by omega), cl_f (by omega)]
theorem prk_f {z : Nat → Int64} {r i b : Nat} {d : Int64} : ∀ k j, i + k ≤ 16 → (j < 16 * r ∨ 16 * r + 16 ≤ j) → prk_ z r i d b k j = z j
  | 0, _, _, _ => rfl
  | k + 1, j, h, hj => by rw [prk_, pk_uLn (by omega)]; exact prk_f k j (by omega) hj
theorem mulb {x y : Int} (hx : -8388608 ≤ x ∧ x ≤ 8388608) (hy : -8388608 ≤ y ∧ y ≤ 8388608) : -70368744177664 ≤ x * y ∧ x * y ≤ 70368744177664 := by
  have h3 : x.natAbs * y.natAbs ≤ 8388608 * 8388608 := Nat.mul_le_mul (by omega) (by omega)
  rw [← Int.natAbs_mul] at h3
  generalize x * y = p at *
  omega
/-- one row of a product -/
theorem prk_v {z : Nat → Int64} {r i b Lb Lr : Nat} {d : Int64} {B : Int} (hi : i < 16) (hd : -8388608 ≤ d.toInt ∧ d.toInt ≤ 8388608) (hb : lm_ z (16 * b) Lb 8388608) (hrb : b < r ∨ r < b) (hz : lm_ z (16 * r) Lr B) (hB : 0 ≤ B ∧ B ≤ 140737488355328000) (hL : i + Lb ≤ Lr) :
    ∀ k, i + k ≤ 16 → vl_ (prk_ z r i d b k) (16 * r) 16 = vl_ z (16 * r) 16 + d.toInt * vl_ z (16 * b) k * 16777216 ^ i ∧
      (∀ m, m < 16 → (-(B + 70368744177664) ≤ (prk_ z r i d b k (16 * r + m)).toInt ∧ (prk_ z r i d b k (16 * r + m)).toInt ≤ B + 70368744177664) ∧ (i + k ≤ m → prk_ z r i d b k (16 * r + m) = z (16 * r + m)) ∧ (Lr ≤ m → prk_ z r i d b k (16 * r + m) = 0))
  | 0, _ => ⟨by simp [prk_, vl_], fun m hm => ⟨by have := (hz m hm).1; show _ ≤ (z (16 * r + m)).toInt ∧ (z (16 * r + m)).toInt ≤ _; omega, fun _ => rfl, fun h => (hz m hm).2 h⟩⟩
  | k + 1, hk => by
    obtain ⟨i1, i2⟩ := prk_v hi hd hb hrb hz hB hL k (by omega)
    have eb : prk_ z r i d b k (16 * b + k) = z (16 * b + k) := prk_f k _ (by omega) (by omega)
    have hbk := hb k (by omega)
    have hm := mulb hd hbk.1
    have em : (d * z (16 * b + k)).toInt = d.toInt * (z (16 * b + k)).toInt := jmu (by omega) (by omega)
    have hcur := (i2 (i + k) (by omega)).2.1 (Nat.le_refl _)
    have hzk := (hz (i + k) (by omega))
    have ej : 16 * r + i + k = 16 * r + (i + k) := by omega
    have ea : (prk_ z r i d b k (16 * r + (i + k)) + d * z (16 * b + k)).toInt = (z (16 * r + (i + k))).toInt + d.toInt * (z (16 * b + k)).toInt := by
      rw [hcur, jad (by rw [em]; omega) (by rw [em]; omega), em]
    have e1 : prk_ z r i d b (k + 1) = vp_updL (prk_ z r i d b k) (16 * r + (i + k)) (prk_ z r i d b k (16 * r + (i + k)) + d * z (16 * b + k)) := by rw [prk_, eb, ej]
    refine ⟨?_, fun m hm2 => ?_⟩
    · rw [e1, vl_u, if_pos (by omega), i1, ea, hcur, vl_s z (16 * b) k, Int.pow_add]
      generalize d.toInt = D
      generalize (z (16 * b + k)).toInt = y
      generalize (z (16 * r + (i + k))).toInt = w
      generalize (16777216 : Int) ^ i = P
      generalize (16777216 : Int) ^ k = Q
      generalize vl_ z (16 * b) k = V
      generalize vl_ z (16 * r) 16 = U
      rw [show w + D * y - w = D * y by omega, Int.mul_add, Int.add_mul]
      have : D * (y * Q) * P = D * y * (P * Q) := by
        rw [← Int.mul_assoc D y Q, Int.mul_assoc (D * y) Q P, Int.mul_comm Q P]
      omega
    · rw [e1]
      by_cases q : m = i + k
      · subst q
        rw [pk_uLs]
        refine ⟨by rw [ea]; omega, fun h => absurd h (by omega), fun h => ?_⟩
        have h0 : z (16 * b + k) = 0 := hbk.2 (by omega)
        rw [hcur, h0, (hzk.2 h), Int64.mul_zero, Int64.add_zero]
      · rw [pk_uLn (by omega)]
        exact ⟨(i2 m hm2).1, fun h => (i2 m hm2).2.1 (by omega), (i2 m hm2).2.2⟩
theorem pro_f {z : Nat → Int64} {r a b : Nat} : ∀ n j, n ≤ 16 → (j < 16 * r ∨ 16 * r + 16 ≤ j) → pro_ z r a b n j = z j
  | 0, _, _, _ => rfl
  | n + 1, j, hn, h => by
    rw [pro_, prk_f _ j (by split <;> omega) h]; exact pro_f n j (by omega) h
/-- a product: its worth is added -/
theorem pro_v {z : Nat → Int64} {r a b La Lb Lr : Nat} {B : Int} (ha : lm_ z (16 * a) La 8388608) (hb : lm_ z (16 * b) Lb 8388608) (hra : a < r ∨ r < a) (hrb : b < r ∨ r < b) (hz : lm_ z (16 * r) Lr B) (hB : 0 ≤ B ∧ B ≤ 70368744177664000) (hL : La + Lb ≤ Lr + 1) (hL2 : Lr ≤ 16) (hLb : 1 ≤ Lb) :
    ∀ n, n ≤ 16 → vl_ (pro_ z r a b n) (16 * r) 16 = vl_ z (16 * r) 16 + vl_ z (16 * a) n * vl_ z (16 * b) 16 ∧ lm_ (pro_ z r a b n) (16 * r) Lr (B + n * 70368744177664)
  | 0, _ => ⟨by simp [pro_, vl_], lm_w hz (Nat.le_refl _) (by omega)⟩
  | n + 1, hn => by
    obtain ⟨i1, i2⟩ := pro_v ha hb hra hrb hz hB hL hL2 hLb n (by omega)
    have ed : pro_ z r a b n (16 * a + n) = z (16 * a + n) := pro_f n _ (by omega) (by omega)
    have hd := ha n (by omega)
    have hb2 : lm_ (pro_ z r a b n) (16 * b) Lb 8388608 := lm_e hb (fun k hk => pro_f n _ (by omega) (by omega))
    have eb : ∀ m, m ≤ 16 → vl_ (pro_ z r a b n) (16 * b) m = vl_ z (16 * b) m := fun m hm => vl_e m (fun k hk => pro_f n _ (by omega) (by omega))
    rw [pro_, ed]
    by_cases q : z (16 * a + n) = 0
    · rw [if_pos q, q, prk_0]
      have z0 : (0 : Int64).toInt = 0 := by decide
      refine ⟨by rw [i1, vl_s z (16 * a) n, q, z0]; simp, lm_w i2 (Nat.le_refl _) (by omega)⟩
    · rw [if_neg q]
      have hn2 : n < La := by
        rcases Nat.lt_or_ge n La with k | k
        · exact k
        · exact absurd (hd.2 k) q
      obtain ⟨j1, j2⟩ := prk_v (r := r) (i := n) (b := b) (Lb := Lb) (Lr := Lr) (d := z (16 * a + n)) (by omega) hd.1 hb2 hrb i2 (by omega) (by omega) (16 - n) (by omega)
      refine ⟨?_, fun m hm => ⟨⟨by have := (j2 m hm).1; omega, by have := (j2 m hm).1; omega⟩, (j2 m hm).2.2⟩⟩
      rw [j1, i1, eb (16 - n) (by omega), vl_s z (16 * a) n, Int.add_mul]
      have ez : vl_ z (16 * b) (16 - n) = vl_ z (16 * b) 16 := by
        rw [vl_z (L := Lb) (16 - n) (by omega) (fun k h1 h2 => (hb k (by omega)).2 h1), vl_z (L := Lb) 16 (by omega) (fun k h1 h2 => (hb k h2).2 h1)]
      rw [ez, Int.mul_right_comm]; omega
theorem vl_lt {z : Nat → Int64} {a : Nat} : ∀ n, (∀ k, k < n → -8388608 ≤ (z (a + k)).toInt ∧ (z (a + k)).toInt ≤ 8388608) → -(16777216 ^ n : Int) < vl_ z a n ∧ vl_ z a n < 16777216 ^ n
  | 0, _ => by simp [vl_]
  | n + 1, h => by
    have ih := vl_lt n (fun k hk => h k (by omega))
    have hn := h n (by omega)
    rw [vl_, Int.pow_succ]
    have hp : (0 : Int) < 16777216 ^ n := Int.pow_pos (by decide)
    generalize (16777216 : Int) ^ n = P at *
    generalize (z (a + n)).toInt = x at *
    generalize vl_ z a n = V at *
    have h1 : x * P ≤ 8388608 * P := Int.mul_le_mul_of_nonneg_right hn.2 (by omega)
    have h2 : -8388608 * P ≤ x * P := Int.mul_le_mul_of_nonneg_right hn.1 (by omega)
    omega
/-- the sign of a number -/
def si_ (x : Int) : Int32 := if 0 < x then 1 else if x < 0 then -1 else 0
theorem sof_v {z : Nat → Int64} {a : Nat} (h : ∀ k, k < 16 → -8388608 ≤ (z (a + k)).toInt ∧ (z (a + k)).toInt ≤ 8388608) : ∀ n, n < 16 → sg_ (z (a + sok_ z a n)) = si_ (vl_ z a (n + 1))
  | 0, _ => by
    have z0 : (0 : Int64).toInt = 0 := by decide
    have e : vl_ z a 1 = (z (a + 0)).toInt := by simp [vl_]
    rw [sok_, e]; unfold sg_ si_
    simp only [Int64.lt_iff_toInt_lt, z0]
  | n + 1, hn => by
    have z0 : (0 : Int64).toInt = 0 := by decide
    rw [sok_]
    by_cases q : z (a + (n + 1)) = 0
    · rw [if_pos q, sof_v h n (by omega)]
      congr 1
      rw [vl_s z a (n + 1), q, z0]; omega
    · rw [if_neg q, vl_s z a (n + 1)]
      have hv := vl_lt (z := z) (a := a) (n + 1) (fun k hk => h k (by omega))
      have hx := h (n + 1) hn
      have hne : (z (a + (n + 1))).toInt ≠ 0 := fun e => q (Int64.toInt_inj.mp (by rw [e, z0]))
      unfold sg_ si_
      simp only [Int64.lt_iff_toInt_lt, z0]
      have hp : (0 : Int) < 16777216 ^ (n + 1) := Int.pow_pos (by decide)
      generalize (16777216 : Int) ^ (n + 1) = P at *
      generalize (z (a + (n + 1))).toInt = x at *
      generalize vl_ z a (n + 1) = V at *
      rcases (show 1 ≤ x ∨ x ≤ -1 by omega) with k | k
      · have : P ≤ x * P := by have := Int.mul_le_mul_of_nonneg_right k (show 0 ≤ P by omega); omega
        rw [if_pos (by omega), if_pos (by omega)]
      · have : x * P ≤ -P := by have := Int.mul_le_mul_of_nonneg_right k (show 0 ≤ P by omega); omega
        rw [if_neg (by omega), if_pos (by omega), if_neg (by omega), if_pos (by omega)]
theorem sof_b {z : Nat → Int64} {r L : Nat} {v : Int} (h : bg_ z r L v) : sof_ z (16 * r) = si_ v := by
  unfold sof_; rw [sof_v (fun k hk => (h.1 k hk).1) 15 (by omega), ← h.2]
