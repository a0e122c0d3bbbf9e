abbrev mo_ (th : Int32) (zk zp za zb zx zy : Nat) (sn : Int32) (zf zt zw zm zh : Nat) (x0 y0 dx dy : Int64) (zz : Nat) (cu : Int32) (zo zu : Nat) : List Value :=
  [.int th, .ref zk, .ref zp, .ref za, .ref zb, .ref zx, .ref zy, .int sn, .ref zf, .ref zt, .ref zw, .ref zm, .ref zh, .long x0, .long y0, .long dx, .long dy, .ref zz, .int cu, .ref zo, .ref zu]
def wi_ (v lo hi : Int32) : Int32 := if lo ≤ v ∧ v ≤ hi then 1 else 0
theorem wi1_ {v lo hi : Int32} (c : v < lo) : 0 = wi_ v lo hi := by unfold wi_; rw [if_neg (fun h => Int32.not_le.mpr c h.1)]
theorem wi2_ {v lo hi : Int32} (c : hi < v) : 0 = wi_ v lo hi := by unfold wi_; rw [if_neg (fun h => Int32.not_le.mpr c h.2)]
theorem wi3_ {v lo hi : Int32} (c : ¬ v < lo) (c2 : ¬ hi < v) : 1 = wi_ v lo hi := by unfold wi_; rw [if_pos ⟨Int32.not_lt.mp c, Int32.not_lt.mp c2⟩]
theorem wi_z {v lo hi : Int32} : narrow .boolean (.int (wi_ v lo hi)) = .int (wi_ v lo hi) := by unfold wi_; split <;> decide +kernel
def far_ (v : Int32) : Int32 := if wi_ v (-500000000) 500000000 = 0 then 1 else 0
theorem ix_ (a r k : Nat) : nI (a * r + k) = nI a * nI r + nI k := by rw [pk_mul, nI_add]
def cl_ (z : Nat → Int64) (a n : Nat) : Nat → Int64 := fun j => if a ≤ j ∧ j < a + n then 0 else z j
theorem cl_0 {z : Nat → Int64} {a : Nat} : cl_ z a 0 = z := by funext j; unfold cl_; rw [if_neg (by omega)]
theorem cl_s {z : Nat → Int64} {a n : Nat} : vp_updL (cl_ z a n) (a + n) 0 = cl_ z a (n + 1) := by
  funext j; unfold vp_updL cl_
  by_cases h : j = a + n
  · rw [if_pos h, if_pos (by omega)]
  · rw [if_neg h]
    by_cases h2 : a ≤ j ∧ j < a + n
    · rw [if_pos h2, if_pos (by omega)]
    · rw [if_neg h2, if_neg (by omega)]
def stl_ (z : Nat → Int64) (a : Nat) : Nat → (Nat → Int64) × Int64
  | 0 => (z, 0)
  | n + 1 => (vp_updL (stl_ z a n).1 (a + n) (((stl_ z a n).1 (a + n) + (stl_ z a n).2 + 8388608 &&& 16777215) - 8388608),
      ((stl_ z a n).1 (a + n) + (stl_ z a n).2 - (((stl_ z a n).1 (a + n) + (stl_ z a n).2 + 8388608 &&& 16777215) - 8388608)) >>> ((24 : Int32).toInt64 &&& 63))
def set_ (z : Nat → Int64) (r : Nat) (v : Int64) : Nat → Int64 :=
  (stl_ (vp_updL (vp_updL (vp_updL (cl_ z (16 * r) 16) (16 * r + 0) (v &&& 16777215)) (16 * r + 1) ((v >>> ((24 : Int32).toInt64 &&& 63)) &&& 16777215)) (16 * r + 2) (v >>> ((48 : Int32).toInt64 &&& 63))) (16 * r) 16).1
def prk_ (z : Nat → Int64) (r i : Nat) (d : Int64) (b : Nat) : Nat → (Nat → Int64)
  | 0 => z
  | k + 1 => vp_updL (prk_ z r i d b k) (16 * r + i + k) (prk_ z r i d b k (16 * r + i + k) + d * prk_ z r i d b k (16 * b + k))
def pro_ (z : Nat → Int64) (r a b : Nat) : Nat → (Nat → Int64)
  | 0 => z
  | i + 1 => prk_ (pro_ z r a b i) r i (pro_ z r a b i (16 * a + i)) b (if pro_ z r a b i (16 * a + i) = 0 then 0 else 16 - i)
theorem prk_0 {z : Nat → Int64} {r i b : Nat} : ∀ k, prk_ z r i 0 b k = z
  | 0 => rfl
  | k + 1 => by
    rw [prk_, prk_0 k]; funext j; unfold vp_updL
    by_cases h : j = 16 * r + i + k
    · rw [if_pos h, h, Int64.zero_mul, Int64.add_zero]
    · rw [if_neg h]
theorem pk2_ {z : Nat → Int64} {r i b k : Nat} {d : Int64} (h : d = 0) : prk_ z r i d b k = prk_ z r i d b (if d = 0 then 0 else 16 - i) := by
  subst h; rw [prk_0, prk_0]
theorem pk1_ {z : Nat → Int64} {r i b k : Nat} {d : Int64} (h : k + i = 16) : prk_ z r i d b k = prk_ z r i d b (if d = 0 then 0 else 16 - i) := by
  by_cases q : d = 0
  · exact pk2_ q
  · rw [if_neg q]; congr 1; omega
/-- the place of the highest number that isn't 0, from k down -/
def sok_ (z : Nat → Int64) (a : Nat) : Nat → Nat
  | 0 => 0
  | k + 1 => if z (a + (k + 1)) = 0 then sok_ z a k else k + 1
theorem sok_n {z : Nat → Int64} {a k : Nat} (h : 0 < k) (h2 : ¬ z (a + k) = 0) : sok_ z a k = k := by
  obtain ⟨q, rfl⟩ : ∃ q, k = q + 1 := ⟨k - 1, by omega⟩
  rw [sok_, if_neg h2]
def sg_ (d : Int64) : Int32 := if 0 < d then 1 else if d < 0 then -1 else 0
theorem sg1_ {d : Int64} (c : ¬ lg_cmp d 0 ≤ 0) : 1 = sg_ d := by unfold sg_; rw [if_pos (Int64.not_le.mp (fun h => c ((lg_cmp_le _ _).mpr h)))]
theorem sg2_ {d : Int64} (c : ¬ lg_cmp d 0 ≥ 0) : -1 = sg_ d := by
  have h : d < 0 := Int64.not_le.mp (fun h => c ((lg_cmp_ge _ _).mpr h))
  unfold sg_; rw [if_neg (fun q => Int64.lt_irrefl (Int64.lt_trans h q)), if_pos h]
theorem sg3_ {d : Int64} (c : lg_cmp d 0 ≤ 0) (c2 : lg_cmp d 0 ≥ 0) : 0 = sg_ d := by
  unfold sg_; rw [if_neg (Int64.not_lt.mpr ((lg_cmp_le _ _).mp c)), if_neg (Int64.not_lt.mpr ((lg_cmp_ge _ _).mp c2))]
def sof_ (z : Nat → Int64) (a : Nat) : Int32 := sg_ (z (a + sok_ z a 15))
