theorem aeq_z {mx : Nat → Int32} : narrow .boolean (.int (aeq_ mx)) = .int (aeq_ mx) := by
  unfold aeq_; split <;> decide +kernel
theorem dcr_z {mx : Nat → Int32} : narrow .boolean (.int (dcr_ mx)) = .int (dcr_ mx) := by
  unfold dcr_
  repeat' split
  all_goals decide +kernel
theorem dov_z {mx : Nat → Int32} : narrow .boolean (.int (dov_ mx)) = .int (dov_ mx) := by
  unfold dov_
  repeat' split
  all_goals decide +kernel
/-- the class's questions -/
def isc_ (w : Int32) (mx : Nat → Int32) : Int32 :=
  if w = 0 then aeq_ mx else if w = 1 then (if hcp_ mx = 0 then 1 else 0) else if w = 2 then (if hs_ mx 0 0 = 0 ∧ ¬ hcp_ mx = 0 then 1 else 0) else if w = 3 then dcr_ mx
  else if w = 4 then (if ¬ hs_ mx 0 0 = 0 ∧ fls_ mx = 0 then 1 else 0) else if w = 5 then (if ¬ hs_ mx 0 0 = 0 ∧ slf_ mx = 0 then 1 else 0) else if w = 6 then dov_ mx
  else if w = 7 then (if ¬ hcp_ mx = 0 ∧ fls_ mx = 0 then 1 else 0) else (if ¬ hcp_ mx = 0 ∧ slf_ mx = 0 then 1 else 0)
theorem w8_c {v : Int32} (h1 : ¬ v < 0) (h2 : v ≤ 8) : v = 0 ∨ v = 1 ∨ v = 2 ∨ v = 3 ∨ v = 4 ∨ v = 5 ∨ v = 6 ∨ v = 7 ∨ v = 8 := by
  rw [Int32.lt_iff_toInt_lt] at h1; rw [Int32.le_iff_toInt_le] at h2
  have a : (0 : Int32).toInt = 0 := by decide
  have c : (8 : Int32).toInt = 8 := by decide
  rw [a] at h1; rw [c] at h2
  have e : ∀ k : Int32, v.toInt = k.toInt → v = k := fun k h => Int32.toInt_inj.mp h
  rcases (show v.toInt = 0 ∨ v.toInt = 1 ∨ v.toInt = 2 ∨ v.toInt = 3 ∨ v.toInt = 4 ∨ v.toInt = 5 ∨ v.toInt = 6 ∨ v.toInt = 7 ∨ v.toInt = 8 by omega) with k | k | k | k | k | k | k | k | k
  · exact Or.inl (e 0 (by rw [k]; decide))
  · exact Or.inr (Or.inl (e 1 (by rw [k]; decide)))
  · exact Or.inr (Or.inr (Or.inl (e 2 (by rw [k]; decide))))
  · exact Or.inr (Or.inr (Or.inr (Or.inl (e 3 (by rw [k]; decide)))))
  · exact Or.inr (Or.inr (Or.inr (Or.inr (Or.inl (e 4 (by rw [k]; decide))))))
  · exact Or.inr (Or.inr (Or.inr (Or.inr (Or.inr (Or.inl (e 5 (by rw [k]; decide)))))))
  · exact Or.inr (Or.inr (Or.inr (Or.inr (Or.inr (Or.inr (Or.inl (e 6 (by rw [k]; decide))))))))
  · exact Or.inr (Or.inr (Or.inr (Or.inr (Or.inr (Or.inr (Or.inr (Or.inl (e 7 (by rw [k]; decide)))))))))
  · exact Or.inr (Or.inr (Or.inr (Or.inr (Or.inr (Or.inr (Or.inr (Or.inr (e 8 (by rw [k]; decide)))))))))
theorem mt_n {mx : Nat → Int32} {a b : Nat} (ha : a < 3) (hb : b < 3) : mat_ mx (nI a) (nI b) = mx (3 * a + b) := by
  unfold mat_
  rcases (show a = 0 ∨ a = 1 ∨ a = 2 by omega) with rfl | rfl | rfl <;> rcases (show b = 0 ∨ b = 1 ∨ b = 2 by omega) with rfl | rfl | rfl <;> rfl
theorem t3_n {a : Nat} (ha : a < 3) : t3_ (nI a) := by
  rcases (show a = 0 ∨ a = 1 ∨ a = 2 by omega) with rfl | rfl | rfl
  · exact t3_0
  · exact t3_1
  · exact t3_2
