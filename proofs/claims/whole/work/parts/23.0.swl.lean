/-- the head's test -/
theorem hd_c {n L : Nat} (hL : L ≤ 2048) (h4 : 4 * n ≤ L) (h : ¬ Int32.ofNat L - 4 < nI (4 * n)) : 4 * n + 4 ≤ L := by
  rcases Nat.lt_or_ge L (4 * n + 4) with q | q
  · refine absurd ?_ h
    have e1 : (Int32.ofNat L).toInt = (L : Int) := Int32.toInt_ofNat_of_lt (by omega)
    have e2 : (nI (4 * n)).toInt = ((4 * n : Nat) : Int) := Int32.toInt_ofNat_of_lt (by omega)
    rw [Int32.lt_iff_toInt_lt, Int32.toInt_sub, e1, e2, show (4 : Int32).toInt = 4 from by decide, Int.bmod_eq_of_le (by omega) (by omega)]
    omega
  · exact q
theorem sw9_ (v : Int32) : v = 0 ∨ v = 1 ∨ v = 2 ∨ v = 3 ∨ v = 4 ∨ v = 5 ∨ v = 6 ∨ v = 7 ∨ v = 8 ∨ (v.toInt < 0 ∨ (8 : Int) < v.toInt) := by
  have k : ∀ w : Int32, v.toInt = w.toInt → v = w := fun w h => Int32.toInt_inj.mp h
  by_cases h0 : v.toInt = 0
  · exact Or.inl (k 0 (h0.trans (by decide)))
  by_cases h1 : v.toInt = 1
  · exact Or.inr (Or.inl (k 1 (h1.trans (by decide))))
  by_cases h2 : v.toInt = 2
  · exact Or.inr (Or.inr (Or.inl (k 2 (h2.trans (by decide)))))
  by_cases h3 : v.toInt = 3
  · exact Or.inr (Or.inr (Or.inr (Or.inl (k 3 (h3.trans (by decide))))))
  by_cases h4 : v.toInt = 4
  · exact Or.inr (Or.inr (Or.inr (Or.inr (Or.inl (k 4 (h4.trans (by decide)))))))
  by_cases h5 : v.toInt = 5
  · exact Or.inr (Or.inr (Or.inr (Or.inr (Or.inr (Or.inl (k 5 (h5.trans (by decide))))))))
  by_cases h6 : v.toInt = 6
  · exact Or.inr (Or.inr (Or.inr (Or.inr (Or.inr (Or.inr (Or.inl (k 6 (h6.trans (by decide)))))))))
  by_cases h7 : v.toInt = 7
  · exact Or.inr (Or.inr (Or.inr (Or.inr (Or.inr (Or.inr (Or.inr (Or.inl (k 7 (h7.trans (by decide))))))))))
  by_cases h8 : v.toInt = 8
  · exact Or.inr (Or.inr (Or.inr (Or.inr (Or.inr (Or.inr (Or.inr (Or.inr (Or.inl (k 8 (h8.trans (by decide)))))))))))
  · exact Or.inr (Or.inr (Or.inr (Or.inr (Or.inr (Or.inr (Or.inr (Or.inr (Or.inr (by omega)))))))))
