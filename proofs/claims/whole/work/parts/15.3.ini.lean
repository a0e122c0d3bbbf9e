/-! a new object and a new reference -/
theorem wi_n {v : Int32} (h0 : ¬ v = 0) (h1 : ¬ v = 1) : wi_ v 0 1 = 0 := by
  unfold wi_
  rw [if_neg]
  intro q
  rw [Int32.le_iff_toInt_le, Int32.le_iff_toInt_le] at q
  have a : (0 : Int32).toInt = 0 := by decide
  have c : (1 : Int32).toInt = 1 := by decide
  rw [a, c] at q
  rcases (show v.toInt = 0 ∨ v.toInt = 1 by omega) with z | z
  · exact h0 (Int32.toInt_inj.mp (by rw [z]; decide))
  · exact h1 (Int32.toInt_inj.mp (by rw [z]; decide))
theorem kn0_ {s : Nat} (hs : s < 2) : (upd (upd (fun _ => (0 : Int32)) 0 1) 1 1) s = 1 := by
  rcases (show s = 0 ∨ s = 1 by omega) with e | e
  · subst e; rw [pk_un (by decide), pk_us]
  · subst e; rw [pk_us]
theorem RI_0 : RI_ 0 (upd (upd (fun _ => 0) 0 1) 1 1) (fun _ => 0) (fun _ => 0) (fun _ => 0) (fun _ => 0) (fun _ => 0) (fun _ => 0) (fun _ => 0) (fun _ _ => 0) := by
  refine ⟨fun s hs => ⟨rfl, rfl, Nat.zero_le _, Nat.zero_le _, fun p hp => absurd hp (Nat.not_lt_zero _)⟩, fun s hs => ?_, fun s hs => ⟨Nat.le_refl _, Nat.le_refl _⟩, by omega⟩
  exact ⟨Or.inl (kn0_ hs), ⟨fun i hi => absurd hi (Nat.not_lt_zero _), fun i hi => absurd hi (Nat.not_lt_zero _)⟩, fun z => absurd z (Nat.not_lt_zero _), fun _ => rfl, Nat.zero_le _, Nat.zero_le _, fun i hi => absurd hi (Nat.not_lt_zero _)⟩
theorem FI_0 {s : Nat} (hs : s < 2) : FI_ s (upd (upd (fun _ => 0) 0 1) 1 1) (fun _ => 0) (fun _ => 0) (fun _ => 0) (fun _ => 0) (fun _ _ => 0) 1 0 0 0 16 16 16 (fun _ => 0) (fun _ => 0) (fun _ => 0) (fun _ => 0) (fun _ => 0) (fun _ => 0) :=
  ⟨(kn0_ hs).symm, fun i hi => absurd hi (Nat.not_lt_zero _), ⟨fun i hi => absurd hi (Nat.not_lt_zero _), fun i hi => absurd hi (Nat.not_lt_zero _), fun z => absurd z (Nat.not_lt_zero _)⟩, by omega, ⟨by omega, by omega, Nat.zero_le _⟩, ⟨by omega, by omega, Nat.zero_le _⟩, Or.inl rfl⟩
