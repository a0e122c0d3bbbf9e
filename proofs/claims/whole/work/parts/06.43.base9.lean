theorem hip_n {a b : Nat} (ha : a < 2 ^ 62) (hb : b < 2 ^ 62) : hip_ (lN a) (lN b) = lN (a * b / 2 ^ 62) := by
  have e1 : lN a >>> ((31 : Int32).toInt64 &&& 63) = lN (a / 2 ^ 31) := pf_shr (by decide) ha
  have e2 : lN b >>> ((31 : Int32).toInt64 &&& 63) = lN (b / 2 ^ 31) := pf_shr (by decide) hb
  have e3 : lN a &&& 2147483647 = lN (a % 2147483648) := g_mask (s := 31) (p := 2147483648) rfl (by decide) (by omega)
  have e4 : lN b &&& 2147483647 = lN (b % 2147483648) := g_mask (s := 31) (p := 2147483648) rfl (by decide) (by omega)
  obtain ⟨hA, ehA⟩ : ∃ z, z = a / 2 ^ 31 := ⟨_, rfl⟩
  obtain ⟨hB, ehB⟩ : ∃ z, z = b / 2 ^ 31 := ⟨_, rfl⟩
  obtain ⟨lA, elA⟩ : ∃ z, z = a % 2147483648 := ⟨_, rfl⟩
  obtain ⟨lB, elB⟩ : ∃ z, z = b % 2147483648 := ⟨_, rfl⟩
  rw [← ehA] at e1; rw [← ehB] at e2; rw [← elA] at e3; rw [← elB] at e4
  have a1 : a = hA * 2147483648 + lA := by rw [ehA, elA]; omega
  have b1 : b = hB * 2147483648 + lB := by rw [ehB, elB]; omega
  have l1 : hA < 2147483648 := by omega
  have l2 : hB < 2147483648 := by omega
  have l3 : lA < 2147483648 := by omega
  have l4 : lB < 2147483648 := by omega
  have m1 : hA * lB ≤ 2147483647 * 2147483647 := Nat.mul_le_mul (by omega) (by omega)
  have m2 : lA * hB ≤ 2147483647 * 2147483647 := Nat.mul_le_mul (by omega) (by omega)
  have m3 : lA * lB ≤ 2147483647 * 2147483647 := Nat.mul_le_mul (by omega) (by omega)
  obtain ⟨M, eM⟩ : ∃ z, z = hA * lB + lA * hB := ⟨_, rfl⟩
  have em : hmid_ (lN a) (lN b) = lN M := by unfold hmid_; rw [e1, e2, e3, e4, lN_mul, lN_mul, lN_add, eM]
  have e5 : lN M &&& 2147483647 = lN (M % 2147483648) := g_mask (s := 31) (p := 2147483648) rfl (by decide) (by omega)
  have e6 : lN (M % 2147483648) <<< ((31 : Int32).toInt64 &&& 63) = lN (M % 2147483648 * 2 ^ 31) := wb_shl (k := 31) _ (by decide)
  obtain ⟨Lw, eL⟩ : ∃ z, z = lA * lB + M % 2147483648 * 2147483648 := ⟨_, rfl⟩
  have el : hlow_ (lN a) (lN b) = lN Lw := by unfold hlow_; rw [em, e3, e4, e5, e6, lN_mul, lN_add, eL]
  have e7 : ((lN M).toUInt64 >>> ((31 : Int32).toInt64.toUInt64 &&& Int64.toUInt64 63)).toInt64 = lN (M / 2 ^ 31) := wb_shr (k := 31) (by omega) (by decide)
  have e8 : ((lN Lw).toUInt64 >>> ((62 : Int32).toInt64.toUInt64 &&& Int64.toUInt64 63)).toInt64 = lN (Lw / 2 ^ 62) := wb_shr (k := 62) (by omega) (by decide)
  unfold hip_
  rw [em, el, e1, e2, e7, e8, lN_mul, lN_add, lN_add]
  congr 1
  have hp : a * b = (hA * hB + M / 2147483648) * 4611686018427387904 + Lw := by
    have hM : M = M / 2147483648 * 2147483648 + M % 2147483648 := by omega
    have hab : a * b = hA * hB * 4611686018427387904 + M * 2147483648 + lA * lB := by
      rw [a1, b1, eM]; simp only [Nat.add_mul, Nat.mul_add]
      have : hA * 2147483648 * (hB * 2147483648) = hA * hB * 4611686018427387904 := by rw [Nat.mul_mul_mul_comm]
      have h2 : hA * 2147483648 * lB = hA * lB * 2147483648 := by rw [Nat.mul_right_comm]
      have h3 : lA * (hB * 2147483648) = lA * hB * 2147483648 := by rw [Nat.mul_assoc]
      omega
    rw [hab, Nat.add_mul]; omega
  rw [hp]; omega
theorem cmp_n {x y : Nat} (hx : x < 2 ^ 63) (hy : y < 2 ^ 63) : cmp_ (lN x) (lN y) = if x < y then -1 else if x = y then 0 else 1 := by
  unfold cmp_
  by_cases q : x < y
  · rw [if_pos ((pk_lLT hx hy).mpr q), if_pos q]
  · rw [if_neg (fun h => q ((pk_lLT hx hy).mp h)), if_neg q]
    by_cases q2 : x = y
    · rw [if_pos (by rw [q2]), if_pos q2]
    · rw [if_neg (fun h => q2 ((pk_lEQ hx hy).mp h)), if_neg q2]
theorem cpf_n {a1 b1 a2 b2 : Nat} (h1 : a1 < 2 ^ 62) (h2 : b1 < 2 ^ 62) (h3 : a2 < 2 ^ 62) (h4 : b2 < 2 ^ 62) (p1 : 0 < b1) (p2 : 0 < b2) :
    cpf_ (lN a1) (lN b1) (lN a2) (lN b2) = if a1 * b2 < a2 * b1 then -1 else if a1 * b2 = a2 * b1 then 0 else 1 := by
  have mk : ∀ n : Nat, lN n &&& 4611686018427387903 = lN (n % 4611686018427387904) := by
    intro n
    rw [wb_mod n]
    have : lN (n % 2 ^ 64) &&& 4611686018427387903 = lN (n % 2 ^ 64 % 4611686018427387904) := g_mask (s := 62) (p := 4611686018427387904) rfl (by decide) (by omega)
    rw [this]; congr 1; omega
  have q1 : a1 * b2 / 2 ^ 62 < 2 ^ 63 := by
    have : a1 * b2 ≤ 4611686018427387904 * 4611686018427387904 := Nat.mul_le_mul (by omega) (by omega)
    omega
  have q2 : a2 * b1 / 2 ^ 62 < 2 ^ 63 := by
    have : a2 * b1 ≤ 4611686018427387904 * 4611686018427387904 := Nat.mul_le_mul (by omega) (by omega)
    omega
  unfold cpf_
  rw [hip_n h1 h4, hip_n h3 h2, lN_mul, lN_mul, mk, mk]
  by_cases e : b1 = b2
  · rw [if_pos (by rw [e]), cmp_n (by omega) (by omega), e]
    by_cases c : a1 < a2
    · rw [if_pos c, if_pos (Nat.mul_lt_mul_of_pos_right c p2)]
    · rw [if_neg c, if_neg (fun h => c (Nat.lt_of_mul_lt_mul_right h))]
      by_cases c2 : a1 = a2
      · rw [if_pos c2, if_pos (by rw [c2])]
      · rw [if_neg c2, if_neg (fun h => c2 (Nat.eq_of_mul_eq_mul_right p2 h))]
  · rw [if_neg (fun h => e ((pk_lEQ (by omega) (by omega)).mp h))]
    generalize a1 * b2 = A at *
    generalize a2 * b1 = B at *
    by_cases c : A / 2 ^ 62 = B / 2 ^ 62
    · rw [if_pos (by rw [c]), cmp_n (by omega) (by omega)]
      by_cases c2 : A < B
      · rw [if_pos (by omega), if_pos c2]
      · rw [if_neg (by omega), if_neg c2]
        by_cases c3 : A = B
        · rw [if_pos (by omega), if_pos c3]
        · rw [if_neg (by omega), if_neg c3]
    · rw [if_neg (fun h => c ((pk_lEQ q1 q2).mp h)), cmp_n q1 q2]
      by_cases c2 : A < B
      · rw [if_pos (by omega), if_pos c2]
      · rw [if_neg (by omega), if_neg c2, if_neg (by omega), if_neg (by omega)]
/-- a cut as it should be -/
def cvd_ (c : Int64 × Int64 × Int32) : Prop := ∃ a b : Nat, c.1 = lN a ∧ c.2.1 = lN b ∧ a ≤ b ∧ 0 < b ∧ b < 2 ^ 62
theorem cpf_le {a1 b1 a2 b2 : Nat} (h1 : a1 < 2 ^ 62) (h2 : b1 < 2 ^ 62) (h3 : a2 < 2 ^ 62) (h4 : b2 < 2 ^ 62) (p1 : 0 < b1) (p2 : 0 < b2) : cpf_ (lN a1) (lN b1) (lN a2) (lN b2) ≤ 0 ↔ a1 * b2 ≤ a2 * b1 := by
  rw [cpf_n h1 h2 h3 h4 p1 p2]
  by_cases c : a1 * b2 < a2 * b1
  · rw [if_pos c]; exact ⟨fun _ => Nat.le_of_lt c, fun _ => by decide⟩
  · rw [if_neg c]
    by_cases c2 : a1 * b2 = a2 * b1
    · rw [if_pos c2]; exact ⟨fun _ => Nat.le_of_eq c2, fun _ => by decide⟩
    · rw [if_neg c2]; exact ⟨fun h => absurd h (by decide), fun h => by omega⟩
theorem cpf_eq {a1 b1 a2 b2 : Nat} (h1 : a1 < 2 ^ 62) (h2 : b1 < 2 ^ 62) (h3 : a2 < 2 ^ 62) (h4 : b2 < 2 ^ 62) (p1 : 0 < b1) (p2 : 0 < b2) : cpf_ (lN a1) (lN b1) (lN a2) (lN b2) = 0 ↔ a1 * b2 = a2 * b1 := by
  rw [cpf_n h1 h2 h3 h4 p1 p2]
  by_cases c : a1 * b2 < a2 * b1
  · rw [if_pos c]; exact ⟨fun h => absurd h (by decide), fun h => by omega⟩
  · rw [if_neg c]
    by_cases c2 : a1 * b2 = a2 * b1
    · rw [if_pos c2]; exact ⟨fun _ => c2, fun _ => rfl⟩
    · rw [if_neg c2]; exact ⟨fun h => absurd h (by decide), fun h => absurd h c2⟩
/-- the cuts' order is an order -/
theorem cle_tr {ov un : Nat → Int64} {n : Nat} (h : ∀ i, i < n → ∃ a b : Nat, ov i = lN a ∧ un i = lN b ∧ a ≤ b ∧ 0 < b ∧ b < 2 ^ 62) : ∀ a b c, a < n → b < n → c < n → cle_ ov un a b = true → cle_ ov un b c = true → cle_ ov un a c = true := by
  intro x y z hx hy hz q1 q2
  obtain ⟨a1, b1, e1, f1, l1, p1, u1⟩ := h x hx
  obtain ⟨a2, b2, e2, f2, l2, p2, u2⟩ := h y hy
  obtain ⟨a3, b3, e3, f3, l3, p3, u3⟩ := h z hz
  unfold cle_ at *
  rw [decide_eq_true_eq] at *
  rw [e1, f1, e2, f2, cpf_le (by omega) u1 (by omega) u2 p1 p2] at q1
  rw [e2, f2, e3, f3, cpf_le (by omega) u2 (by omega) u3 p2 p3] at q2
  rw [e1, f1, e3, f3, cpf_le (by omega) u1 (by omega) u3 p1 p3]
  apply Nat.le_of_mul_le_mul_left (c := b2) _ p2
  calc b2 * (a1 * b3) = (a1 * b2) * b3 := by simp [Nat.mul_comm, Nat.mul_left_comm]
    _ ≤ (a2 * b1) * b3 := Nat.mul_le_mul_right _ q1
    _ = (a2 * b3) * b1 := by simp [Nat.mul_comm, Nat.mul_left_comm]
    _ ≤ (a3 * b2) * b1 := Nat.mul_le_mul_right _ q2
    _ = b2 * (a3 * b1) := by simp [Nat.mul_comm, Nat.mul_left_comm]
theorem cle_to {ov un : Nat → Int64} {n : Nat} (h : ∀ i, i < n → ∃ a b : Nat, ov i = lN a ∧ un i = lN b ∧ a ≤ b ∧ 0 < b ∧ b < 2 ^ 62) : ∀ a b, a < n → b < n → cle_ ov un a b = true ∨ cle_ ov un b a = true := by
  intro x y hx hy
  obtain ⟨a1, b1, e1, f1, l1, p1, u1⟩ := h x hx
  obtain ⟨a2, b2, e2, f2, l2, p2, u2⟩ := h y hy
  unfold cle_
  rw [decide_eq_true_eq, decide_eq_true_eq, e1, f1, e2, f2, cpf_le (by omega) u1 (by omega) u2 p1 p2, cpf_le (by omega) u2 (by omega) u1 p2 p1]
  omega
