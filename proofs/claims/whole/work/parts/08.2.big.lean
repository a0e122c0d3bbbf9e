/-! the reference's long numbers: what they are worth -/
theorem jad {x y : Int64} (h1 : -9223372036854775808 ≤ x.toInt + y.toInt) (h2 : x.toInt + y.toInt < 9223372036854775808) : (x + y).toInt = x.toInt + y.toInt := by
  rw [Int64.toInt_add]; exact Int.bmod_eq_of_le_mul_two (by omega) (by omega)
theorem jsu {x y : Int64} (h1 : -9223372036854775808 ≤ x.toInt - y.toInt) (h2 : x.toInt - y.toInt < 9223372036854775808) : (x - y).toInt = x.toInt - y.toInt := by
  rw [Int64.toInt_sub]; exact Int.bmod_eq_of_le_mul_two (by omega) (by omega)
theorem jmu {x y : Int64} (h1 : -9223372036854775808 ≤ x.toInt * y.toInt) (h2 : x.toInt * y.toInt < 9223372036854775808) : (x * y).toInt = x.toInt * y.toInt := by
  rw [Int64.toInt_mul]; exact Int.bmod_eq_of_le_mul_two (by omega) (by omega)
theorem jshr (x : Int64) {D : Int64} {d : Nat} (hD : (D.toBitVec.smod 64).toNat = d) : (x >>> D).toInt = x.toInt / (2 ^ d : Nat) := by
  have e : (x >>> D).toInt = x.toInt >>> d := by
    rw [← hD]; exact BitVec.toInt_sshiftRight ..
  rw [e, Int.shiftRight_eq_div_pow]
theorem jmask (x : Int64) : (x &&& 16777215).toInt = x.toInt % 16777216 := by
  obtain ⟨n, hn, rfl⟩ := wb_of x
  have e : lN n &&& 16777215 = lN (n % 16777216) := g_mask (s := 24) (p := 16777216) rfl (by decide) hn
  rw [e, pf_lI (by omega)]
  have e2 : (lN n).toInt = if 2 * n < 18446744073709551616 then (n : Int) else (n : Int) - 18446744073709551616 := by
    show (BitVec.ofNat 64 n).toInt = _
    rw [BitVec.toInt_eq_toNat_cond, BitVec.toNat_ofNat, Nat.mod_eq_of_lt hn]; rfl
  rw [e2]; split <;> omega
/-- the worth of n numbers from a on, in base 2^24 -/
def vl_ (z : Nat → Int64) (a : Nat) : Nat → Int
  | 0 => 0
  | n + 1 => vl_ z a n + (z (a + n)).toInt * 16777216 ^ n
/-- n numbers from a on lie within B, from L on they are 0 -/
def lm_ (z : Nat → Int64) (a L : Nat) (B : Int) : Prop := ∀ k, k < 16 → (-B ≤ (z (a + k)).toInt ∧ (z (a + k)).toInt ≤ B) ∧ (L ≤ k → z (a + k) = 0)
theorem vl_e {z z' : Nat → Int64} {a : Nat} : ∀ n, (∀ k, k < n → z' (a + k) = z (a + k)) → vl_ z' a n = vl_ z a n
  | 0, _ => rfl
  | n + 1, h => by rw [vl_, vl_, vl_e n (fun k hk => h k (by omega)), h n (by omega)]
theorem lm_e {z z' : Nat → Int64} {a L : Nat} {B : Int} (h : lm_ z a L B) (e : ∀ k, k < 16 → z' (a + k) = z (a + k)) : lm_ z' a L B := fun k hk => by rw [e k hk]; exact h k hk
theorem lm_w {z : Nat → Int64} {a L L2 : Nat} {B B2 : Int} (h : lm_ z a L B) (hL : L ≤ L2) (hB : B ≤ B2) : lm_ z a L2 B2 := fun k hk => ⟨⟨by have := (h k hk).1; omega, by have := (h k hk).1; omega⟩, fun q => (h k hk).2 (by omega)⟩
/-- one step of settling -/
theorem stp_ {v : Int64} (h : -2305843009213693952 ≤ v.toInt ∧ v.toInt ≤ 2305843009213693952) :
    ∃ d c : Int, ((v + 8388608 &&& 16777215) - 8388608).toInt = d ∧ ((v - ((v + 8388608 &&& 16777215) - 8388608)) >>> ((24 : Int32).toInt64 &&& 63)).toInt = c ∧ v.toInt = d + c * 16777216 ∧ -8388608 ≤ d ∧ d < 8388608 := by
  have e0 : (8388608 : Int64).toInt = 8388608 := by decide
  have e1 : (v + 8388608).toInt = v.toInt + 8388608 := by rw [jad (by rw [e0]; omega) (by rw [e0]; omega), e0]
  have e2 : (v + 8388608 &&& 16777215).toInt = (v.toInt + 8388608) % 16777216 := by rw [jmask, e1]
  have e3 : ((v + 8388608 &&& 16777215) - 8388608).toInt = (v.toInt + 8388608) % 16777216 - 8388608 := by rw [jsu (by rw [e2, e0]; omega) (by rw [e2, e0]; omega), e2, e0]
  have e4 : (v - ((v + 8388608 &&& 16777215) - 8388608)).toInt = v.toInt - ((v.toInt + 8388608) % 16777216 - 8388608) := by rw [jsu (by rw [e3]; omega) (by rw [e3]; omega), e3]
  refine ⟨_, _, e3, rfl, ?_, by omega, by omega⟩
  rw [jshr (d := 24) _ (by decide), e4]
  have : ((2 ^ 24 : Nat) : Int) = 16777216 := by decide
  rw [this]; omega
theorem stl_f {z : Nat → Int64} {a : Nat} : ∀ n j, (j < a ∨ a + n ≤ j) → (stl_ z a n).1 j = z j
  | 0, _, _ => rfl
  | n + 1, j, h => by rw [stl_]; show vp_updL _ _ _ j = z j; rw [pk_uLn (by omega)]; exact stl_f n j (by omega)
theorem st0_ : -17179880000 ≤ (0 : Int64).toInt ∧ (0 : Int64).toInt ≤ 17179880000 := by decide
theorem sn1_ {x C d c : Int} (e : x + C = d + c * 16777216) (h1 : -8388608 ≤ d) (h2 : d < 8388608) (hx : -288230376151711744 ≤ x ∧ x ≤ 288230376151711744) (hC : -17179880000 ≤ C ∧ C ≤ 17179880000) : -17179880000 ≤ c ∧ c ≤ 17179880000 := by omega
theorem sn2_ {C d c : Int} (e : 0 + C = d + c * 16777216) (h1 : -8388608 ≤ d) (h2 : d < 8388608) (hC : -17179880000 ≤ C ∧ C ≤ 17179880000) : -1025 ≤ c ∧ c ≤ 1025 := by omega
theorem sn3_ {C d c : Int} (e : 0 + C = d + c * 16777216) (h1 : -8388608 ≤ d) (h2 : d < 8388608) (hC : -1025 ≤ C ∧ C ≤ 1025) : c = 0 := by omega
theorem sn4_ {d c : Int} (e : (0 : Int) + 0 = d + c * 16777216) (h1 : -8388608 ≤ d) (h2 : d < 8388608) : d = 0 := by omega
theorem sn5_ {x C d c w Q P : Int} (e : x + C = d + c * 16777216) (i : w + C * P = Q) : w + d * P + c * (P * 16777216) = Q + x * P := by
  have : x = d + c * 16777216 - C := by omega
  rw [← i, this, Int.sub_mul, Int.add_mul, Int.mul_assoc c, Int.mul_comm 16777216 P]; omega
/-- settling keeps the worth; behind the numbers there is at most a small carry -/
theorem stl_v {z : Nat → Int64} {a L : Nat} (hz : lm_ z a L 288230376151711744) : ∀ n, n ≤ 16 →
    vl_ (stl_ z a n).1 a n + (stl_ z a n).2.toInt * 16777216 ^ n = vl_ z a n ∧ (∀ k, k < n → -8388608 ≤ ((stl_ z a n).1 (a + k)).toInt ∧ ((stl_ z a n).1 (a + k)).toInt ≤ 8388608) ∧ (-17179880000 ≤ (stl_ z a n).2.toInt ∧ (stl_ z a n).2.toInt ≤ 17179880000) ∧
    (L + 1 ≤ n → -1025 ≤ (stl_ z a n).2.toInt ∧ (stl_ z a n).2.toInt ≤ 1025) ∧ (L + 2 ≤ n → (stl_ z a n).2 = 0) ∧ (∀ k, L + 2 ≤ k → k < n → (stl_ z a n).1 (a + k) = 0)
  | 0, _ => ⟨by simp [stl_, vl_], fun k h => absurd h (Nat.not_lt_zero _), st0_, fun h => absurd h (by omega), fun h => absurd h (by omega), fun k _ h => absurd h (Nat.not_lt_zero _)⟩
  | n + 1, hn => by
    obtain ⟨i1, i2, i3, i4, i5, i6⟩ := stl_v hz n (by omega)
    have hzn := hz n (by omega)
    have hs : (stl_ z a n).1 (a + n) = z (a + n) := stl_f n (a + n) (Or.inr (Nat.le_refl _))
    have ev : ((stl_ z a n).1 (a + n) + (stl_ z a n).2).toInt = (z (a + n)).toInt + (stl_ z a n).2.toInt := by rw [hs]; exact jad (by omega) (by omega)
    obtain ⟨d, c, ed, ec, evd, hd1, hd2⟩ := stp_ (v := (stl_ z a n).1 (a + n) + (stl_ z a n).2) (by rw [ev]; omega)
    have en : ∀ k, k < n → (stl_ z a (n + 1)).1 (a + k) = (stl_ z a n).1 (a + k) := fun k hk => by rw [stl_]; exact pk_uLn (by omega)
    have e9 : (stl_ z a (n + 1)).1 (a + n) = ((stl_ z a n).1 (a + n) + (stl_ z a n).2 + 8388608 &&& 16777215) - 8388608 := by rw [stl_]; exact pk_uLs
    have e8 : (stl_ z a (n + 1)).2.toInt = c := ec
    have e7 : ((stl_ z a (n + 1)).1 (a + n)).toInt = d := by rw [e9]; exact ed
    rw [ev] at evd
    have z0 : (0 : Int64).toInt = 0 := by decide
    refine ⟨?_, ?_, by rw [e8]; exact sn1_ evd hd1 hd2 hzn.1 i3, ?_, ?_, ?_⟩
    · rw [vl_, vl_, vl_e n en, e7, e8, Int.pow_succ]; exact sn5_ evd i1
    · intro k hk
      rcases Nat.lt_or_ge k n with q | q
      · rw [en k q]; exact i2 k q
      · have : k = n := by omega
        subst this; rw [e7]; exact ⟨hd1, Int.le_of_lt hd2⟩
    · intro h
      rw [e8]
      rw [hzn.2 (by omega), z0] at evd
      exact sn2_ evd hd1 hd2 i3
    · intro h
      rw [hzn.2 (by omega), z0] at evd
      apply Int64.toInt_inj.mp; rw [e8, z0]; exact sn3_ evd hd1 hd2 (i4 (by omega))
    · intro k h1 h2
      rcases Nat.lt_or_ge k n with q | q
      · rw [en k q]; exact i6 k h1 q
      · have : k = n := by omega
        subst this
        rw [hzn.2 (by omega), i5 (by omega), z0] at evd
        apply Int64.toInt_inj.mp; rw [e7, z0]; exact sn4_ evd hd1 hd2
/-- a number that is settled: 16 digits, from L on 0, worth v -/
def bg_ (z : Nat → Int64) (r L : Nat) (v : Int) : Prop := lm_ z (16 * r) L 8388608 ∧ vl_ z (16 * r) 16 = v
theorem bg_e {z z' : Nat → Int64} {r L : Nat} {v : Int} (h : bg_ z r L v) (e : ∀ j, 16 * r ≤ j → j < 16 * r + 16 → z' j = z j) : bg_ z' r L v :=
  ⟨lm_e h.1 (fun k hk => e _ (by omega) (by omega)), (vl_e 16 (fun k hk => e _ (by omega) (by omega))).trans h.2⟩
theorem stl_b {z : Nat → Int64} {r L : Nat} (hL : L + 2 ≤ 16) (h : lm_ z (16 * r) L 288230376151711744) : bg_ (stl_ z (16 * r) 16).1 r (L + 2) (vl_ z (16 * r) 16) := by
  obtain ⟨i1, i2, i3, i4, i5, i6⟩ := stl_v h 16 (Nat.le_refl _)
  refine ⟨fun k hk => ⟨⟨(i2 k hk).1, (i2 k hk).2⟩, fun q => i6 k q hk⟩, ?_⟩
  rw [← i1, i5 hL]
  have z0 : (0 : Int64).toInt = 0 := by decide
  rw [z0, Int.zero_mul, Int.add_zero]
