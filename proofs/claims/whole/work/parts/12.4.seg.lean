/-! what one segment's cuts do to a course, up to N / D -/
theorem CL_s {D a b k : Int} (hD : 0 < D) : CL_ (D * a) (D * b) (D * k) = CL_ a b k ∧ CR_ (D * a) (D * b) (D * k) = CR_ a b k := by
  unfold CL_ CR_
  have h1 := pl0p (x := a) hD; have h2 := pl0p (x := b) hD; have h3 := pl0p (x := k) hD
  exact ⟨pn_c (by rw [h1.1, h2.1, h3.1, h3.2]), pn_c (by rw [h1.2, h2.2, h3.1, h3.2])⟩
theorem cvd_i {o u : Int64} {c : Int32} {O U : Int} (h1 : o.toInt = O) (h2 : u.toInt = U) (h3 : 0 ≤ O) (h4 : O ≤ U) (h5 : 0 < U) (h6 : U ≤ 4000000000000000000) : cvd_ (o, u, c) := by
  have k1 := lq_e (x := o) (fun h => by have := (l0_ o).2.1.mp h; omega)
  have k2 := lq_e (x := u) (fun h => by have := (l0_ u).2.1.mp h; omega)
  refine ⟨lq_ o, lq_ u, k1.1, k2.1, ?_, ?_, ?_⟩ <;> unfold lq_ <;> omega
section
variable {ks : Int32} {a64 b64 o64 x64 y64 s64 : Int64} {a b o x y s N D : Int} {tu : Int32}
/-- a segment that crosses the line, or ends on it -/
theorem cq_x (hks : ks = 0 ∨ ks = 64) (ha : a64.toInt = a) (hb : b64.toInt = b) (ho : o64.toInt = o) (h1 : -2000000000000000000 ≤ b - a ∧ b - a ≤ 2000000000000000000) (h2 : -2000000000000000000 ≤ o ∧ o ≤ 2000000000000000000)
    (hD : 0 < D) (hN : 0 ≤ N) (hND : N ≤ D) (hc : ¬ ((0 < a ↔ 0 < b) ∧ (a < 0 ↔ b < 0))) :
    cbt_ tu a64 b64 o64 ^^^ xz_ (cle3 N D) (cbs_ ks a64 b64 o64 x64 y64 s64) = tu ^^^ en2_ (CL_ a b (D * o - N * (b - a))) (CR_ a b (D * o - N * (b - a))) ∧
    gz_ (cle3 N D) (cbs_ ks a64 b64 o64 x64 y64 s64) = 0 ∧ ((∃ c ∈ cbs_ ks a64 b64 o64 x64 y64 s64, ceq3 N D c = true) ↔ D * o - N * (b - a) = 0) ∧
    (∀ c ∈ cbs_ ks a64 b64 o64 x64 y64 s64, cvd_ c) := by
  obtain ⟨eo, eu⟩ := ou_e ha hb ho h1 h2
  have et := tns_e ha hb
  unfold cbs_ cbt_ cac_ cat_
  rw [if_neg (fun h => hc ((tlr_e ha hb).mp h)), if_neg (fun h => hc ((tlr_e ha hb).mp h)), et]
  obtain ⟨O, eO⟩ : ∃ O, O = (if b - a < 0 then -o else o) := ⟨_, rfl⟩
  obtain ⟨U, eU⟩ : ∃ U, U = (if 0 < b - a then b - a else -(b - a)) := ⟨_, rfl⟩
  rw [← eO] at eo; rw [← eU] at eu
  have hU : 0 < U ∧ U ≤ 2000000000000000000 := by rw [eU]; split <;> omega
  have hO : O ≤ 2000000000000000000 := by rw [eO]; split <;> omega
  have hK : (b - a < 0 ∧ D * o - N * (b - a) = -(O * D - N * U)) ∨ (0 < b - a ∧ D * o - N * (b - a) = O * D - N * U) := by
    rcases Int.lt_trichotomy (b - a) 0 with q | q | q
    · refine Or.inl ⟨q, ?_⟩; rw [eO, eU, if_pos q, if_neg (by omega)]; grind
    · omega
    · refine Or.inr ⟨q, ?_⟩; rw [eO, eU, if_neg (by omega), if_pos q]; grind
  have hNU : 0 ≤ N * U := Int.mul_nonneg hN (by omega)
  have hDU : N * U ≤ D * U := Int.mul_le_mul_of_nonneg_right hND (by omega)
  have c1 : ((0 : Int64) < ovr_ a64 b64 o64) ↔ 0 < O := by rw [(l0_ _).1, eo]
  have c2 : ((0 : Int64) ≤ ovr_ a64 b64 o64 ∧ ovr_ a64 b64 o64 ≤ und_ a64 b64) ↔ (0 ≤ O ∧ O ≤ U) := by rw [(l0_ _).2.2.2, eo, Int64.le_iff_toInt_le, eo, eu]
  have s0 := mt_ D O
  have s1 := pl0p (x := O - U) hD
  have s2 : D * (O - U) = O * D - D * U := by grind
  rw [s2] at s1
  have s3 : D * O = O * D := Int.mul_comm _ _
  rw [s3] at s0
  generalize D * o - N * (b - a) = κ at *
  by_cases k : 0 < O * D - N * U
  · have O0 : 0 < O := by omega
    have l1 : CL_ a b κ = pn_ (¬ (0 < a ↔ 0 < b)) := by unfold CL_; exact pn_c (by omega)
    have l2 : CR_ a b κ = pn_ (¬ (a < 0 ↔ b < 0)) := by unfold CR_; exact pn_c (by omega)
    rw [if_pos (c1.mpr O0), if_pos (c1.mpr O0), l1, l2]
    by_cases w : O ≤ U
    · rw [if_pos (c2.mpr ⟨by omega, w⟩)]
      have nl : cle3 N D (ovr_ a64 b64 o64, und_ a64 b64, (ks ||| 1) ||| en2_ (pn_ (¬ (0 < a ↔ 0 < b))) (pn_ (¬ (a < 0 ↔ b < 0)))) = false := by unfold cle3; rw [eo, eu]; exact decide_eq_false (by omega)
      refine ⟨?_, ?_, ?_, ?_⟩
      · rw [xz_, nl, xz_]; simp
      · rw [gz_, nl, gz_]; simp
      · constructor
        · rintro ⟨c, hc1, hc2⟩
          rw [List.mem_singleton.mp hc1] at hc2
          unfold ceq3 at hc2; rw [decide_eq_true_eq, eo, eu] at hc2; omega
        · intro h; omega
      · intro c hc1; rw [List.mem_singleton.mp hc1]; exact cvd_i eo eu (by omega) w hU.1 (by omega)
    · rw [if_neg (fun h => w (c2.mp h).2)]
      refine ⟨by rw [xz_]; simp, rfl, ⟨fun ⟨c, h, _⟩ => absurd h (by simp), fun h => by omega⟩, fun c h => absurd h (by simp)⟩
  · have l1 : CL_ a b κ = 0 := by unfold CL_; exact pn_n (by omega)
    have l2 : CR_ a b κ = 0 := by unfold CR_; exact pn_n (by omega)
    have w : O ≤ U := by omega
    have e0 : en2_ 0 0 = 0 := by decide
    rw [l1, l2, e0, Int32.xor_zero]
    by_cases p : 0 ≤ O
    · rw [if_pos (c2.mpr ⟨p, w⟩)]
      have hv : ∀ z : Int32, cvd_ (ovr_ a64 b64 o64, und_ a64 b64, z) := fun z => cvd_i eo eu p w hU.1 (by omega)
      have he : ∀ z : Int32, (∃ c ∈ [((ovr_ a64 b64 o64, und_ a64 b64, z) : CT3_)], ceq3 N D c = true) ↔ κ = 0 := by
        intro z
        constructor
        · rintro ⟨c, hc1, hc2⟩
          rw [List.mem_singleton.mp hc1] at hc2
          unfold ceq3 at hc2; rw [decide_eq_true_eq, eo, eu] at hc2; omega
        · intro h
          refine ⟨_, List.mem_singleton.mpr rfl, ?_⟩
          unfold ceq3; rw [decide_eq_true_eq, eo, eu]; omega
      have nl : ∀ z : Int32, cle3 N D (ovr_ a64 b64 o64, und_ a64 b64, z) = true := fun z => by unfold cle3; rw [eo, eu]; exact decide_eq_true (by omega)
      by_cases O0 : 0 < O
      · rw [if_pos (c1.mpr O0), if_pos (c1.mpr O0)]
        refine ⟨?_, ?_, he _, fun c hc1 => by rw [List.mem_singleton.mp hc1]; exact hv _⟩
        · rw [xz_, if_pos (nl _), xz_, Int32.xor_zero]
          show _ ^^^ _ ^^^ ((ks ||| 1 ||| _) &&& 48) = _
          rw [(ks_t hks _ _).1, Int32.xor_assoc, Int32.xor_self, Int32.xor_zero]
        · rw [gz_, if_pos (nl _), gz_, Int32.add_zero]; exact (ks_t hks _ _).2
      · rw [if_neg (fun h => O0 (c1.mp h)), if_neg (fun h => O0 (c1.mp h))]
        refine ⟨?_, ?_, he _, fun c hc1 => by rw [List.mem_singleton.mp hc1]; exact hv _⟩
        · rw [xz_, if_pos (nl _), xz_, Int32.xor_zero]
          show _ ^^^ ((ks ||| 1 ||| 0) &&& 48) = _
          rw [(ks_b hks).2.2.2.2.2.2.1, Int32.xor_zero]
        · rw [gz_, if_pos (nl _), gz_, Int32.add_zero]; exact (ks_b hks).2.2.2.2.2.2.2
    · rw [if_neg (fun h => p (c2.mp h).1), if_neg (fun h => p (by have := c1.mp h; omega))]
      refine ⟨by rw [xz_, Int32.xor_zero], rfl, ⟨fun ⟨c, h, _⟩ => absurd h (by simp), fun h => ?_⟩, fun c h => absurd h (by simp)⟩
      omega
/-- a segment beside the line -/
theorem cq_s (ha : a64.toInt = a) (hb : b64.toInt = b) (hc : (0 < a ↔ 0 < b) ∧ (a < 0 ↔ b < 0)) (h0 : ¬ a = 0) : cbs_ ks a64 b64 o64 x64 y64 s64 = [] ∧ cbt_ tu a64 b64 o64 = tu ∧ (∀ k, CL_ a b k = 0 ∧ CR_ a b k = 0) := by
  unfold cbs_ cbt_
  rw [if_pos ((tlr_e ha hb).mpr hc), if_pos ((tlr_e ha hb).mpr hc), if_neg (fun h => h0 (by rw [← ha]; exact (l0_ a64).2.2.1.mp h))]
  refine ⟨rfl, rfl, fun k => ⟨pn_n (by omega), pn_n (by omega)⟩⟩
/-- the cover counts at N / D -/
def cd_ (N D s x y : Int) : Prop := (D * x - N * s ≤ 0 ∨ D * y - N * s ≤ 0) ∧ (0 < D * x - N * s ∨ 0 < D * y - N * s) ∧ N < D
/-- a segment along the line -/
theorem cq_c (hks : ks = 0 ∨ ks = 64) (ha : a64.toInt = 0) (hb : b64.toInt = 0) (hx : x64.toInt = x) (hy : y64.toInt = y) (hs : s64.toInt = s) (h1 : 0 < s ∧ s ≤ 4000000000) (hD : 0 < D) (hN : 0 ≤ N) (hND : N ≤ D) :
    cbt_ tu a64 b64 o64 = tu ∧ xz_ (cle3 N D) (cbs_ ks a64 b64 o64 x64 y64 s64) = 0 ∧ (∀ k, CL_ 0 0 k = 0 ∧ CR_ 0 0 k = 0) ∧
    ((cd_ N D s x y ∧ gz_ (cle3 N D) (cbs_ ks a64 b64 o64 x64 y64 s64) = 1) ∨ (¬ cd_ N D s x y ∧ gz_ (cle3 N D) (cbs_ ks a64 b64 o64 x64 y64 s64) = 0)) ∧
    ((∃ c ∈ cbs_ ks a64 b64 o64 x64 y64 s64, ceq3 N D c = true) → ¬ (0 < D * x - N * s ∧ 0 < D * y - N * s) ∧ ¬ (D * x - N * s < 0 ∧ D * y - N * s < 0)) ∧
    (¬ (0 < D * x - N * s ∧ 0 < D * y - N * s) ∧ ¬ (D * x - N * s < 0 ∧ D * y - N * s < 0) → (∃ c ∈ cbs_ ks a64 b64 o64 x64 y64 s64, ceq3 N D c = true) ∨ cd_ N D s x y) ∧
    (∀ c ∈ cbs_ ks a64 b64 o64 x64 y64 s64, cvd_ c) := by
  have hc : tl_ a64 b64 = 0 ∧ tr_ a64 b64 = 0 := (tlr_e ha hb).mpr ⟨Iff.rfl, Iff.rfl⟩
  unfold cbs_ cbt_
  rw [if_pos hc, if_pos hc, if_pos ((l0_ a64).2.2.1.mpr ha)]
  refine ⟨rfl, ?_, fun k => ⟨pn_n (by omega), pn_n (by omega)⟩, ?_⟩
  · unfold cov_; split
    · rw [xz_, xz_, xz_]
      show (if _ then ((ks ||| 1) ||| 4) &&& 48 else 0) ^^^ ((if _ then ((ks ||| 1) ||| 8) &&& 48 else 0) ^^^ 0) = 0
      rw [(ks_b hks).1, (ks_b hks).2.1]; simp
    · rfl
  have em : (if y64 < x64 then y64 else x64).toInt = (if y < x then y else x) := by
    by_cases q : y < x
    · rw [if_pos (by rw [Int64.lt_iff_toInt_lt, hx, hy]; exact q), if_pos q, hy]
    · rw [if_neg (by rw [Int64.lt_iff_toInt_lt, hx, hy]; exact q), if_neg q, hx]
  have eM : (if y64 < x64 then x64 else y64).toInt = (if y < x then x else y) := by
    by_cases q : y < x
    · rw [if_pos (by rw [Int64.lt_iff_toInt_lt, hx, hy]; exact q), if_pos q, hx]
    · rw [if_neg (by rw [Int64.lt_iff_toInt_lt, hx, hy]; exact q), if_neg q, hy]
  have eF : (cfr_ x64 y64).toInt = (if 0 < (if y < x then y else x) then (if y < x then y else x) else 0) := by
    unfold cfr_
    by_cases q : 0 < (if y < x then y else x)
    · rw [if_pos ((l0_ _).1.mpr (by rw [em]; exact q)), if_pos q, em]
    · rw [if_neg (fun h => q (by rw [← em]; exact (l0_ _).1.mp h)), if_neg q]; rfl
  have eT : (cto_ x64 y64 s64).toInt = (if s < (if y < x then x else y) then s else (if y < x then x else y)) := by
    unfold cto_
    by_cases q : s < (if y < x then x else y)
    · rw [if_pos (by rw [Int64.lt_iff_toInt_lt, eM, hs]; exact q), if_pos q, hs]
    · rw [if_neg (by rw [Int64.lt_iff_toInt_lt, eM, hs]; exact q), if_neg q, eM]
  obtain ⟨mn, hmn⟩ : ∃ z, z = (if y < x then y else x) := ⟨_, rfl⟩
  obtain ⟨mx, hmx⟩ : ∃ z, z = (if y < x then x else y) := ⟨_, rfl⟩
  rw [← hmn] at eF; rw [← hmx] at eT
  obtain ⟨F, hF⟩ : ∃ z, z = (if 0 < mn then mn else 0) := ⟨_, rfl⟩
  obtain ⟨T, hT⟩ : ∃ z, z = (if s < mx then s else mx) := ⟨_, rfl⟩
  rw [← hF] at eF; rw [← hT] at eT
  have hmm : (mn = x ∧ mx = y ∧ x ≤ y) ∨ (mn = y ∧ mx = x ∧ y < x) := by
    by_cases q : y < x
    · rw [if_pos q] at hmn hmx; omega
    · rw [if_neg q] at hmn hmx; omega
  have hFF : (F = mn ∧ 0 < mn) ∨ (F = 0 ∧ mn ≤ 0) := by
    by_cases q : 0 < mn
    · rw [if_pos q] at hF; omega
    · rw [if_neg q] at hF; omega
  have hTT : (T = s ∧ s < mx) ∨ (T = mx ∧ mx ≤ s) := by
    by_cases q : s < mx
    · rw [if_pos q] at hT; omega
    · rw [if_neg q] at hT; omega
  clear em eM hmn hmx hF hT
  have hNs : 0 ≤ N * s := Int.mul_nonneg hN (by omega)
  have hDs := pl0p (x := D - N) h1.1
  have d0 : s * (D - N) = s * D - N * s := by grind
  rw [d0] at hDs
  have p1 := pl0p (x := mn) hD; have p2 := pl0p (x := mx - mn) hD; have p3 := pl0p (x := s - mx) hD
  have f1 : D * (mx - mn) = D * mx - D * mn := by grind
  have f2 : D * (s - mx) = s * D - D * mx := by grind
  rw [f1] at p2; rw [f2] at p3
  have g1 : F * D = if 0 < mn then D * mn else 0 := by
    rcases hFF with q | q
    · rw [if_pos q.2, q.1, Int.mul_comm]
    · rw [if_neg (by omega), q.1, Int.zero_mul]
  have g2 : T * D = if s < mx then s * D else D * mx := by
    rcases hTT with q | q
    · rw [if_pos q.2, q.1]
    · rw [if_neg (by omega), q.1, Int.mul_comm]
  have ecd : cd_ N D s x y ↔ (D * mn - N * s ≤ 0 ∧ 0 < D * mx - N * s ∧ N < D) := by
    unfold cd_
    rcases hmm with ⟨e1, e2, e3⟩ | ⟨e1, e2, e3⟩ <;> subst e1 <;> subst e2 <;> omega
  have eon : (¬ (0 < D * x - N * s ∧ 0 < D * y - N * s) ∧ ¬ (D * x - N * s < 0 ∧ D * y - N * s < 0)) ↔ (D * mn - N * s ≤ 0 ∧ 0 ≤ D * mx - N * s) := by
    rcases hmm with ⟨e1, e2, e3⟩ | ⟨e1, e2, e3⟩ <;> subst e1 <;> subst e2 <;> omega
  rw [ecd, eon]
  have hmle : mn ≤ mx := by omega
  clear ecd eon hmm hx hy
  have pFT := pl0p (x := T - F) hD
  have f3 : D * (T - F) = T * D - F * D := by grind
  rw [f3] at pFT
  clear f1 f2 f3 d0
  have n1 : ∀ z : Int32, cle3 N D (cfr_ x64 y64, s64, z) = decide (F * D ≤ N * s) := fun z => by unfold cle3; rw [eF, hs]
  have n2 : ∀ z : Int32, cle3 N D (cto_ x64 y64 s64, s64, z) = decide (T * D ≤ N * s) := fun z => by unfold cle3; rw [eT, hs]
  have q1 : ∀ z : Int32, ceq3 N D (cfr_ x64 y64, s64, z) = decide (F * D = N * s) := fun z => by unfold ceq3; rw [eF, hs]
  have q2 : ∀ z : Int32, ceq3 N D (cto_ x64 y64 s64, s64, z) = decide (T * D = N * s) := fun z => by unfold ceq3; rw [eT, hs]
  generalize D * mn = A at *; generalize D * mx = B at *; generalize N * s = Z at *; generalize s * D = S at *
  have G1 : (F * D = A ∧ 0 < mn) ∨ (F * D = 0 ∧ mn ≤ 0) := by
    by_cases q : 0 < mn
    · rw [if_pos q] at g1; exact Or.inl ⟨g1, q⟩
    · rw [if_neg q] at g1; exact Or.inr ⟨g1, by omega⟩
  have G2 : (T * D = S ∧ s < mx) ∨ (T * D = B ∧ mx ≤ s) := by
    by_cases q : s < mx
    · rw [if_pos q] at g2; exact Or.inl ⟨g2, q⟩
    · rw [if_neg q] at g2; exact Or.inr ⟨g2, by omega⟩
  clear g1 g2
  unfold cov_
  by_cases w : F ≤ T
  · rw [if_pos (by rw [Int64.le_iff_toInt_le, eF, eT]; exact w)]
    refine ⟨?_, ?_, ?_, ?_⟩
    · rw [gz_, gz_, gz_, n1, n2]
      show _ ∧ (if decide (F * D ≤ Z) = true then ga_ ((ks ||| 1) ||| 4) else 0) + ((if decide (T * D ≤ Z) = true then ga_ ((ks ||| 1) ||| 8) else 0) + 0) = 1 ∨ _ ∧ (if decide (F * D ≤ Z) = true then ga_ ((ks ||| 1) ||| 4) else 0) + ((if decide (T * D ≤ Z) = true then ga_ ((ks ||| 1) ||| 8) else 0) + 0) = 0
      rw [(ks_b hks).2.2.2.1, (ks_b hks).2.2.2.2.1]
      by_cases u1 : F * D ≤ Z
      · rw [decide_eq_true u1]
        by_cases u2 : T * D ≤ Z
        · rw [decide_eq_true u2]; exact Or.inr ⟨by omega, by decide⟩
        · rw [decide_eq_false u2]; exact Or.inl ⟨by omega, by decide⟩
      · rw [decide_eq_false u1, decide_eq_false (by omega : ¬ T * D ≤ Z)]; exact Or.inr ⟨by omega, by decide⟩
    · rintro ⟨c, hc1, hc2⟩
      rcases List.mem_cons.mp hc1 with e | e
      · rw [e, q1, decide_eq_true_eq] at hc2; omega
      · rw [List.mem_singleton.mp e, q2, decide_eq_true_eq] at hc2; omega
    · intro h
      by_cases k : 0 < B - Z ∧ N < D
      · exact Or.inr ⟨h.1, k⟩
      · refine Or.inl ⟨_, List.mem_cons_of_mem _ (List.mem_singleton.mpr rfl), ?_⟩
        rw [q2]; exact decide_eq_true (by omega)
    · intro c hc1
      rcases List.mem_cons.mp hc1 with e | e
      · rw [e]; exact cvd_i eF hs (by omega) (by omega) h1.1 (by omega)
      · rw [List.mem_singleton.mp e]; exact cvd_i eT hs (by omega) (by omega) h1.1 (by omega)
  · rw [if_neg (by rw [Int64.le_iff_toInt_le, eF, eT]; exact w)]
    exact ⟨Or.inr ⟨by omega, rfl⟩, fun ⟨c, h, _⟩ => absurd h (by simp), fun h => by omega, fun c h => absurd h (by simp)⟩
end
