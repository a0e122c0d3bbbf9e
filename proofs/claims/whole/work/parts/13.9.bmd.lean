/-! a beam's triples: each of the class's is topped by the reference's, and the other way round -/
section
variable {kn xs ys : Nat → Int32} {PA PT : Nat → Nat} {SN : Nat → Nat → Nat} {s0 : Nat} {q0 : Nat × Nat}
/-- the class's triples of a beam -/
def TC_ (kn xs ys : Nat → Int32) (SN : Nat → Nat → Nat) (PA PT : Nat → Nat) (s0 : Nat) (q0 : Nat × Nat) (x y d : Int32) : Prop :=
  ∃ c ∈ CC_ kn xs ys SN PA PT s0 q0, TT_ (kn 0) (kn 1) (ct_ kn xs ys SN PA PT s0 q0 0) (ct_ kn xs ys SN PA PT s0 q0 1) (CC_ kn xs ys SN PA PT s0 q0) c x y d
theorem wr_q (h : shs_ kn xs ys SN PA PT) (hs0 : s0 < 2) (hq0 : q0 ∈ SS_ kn xs ys SN PA PT s0) {N D : Int} (hD : 0 < D) {s : Nat} (hs : s < 2) :
    wr_ kn xs ys (gat_ kn xs ys SN PA PT) PA PT SN (xs (m3_ s0 q0).1).toInt64 (ys (m3_ s0 q0).1).toInt64 ((xs (m3_ s0 q0).2.1).toInt64 - (xs (m3_ s0 q0).1).toInt64) ((ys (m3_ s0 q0).2.1).toInt64 - (ys (m3_ s0 q0).1).toInt64) N D s = WH_ kn xs ys SN PA PT s0 q0 s N D := wr_b h (plc_q h hs0 hq0 hD) hs
theorem bs_q (h : shs_ kn xs ys SN PA PT) (hs0 : s0 < 2) (hq0 : q0 ∈ SS_ kn xs ys SN PA PT s0) {N D : Int} (hD : 0 < D) {s : Nat} (hs : s < 2) (ot : Int32) :
    bsr_ (kn s) (bsn_ xs ys (xs (m3_ s0 q0).1).toInt64 (ys (m3_ s0 q0).1).toInt64 ((xs (m3_ s0 q0).2.1).toInt64 - (xs (m3_ s0 q0).1).toInt64) ((ys (m3_ s0 q0).2.1).toInt64 - (ys (m3_ s0 q0).1).toInt64) N D (gat_ kn xs ys SN PA PT) s ot) = bI_ (kn s) (yy_ kn xs ys SN PA PT s0 q0 s N D + (if ot = 0 then 0 else oo_ kn xs ys SN PA PT s0 q0 s N D)) := bs_b h (plc_q h hs0 hq0 hD) hs ot
/-- the reference's triples between two cuts -/
theorem at_q2 (h : shs_ kn xs ys SN PA PT) (hs0 : s0 < 2) (hq0 : q0 ∈ SS_ kn xs ys SN PA PT s0) {N D : Int} (hD : 0 < D) (hm : ∀ s, s < 2 → kk_ kn xs ys SN PA PT s0 q0 s N D = false) (x y d : Int32) :
    AT_ kn xs ys SN PA PT s0 q0 N D x y d ↔ (wT0_ kn xs ys (gat_ kn xs ys SN PA PT) PA PT SN (xs (m3_ s0 q0).1).toInt64 (ys (m3_ s0 q0).1).toInt64 ((xs (m3_ s0 q0).2.1).toInt64 - (xs (m3_ s0 q0).1).toInt64) ((ys (m3_ s0 q0).2.1).toInt64 - (ys (m3_ s0 q0).1).toInt64) N D 1 x y d ∨
      bT0_ kn xs ys (gat_ kn xs ys SN PA PT) (xs (m3_ s0 q0).1).toInt64 (ys (m3_ s0 q0).1).toInt64 ((xs (m3_ s0 q0).2.1).toInt64 - (xs (m3_ s0 q0).1).toInt64) ((ys (m3_ s0 q0).2.1).toInt64 - (ys (m3_ s0 q0).1).toInt64) N D 0 x y d ∨
      bT0_ kn xs ys (gat_ kn xs ys SN PA PT) (xs (m3_ s0 q0).1).toInt64 (ys (m3_ s0 q0).1).toInt64 ((xs (m3_ s0 q0).2.1).toInt64 - (xs (m3_ s0 q0).1).toInt64) ((ys (m3_ s0 q0).2.1).toInt64 - (ys (m3_ s0 q0).1).toInt64) N D 1 x y d) := by
  unfold wT0_ bT0_
  rw [wr_q h hs0 hq0 hD (by decide), wr_q h hs0 hq0 hD (by decide), bs_q h hs0 hq0 hD (by decide) 0, bs_q h hs0 hq0 hD (by decide) 0, bs_q h hs0 hq0 hD (by decide) 1, bs_q h hs0 hq0 hD (by decide) 1]
  unfold WH_
  rw [hm 0 (by decide), hm 1 (by decide), if_pos rfl, if_pos rfl, if_neg (by decide), if_neg (by decide), Nat.add_zero, Nat.add_zero]
  rfl
theorem ix_f {F : List (Nat × Nat)} {f : Nat × Nat} (hf : f ∈ F) : ∃ j, j < F.length ∧ F.getD j (0, 1) = f := by
  obtain ⟨j, hj, e⟩ := List.mem_iff_getElem.mp hf
  exact ⟨j, hj, by rw [← gd_e hj]; exact e⟩
theorem FF_p (h : shs_ kn xs ys SN PA PT) (hs0 : s0 < 2) (hq0 : q0 ∈ SS_ kn xs ys SN PA PT s0) : ∀ f ∈ FF_ kn xs ys SN PA PT s0 q0, 0 < f.2 ∧ f.1 ≤ f.2 := fun f hf => by
  obtain ⟨w1, w2, w3, w4⟩ := rcu_w (PT := PT) (L := gat_ kn xs ys SN PA PT) (SS_d h hs0 hq0)
  exact ⟨w2 f hf, rcg_1 (SS_d h hs0 hq0) f (w4 f hf)⟩
/-- a cut of the class lies before the middle of two of the reference just if it lies before the first of them -/
theorem cut_m (h : shs_ kn xs ys SN PA PT) (hs0 : s0 < 2) (hq0 : q0 ∈ SS_ kn xs ys SN PA PT s0) {k : Nat} (hk : k + 1 < (FF_ kn xs ys SN PA PT s0 q0).length) {x y : Nat × Nat} (hx : (FF_ kn xs ys SN PA PT s0 q0).getD k (0, 1) = x) (hy : (FF_ kn xs ys SN PA PT s0 q0).getD (k + 1) (0, 1) = y) {c : CT3_} (hc : c ∈ CC_ kn xs ys SN PA PT s0 q0)
    (he : (x.1 : Int) * c.2.1.toInt = c.1.toInt * (x.2 : Int)) : ∀ e ∈ CC_ kn xs ys SN PA PT s0 q0, cle3 (mdN_ x y) (mdD_ x y) e = cle3 c.1.toInt c.2.1.toInt e := by
  intro e hem
  obtain ⟨hD, hN, hND, hno, all⟩ := FF_m h hs0 hq0 hk hx hy
  obtain ⟨f, hf, ef⟩ := cc_f h hs0 hq0 e hem
  obtain ⟨j, hj, ej⟩ := ix_f hf
  have vc := (cvd_b (cc_v h hs0 hq0 c hc)).1; have ve := (cvd_b (cc_v h hs0 hq0 e hem)).1
  have pf := (FF_p h hs0 hq0 f hf).1
  have xm : x ∈ FF_ kn xs ys SN PA PT s0 q0 := by rw [← hx]; exact gd_m (by omega)
  have px := (FF_p h hs0 hq0 x xm).1
  obtain ⟨w1, -, -, -⟩ := rcu_w (PT := PT) (L := gat_ kn xs ys SN PA PT) (SS_d h hs0 hq0)
  have pw := List.pairwise_iff_getElem.mp w1
  have w1' : ∀ i j, i < j → j < (FF_ kn xs ys SN PA PT s0 q0).length → fl_ ((FF_ kn xs ys SN PA PT s0 q0).getD i (0, 1)) ((FF_ kn xs ys SN PA PT s0 q0).getD j (0, 1)) := fun i j hij hj => by
    have := pw i j (Nat.lt_trans hij hj) hj hij
    rw [gd_e, gd_e] at this; exact this
  have a := all j hj
  rw [ej] at a
  unfold cvi_ at vc ve
  have f0 : (0 : Int) < f.2 := by omega
  have x0 : (0 : Int) < x.2 := by omega
  -- the place of e is that of f, the place of c that of x
  have t1 : cle3 (mdN_ x y) (mdD_ x y) e = decide ((f.1 : Int) * mdD_ x y ≤ mdN_ x y * (f.2 : Int)) := by
    unfold cle3
    apply decide_eq_decide.mpr
    generalize e.1.toInt = e1 at *; generalize e.2.1.toInt = e2 at *; generalize (f.1 : Int) = f1 at *; generalize (f.2 : Int) = f2 at *; generalize mdN_ x y = N at *; generalize mdD_ x y = D at *
    have e3 : f2 * (N * e2 - e1 * D) = e2 * (N * f2 - f1 * D) := by grind
    have s := sgz3 f0 ve e3
    omega
  have t2 : cle3 c.1.toInt c.2.1.toInt e = decide ((f.1 : Int) * (x.2 : Int) ≤ (x.1 : Int) * (f.2 : Int)) := by
    unfold cle3
    apply decide_eq_decide.mpr
    generalize e.1.toInt = e1 at *; generalize e.2.1.toInt = e2 at *; generalize c.1.toInt = c1 at *; generalize c.2.1.toInt = c2 at *; generalize (f.1 : Int) = f1 at *; generalize (f.2 : Int) = f2 at *; generalize (x.1 : Int) = x1 at *; generalize (x.2 : Int) = x2 at *
    have e3 : (x2 * f2) * (c1 * e2 - e1 * c2) = (c2 * e2) * (x1 * f2 - f1 * x2) := by grind
    have s := sgz3 (Int.mul_pos x0 f0) (Int.mul_pos vc ve) e3
    omega
  rw [t1, t2]
  rcases Nat.lt_or_ge k j with w | w
  · have l := w1' k j w hj
    rw [hx, ej] at l
    unfold fl_ at l
    have l2 : (x.1 : Int) * (f.2 : Int) < (f.1 : Int) * (x.2 : Int) := by exact_mod_cast l
    rw [decide_eq_false (by have := a.2 w; omega), decide_eq_false (by omega)]
  · have l2 : (f.1 : Int) * (x.2 : Int) ≤ (x.1 : Int) * (f.2 : Int) := by
      rcases Nat.lt_or_ge j k with z | z
      · have l := w1' j k z (by omega)
        rw [hx, ej] at l
        unfold fl_ at l
        exact_mod_cast Nat.le_of_lt l
      · have : f = x := by rw [← ej, ← hx, show j = k by omega]
        rw [this]; exact Int.le_refl _
    rw [decide_eq_true (by have := a.1 w; omega), decide_eq_true l2]
/-- what the class raises, the reference tops -/
theorem TC_u (h : shs_ kn xs ys SN PA PT) (hs0 : s0 < 2) (hq0 : q0 ∈ SS_ kn xs ys SN PA PT s0) {x y d : Int32} (ht : TC_ kn xs ys SN PA PT s0 q0 x y d) : bmT_ kn xs ys (gat_ kn xs ys SN PA PT) PA PT SN (m3_ s0 q0) x y d := by
  obtain ⟨c, hc, ht⟩ := ht
  obtain ⟨vc, p1, p2⟩ := cvd_b (cc_v h hs0 hq0 c hc)
  unfold cvi_ at vc
  obtain ⟨f, hf, ef⟩ := cc_f h hs0 hq0 c hc
  obtain ⟨k, hk, ek⟩ := ix_f hf
  have pf := (FF_p h hs0 hq0 f hf).1
  have f0 : (0 : Int) < f.2 := by omega
  refine ⟨k, hk, ?_⟩
  show cT_ kn xs ys (gat_ kn xs ys SN PA PT) PA PT SN (xs (m3_ s0 q0).1).toInt64 (ys (m3_ s0 q0).1).toInt64 ((xs (m3_ s0 q0).2.1).toInt64 - (xs (m3_ s0 q0).1).toInt64) ((ys (m3_ s0 q0).2.1).toInt64 - (ys (m3_ s0 q0).1).toInt64) (FF_ kn xs ys SN PA PT s0 q0) k x y d
  unfold cT_
  rw [ek]
  rcases ht with ⟨e1, e2, e3⟩ | ⟨⟨e, hem, el⟩, hr⟩
  · refine Or.inl ?_
    unfold wT0_
    rw [wr_q h hs0 hq0 f0 (by decide), wr_q h hs0 hq0 f0 (by decide)]
    obtain ⟨g1, g2⟩ := he_c h hs0 hq0 vc p1 p2
    rw [g1] at e1; rw [g2] at e2
    have sc : ∀ s, WH_ kn xs ys SN PA PT s0 q0 s c.1.toInt c.2.1.toInt = WH_ kn xs ys SN PA PT s0 q0 s (f.1 : Int) (f.2 : Int) := fun s => sc_w vc f0 (by omega)
    rw [sc] at e1 e2
    exact ⟨e1, e2, e3⟩
  · refine Or.inr ?_
    have hk1 : k + 1 < (FF_ kn xs ys SN PA PT s0 q0).length := by
      obtain ⟨f', hf', ef'⟩ := cc_f h hs0 hq0 e hem
      obtain ⟨j, hj, ej⟩ := ix_f hf'
      have ve := (cvd_b (cc_v h hs0 hq0 e hem)).1; unfold cvi_ at ve
      have pf' := (FF_p h hs0 hq0 f' hf').1
      have f0' : (0 : Int) < f'.2 := by omega
      rcases Nat.lt_or_ge k j with w | w
      · omega
      · exfalso
        obtain ⟨w1, -, -, -⟩ := rcu_w (PT := PT) (L := gat_ kn xs ys SN PA PT) (SS_d h hs0 hq0)
        have pw := List.pairwise_iff_getElem.mp w1
        have l2 : (f'.1 : Int) * (f.2 : Int) ≤ (f.1 : Int) * (f'.2 : Int) := by
          rcases Nat.lt_or_ge j k with z | z
          · have l := pw j k hj hk z
            rw [gd_e, gd_e, ej, ek] at l
            unfold fl_ at l
            exact_mod_cast Nat.le_of_lt l
          · have : f' = f := by rw [← ej, ← ek, show j = k by omega]
            rw [this]; exact Int.le_refl _
        unfold clt3 at el
        rw [decide_eq_true_eq] at el
        generalize e.1.toInt = e1 at *; generalize e.2.1.toInt = e2 at *; generalize c.1.toInt = c1 at *; generalize c.2.1.toInt = c2 at *; generalize (f.1 : Int) = f1 at *; generalize (f.2 : Int) = f2 at *; generalize (f'.1 : Int) = x1 at *; generalize (f'.2 : Int) = x2 at *
        have e3 : (x2 * f2) * (c1 * e2 - e1 * c2) = (c2 * e2) * (f1 * x2 - x1 * f2) := by grind
        have s := sgz3 (Int.mul_pos f0' f0) (Int.mul_pos vc ve) e3
        omega
    obtain ⟨hD, hN, hND, hno, all⟩ := FF_m h hs0 hq0 hk1 ek rfl
    obtain ⟨n1, n2⟩ := no_f h hs0 hq0 hD hN (Int.le_of_lt hND) hno
    have cm := cut_m h hs0 hq0 hk1 ek rfl hc ef
    exact ⟨hk1, (at_q2 h hs0 hq0 hD n2 x y d).mp ((ra_c h hs0 hq0 hD hN hND n1 cm x y d).mp hr)⟩
theorem one_l (h : shs_ kn xs ys SN PA PT) (hs0 : s0 < 2) (hq0 : q0 ∈ SS_ kn xs ys SN PA PT s0) {N D : Int} (hN : N < D) {c : CT3_} (hc : c ∈ CC_ kn xs ys SN PA PT s0 q0) (hl : cle3 N D c = true) : ∃ e ∈ CC_ kn xs ys SN PA PT s0 q0, clt3 e.1.toInt e.2.1.toInt c = true := by
  obtain ⟨-, ⟨e, he, e1⟩⟩ := cc_0 h hs0 hq0
  have ve := (cvd_b (cc_v h hs0 hq0 e he)).1
  obtain ⟨vc, p1, p2⟩ := cvd_b (cc_v h hs0 hq0 c hc)
  refine ⟨e, he, ?_⟩
  unfold cle3 at hl; unfold clt3; unfold cvi_ at vc ve
  rw [decide_eq_true_eq] at hl ⊢
  rw [e1]
  generalize e.2.1.toInt = e2 at *; generalize c.1.toInt = c1 at *; generalize c.2.1.toInt = c2 at *
  have m1 := mt_ (D - N) c2
  have g : (D - N) * c2 = D * c2 - N * c2 := by grind
  rw [g] at m1
  have m2 := mt_ e2 (c2 - c1)
  have g2 : e2 * (c2 - c1) = e2 * c2 - c1 * e2 := by grind
  rw [g2] at m2
  have m3 := mt_ D (c2 - c1)
  have g3 : D * (c2 - c1) = D * c2 - c1 * D := by grind
  rw [g3] at m3
  generalize D * c2 = r1 at *; generalize N * c2 = r2 at *; generalize e2 * c2 = r3 at *; generalize c1 * e2 = r4 at *; generalize c1 * D = r5 at *
  omega
theorem zer_l (h : shs_ kn xs ys SN PA PT) (hs0 : s0 < 2) (hq0 : q0 ∈ SS_ kn xs ys SN PA PT s0) {N D : Int} (hD : 0 < D) (hN : 0 ≤ N) : ∃ c ∈ CC_ kn xs ys SN PA PT s0 q0, cle3 N D c = true ∧ ∀ e ∈ CC_ kn xs ys SN PA PT s0 q0, cle3 N D e = cle3 c.1.toInt c.2.1.toInt e := by
  obtain ⟨⟨e, he, e1⟩, -⟩ := cc_0 h hs0 hq0
  have ve := (cvd_b (cc_v h hs0 hq0 e he)).1; unfold cvi_ at ve
  refine mx_c hD _ (fun c hc => (cvd_b (cc_v h hs0 hq0 c hc)).1) ⟨e, he, ?_⟩
  unfold cle3; rw [e1, Int.zero_mul]; exact decide_eq_true (Int.mul_nonneg hN (by omega))
/-- what the reference raises, the class tops -/
theorem TC_d (h : shs_ kn xs ys SN PA PT) (hs0 : s0 < 2) (hq0 : q0 ∈ SS_ kn xs ys SN PA PT s0) {x y d : Int32} (ht : bmT_ kn xs ys (gat_ kn xs ys SN PA PT) PA PT SN (m3_ s0 q0) x y d) : ∃ d2, TC_ kn xs ys SN PA PT s0 q0 x y d2 ∧ d ≤ d2 := by
  obtain ⟨k, hk, ht⟩ := ht
  have hk : k < (FF_ kn xs ys SN PA PT s0 q0).length := hk
  have ht : cT_ kn xs ys (gat_ kn xs ys SN PA PT) PA PT SN (xs (m3_ s0 q0).1).toInt64 (ys (m3_ s0 q0).1).toInt64 ((xs (m3_ s0 q0).2.1).toInt64 - (xs (m3_ s0 q0).1).toInt64) ((ys (m3_ s0 q0).2.1).toInt64 - (ys (m3_ s0 q0).1).toInt64) (FF_ kn xs ys SN PA PT s0 q0) k x y d := ht
  unfold cT_ at ht
  generalize ek : (FF_ kn xs ys SN PA PT s0 q0).getD k (0, 1) = f at ht
  have hf : f ∈ FF_ kn xs ys SN PA PT s0 q0 := by rw [← ek]; exact gd_m hk
  obtain ⟨pf, pf1⟩ := FF_p h hs0 hq0 f hf
  have f0 : (0 : Int) < f.2 := by omega
  rcases ht with ⟨e1, e2, e3⟩ | ⟨hk1, ht⟩
  · rw [wr_q h hs0 hq0 f0 (by decide)] at e1
    rw [wr_q h hs0 hq0 f0 (by decide)] at e2
    by_cases q : ∃ c ∈ CC_ kn xs ys SN PA PT s0 q0, ceq3 (f.1 : Int) (f.2 : Int) c = true
    · obtain ⟨c, hc, ce⟩ := q
      obtain ⟨vc, c1, c2⟩ := cvd_b (cc_v h hs0 hq0 c hc)
      unfold cvi_ at vc
      have ce2 := of_decide_eq_true ce
      refine ⟨0, ⟨c, hc, Or.inl ?_⟩, by rw [e3]; exact Int32.le_refl _⟩
      obtain ⟨g1, g2⟩ := he_c h hs0 hq0 vc c1 c2
      rw [g1, g2]
      have sc : ∀ s, WH_ kn xs ys SN PA PT s0 q0 s c.1.toInt c.2.1.toInt = WH_ kn xs ys SN PA PT s0 q0 s (f.1 : Int) (f.2 : Int) := fun s => sc_w vc f0 (by omega)
      rw [sc, sc]
      exact ⟨e1, e2, rfl⟩
    · -- not a cut of the class: it lies ahead of the one before
      obtain ⟨c, hc, hl, heq⟩ := zer_l h hs0 hq0 (N := (f.1 : Int)) (D := (f.2 : Int)) f0 (by omega)
      have hlt : (f.1 : Int) < f.2 := by
        rcases (show (f.1 : Int) < f.2 ∨ (f.2 : Int) ≤ f.1 by omega) with w | w
        · exact w
        · exfalso
          obtain ⟨-, ⟨e, he, e1⟩⟩ := cc_0 h hs0 hq0
          refine q ⟨e, he, ?_⟩
          unfold ceq3; rw [e1]; exact decide_eq_true (by rw [show (f.1 : Int) = f.2 by omega, Int.mul_comm])
      obtain ⟨g1, g2⟩ := he_c h hs0 hq0 f0 (show (0 : Int) ≤ f.1 by omega) (Int.le_of_lt hlt)
      rw [← g1] at e1; rw [← g2] at e2
      have ne : ∀ e ∈ CC_ kn xs ys SN PA PT s0 q0, ceq3 (f.1 : Int) (f.2 : Int) e = false := fun e he => by
        cases r : ceq3 (f.1 : Int) (f.2 : Int) e
        · rfl
        · exact absurd ⟨e, he, r⟩ q
      have lt : ∀ e ∈ CC_ kn xs ys SN PA PT s0 q0, clt3 (f.1 : Int) (f.2 : Int) e = cle3 c.1.toInt c.2.1.toInt e := fun e he => by
        rw [← heq e he]
        rcases cle_s (f.1 : Int) (f.2 : Int) e with ⟨a, b, z⟩ | ⟨a, b, z⟩ | ⟨a, b, z⟩
        · rw [a, z]
        · rw [ne e he] at b; exact absurd b (by decide)
        · rw [a, z]
      have sh : ∀ (own : CT3_ → Bool) (tu kd : Int32), he_ kd (stt_ own tu (f.1 : Int) (f.2 : Int) (CC_ kn xs ys SN PA PT s0 q0)) = pah_ kd (gz_ (fun e => own e && cle3 c.1.toInt c.2.1.toInt e) (CC_ kn xs ys SN PA PT s0 q0)) (tu ^^^ xz_ (fun e => own e && cle3 c.1.toInt c.2.1.toInt e) (CC_ kn xs ys SN PA PT s0 q0)) := fun own tu kd => by
        have g := gx_c (p := fun e => own e && clt3 (f.1 : Int) (f.2 : Int) e) (q := fun e => own e && cle3 c.1.toInt c.2.1.toInt e) (CC_ kn xs ys SN PA PT s0 q0) (fun e he => by rw [lt e he])
        have a0 : ∀ k, an_ (fun e => own e && ceq3 (f.1 : Int) (f.2 : Int) e) k (CC_ kn xs ys SN PA PT s0 q0) = 0 := fun k => by
          have := an_0 (p := fun e => own e && ceq3 (f.1 : Int) (f.2 : Int) e) (k := k) (P := []) (R := CC_ kn xs ys SN PA PT s0 q0) (fun e he => by rw [ne e he]; simp)
          rw [List.nil_append] at this; rw [this]; rfl
        show phe_ kd (gz_ (fun e => own e && clt3 (f.1 : Int) (f.2 : Int) e) (CC_ kn xs ys SN PA PT s0 q0)) (an_ (fun e => own e && ceq3 (f.1 : Int) (f.2 : Int) e) 1 (CC_ kn xs ys SN PA PT s0 q0)) (an_ (fun e => own e && ceq3 (f.1 : Int) (f.2 : Int) e) 2 (CC_ kn xs ys SN PA PT s0 q0)) (tu ^^^ xz_ (fun e => own e && clt3 (f.1 : Int) (f.2 : Int) e) (CC_ kn xs ys SN PA PT s0 q0)) = _
        rw [a0, a0, g.1, g.2]
        unfold phe_
        rw [if_pos rfl, if_pos rfl]
      rw [sh] at e1 e2
      refine ⟨1, ⟨c, hc, Or.inr ⟨one_l h hs0 hq0 hlt hc hl, Or.inl ⟨e1, e2, rfl⟩⟩⟩, by rw [e3]; decide⟩
  · obtain ⟨hD, hN, hND, hno, all⟩ := FF_m h hs0 hq0 hk1 ek rfl
    obtain ⟨n1, n2⟩ := no_f h hs0 hq0 hD hN (Int.le_of_lt hND) hno
    obtain ⟨c, hc, hl, heq⟩ := zer_l h hs0 hq0 hD hN
    have hr := (ra_c h hs0 hq0 hD hN hND n1 heq x y d).mpr ((at_q2 h hs0 hq0 hD n2 x y d).mpr ht)
    exact ⟨d, ⟨c, hc, Or.inr ⟨one_l h hs0 hq0 hND hc hl, hr⟩⟩, Int32.le_refl _⟩
end
