/-! a beam raises the same in the class and in the reference -/
theorem cle_t {N D : Int} {c e : CT3_} (hD : 0 < D) (hc : cvi_ c) (he : cvi_ e) (h1 : cle3 c.1.toInt c.2.1.toInt e = true) (h2 : cle3 N D c = true) : cle3 N D e = true := by
  unfold cle3 at *; unfold cvi_ at *
  rw [decide_eq_true_eq] at *
  generalize e.1.toInt = x1 at *; generalize e.2.1.toInt = y1 at *; generalize c.1.toInt = x2 at *; generalize c.2.1.toInt = y2 at *
  have e : y2 * (N * y1 - x1 * D) = y1 * (N * y2 - x2 * D) + D * (x2 * y1 - x1 * y2) := by grind
  have m1 := mt_ y1 (N * y2 - x2 * D); have m2 := mt_ D (x2 * y1 - x1 * y2); have m3 := mt_ y2 (N * y1 - x1 * D)
  rw [e] at m3
  generalize y1 * (N * y2 - x2 * D) = p at *; generalize D * (x2 * y1 - x1 * y2) = q at *
  omega
/-- the last cut up to a place -/
theorem mx_c {N D : Int} (hD : 0 < D) : ∀ C : List CT3_, (∀ c ∈ C, cvi_ c) → (∃ c ∈ C, cle3 N D c = true) → ∃ c ∈ C, cle3 N D c = true ∧ ∀ e ∈ C, cle3 N D e = cle3 c.1.toInt c.2.1.toInt e := by
  intro C hv hex
  have key : ∀ C : List CT3_, (∀ c ∈ C, cvi_ c) → (∃ c ∈ C, cle3 N D c = true) → ∃ c ∈ C, cle3 N D c = true ∧ ∀ e ∈ C, cle3 N D e = true → cpr_ e c := by
    intro C
    induction C with
    | nil => exact fun _ ⟨c, h, _⟩ => absurd h (by simp)
    | cons x C ih =>
      intro hv hex
      by_cases q : ∃ c ∈ C, cle3 N D c = true
      · obtain ⟨c, hc, h1, h2⟩ := ih (fun z hz => hv z (List.mem_cons_of_mem _ hz)) q
        have vx := hv x (List.mem_cons_self ..); have vc := hv c (List.mem_cons_of_mem _ hc)
        by_cases w : cle3 N D x = true ∧ clt3 x.1.toInt x.2.1.toInt c = true
        · refine ⟨x, List.mem_cons_self .., w.1, fun e he hle => ?_⟩
          rcases List.mem_cons.mp he with k | k
          · rw [k]; unfold cpr_ cle3; exact decide_eq_true (Int.le_refl _)
          · have p := h2 e k hle
            have z := cpr_t vc vx (hv e he) p w.2
            unfold cpr_
            rcases cle_s x.1.toInt x.2.1.toInt e with ⟨a, b, d⟩ | ⟨a, b, d⟩ | ⟨a, b, d⟩
            · exact d
            · exact d
            · rw [z] at a; exact absurd a (by decide)
        · refine ⟨c, List.mem_cons_of_mem _ hc, h1, fun e he hle => ?_⟩
          rcases List.mem_cons.mp he with k | k
          · rw [k] at hle ⊢
            have z : ¬ clt3 x.1.toInt x.2.1.toInt c = true := fun z => w ⟨hle, z⟩
            unfold cpr_; rw [cll_s]
            cases r : clt3 x.1.toInt x.2.1.toInt c
            · rfl
            · exact absurd r z
          · exact h2 e k hle
      · obtain ⟨c, hc, h⟩ := hex
        rcases List.mem_cons.mp hc with k | k
        · rw [k] at h
          refine ⟨x, List.mem_cons_self .., h, fun e he hle => ?_⟩
          rcases List.mem_cons.mp he with k | k
          · rw [k]; unfold cpr_ cle3; exact decide_eq_true (Int.le_refl _)
          · exact absurd ⟨e, k, hle⟩ q
        · exact absurd ⟨c, k, h⟩ q
  obtain ⟨c, hc, h1, h2⟩ := key C hv hex
  refine ⟨c, hc, h1, fun e he => ?_⟩
  cases r : cle3 N D e
  · cases r2 : cle3 c.1.toInt c.2.1.toInt e
    · rfl
    · rw [cle_t hD (hv c hc) (hv e he) r2 h1] at r; exact absurd r (by decide)
  · exact (h2 e he r).symm
section
variable {kn xs ys : Nat → Int32} {PA PT : Nat → Nat} {SN : Nat → Nat → Nat} {s0 : Nat} {q0 : Nat × Nat}
section
variable (kn xs ys : Nat → Int32) (SN : Nat → Nat → Nat) (PA PT : Nat → Nat) (s0 : Nat) (q0 : Nat × Nat)
abbrev cc_ (s : Nat) (ks : Int32) : List CT3_ := ccl_ ks (xo_ xs s0 q0.1).toInt64 (xo_ ys s0 q0.1).toInt64 ((xo_ xs s0 q0.2).toInt64 - (xo_ xs s0 q0.1).toInt64) ((xo_ ys s0 q0.2).toInt64 - (xo_ ys s0 q0.1).toInt64) (xo_ xs s) (xo_ ys s) (SS_ kn xs ys SN PA PT s) (MM_ kn xs ys SN PA PT s)
abbrev CC_ : List CT3_ := cc_ kn xs ys SN PA PT s0 q0 0 0 ++ cc_ kn xs ys SN PA PT s0 q0 1 64
abbrev ct_ (s : Nat) : Int32 := ctu_ (xo_ xs s0 q0.1).toInt64 (xo_ ys s0 q0.1).toInt64 ((xo_ xs s0 q0.2).toInt64 - (xo_ xs s0 q0.1).toInt64) ((xo_ ys s0 q0.2).toInt64 - (xo_ ys s0 q0.1).toInt64) (xo_ xs s) (xo_ ys s) (SS_ kn xs ys SN PA PT s)
/-- on a beam, at N / D: on how many segments; how many crossings -/
abbrev oo_ (s : Nat) (N D : Int) : Nat := sm_ (onq_ (xo_ xs s) (xo_ ys s) (aX_ xs s0 q0) (aX_ ys s0 q0) (dX_ xs s0 q0) (dX_ ys s0 q0) N D) (SS_ kn xs ys SN PA PT s)
abbrev yy_ (s : Nat) (N D : Int) : Nat := sm_ (cyq_ (xo_ xs s) (xo_ ys s) (aX_ xs s0 q0) (aX_ ys s0 q0) (dX_ xs s0 q0) (dX_ ys s0 q0) N D) (SS_ kn xs ys SN PA PT s)
abbrev kk_ (s : Nat) (N D : Int) : Bool := (MM_ kn xs ys SN PA PT s).any (atp_ (xo_ xs s) (xo_ ys s) (aX_ xs s0 q0) (aX_ ys s0 q0) (dX_ xs s0 q0) (dX_ ys s0 q0) N D)
abbrev WH_ (s : Nat) (N D : Int) : Int32 := wI_ (kn s) (oo_ kn xs ys SN PA PT s0 q0 s N D) (kk_ kn xs ys SN PA PT s0 q0 s N D) (yy_ kn xs ys SN PA PT s0 q0 s N D)
/-- the triples ahead of N / D -/
def AT_ (N D : Int) (x y d : Int32) : Prop :=
  (x = wI_ (kn 0) (oo_ kn xs ys SN PA PT s0 q0 0 N D) false (yy_ kn xs ys SN PA PT s0 q0 0 N D) ∧ y = wI_ (kn 1) (oo_ kn xs ys SN PA PT s0 q0 1 N D) false (yy_ kn xs ys SN PA PT s0 q0 1 N D) ∧ d = 1) ∨
  (x = bI_ (kn 0) (yy_ kn xs ys SN PA PT s0 q0 0 N D) ∧ y = bI_ (kn 1) (yy_ kn xs ys SN PA PT s0 q0 1 N D) ∧ d = 2) ∨
  (x = bI_ (kn 0) (yy_ kn xs ys SN PA PT s0 q0 0 N D + oo_ kn xs ys SN PA PT s0 q0 0 N D) ∧ y = bI_ (kn 1) (yy_ kn xs ys SN PA PT s0 q0 1 N D + oo_ kn xs ys SN PA PT s0 q0 1 N D) ∧ d = 2)
end
theorem bm_q (h : shs_ kn xs ys SN PA PT) (hs0 : s0 < 2) (hq0 : q0 ∈ SS_ kn xs ys SN PA PT s0) : bm5_ (xo_ xs s0 q0.1).toInt64 (xo_ ys s0 q0.1).toInt64 ((xo_ xs s0 q0.2).toInt64 - (xo_ xs s0 q0.1).toInt64) ((xo_ ys s0 q0.2).toInt64 - (xo_ ys s0 q0.1).toInt64) (aX_ xs s0 q0) (aX_ ys s0 q0) (dX_ xs s0 q0) (dX_ ys s0 q0) := by
  have hl := SS_l h hs0 hq0
  have ra := SS_r h hs0 hl.1; have rb := SS_r h hs0 hl.2
  have hn := SS_d h hs0 hq0
  unfold r5_ at ra rb
  have ea : ∀ i, xo_ xs s0 i = xs (2048 * s0 + i) := fun i => rfl
  have eb : ∀ i, xo_ ys s0 i = ys (2048 * s0 + i) := fun i => rfl
  unfold aX_ dX_
  refine ⟨i64_ _, i64_ _, i64e _ _, i64e _ _, ?_, ?_, ?_, ?_, fun z => hn ?_⟩
  · rw [ea]; exact ra.1
  · rw [eb]; exact ra.2
  · rw [ea, ea]; omega
  · rw [eb, eb]; omega
  · rw [ea, ea, eb, eb] at z
    exact ⟨Int32.toInt_inj.mp (by omega), Int32.toInt_inj.mp (by omega)⟩
theorem plc_q (h : shs_ kn xs ys SN PA PT) (hs0 : s0 < 2) (hq0 : q0 ∈ SS_ kn xs ys SN PA PT s0) {N D : Int} (hD : 0 < D) : plc_ (xs (2048 * s0 + q0.1)).toInt64 (ys (2048 * s0 + q0.1)).toInt64 ((xs (2048 * s0 + q0.2)).toInt64 - (xs (2048 * s0 + q0.1)).toInt64) ((ys (2048 * s0 + q0.2)).toInt64 - (ys (2048 * s0 + q0.1)).toInt64) (aX_ xs s0 q0) (aX_ ys s0 q0) (dX_ xs s0 q0) (dX_ ys s0 q0) N D := by
  obtain ⟨h1, h2, h3, h4, h5, h6, h7, h8, -⟩ := bm_q h hs0 hq0
  exact ⟨h1, h2, h3, h4, h5, h6, h7, h8, hD⟩
theorem cc_v (h : shs_ kn xs ys SN PA PT) (hs0 : s0 < 2) (hq0 : q0 ∈ SS_ kn xs ys SN PA PT s0) : ∀ c ∈ CC_ kn xs ys SN PA PT s0 q0, cvd_ c := by
  have hB := bm_q h hs0 hq0
  have f0 := shr_f (h 0 (by decide)); have f1 := shr_f (h 1 (by decide))
  intro c hc
  rcases List.mem_append.mp hc with k | k
  · exact ccl_v hB (Or.inl rfl) f0.2.2.2.2.1 f0.2.2.2.2.2.1 c k
  · exact ccl_v hB (Or.inr rfl) f1.2.2.2.2.1 f1.2.2.2.2.2.1 c k
theorem cvd_b {c : CT3_} (h : cvd_ c) : cvi_ c ∧ 0 ≤ c.1.toInt ∧ c.1.toInt ≤ c.2.1.toInt := by
  obtain ⟨a, b, -, -, e1, e2, h1, h2, -⟩ := cvd_2 h
  unfold cvi_; rw [e1, e2]; omega
theorem cc_f1 (h : shs_ kn xs ys SN PA PT) (hs0 : s0 < 2) (hq0 : q0 ∈ SS_ kn xs ys SN PA PT s0) {s : Nat} (hs : s < 2) {ks : Int32} (hks : ks = 0 ∨ ks = 64) : ∀ c ∈ cc_ kn xs ys SN PA PT s0 q0 s ks, ∃ f ∈ FF_ kn xs ys SN PA PT s0 q0, (f.1 : Int) * c.2.1.toInt = c.1.toInt * (f.2 : Int) := by
  have hB := bm_q h hs0 hq0
  have ff := shr_f (h s hs)
  intro c hc
  obtain ⟨vc, p1, p2⟩ := cvd_b (ccl_v hB hks ff.2.2.2.2.1 ff.2.2.2.2.2.1 c hc)
  unfold cvi_ at vc
  have ce : ceq3 c.1.toInt c.2.1.toInt c = true := by unfold ceq3; exact decide_eq_true rfl
  refine PF_ h hs0 hq0 vc p1 p2 ?_
  rcases List.mem_append.mp hc with k | k
  · obtain ⟨q, hq, hcq⟩ := List.mem_flatMap.mp k
    obtain ⟨r1, r2, r3, r4⟩ := ff.2.2.2.2.1 q hq
    have on := (csg_ok (xs := xo_ xs s) (ys := xo_ ys s) (q := q) hB hks vc p1 p2 r1 r2 r3 r4 0).2.2.1 ⟨c, hcq, ce⟩
    have hl := SS_l h hs hq
    by_cases col : sdp_ (xo_ xs s) (xo_ ys s) (aX_ xs s0 q0) (aX_ ys s0 q0) (dX_ xs s0 q0) (dX_ ys s0 q0) c.1.toInt c.2.1.toInt q.1 = 0 ∧ sdp_ (xo_ xs s) (xo_ ys s) (aX_ xs s0 q0) (aX_ ys s0 q0) (dX_ xs s0 q0) (dX_ ys s0 q0) c.1.toInt c.2.1.toInt q.2 = 0
    · rcases csg_e hB r1 r2 r3 r4 c hcq col.1 col.2 vc with w | w | w | w
      · exact Or.inl w
      · exact Or.inr (Or.inl w)
      · exact Or.inr (Or.inr (Or.inl ⟨s, hs, q.1, hl.1, w⟩))
      · exact Or.inr (Or.inr (Or.inl ⟨s, hs, q.2, hl.2, w⟩))
    · exact Or.inr (Or.inr (Or.inr ⟨s, hs, q, hq, on, col⟩))
  · obtain ⟨i, hi, hci⟩ := List.mem_flatMap.mp k
    obtain ⟨r1, r2⟩ := ff.2.2.2.2.2.1 i hi
    exact Or.inr (Or.inr (Or.inl ⟨s, hs, i, MM_l h hs hi, (cmq_ok (xs := xo_ xs s) (ys := xo_ ys s) (i := i) hB hks vc p1 p2 r1 r2).2.1.mp ⟨c, hci, ce⟩⟩))
theorem cc_f (h : shs_ kn xs ys SN PA PT) (hs0 : s0 < 2) (hq0 : q0 ∈ SS_ kn xs ys SN PA PT s0) : ∀ c ∈ CC_ kn xs ys SN PA PT s0 q0, ∃ f ∈ FF_ kn xs ys SN PA PT s0 q0, (f.1 : Int) * c.2.1.toInt = c.1.toInt * (f.2 : Int) := by
  intro c hc
  rcases List.mem_append.mp hc with k | k
  · exact cc_f1 h hs0 hq0 (by decide) (Or.inl rfl) c k
  · exact cc_f1 h hs0 hq0 (by decide) (Or.inr rfl) c k
/-- a beam covers itself from its tail to its head -/
theorem cc_0 (h : shs_ kn xs ys SN PA PT) (hs0 : s0 < 2) (hq0 : q0 ∈ SS_ kn xs ys SN PA PT s0) : (∃ c ∈ CC_ kn xs ys SN PA PT s0 q0, c.1.toInt = 0) ∧ (∃ c ∈ CC_ kn xs ys SN PA PT s0 q0, c.1.toInt = c.2.1.toInt) := by
  have hB := bm_q h hs0 hq0
  have ff := shr_f (h s0 hs0)
  obtain ⟨r1, r2, r3, r4⟩ := ff.2.2.2.2.1 q0 hq0
  have sp := spa_v hB
  have z : ∀ ks : Int32, (∃ c ∈ csg_ ks (xo_ xs s0 q0.1).toInt64 (xo_ ys s0 q0.1).toInt64 ((xo_ xs s0 q0.2).toInt64 - (xo_ xs s0 q0.1).toInt64) ((xo_ ys s0 q0.2).toInt64 - (xo_ ys s0 q0.1).toInt64) (xo_ xs s0) (xo_ ys s0) q0, c.1.toInt = 0) ∧ (∃ c ∈ csg_ ks (xo_ xs s0 q0.1).toInt64 (xo_ ys s0 q0.1).toInt64 ((xo_ xs s0 q0.2).toInt64 - (xo_ xs s0 q0.1).toInt64) ((xo_ ys s0 q0.2).toInt64 - (xo_ ys s0 q0.1).toInt64) (xo_ xs s0) (xo_ ys s0) q0, c.1.toInt = c.2.1.toInt) := by
    intro ks
    have g1 := (sid_v hB r1 r2).1; have g2 := (sid_v hB r3 r4).1
    have a1 := alo_v (N := 0) (D := 1) hB (px := xo_ xs s0 q0.1) (py := xo_ ys s0 q0.1)
    have a2 := alo_v (N := 1) (D := 1) hB (px := xo_ xs s0 q0.2) (py := xo_ ys s0 q0.2)
    have e1 : sid_ (xo_ xs s0 q0.1).toInt64 (xo_ ys s0 q0.1).toInt64 ((xo_ xs s0 q0.2).toInt64 - (xo_ xs s0 q0.1).toInt64) ((xo_ ys s0 q0.2).toInt64 - (xo_ ys s0 q0.1).toInt64) (xo_ xs s0 q0.1) (xo_ ys s0 q0.1) = 0 := (l0_ _).2.2.1.mpr (by rw [g1]; unfold aX_; grind)
    have e2 : sid_ (xo_ xs s0 q0.1).toInt64 (xo_ ys s0 q0.1).toInt64 ((xo_ xs s0 q0.2).toInt64 - (xo_ xs s0 q0.1).toInt64) ((xo_ ys s0 q0.2).toInt64 - (xo_ ys s0 q0.1).toInt64) (xo_ xs s0 q0.2) (xo_ ys s0 q0.2) = 0 := (l0_ _).2.2.1.mpr (by rw [g2]; unfold aX_ dX_; grind)
    have z1 : rv_ (aX_ xs s0 q0) (dX_ xs s0 q0) 0 1 (xo_ xs s0 q0.1).toInt = 0 := by unfold rv_ aX_; omega
    have z2 : rv_ (aX_ ys s0 q0) (dX_ ys s0 q0) 0 1 (xo_ ys s0 q0.1).toInt = 0 := by unfold rv_ aX_; omega
    have z3 : rv_ (aX_ xs s0 q0) (dX_ xs s0 q0) 1 1 (xo_ xs s0 q0.2).toInt = 0 := by unfold rv_ aX_ dX_; omega
    have z4 : rv_ (aX_ ys s0 q0) (dX_ ys s0 q0) 1 1 (xo_ ys s0 q0.2).toInt = 0 := by unfold rv_ aX_ dX_; omega
    rw [z1, z2] at a1; rw [z3, z4] at a2
    have zz : ∀ dx dy : Int, zt_ dx dy 0 0 = 0 := fun dx dy => by
      unfold zt_; split
      · split <;> rfl
      · split <;> rfl
    rw [zz] at a1 a2
    unfold csg_ cbs_
    rw [e1, e2, if_pos (by decide), if_pos rfl]
    generalize alo_ (xo_ xs s0 q0.1).toInt64 (xo_ ys s0 q0.1).toInt64 ((xo_ xs s0 q0.2).toInt64 - (xo_ xs s0 q0.1).toInt64) ((xo_ ys s0 q0.2).toInt64 - (xo_ ys s0 q0.1).toInt64) (xo_ xs s0 q0.1) (xo_ ys s0 q0.1) = p at *
    generalize alo_ (xo_ xs s0 q0.1).toInt64 (xo_ ys s0 q0.1).toInt64 ((xo_ xs s0 q0.2).toInt64 - (xo_ xs s0 q0.1).toInt64) ((xo_ ys s0 q0.2).toInt64 - (xo_ ys s0 q0.1).toInt64) (xo_ xs s0 q0.2) (xo_ ys s0 q0.2) = r at *
    generalize spa_ ((xo_ xs s0 q0.2).toInt64 - (xo_ xs s0 q0.1).toInt64) ((xo_ ys s0 q0.2).toInt64 - (xo_ ys s0 q0.1).toInt64) = t at *
    have p0 : p = 0 := (l0_ p).2.2.1.mpr (by omega)
    have r0 : r = t := Int64.toInt_inj.mp (by omega)
    subst p0; subst r0
    have n1 : ¬ r < 0 := fun w => by have := (l0_ r).2.1.mp w; omega
    have f1 : cfr_ 0 r = 0 := by unfold cfr_; rw [if_neg n1, if_neg (by decide)]
    have f2 : cto_ 0 r r = r := by unfold cto_; rw [if_neg n1, if_neg (Int64.lt_irrefl)]
    unfold cov_
    rw [f1, f2, if_pos ((l0_ r).2.2.2.mpr (by omega))]
    exact ⟨⟨_, List.mem_cons_self .., rfl⟩, ⟨_, List.mem_cons_of_mem _ (List.mem_singleton.mpr rfl), rfl⟩⟩
  have m : ∀ c, (∃ ks : Int32, (s0 = 0 ∧ ks = 0 ∨ s0 = 1 ∧ ks = 64) ∧ c ∈ csg_ ks (xo_ xs s0 q0.1).toInt64 (xo_ ys s0 q0.1).toInt64 ((xo_ xs s0 q0.2).toInt64 - (xo_ xs s0 q0.1).toInt64) ((xo_ ys s0 q0.2).toInt64 - (xo_ ys s0 q0.1).toInt64) (xo_ xs s0) (xo_ ys s0) q0) → c ∈ CC_ kn xs ys SN PA PT s0 q0 := by
    rintro c ⟨ks, e | e, hc⟩
    · obtain ⟨rfl, rfl⟩ := e
      exact List.mem_append_left _ (List.mem_append_left _ (List.mem_flatMap.mpr ⟨q0, hq0, hc⟩))
    · obtain ⟨rfl, rfl⟩ := e
      exact List.mem_append_right _ (List.mem_append_left _ (List.mem_flatMap.mpr ⟨q0, hq0, hc⟩))
  rcases (show s0 = 0 ∨ s0 = 1 by omega) with e | e
  · obtain ⟨⟨c1, a1, b1⟩, ⟨c2, a2, b2⟩⟩ := z 0
    exact ⟨⟨c1, m c1 ⟨0, Or.inl ⟨e, rfl⟩, a1⟩, b1⟩, ⟨c2, m c2 ⟨0, Or.inl ⟨e, rfl⟩, a2⟩, b2⟩⟩
  · obtain ⟨⟨c1, a1, b1⟩, ⟨c2, a2, b2⟩⟩ := z 64
    exact ⟨⟨c1, m c1 ⟨64, Or.inr ⟨e, rfl⟩, a1⟩, b1⟩, ⟨c2, m c2 ⟨64, Or.inr ⟨e, rfl⟩, a2⟩, b2⟩⟩
end
