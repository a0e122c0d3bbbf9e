/-! a beam's cuts: the class's are among the reference's -/
section
variable {xs ys : Nat → Int32} {AX AY DX DY N D M E : Int}
/-- a place has many names -/
theorem sc_q (hD : 0 < D) (hE : 0 < E) (h : N * E = M * D) (q : Nat × Nat) : onq_ xs ys AX AY DX DY N D q = onq_ xs ys AX AY DX DY M E q ∧ cyq_ xs ys AX AY DX DY N D q = cyq_ xs ys AX AY DX DY M E q := by
  have e : ∀ (x d X : Int), E * rv_ x d N D X = D * rv_ x d M E X := fun x d X => by unfold rv_; grind
  have e1 := e AX DX (xs q.1).toInt; have e2 := e AY DY (ys q.1).toInt; have e3 := e AX DX (xs q.2).toInt; have e4 := e AY DY (ys q.2).toInt
  unfold onq_ cyq_ kvq_ kv_
  generalize rv_ AX DX N D (xs q.1).toInt = vx at *; generalize rv_ AY DY N D (ys q.1).toInt = vy at *; generalize rv_ AX DX N D (xs q.2).toInt = wx at *; generalize rv_ AY DY N D (ys q.2).toInt = wy at *
  generalize rv_ AX DX M E (xs q.1).toInt = vx' at *; generalize rv_ AY DY M E (ys q.1).toInt = vy' at *; generalize rv_ AX DX M E (xs q.2).toInt = wx' at *; generalize rv_ AY DY M E (ys q.2).toInt = wy' at *
  have s1 := sgz3 hE hD e1; have s2 := sgz3 hE hD e2; have s3 := sgz3 hE hD e3; have s4 := sgz3 hE hD e4
  have sk := sgz3 (p := E * E) (q := D * D) (x := vx * wy - vy * wx) (y := vx' * wy' - vy' * wx') (Int.mul_pos hE hE) (Int.mul_pos hD hD) (by grind)
  unfold on_ CL_
  constructor
  · apply pn_c; rw [s1.1, s1.2.1, s2.1, s2.2.1, s3.1, s3.2.1, s4.1, s4.2.1, sk.2.2]
  · apply pn_c; rw [s2.1, s4.1, sk.1, sk.2.1]
theorem sc_a (hD : 0 < D) (hE : 0 < E) (h : N * E = M * D) (i : Nat) : atp_ xs ys AX AY DX DY N D i = atp_ xs ys AX AY DX DY M E i := by
  have e : ∀ (x d X : Int), E * rv_ x d N D X = D * rv_ x d M E X := fun x d X => by unfold rv_; grind
  unfold atp_
  have s1 := sgz3 hE hD (e AX DX (xs i).toInt); have s2 := sgz3 hE hD (e AY DY (ys i).toInt)
  exact decide_eq_decide.mpr (by rw [s1.2.2, s2.2.2])
theorem sc_w (hD : 0 < D) (hE : 0 < E) (h : N * E = M * D) {kd : Int32} {S : List (Nat × Nat)} {K : List Nat} :
    wI_ kd (sm_ (onq_ xs ys AX AY DX DY N D) S) (K.any (atp_ xs ys AX AY DX DY N D)) (sm_ (cyq_ xs ys AX AY DX DY N D) S) = wI_ kd (sm_ (onq_ xs ys AX AY DX DY M E) S) (K.any (atp_ xs ys AX AY DX DY M E)) (sm_ (cyq_ xs ys AX AY DX DY M E) S) := by
  have e1 : onq_ xs ys AX AY DX DY N D = onq_ xs ys AX AY DX DY M E := funext (fun q => (sc_q hD hE h q).1)
  have e2 : cyq_ xs ys AX AY DX DY N D = cyq_ xs ys AX AY DX DY M E := funext (fun q => (sc_q hD hE h q).2)
  have e3 : atp_ xs ys AX AY DX DY N D = atp_ xs ys AX AY DX DY M E := funext (fun i => sc_a hD hE h i)
  rw [e1, e2, e3]
end
section
variable {kn xs ys : Nat → Int32} {PA PT : Nat → Nat} {SN : Nat → Nat → Nat} {N D : Int} {s0 : Nat} {q0 : Nat × Nat}
/-- the beam's numbers -/
def aX_ (xs : Nat → Int32) (s : Nat) (q : Nat × Nat) : Int := (xo_ xs s q.1).toInt
def dX_ (xs : Nat → Int32) (s : Nat) (q : Nat × Nat) : Int := (xo_ xs s q.2).toInt - (xo_ xs s q.1).toInt
theorem SS_l (h : shs_ kn xs ys SN PA PT) {s : Nat} (hs : s < 2) {q : Nat × Nat} (hq : q ∈ SS_ kn xs ys SN PA PT s) : q.1 < PT s ∧ q.2 < PT s := prS_q (shr_s (h s hs)) q hq
theorem MM_l (h : shs_ kn xs ys SN PA PT) {s : Nat} (hs : s < 2) {i : Nat} (hi : i ∈ MM_ kn xs ys SN PA PT s) : i < PT s := by
  have hk := prK_ (kd := kn s) (xs := xo_ xs s) (ys := xo_ ys s) (shr_s (h s hs)) (by have := (h s hs).2.2.2.2.1; omega) (PA s) (Nat.le_refl _)
  exact hk.2.2 i hi
theorem SS_r (h : shs_ kn xs ys SN PA PT) {s : Nat} (hs : s < 2) {i : Nat} (hi : i < PT s) : r5_ (xs (2048 * s + i)) ∧ r5_ (ys (2048 * s + i)) := (h s hs).2.2.2.2.2.2 i hi
theorem SS_d (h : shs_ kn xs ys SN PA PT) {s : Nat} (hs : s < 2) {q : Nat × Nat} (hq : q ∈ SS_ kn xs ys SN PA PT s) : ¬ (xs (2048 * s + q.1) = xs (2048 * s + q.2) ∧ ys (2048 * s + q.1) = ys (2048 * s + q.2)) := (shr_f (h s hs)).2.2.2.2.2.2.2 q hq
/-- the reference's cuts of the beam -/
abbrev FF_ (kn xs ys : Nat → Int32) (SN : Nat → Nat → Nat) (PA PT : Nat → Nat) (s0 : Nat) (q0 : Nat × Nat) : List (Nat × Nat) := rcu_ xs ys (2048 * s0 + q0.1) (2048 * s0 + q0.2) PT (gat_ kn xs ys SN PA PT)
theorem sd_e {xs ys : Nat → Int32} {AX AY DX DY : Int} {i : Nat} : sdp_ xs ys AX AY DX DY N D i = D * (DX * ((ys i).toInt - AY) - DY * ((xs i).toInt - AX)) := by unfold sdp_ rv_; grind
theorem kv_e {xs ys : Nat → Int32} {AX AY DX DY : Int} {q : Nat × Nat} : kvq_ xs ys AX AY DX DY N D q = D * (D * (((xs q.1).toInt - AX) * ((ys q.2).toInt - (ys q.1).toInt) - ((ys q.1).toInt - AY) * ((xs q.2).toInt - (xs q.1).toInt)) - N * ((DX * ((ys q.2).toInt - AY) - DY * ((xs q.2).toInt - AX)) - (DX * ((ys q.1).toInt - AY) - DY * ((xs q.1).toInt - AX)))) := by unfold kvq_ kv_ rv_; grind
/-- a crossing segment that ends on the line ends at the place -/
theorem end0_ {dx dy vx vy wx wy : Int} (hk : vx * wy - vy * wx = 0) (ha : dx * vy - dy * vx = 0) (hb : ¬ dx * wy - dy * wx = 0) : vx = 0 ∧ vy = 0 := by
  have e1 : (dx * wy - dy * wx) * vx = 0 := by grind
  have e2 : (dx * wy - dy * wx) * vy = 0 := by grind
  constructor
  · rcases Int.mul_eq_zero.mp e1 with q | q
    · exact absurd q hb
    · exact q
  · rcases Int.mul_eq_zero.mp e2 with q | q
    · exact absurd q hb
    · exact q
/-- whatever lies at a place of the beam, the reference cuts there -/
theorem PF_ (h : shs_ kn xs ys SN PA PT) (hs0 : s0 < 2) (hq0 : q0 ∈ SS_ kn xs ys SN PA PT s0) (hD : 0 < D) (hN : 0 ≤ N) (hND : N ≤ D)
    (hc : N = 0 ∨ N = D ∨ (∃ s, s < 2 ∧ ∃ i, i < PT s ∧ atp_ (xo_ xs s) (xo_ ys s) (aX_ xs s0 q0) (aX_ ys s0 q0) (dX_ xs s0 q0) (dX_ ys s0 q0) N D i = true) ∨
      (∃ s, s < 2 ∧ ∃ q ∈ SS_ kn xs ys SN PA PT s, onq_ (xo_ xs s) (xo_ ys s) (aX_ xs s0 q0) (aX_ ys s0 q0) (dX_ xs s0 q0) (dX_ ys s0 q0) N D q = 1 ∧ ¬ (sdp_ (xo_ xs s) (xo_ ys s) (aX_ xs s0 q0) (aX_ ys s0 q0) (dX_ xs s0 q0) (dX_ ys s0 q0) N D q.1 = 0 ∧ sdp_ (xo_ xs s) (xo_ ys s) (aX_ xs s0 q0) (aX_ ys s0 q0) (dX_ xs s0 q0) (dX_ ys s0 q0) N D q.2 = 0))) :
    ∃ f ∈ FF_ kn xs ys SN PA PT s0 q0, (f.1 : Int) * D = N * (f.2 : Int) := by
  have hn := SS_d h hs0 hq0
  have hl := SS_l h hs0 hq0
  have ra := SS_r h hs0 hl.1; have rb := SS_r h hs0 hl.2
  obtain ⟨w1, w2, w3, w4⟩ := rcu_w (PT := PT) (L := gat_ kn xs ys SN PA PT) hn
  have case0 : N = 0 → ∃ f ∈ FF_ kn xs ys SN PA PT s0 q0, (f.1 : Int) * D = N * (f.2 : Int) := fun e => by
    obtain ⟨f, hf, k⟩ := w3 (0, 1) (List.mem_append_left _ rcq_0.1)
    refine ⟨f, hf, ?_⟩
    unfold fe_ at k
    have : f.1 = 0 := by simpa using k
    rw [this, e]; simp
  have case1 : N = D → ∃ f ∈ FF_ kn xs ys SN PA PT s0 q0, (f.1 : Int) * D = N * (f.2 : Int) := fun e => by
    obtain ⟨f, hf, k⟩ := w3 (1, 1) (List.mem_append_left _ rcq_0.2)
    refine ⟨f, hf, ?_⟩
    unfold fe_ at k
    have : f.1 = f.2 := by simpa using k
    rw [this, e, Int.mul_comm]
  have caseP : ∀ s, s < 2 → ∀ i, i < PT s → atp_ (xo_ xs s) (xo_ ys s) (aX_ xs s0 q0) (aX_ ys s0 q0) (dX_ xs s0 q0) (dX_ ys s0 q0) N D i = true → ∃ f ∈ FF_ kn xs ys SN PA PT s0 q0, (f.1 : Int) * D = N * (f.2 : Int) := fun s hs i hi ha => by
    have ha2 := of_decide_eq_true ha
    obtain ⟨x, hx, k⟩ := pf_p (xs := xs) (ys := ys) (a := 2048 * s0 + q0.1) (b := 2048 * s0 + q0.2) (v := 2048 * s + i) hn ra rb hD hN hND (SS_r h hs hi) ha2.1 ha2.2
    obtain ⟨f, hf, e⟩ := w3 x (List.mem_append_left _ (rcq_m hs hi x hx))
    exact ⟨f, hf, k f e⟩
  rcases hc with e | e | ⟨s, hs, i, hi, ha⟩ | ⟨s, hs, q, hq, ho, hcol⟩
  · exact case0 e
  · exact case1 e
  · exact caseP s hs i hi ha
  · have hql := SS_l h hs hq
    have rc := SS_r h hs hql.1; have rd := SS_r h hs hql.2
    have ok := (on_1.mp ho).1
    by_cases n0 : N = 0
    · exact case0 n0
    by_cases n1 : N = D
    · exact case1 n1
    by_cases a0 : sdp_ (xo_ xs s) (xo_ ys s) (aX_ xs s0 q0) (aX_ ys s0 q0) (dX_ xs s0 q0) (dX_ ys s0 q0) N D q.1 = 0
    · have b0 : ¬ sdp_ (xo_ xs s) (xo_ ys s) (aX_ xs s0 q0) (aX_ ys s0 q0) (dX_ xs s0 q0) (dX_ ys s0 q0) N D q.2 = 0 := fun z => hcol ⟨a0, z⟩
      exact caseP s hs q.1 hql.1 (decide_eq_true (end0_ ok a0 b0))
    by_cases b0 : sdp_ (xo_ xs s) (xo_ ys s) (aX_ xs s0 q0) (aX_ ys s0 q0) (dX_ xs s0 q0) (dX_ ys s0 q0) N D q.2 = 0
    · have ok2 : rv_ (aX_ xs s0 q0) (dX_ xs s0 q0) N D (xo_ xs s q.2).toInt * rv_ (aX_ ys s0 q0) (dX_ ys s0 q0) N D (xo_ ys s q.1).toInt - rv_ (aX_ ys s0 q0) (dX_ ys s0 q0) N D (xo_ ys s q.2).toInt * rv_ (aX_ xs s0 q0) (dX_ xs s0 q0) N D (xo_ xs s q.1).toInt = 0 := by
        generalize rv_ (aX_ xs s0 q0) (dX_ xs s0 q0) N D (xo_ xs s q.1).toInt = vx at *; generalize rv_ (aX_ ys s0 q0) (dX_ ys s0 q0) N D (xo_ ys s q.1).toInt = vy at *; generalize rv_ (aX_ xs s0 q0) (dX_ xs s0 q0) N D (xo_ xs s q.2).toInt = wx at *; generalize rv_ (aX_ ys s0 q0) (dX_ ys s0 q0) N D (xo_ ys s q.2).toInt = wy at *
        grind
      exact caseP s hs q.2 hql.2 (decide_eq_true (end0_ ok2 b0 a0))
    have hns : ¬ ((0 < sdp_ (xo_ xs s) (xo_ ys s) (aX_ xs s0 q0) (aX_ ys s0 q0) (dX_ xs s0 q0) (dX_ ys s0 q0) N D q.1 ∧ 0 < sdp_ (xo_ xs s) (xo_ ys s) (aX_ xs s0 q0) (aX_ ys s0 q0) (dX_ xs s0 q0) (dX_ ys s0 q0) N D q.2) ∨ (sdp_ (xo_ xs s) (xo_ ys s) (aX_ xs s0 q0) (aX_ ys s0 q0) (dX_ xs s0 q0) (dX_ ys s0 q0) N D q.1 < 0 ∧ sdp_ (xo_ xs s) (xo_ ys s) (aX_ xs s0 q0) (aX_ ys s0 q0) (dX_ xs s0 q0) (dX_ ys s0 q0) N D q.2 < 0)) := fun z => onA z ho
    have hkv : kvq_ (xo_ xs s) (xo_ ys s) (aX_ xs s0 q0) (aX_ ys s0 q0) (dX_ xs s0 q0) (dX_ ys s0 q0) N D q = 0 := ok
    rw [sd_e] at a0 hns; rw [sd_e] at b0 hns; rw [kv_e] at hkv
    have hk0 := (Int.mul_eq_zero.mp hkv).resolve_left (by omega)
    have pA := pl0p (x := dX_ xs s0 q0 * ((xo_ ys s q.1).toInt - aX_ ys s0 q0) - dX_ ys s0 q0 * ((xo_ xs s q.1).toInt - aX_ xs s0 q0)) hD
    have pB := pl0p (x := dX_ xs s0 q0 * ((xo_ ys s q.2).toInt - aX_ ys s0 q0) - dX_ ys s0 q0 * ((xo_ xs s q.2).toInt - aX_ xs s0 q0)) hD
    obtain ⟨x, hx, k⟩ := pf_s (xs := xs) (ys := ys) (a := 2048 * s0 + q0.1) (b := 2048 * s0 + q0.2) (c := 2048 * s + q.1) (d := 2048 * s + q.2) (N := N) (D := D) ra rb hD (by omega) (by omega) rc rd rfl rfl (by
      show (dX_ xs s0 q0 * ((xo_ ys s q.1).toInt - aX_ ys s0 q0) - dX_ ys s0 q0 * ((xo_ xs s q.1).toInt - aX_ xs s0 q0) < 0 ∧ 0 < dX_ xs s0 q0 * ((xo_ ys s q.2).toInt - aX_ ys s0 q0) - dX_ ys s0 q0 * ((xo_ xs s q.2).toInt - aX_ xs s0 q0)) ∨ (0 < dX_ xs s0 q0 * ((xo_ ys s q.1).toInt - aX_ ys s0 q0) - dX_ ys s0 q0 * ((xo_ xs s q.1).toInt - aX_ xs s0 q0) ∧ dX_ xs s0 q0 * ((xo_ ys s q.2).toInt - aX_ ys s0 q0) - dX_ ys s0 q0 * ((xo_ xs s q.2).toInt - aX_ xs s0 q0) < 0)
      generalize dX_ xs s0 q0 * ((xo_ ys s q.1).toInt - aX_ ys s0 q0) - dX_ ys s0 q0 * ((xo_ xs s q.1).toInt - aX_ xs s0 q0) = A at *
      generalize dX_ xs s0 q0 * ((xo_ ys s q.2).toInt - aX_ ys s0 q0) - dX_ ys s0 q0 * ((xo_ xs s q.2).toInt - aX_ xs s0 q0) = B at *
      omega) hk0
    obtain ⟨f, hf, e⟩ := w3 x (List.mem_append_right _ (by
      unfold rcs_; rw [List.mem_flatMap]
      refine ⟨m3_ s q, ?_, hx⟩
      rw [gat_2 h]
      rcases (show s = 0 ∨ s = 1 by omega) with rfl | rfl
      · exact List.mem_append_left _ (List.mem_map.mpr ⟨q, hq, rfl⟩)
      · exact List.mem_append_right _ (List.mem_map.mpr ⟨q, hq, rfl⟩)))
    exact ⟨f, hf, k f e⟩
end
theorem cfr_c (a b : Int64) : cfr_ a b = 0 ∨ cfr_ a b = a ∨ cfr_ a b = b := by
  unfold cfr_
  by_cases q : b < a
  · rw [if_pos q]; split
    · exact Or.inr (Or.inr rfl)
    · exact Or.inl rfl
  · rw [if_neg q]; split
    · exact Or.inr (Or.inl rfl)
    · exact Or.inl rfl
theorem cto_c (a b s : Int64) : cto_ a b s = s ∨ cto_ a b s = a ∨ cto_ a b s = b := by
  unfold cto_
  by_cases q : b < a
  · rw [if_pos q]; split
    · exact Or.inl rfl
    · exact Or.inr (Or.inl rfl)
  · rw [if_neg q]; split
    · exact Or.inl rfl
    · exact Or.inr (Or.inr rfl)
/-- a cut of a segment along the beam lies at an end of it, or of the beam -/
theorem csg_e {ks : Int32} {bx by1 bdx bdy : Int64} {AX AY DX DY : Int} {xs ys : Nat → Int32} {q : Nat × Nat} (hB : bm5_ bx by1 bdx bdy AX AY DX DY) (r1 : r5_ (xs q.1)) (r2 : r5_ (ys q.1)) (r3 : r5_ (xs q.2)) (r4 : r5_ (ys q.2)) : ∀ c ∈ csg_ ks bx by1 bdx bdy xs ys q,
    sdp_ xs ys AX AY DX DY c.1.toInt c.2.1.toInt q.1 = 0 → sdp_ xs ys AX AY DX DY c.1.toInt c.2.1.toInt q.2 = 0 → 0 < c.2.1.toInt →
    c.1.toInt = 0 ∨ c.1.toInt = c.2.1.toInt ∨ atp_ xs ys AX AY DX DY c.1.toInt c.2.1.toInt q.1 = true ∨ atp_ xs ys AX AY DX DY c.1.toInt c.2.1.toInt q.2 = true := by
  intro c hc s1 s2 hD
  have hd := hB.2.2.2.2.2.2.2.2
  have z1 := zt_0 (vx := rv_ AX DX c.1.toInt c.2.1.toInt (xs q.1).toInt) (vy := rv_ AY DY c.1.toInt c.2.1.toInt (ys q.1).toInt) hd s1
  have z2 := zt_0 (vx := rv_ AX DX c.1.toInt c.2.1.toInt (xs q.2).toInt) (vy := rv_ AY DY c.1.toInt c.2.1.toInt (ys q.2).toInt) hd s2
  have a1 := alo_v (N := c.1.toInt) (D := c.2.1.toInt) hB (px := xs q.1) (py := ys q.1)
  have a2 := alo_v (N := c.1.toInt) (D := c.2.1.toInt) hB (px := xs q.2) (py := ys q.2)
  have g1 : sid_ bx by1 bdx bdy (xs q.1) (ys q.1) = 0 := (l0_ _).2.2.1.mpr (by
    rw [(sid_v hB r1 r2).1]; rw [sd_e] at s1
    rcases Int.mul_eq_zero.mp s1 with w | w <;> omega)
  have g2 : sid_ bx by1 bdx bdy (xs q.2) (ys q.2) = 0 := (l0_ _).2.2.1.mpr (by
    rw [(sid_v hB r3 r4).1]; rw [sd_e] at s2
    rcases Int.mul_eq_zero.mp s2 with w | w <;> omega)
  unfold csg_ cbs_ at hc
  rw [g1, g2, if_pos (by decide), if_pos rfl] at hc
  unfold cov_ at hc
  split at hc
  · unfold atp_
    rw [decide_eq_true_eq, decide_eq_true_eq, ← z1, ← z2, ← a1, ← a2]
    have key : ∀ z : Int64, c.1 = z → c.2.1 = spa_ bdx bdy → (z = 0 ∨ z = spa_ bdx bdy ∨ z = alo_ bx by1 bdx bdy (xs q.1) (ys q.1) ∨ z = alo_ bx by1 bdx bdy (xs q.2) (ys q.2)) → c.1.toInt = 0 ∨ c.1.toInt = c.2.1.toInt ∨ c.2.1.toInt * (alo_ bx by1 bdx bdy (xs q.1) (ys q.1)).toInt - c.1.toInt * (spa_ bdx bdy).toInt = 0 ∨ c.2.1.toInt * (alo_ bx by1 bdx bdy (xs q.2) (ys q.2)).toInt - c.1.toInt * (spa_ bdx bdy).toInt = 0 := by
      intro z e1 e2 e3
      rw [e1, e2]
      rcases e3 with e | e | e | e
      · exact Or.inl (by rw [e]; rfl)
      · exact Or.inr (Or.inl (by rw [e]))
      · exact Or.inr (Or.inr (Or.inl (by rw [e]; grind)))
      · exact Or.inr (Or.inr (Or.inr (by rw [e]; grind)))
    rcases List.mem_cons.mp hc with e | e
    · refine key (cfr_ (alo_ bx by1 bdx bdy (xs q.1) (ys q.1)) (alo_ bx by1 bdx bdy (xs q.2) (ys q.2))) (by rw [e]) (by rw [e]) ?_
      rcases cfr_c (alo_ bx by1 bdx bdy (xs q.1) (ys q.1)) (alo_ bx by1 bdx bdy (xs q.2) (ys q.2)) with w | w | w
      · exact Or.inl w
      · exact Or.inr (Or.inr (Or.inl w))
      · exact Or.inr (Or.inr (Or.inr w))
    · rw [List.mem_singleton] at e
      refine key (cto_ (alo_ bx by1 bdx bdy (xs q.1) (ys q.1)) (alo_ bx by1 bdx bdy (xs q.2) (ys q.2)) (spa_ bdx bdy)) (by rw [e]) (by rw [e]) ?_
      rcases cto_c (alo_ bx by1 bdx bdy (xs q.1) (ys q.1)) (alo_ bx by1 bdx bdy (xs q.2) (ys q.2)) (spa_ bdx bdy) with w | w | w
      · exact Or.inr (Or.inl w)
      · exact Or.inr (Or.inr (Or.inl w))
      · exact Or.inr (Or.inr (Or.inr w))
  · exact absurd hc (by simp)
