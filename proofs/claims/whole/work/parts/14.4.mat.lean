/-! the two matrices are alike -/
theorem sgs_m {xs ys : Nat → Int32} {S : List (Nat × Nat)} {t h : Nat} : (∀ q ∈ S, q ∈ sgs_ xs ys S t h) ∧ (¬ (xs t = xs h ∧ ys t = ys h) → (t, h) ∈ sgs_ xs ys S t h) := by
  unfold sgs_; split
  · rename_i e; exact ⟨fun q hq => hq, fun z => absurd e z⟩
  · exact ⟨fun q hq => List.mem_append_left _ hq, fun _ => List.mem_append_right _ (List.mem_singleton.mpr rfl)⟩
theorem psg_m {xs ys : Nat → Int32} {S : List (Nat × Nat)} {a : Nat} : ∀ n, (∀ q ∈ S, q ∈ psg_ xs ys S a n) ∧ (∀ j, j < n → ¬ (xs (a + j) = xs (a + j + 1) ∧ ys (a + j) = ys (a + j + 1)) → (a + j, a + j + 1) ∈ psg_ xs ys S a n)
  | 0 => ⟨fun q hq => hq, fun j h => absurd h (Nat.not_lt_zero _)⟩
  | n + 1 => by
    obtain ⟨i1, i2⟩ := psg_m (xs := xs) (ys := ys) (S := S) (a := a) n
    rw [psg_]
    refine ⟨fun q hq => sgs_m.1 q (i1 q hq), fun j hj hne => ?_⟩
    rcases Nat.lt_or_ge j n with k | k
    · exact sgs_m.1 _ (i2 j k hne)
    · rw [show j = n by omega] at hne ⊢; exact sgs_m.2 hne
theorem prS_m {xs ys : Nat → Int32} {sn : Nat → Nat} {P N : Nat} : ∀ k, (∀ q ∈ prS_ 2 xs ys sn P N k, q ∈ prS_ 2 xs ys sn P N (k + 1)) ∧ (sn k < pe_ sn P N k → ∀ j, sn k + j + 1 < pe_ sn P N k → ¬ (xs (sn k + j) = xs (sn k + j + 1) ∧ ys (sn k + j) = ys (sn k + j + 1)) → (sn k + j, sn k + j + 1) ∈ prS_ 2 xs ys sn P N (k + 1)) := fun k => by
  rw [prS_]
  by_cases q : sn k < pe_ sn P N k
  · rw [if_pos q]
    unfold ppS_
    rw [if_neg (show ¬ (2 : Int32) = 1 by decide), if_neg (show ¬ (2 : Int32) = 3 by decide)]
    have m := psg_m (xs := xs) (ys := ys) (S := prS_ 2 xs ys sn P N k) (a := sn k) (pe_ sn P N k - 1 - sn k)
    exact ⟨m.1, fun _ j hj hne => m.2 j (by omega) hne⟩
  · rw [if_neg q]; exact ⟨fun z hz => hz, fun z => absurd z q⟩
theorem prS_u {xs ys : Nat → Int32} {sn : Nat → Nat} {P N k : Nat} : ∀ n, ∀ q ∈ prS_ 2 xs ys sn P N k, q ∈ prS_ 2 xs ys sn P N (k + n)
  | 0 => fun q hq => hq
  | n + 1 => fun q hq => (prS_m (k + n)).1 q (prS_u n q hq)
/-- where no segment of a line ends, no mark is -/
theorem mk2_ {xs ys : Nat → Int32} {sn : Nat → Nat} {P N : Nat} {st : Nat → Int32} {f : Nat → Bool} (hf : ∀ i j, xs i = xs j → ys i = ys j → f i = f j) (hg : ∀ i j, f i = true → f j = true → xs i = xs j ∧ ys i = ys j) (h : sta_ sn P N st) (hN : N < 2 ^ 29)
    (hn : ∀ q ∈ prS_ 2 xs ys sn P N P, f q.1 = false ∧ f q.2 = false) : (prM_ 2 xs ys sn P N P).any f = false := by
  obtain ⟨m1, m2⟩ := prM_2 hf h hN P (Nat.le_refl _)
  have ev : ∀ k, k ≤ P → eq2_ f sn P N k % 2 = 0 := by
    intro k
    induction k with
    | zero => intro _; rfl
    | succ k ih =>
      intro hk
      have i := ih (by omega)
      rw [eq2_]
      by_cases q : sn k < pe_ sn P N k
      · rw [if_pos q]
        have const : ∀ j, sn k + j < pe_ sn P N k → f (sn k + j) = f (sn k) := by
          intro j
          induction j with
          | zero => intro _; rfl
          | succ j ih2 =>
            intro hj
            have e := ih2 (by omega)
            rw [← e]
            by_cases c : xs (sn k + j) = xs (sn k + j + 1) ∧ ys (sn k + j) = ys (sn k + j + 1)
            · exact (hf _ _ c.1 c.2).symm
            · have mem := (prS_m (xs := xs) (ys := ys) (sn := sn) (P := P) (N := N) k).2 q j hj c
              have mem2 := prS_u (P - (k + 1)) _ mem
              rw [show k + 1 + (P - (k + 1)) = P by omega] at mem2
              have z := hn _ mem2
              exact z.2.trans z.1.symm
        have e := const (pe_ sn P N k - 1 - sn k) (by omega)
        rw [show sn k + (pe_ sn P N k - 1 - sn k) = pe_ sn P N k - 1 by omega] at e
        rw [e]; omega
      · rw [if_neg q]; omega
  have z := md_1 hg _ m2
  rw [m1, ev P (Nat.le_refl _)] at z
  cases r : (prM_ 2 xs ys sn P N P).any f
  · rfl
  · exact absurd (z.mp r) (by decide)
section
variable {kn xs ys : Nat → Int32} {PA PT : Nat → Nat} {SN : Nat → Nat → Nat} {s0 : Nat} {q0 : Nat × Nat}
/-- a point's place -/
theorem plc_p {x y : Int32} (rx : r5_ x) (ry : r5_ y) : plc_ x.toInt64 y.toInt64 0 0 x.toInt y.toInt 0 0 0 1 := ⟨i64_ _, i64_ _, rfl, rfl, rx, ry, by decide, by decide, by decide⟩
/-- the place of x, y, in shape s -/
abbrev PW_ (kn xs ys : Nat → Int32) (SN : Nat → Nat → Nat) (PA PT : Nat → Nat) (x y : Int) (s : Nat) : Int32 := wI_ (kn s) (sm_ (onq_ (xo_ xs s) (xo_ ys s) x y 0 0 0 1) (SS_ kn xs ys SN PA PT s)) ((MM_ kn xs ys SN PA PT s).any (atp_ (xo_ xs s) (xo_ ys s) x y 0 0 0 1)) (sm_ (cyq_ (xo_ xs s) (xo_ ys s) x y 0 0 0 1) (SS_ kn xs ys SN PA PT s))
theorem ptT_e (h : shs_ kn xs ys SN PA PT) {s i : Nat} (hs : s < 2) (hi : i < PT s) {x y d : Int32} : ptT_ kn xs ys (gat_ kn xs ys SN PA PT) PA PT SN s i x y d ↔ (x = PW_ kn xs ys SN PA PT (xo_ xs s i).toInt (xo_ ys s i).toInt 0 ∧ y = PW_ kn xs ys SN PA PT (xo_ xs s i).toInt (xo_ ys s i).toInt 1 ∧ d = 0) := by
  have r := SS_r h hs hi
  have p := plc_p r.1 r.2
  unfold ptT_ wT0_
  rw [wr_b h p (by decide), wr_b h p (by decide)]
  rfl
theorem MM_n (h : shs_ kn xs ys SN PA PT) {s : Nat} (hs : s < 2) : (MM_ kn xs ys SN PA PT s).length < 2 ^ 30 := by
  have hk := prK_ (kd := kn s) (xs := xo_ xs s) (ys := xo_ ys s) (shr_s (h s hs)) (by have := (h s hs).2.2.2.2.1; omega) (PA s) (Nat.le_refl _)
  have hb : bn_ (SN s) (PA s) (PT s) (PA s) = PT s := by unfold bn_; rw [if_neg (Nat.lt_irrefl _)]
  have := (h s hs).2.2.2.2.1
  rw [hb] at hk
  unfold MM_ sM_; omega
theorem pcT_e (h : shs_ kn xs ys SN PA PT) {s i : Nat} (hs : s < 2) (hi : i < PT s) {x y d : Int32} : pcT_ kn xs ys SN PA PT s i x y d ↔ (x = PW_ kn xs ys SN PA PT (xo_ xs s i).toInt (xo_ ys s i).toInt 0 ∧ y = PW_ kn xs ys SN PA PT (xo_ xs s i).toInt (xo_ ys s i).toInt 1 ∧ d = 0) := by
  have r := SS_r h hs hi
  unfold pcT_
  have w : ∀ s2, s2 < 2 → whs_ (kn s2) (xo_ xs s2) (xo_ ys s2) (SS_ kn xs ys SN PA PT s2) (MM_ kn xs ys SN PA PT s2) (xo_ xs s i) (xo_ ys s i) = PW_ kn xs ys SN PA PT (xo_ xs s i).toInt (xo_ ys s i).toInt s2 := fun s2 h2 => whs_b (shr_f (h s2 h2)) r.1 r.2 (MM_n h h2)
  rw [w 0 (by decide), w 1 (by decide)]
/-- a place on a beam, by its own name and by its part of the beam -/
theorem sc_b {N D x y : Int} {AX AY DX DY : Int} (hD : 0 < D) (hx : D * (x - AX) = N * DX) (hy : D * (y - AY) = N * DY) {X Y : Nat → Int32} (q : Nat × Nat) : onq_ X Y AX AY DX DY N D q = onq_ X Y x y 0 0 0 1 q ∧ cyq_ X Y AX AY DX DY N D q = cyq_ X Y x y 0 0 0 1 q := by
  have e1 : ∀ Z : Int, D * rv_ x 0 0 1 Z = rv_ AX DX N D Z := fun Z => by rw [rv_1]; unfold rv_; grind
  have e2 : ∀ Z : Int, D * rv_ y 0 0 1 Z = rv_ AY DY N D Z := fun Z => by rw [rv_1]; unfold rv_; grind
  have s := sc4_ (e := D) hD (e1 (X q.1).toInt) (e2 (Y q.1).toInt) (e1 (X q.2).toInt) (e2 (Y q.2).toInt)
  exact ⟨s.1.symm, s.2.symm⟩
theorem sc_ba {N D x y : Int} {AX AY DX DY : Int} (hD : 0 < D) (hx : D * (x - AX) = N * DX) (hy : D * (y - AY) = N * DY) {X Y : Nat → Int32} (i : Nat) : atp_ X Y AX AY DX DY N D i = atp_ X Y x y 0 0 0 1 i := by
  have e1 : D * rv_ x 0 0 1 (X i).toInt = rv_ AX DX N D (X i).toInt := by rw [rv_1]; unfold rv_; grind
  have e2 : D * rv_ y 0 0 1 (Y i).toInt = rv_ AY DY N D (Y i).toInt := by rw [rv_1]; unfold rv_; grind
  have o : (0 : Int) < 1 := by decide
  have s1 := sgz3 (x := rv_ x 0 0 1 (X i).toInt) (y := rv_ AX DX N D (X i).toInt) hD o (by omega)
  have s2 := sgz3 (x := rv_ y 0 0 1 (Y i).toInt) (y := rv_ AY DY N D (Y i).toInt) hD o (by omega)
  unfold atp_
  exact decide_eq_decide.mpr (by rw [s1.2.2, s2.2.2])
/-- a place on a segment is a part of it -/
theorem on_t {ax ay bx by1 x y : Int} (hn : ¬ (bx - ax = 0 ∧ by1 - ay = 0)) (ho : on_ (ax - x) (ay - y) (bx - x) (by1 - y) = 1) : ∃ N D : Int, 0 < D ∧ 0 ≤ N ∧ N ≤ D ∧ D * (x - ax) = N * (bx - ax) ∧ D * (y - ay) = N * (by1 - ay) := by
  obtain ⟨k, hx, hy⟩ := on_1.mp ho
  rcases Int.lt_trichotomy (bx - ax) 0 with c | c | c
  · exact ⟨ax - x, ax - bx, by omega, by omega, by omega, by grind, by grind⟩
  · rcases Int.lt_trichotomy (by1 - ay) 0 with d | d | d
    · exact ⟨ay - y, ay - by1, by omega, by omega, by omega, by
        have e : (ax - x) * (by1 - ay) = 0 := by grind
        have : ax - x = 0 := by rcases Int.mul_eq_zero.mp e with w | w <;> omega
        grind, by grind⟩
    · exact absurd ⟨c, d⟩ hn
    · exact ⟨y - ay, by1 - ay, by omega, by omega, by omega, by
        have e : (ax - x) * (by1 - ay) = 0 := by grind
        have : ax - x = 0 := by rcases Int.mul_eq_zero.mp e with w | w <;> omega
        grind, by grind⟩
  · exact ⟨x - ax, bx - ax, by omega, by omega, by omega, by grind, by grind⟩
/-- a point on a beam: the reference cuts the beam there -/
theorem pt_b (h : shs_ kn xs ys SN PA PT) {s i : Nat} (hs : s < 2) (hi : i < PT s) (hs0 : s0 < 2) (hq0 : q0 ∈ SS_ kn xs ys SN PA PT s0) (ho : onq_ (xo_ xs s0) (xo_ ys s0) (xo_ xs s i).toInt (xo_ ys s i).toInt 0 0 0 1 q0 = 1) {x y d : Int32}
    (ht : ptT_ kn xs ys (gat_ kn xs ys SN PA PT) PA PT SN s i x y d) : bmT_ kn xs ys (gat_ kn xs ys SN PA PT) PA PT SN (m3_ s0 q0) x y d := by
  have hB := bm_q h hs0 hq0
  have hn : ¬ (dX_ xs s0 q0 = 0 ∧ dX_ ys s0 q0 = 0) := hB.2.2.2.2.2.2.2.2
  unfold onq_ at ho
  rw [rv_1, rv_1, rv_1, rv_1] at ho
  obtain ⟨N, D, hD, hN, hND, ex, ey⟩ := on_t (ax := (xo_ xs s0 q0.1).toInt) (ay := (xo_ ys s0 q0.1).toInt) (bx := (xo_ xs s0 q0.2).toInt) (by1 := (xo_ ys s0 q0.2).toInt) hn ho
  have ex' : D * ((xo_ xs s i).toInt - aX_ xs s0 q0) = N * dX_ xs s0 q0 := ex
  have ey' : D * ((xo_ ys s i).toInt - aX_ ys s0 q0) = N * dX_ ys s0 q0 := ey
  obtain ⟨f, hf, ef⟩ := PF_ h hs0 hq0 hD hN hND (Or.inr (Or.inr (Or.inl ⟨s, hs, i, hi, by
    rw [sc_ba hD ex' ey']; unfold atp_; rw [decide_eq_true_eq, rv_1, rv_1]; omega⟩)))
  obtain ⟨k, hk, ek⟩ := ix_f hf
  have f0 : (0 : Int) < f.2 := by have := (FF_p h hs0 hq0 f hf).1; omega
  obtain ⟨e1, e2, e3⟩ := (ptT_e h hs hi).mp ht
  refine ⟨k, hk, ?_⟩
  show cT_ kn xs ys (gat_ kn xs ys SN PA PT) PA PT SN (xs (m3_ s0 q0).1).toInt64 (ys (m3_ s0 q0).1).toInt64 ((xs (m3_ s0 q0).2.1).toInt64 - (xs (m3_ s0 q0).1).toInt64) ((ys (m3_ s0 q0).2.1).toInt64 - (ys (m3_ s0 q0).1).toInt64) (FF_ kn xs ys SN PA PT s0 q0) k x y d
  unfold cT_
  rw [ek]
  refine Or.inl ?_
  unfold wT0_
  rw [wr_q h hs0 hq0 f0 (by decide), wr_q h hs0 hq0 f0 (by decide)]
  have sc : ∀ s2, WH_ kn xs ys SN PA PT s0 q0 s2 (f.1 : Int) (f.2 : Int) = PW_ kn xs ys SN PA PT (xo_ xs s i).toInt (xo_ ys s i).toInt s2 := fun s2 => by
    have a := sc_w (xs := xo_ xs s2) (ys := xo_ ys s2) (AX := aX_ xs s0 q0) (AY := aX_ ys s0 q0) (DX := dX_ xs s0 q0) (DY := dX_ ys s0 q0) (kd := kn s2) (S := SS_ kn xs ys SN PA PT s2) (K := MM_ kn xs ys SN PA PT s2) f0 hD ef
    have b1 : onq_ (xo_ xs s2) (xo_ ys s2) (aX_ xs s0 q0) (aX_ ys s0 q0) (dX_ xs s0 q0) (dX_ ys s0 q0) N D = onq_ (xo_ xs s2) (xo_ ys s2) (xo_ xs s i).toInt (xo_ ys s i).toInt 0 0 0 1 := funext (fun q => (sc_b hD ex' ey' q).1)
    have b2 : cyq_ (xo_ xs s2) (xo_ ys s2) (aX_ xs s0 q0) (aX_ ys s0 q0) (dX_ xs s0 q0) (dX_ ys s0 q0) N D = cyq_ (xo_ xs s2) (xo_ ys s2) (xo_ xs s i).toInt (xo_ ys s i).toInt 0 0 0 1 := funext (fun q => (sc_b hD ex' ey' q).2)
    have b3 : atp_ (xo_ xs s2) (xo_ ys s2) (aX_ xs s0 q0) (aX_ ys s0 q0) (dX_ xs s0 q0) (dX_ ys s0 q0) N D = atp_ (xo_ xs s2) (xo_ ys s2) (xo_ xs s i).toInt (xo_ ys s i).toInt 0 0 0 1 := funext (fun q => sc_ba hD ex' ey' q)
    rw [b1, b2, b3] at a
    exact a
  rw [sc, sc]
  exact ⟨e1, e2, e3⟩
/-- J, as a triple of the class -/
theorem J_t (h : shs_ kn xs ys SN PA PT) {X0 Y0 DX0 DY0 N0 D0 : Int} (U : Nat → Bool) (hU : ∀ s, U s = true → kn s = 3) (hD0 : 0 < D0) (hon : ∀ s, s < 2 → U s = true → ∀ q ∈ SS_ kn xs ys SN PA PT s, ¬ onq_ (xo_ xs s) (xo_ ys s) X0 Y0 DX0 DY0 N0 D0 q = 1)
    {t : Nat} (ht : t < 2) (hut : U t = true) (hodd : sm_ (cyq_ (xo_ xs t) (xo_ ys t) X0 Y0 DX0 DY0 N0 D0) (SS_ kn xs ys SN PA PT t) % 2 = 1) :
    ∃ x y, (∃ s, s < 2 ∧ ∃ q ∈ SS_ kn xs ys SN PA PT s, TC_ kn xs ys SN PA PT s q x y 2) ∧ (U 0 = true → x = bI_ (kn 0) (sm_ (cyq_ (xo_ xs 0) (xo_ ys 0) X0 Y0 DX0 DY0 N0 D0) (SS_ kn xs ys SN PA PT 0))) ∧ (¬ kn 0 = 3 → x = 2) ∧ (U 1 = true → y = bI_ (kn 1) (sm_ (cyq_ (xo_ xs 1) (xo_ ys 1) X0 Y0 DX0 DY0 N0 D0) (SS_ kn xs ys SN PA PT 1))) ∧ (¬ kn 1 = 3 → y = 2) := by
  obtain ⟨s0, hs0, q0, hq0, N, D, hD, hN, hND, hf, he⟩ := J_ h U hD0 hon ⟨t, ht, hut, by
    obtain ⟨q, hq, k⟩ := sm_0 _ (show 0 < sm_ (cyq_ (xo_ xs t) (xo_ ys t) X0 Y0 DX0 DY0 N0 D0) (SS_ kn xs ys SN PA PT t) by omega)
    refine ⟨q, hq, ?_⟩
    have : cyq_ (xo_ xs t) (xo_ ys t) X0 Y0 DX0 DY0 N0 D0 q ≤ 1 := pn_b
    omega⟩
  obtain ⟨n1, n2⟩ := no_f h hs0 hq0 hD hN (Int.le_of_lt hND) hf
  obtain ⟨c, hc, hl, heq⟩ := zer_l h hs0 hq0 hD hN
  have hr := (ra_c h hs0 hq0 hD hN hND n1 heq (bI_ (kn 0) (yy_ kn xs ys SN PA PT s0 q0 0 N D + oo_ kn xs ys SN PA PT s0 q0 0 N D)) (bI_ (kn 1) (yy_ kn xs ys SN PA PT s0 q0 1 N D + oo_ kn xs ys SN PA PT s0 q0 1 N D)) 2).mpr (Or.inr (Or.inr ⟨rfl, rfl, rfl⟩))
  have b2 : ∀ (kd : Int32) (n : Nat), ¬ kd = 3 → bI_ kd n = 2 := fun kd n h => by unfold bI_; rw [if_neg (fun z => h z.1)]
  exact ⟨_, _, ⟨s0, hs0, q0, hq0, c, hc, Or.inr ⟨one_l h hs0 hq0 hND hc hl, hr⟩⟩, fun u => by rw [he 0 (by decide) u], fun u => b2 _ _ u, fun u => by rw [he 1 (by decide) u], fun u => b2 _ _ u⟩
end
