/-! the questions: the class answers as the reference -/
section
variable {kn xs ys : Nat → Int32} {PA PT : Nat → Nat} {SN : Nat → Nat → Nat} {mr ha : Nat → Int32}
theorem pj_x {s : Nat} {x y : Int32} {P : Nat → Int32} (hs : s < 2) (hx : x = P 0) (hy : y = P 1) : pj_ s x y = P s := pj_2 hx hy s hs
theorem hsg_v (h : shs_ kn xs ys SN PA PT) {s : Nat} (hs : s < 2) : ¬ hsg_ (gat_ kn xs ys SN PA PT) s = 0 ↔ ¬ SS_ kn xs ys SN PA PT s = [] := by
  unfold hsg_
  rw [bo_1.2]
  constructor
  · rintro ⟨w, hw, e⟩ z
    obtain ⟨s2, h2, q, hq, rfl⟩ := (gat_m h).mp hw
    have : s2 = s := e
    subst this; rw [z] at hq; exact absurd hq (by simp)
  · intro z
    cases hS : SS_ kn xs ys SN PA PT s with
    | nil => exact absurd hS z
    | cons q S => exact ⟨m3_ s q, (gat_m h).mpr ⟨s, hs, q, by rw [hS]; exact List.mem_cons_self .., rfl⟩, rfl⟩
theorem lo1_ (h : shs_ kn xs ys SN PA PT) {s : Nat} (hs : s < 2) (hk : kn s = 1) (hp : 0 < PT s) : ∃ x y d, reT_ kn xs ys SN PA PT x y d ∧ pj_ s x y = 0 ∧ (0 : Int32) ≤ d := by
  refine ⟨PW_ kn xs ys SN PA PT (xo_ xs s 0).toInt (xo_ ys s 0).toInt 0, PW_ kn xs ys SN PA PT (xo_ xs s 0).toInt (xo_ ys s 0).toInt 1, 0, Or.inl ⟨s, hs, 0, hp, (ptT_e h hs hp).mpr ⟨rfl, rfl, rfl⟩⟩, ?_, by decide⟩
  rw [pj_x (P := PW_ kn xs ys SN PA PT (xo_ xs s 0).toInt (xo_ ys s 0).toInt) hs rfl rfl]
  unfold PW_ wI_
  rw [if_pos hk, if_pos]
  rw [List.any_eq_true]
  refine ⟨0, ?_, by unfold atp_; rw [decide_eq_true_eq, rv_1, rv_1]; omega⟩
  have hh := h s hs
  unfold MM_ sM_
  rw [hk]
  rcases Nat.eq_zero_or_pos (PA s) with z | z
  · have := hh.2.2.2.1 z; omega
  · rw [prM_1 (shr_s hh) (PA s) (Nat.le_refl _) z]
    have hb : bn_ (SN s) (PA s) (PT s) (PA s) = PT s := by unfold bn_; rw [if_neg (Nat.lt_irrefl _)]
    rw [hb, List.mem_range'_1]; omega
/-- a beam is on itself -/
theorem onq_s {X Y : Nat → Int32} {q : Nat × Nat} {N D : Int} (hN : 0 ≤ N) (hND : N ≤ D) : onq_ X Y (X q.1).toInt (Y q.1).toInt ((X q.2).toInt - (X q.1).toInt) ((Y q.2).toInt - (Y q.1).toInt) N D q = 1 := by
  unfold onq_
  rw [on_1]
  have e1 : ∀ a b : Int, rv_ a (b - a) N D a = -(N * (b - a)) := fun a b => by unfold rv_; grind
  have e2 : ∀ a b : Int, rv_ a (b - a) N D b = (D - N) * (b - a) := fun a b => by unfold rv_; grind
  rw [e1, e1, e2, e2]
  generalize (X q.2).toInt - (X q.1).toInt = u; generalize (Y q.2).toInt - (Y q.1).toInt = v
  refine ⟨by grind, ?_, ?_⟩
  · have m1 := mt_ N u; have m2 := mt_ (D - N) u
    generalize N * u = r1 at *; generalize (D - N) * u = r2 at *
    omega
  · have m1 := mt_ N v; have m2 := mt_ (D - N) v
    generalize N * v = r1 at *; generalize (D - N) * v = r2 at *
    omega
theorem lo2_ (h : shs_ kn xs ys SN PA PT) {s : Nat} (hs : s < 2) (hS : ¬ SS_ kn xs ys SN PA PT s = []) : ∃ x y, reT_ kn xs ys SN PA PT x y 1 ∧ (kn s = 2 → pj_ s x y = 0) ∧ (kn s = 3 → pj_ s x y = 1) := by
  obtain ⟨q0, hq0⟩ : ∃ q0, q0 ∈ SS_ kn xs ys SN PA PT s := by
    cases hS2 : SS_ kn xs ys SN PA PT s with
    | nil => exact absurd hS2 hS
    | cons q S => exact ⟨q, List.mem_cons_self ..⟩
  -- the reference cuts at least at the tail and at the head
  obtain ⟨f0, hf0, ef0⟩ := PF_ h hs hq0 (N := 0) (D := 1) (by decide) (by decide) (by decide) (Or.inl rfl)
  obtain ⟨f1, hf1, ef1⟩ := PF_ h hs hq0 (N := 1) (D := 1) (by decide) (by decide) (by decide) (Or.inr (Or.inl rfl))
  obtain ⟨i, hi, ei⟩ := ix_f hf0
  obtain ⟨j, hj, ej⟩ := ix_f hf1
  have p1 := (FF_p h hs hq0 f1 hf1).1
  have hk : 0 + 1 < (FF_ kn xs ys SN PA PT s q0).length := by
    have ne : ¬ i = j := fun z => by
      subst z
      have : f0 = f1 := by rw [← ei, ← ej]
      subst this; omega
    omega
  obtain ⟨hD, hN, hND, hno, all⟩ := FF_m h hs hq0 hk rfl rfl
  obtain ⟨n1, n2⟩ := no_f h hs hq0 hD hN (Int.le_of_lt hND) hno
  refine ⟨_, _, Or.inr ⟨m3_ s q0, (gat_m h).mpr ⟨s, hs, q0, hq0, rfl⟩, 0, by show 0 < (FF_ kn xs ys SN PA PT s q0).length; omega, Or.inr ⟨hk, Or.inl ⟨rfl, rfl, rfl⟩⟩⟩, ?_⟩
  have e : ∀ s2, s2 < 2 → wr_ kn xs ys (gat_ kn xs ys SN PA PT) PA PT SN (xs (m3_ s q0).1).toInt64 (ys (m3_ s q0).1).toInt64 ((xs (m3_ s q0).2.1).toInt64 - (xs (m3_ s q0).1).toInt64) ((ys (m3_ s q0).2.1).toInt64 - (ys (m3_ s q0).1).toInt64) (mdN_ ((rcu_ xs ys (m3_ s q0).1 (m3_ s q0).2.1 PT (gat_ kn xs ys SN PA PT)).getD 0 (0, 1)) ((rcu_ xs ys (m3_ s q0).1 (m3_ s q0).2.1 PT (gat_ kn xs ys SN PA PT)).getD (0 + 1) (0, 1))) (mdD_ ((rcu_ xs ys (m3_ s q0).1 (m3_ s q0).2.1 PT (gat_ kn xs ys SN PA PT)).getD 0 (0, 1)) ((rcu_ xs ys (m3_ s q0).1 (m3_ s q0).2.1 PT (gat_ kn xs ys SN PA PT)).getD (0 + 1) (0, 1))) s2 = WH_ kn xs ys SN PA PT s q0 s2 (mdN_ ((FF_ kn xs ys SN PA PT s q0).getD 0 (0, 1)) ((FF_ kn xs ys SN PA PT s q0).getD (0 + 1) (0, 1))) (mdD_ ((FF_ kn xs ys SN PA PT s q0).getD 0 (0, 1)) ((FF_ kn xs ys SN PA PT s q0).getD (0 + 1) (0, 1))) := fun s2 h2 => wr_q h hs hq0 hD h2
  rw [pj_x (P := fun s2 => WH_ kn xs ys SN PA PT s q0 s2 (mdN_ ((FF_ kn xs ys SN PA PT s q0).getD 0 (0, 1)) ((FF_ kn xs ys SN PA PT s q0).getD (0 + 1) (0, 1))) (mdD_ ((FF_ kn xs ys SN PA PT s q0).getD 0 (0, 1)) ((FF_ kn xs ys SN PA PT s q0).getD (0 + 1) (0, 1)))) hs (e 0 (by decide)) (e 1 (by decide))]
  have on : 0 < oo_ kn xs ys SN PA PT s q0 s (mdN_ ((FF_ kn xs ys SN PA PT s q0).getD 0 (0, 1)) ((FF_ kn xs ys SN PA PT s q0).getD (0 + 1) (0, 1))) (mdD_ ((FF_ kn xs ys SN PA PT s q0).getD 0 (0, 1)) ((FF_ kn xs ys SN PA PT s q0).getD (0 + 1) (0, 1))) := by
    have w := onq_s (X := xo_ xs s) (Y := xo_ ys s) (q := q0) hN (Int.le_of_lt hND)
    exact sm_g _ q0 hq0 (by unfold aX_ dX_; rw [w]; decide)
  unfold WH_
  rw [n2 s hs]
  unfold wI_
  constructor
  · intro k; rw [k, if_neg (show ¬ (2 : Int32) = 1 by decide), if_pos (show (2 : Int32) = 2 from rfl), if_neg (show ¬ false = true by decide), if_pos on]
  · intro k; rw [k, if_neg (show ¬ (3 : Int32) = 1 by decide), if_neg (show ¬ (3 : Int32) = 2 by decide), if_pos on]
theorem lo3_ {s : Nat} (hs : s < 2) (hk : kn s = 3) (hh : ¬ lkH_ kn xs ys SN PA PT ha s = 0) : ∃ x y, reT_ kn xs ys SN PA PT x y 2 ∧ pj_ s x y = 0 := by
  obtain ⟨w, hw, c, hc, hk1, -, ot, hot, od⟩ := (lkH_v hs).mp hh
  have b : ∀ (x y : Int32), x = bsr_ (kn 0) (bsn_ xs ys (xs w.1).toInt64 (ys w.1).toInt64 ((xs w.2.1).toInt64 - (xs w.1).toInt64) ((ys w.2.1).toInt64 - (ys w.1).toInt64) (mdN_ ((rcu_ xs ys w.1 w.2.1 PT (gat_ kn xs ys SN PA PT)).getD c (0, 1)) ((rcu_ xs ys w.1 w.2.1 PT (gat_ kn xs ys SN PA PT)).getD (c + 1) (0, 1))) (mdD_ ((rcu_ xs ys w.1 w.2.1 PT (gat_ kn xs ys SN PA PT)).getD c (0, 1)) ((rcu_ xs ys w.1 w.2.1 PT (gat_ kn xs ys SN PA PT)).getD (c + 1) (0, 1))) (gat_ kn xs ys SN PA PT) 0 ot) → y = bsr_ (kn 1) (bsn_ xs ys (xs w.1).toInt64 (ys w.1).toInt64 ((xs w.2.1).toInt64 - (xs w.1).toInt64) ((ys w.2.1).toInt64 - (ys w.1).toInt64) (mdN_ ((rcu_ xs ys w.1 w.2.1 PT (gat_ kn xs ys SN PA PT)).getD c (0, 1)) ((rcu_ xs ys w.1 w.2.1 PT (gat_ kn xs ys SN PA PT)).getD (c + 1) (0, 1))) (mdD_ ((rcu_ xs ys w.1 w.2.1 PT (gat_ kn xs ys SN PA PT)).getD c (0, 1)) ((rcu_ xs ys w.1 w.2.1 PT (gat_ kn xs ys SN PA PT)).getD (c + 1) (0, 1))) (gat_ kn xs ys SN PA PT) 1 ot) → pj_ s x y = 0 := fun x y hx hy => by
    have e := pj_x (P := fun s2 => bsr_ (kn s2) (bsn_ xs ys (xs w.1).toInt64 (ys w.1).toInt64 ((xs w.2.1).toInt64 - (xs w.1).toInt64) ((ys w.2.1).toInt64 - (ys w.1).toInt64) (mdN_ ((rcu_ xs ys w.1 w.2.1 PT (gat_ kn xs ys SN PA PT)).getD c (0, 1)) ((rcu_ xs ys w.1 w.2.1 PT (gat_ kn xs ys SN PA PT)).getD (c + 1) (0, 1))) (mdD_ ((rcu_ xs ys w.1 w.2.1 PT (gat_ kn xs ys SN PA PT)).getD c (0, 1)) ((rcu_ xs ys w.1 w.2.1 PT (gat_ kn xs ys SN PA PT)).getD (c + 1) (0, 1))) (gat_ kn xs ys SN PA PT) s2 ot)) hs hx hy
    rw [e]
    show bsr_ (kn s) _ = 0
    rw [hk]; unfold bsr_
    rw [if_neg (show ¬ (3 : Int32) < 3 by decide), if_pos od]
  rcases hot with e | e
  · subst e
    exact ⟨_, _, Or.inr ⟨w, hw, c, hc, Or.inr ⟨hk1, Or.inr (Or.inl ⟨rfl, rfl, rfl⟩)⟩⟩, b _ _ rfl rfl⟩
  · subst e
    exact ⟨_, _, Or.inr ⟨w, hw, c, hc, Or.inr ⟨hk1, Or.inr (Or.inr ⟨rfl, rfl, rfl⟩)⟩⟩, b _ _ rfl rfl⟩
/-- the inside's dimension -/
theorem ino_v (h : shs_ kn xs ys SN PA PT) {s : Nat} (hs : s < 2) : Dm_ s (lkM_ kn xs ys SN PA PT mr) 0 = ino_ (kn s) (PT s) (gat_ kn xs ys SN PA PT) s (lkH_ kn xs ys SN PA PT ha s) := by
  unfold ino_
  rcases (h s hs).1 with k | k | k
  · rw [if_pos k]
    by_cases p : 0 < PT s
    · rw [if_pos p]
      refine Dm_v rfl (Or.inl rfl) (by decide) (fun x y d ht e => ?_) (Or.inr (lo1_ h hs k p))
      rw [(((re_s h ht hs ha).1 k).2 e).1]; exact Int32.le_refl _
    · rw [if_neg p]
      refine Dm_v rfl (Or.inl rfl) (by decide) (fun x y d ht e => ?_) (Or.inl rfl)
      exact absurd (((re_s h ht hs ha).1 k).2 e).2 p
  · rw [if_neg (by rw [k]; decide), if_pos k]
    by_cases p : hsg_ (gat_ kn xs ys SN PA PT) s = 0
    · rw [if_pos p]
      refine Dm_v rfl (Or.inl rfl) (by decide) (fun x y d ht e => ?_) (Or.inl rfl)
      exact absurd p ((hsg_v h hs).mpr (((re_s h ht hs ha).2.1 k).1 e).2)
    · rw [if_neg p]
      obtain ⟨x, y, t, t2, -⟩ := lo2_ h hs ((hsg_v h hs).mp p)
      refine Dm_v rfl (Or.inl rfl) (by decide) (fun x y d ht e => ?_) (Or.inr ⟨x, y, 1, t, t2 k, Int32.le_refl _⟩)
      rcases (((re_s h ht hs ha).2.1 k).1 e).1 with z | z
      · rw [z]; decide
      · rw [z]; exact Int32.le_refl _
  · rw [if_neg (by rw [k]; decide), if_neg (by rw [k]; decide)]
    by_cases p : lkH_ kn xs ys SN PA PT ha s = 0
    · rw [if_pos p]
      refine Dm_v rfl (Or.inl rfl) (by decide) (fun x y d ht e => ?_) (Or.inl rfl)
      exact absurd p (((re_s h ht hs ha).2.2.1 k).1 e)
    · rw [if_neg p]
      obtain ⟨x, y, t, t2⟩ := lo3_ hs k p
      refine Dm_v rfl (Or.inl rfl) (by decide) (fun x y d ht e => ?_) (Or.inr ⟨x, y, 2, t, t2, Int32.le_refl _⟩)
      rcases (re_s h ht hs ha).2.2.2 with z | z | z <;> rw [z] <;> decide
/-- the shape's dimension -/
theorem dim_v (h : shs_ kn xs ys SN PA PT) {s : Nat} (hs : s < 2) : mx_ (Dm_ s (lkM_ kn xs ys SN PA PT mr) 0) (Dm_ s (lkM_ kn xs ys SN PA PT mr) 1) = if ino_ (kn s) (PT s) (gat_ kn xs ys SN PA PT) s (lkH_ kn xs ys SN PA PT ha s) < 0 ∧ ¬ hsg_ (gat_ kn xs ys SN PA PT) s = 0 then 1 else ino_ (kn s) (PT s) (gat_ kn xs ys SN PA PT) s (lkH_ kn xs ys SN PA PT ha s) := by
  rw [ino_v (ha := ha) h hs]
  have hv := hsg_v h hs
  unfold ino_
  rcases (h s hs).1 with k | k | k
  · have e : Dm_ s (lkM_ kn xs ys SN PA PT mr) 1 = -1 := Dm_v rfl (Or.inr rfl) (by decide) (fun x y d ht e => absurd e ((re_s h ht hs ha).1 k).1) (Or.inl rfl)
    have n : hsg_ (gat_ kn xs ys SN PA PT) s = 0 := Decidable.byContradiction (fun z => hv.mp z ((shr_f (h s hs)).2.1 k))
    rw [e, if_pos k]
    by_cases p : 0 < PT s
    · rw [if_pos p, if_neg (fun z : (0 : Int32) < 0 ∧ ¬ hsg_ (gat_ kn xs ys SN PA PT) s = 0 => z.2 n)]; decide
    · rw [if_neg p, if_neg (fun z : (-1 : Int32) < 0 ∧ ¬ hsg_ (gat_ kn xs ys SN PA PT) s = 0 => z.2 n)]; decide
  · rw [if_neg (by rw [k]; decide), if_pos k]
    by_cases p : hsg_ (gat_ kn xs ys SN PA PT) s = 0
    · have e : Dm_ s (lkM_ kn xs ys SN PA PT mr) 1 = -1 := Dm_v rfl (Or.inr rfl) (by decide) (fun x y d ht e => absurd p (hv.mpr (((re_s h ht hs ha).2.1 k).2 e).2)) (Or.inl rfl)
      rw [e, if_pos p, if_neg (fun z => z.2 p)]; decide
    · rw [if_neg p, if_neg (fun z => absurd z.1 (by decide))]
      have u : Dm_ s (lkM_ kn xs ys SN PA PT mr) 1 ≤ 0 := by
        by_cases w : ∃ x y, reT_ kn xs ys SN PA PT x y 0 ∧ pj_ s x y = 1
        · obtain ⟨x, y, w1, w2⟩ := w
          rw [Dm_v (v := 0) rfl (Or.inr rfl) (by decide) (fun x y d ht e => by rw [(((re_s h ht hs ha).2.1 k).2 e).1]; exact Int32.le_refl _) (Or.inr ⟨x, y, 0, w1, w2, Int32.le_refl _⟩)]
          exact Int32.le_refl _
        · rw [Dm_v (v := -1) rfl (Or.inr rfl) (by decide) (fun x y d ht e => by
            have := (((re_s h ht hs ha).2.1 k).2 e).1
            subst this; exact absurd ⟨x, y, ht, e⟩ w) (Or.inl rfl)]; decide
      unfold mx_
      rw [if_neg (fun z => absurd (Int32.lt_of_lt_of_le z u) (by decide))]
  · rw [if_neg (by rw [k]; decide), if_neg (by rw [k]; decide)]
    have u : Dm_ s (lkM_ kn xs ys SN PA PT mr) 1 = if hsg_ (gat_ kn xs ys SN PA PT) s = 0 then -1 else 1 := by
      by_cases p : hsg_ (gat_ kn xs ys SN PA PT) s = 0
      · rw [if_pos p]; exact Dm_v rfl (Or.inr rfl) (by decide) (fun x y d ht e => absurd p (hv.mpr (((re_s h ht hs ha).2.2.1 k).2 e).2)) (Or.inl rfl)
      · rw [if_neg p]
        obtain ⟨x, y, t, -, t2⟩ := lo2_ h hs (hv.mp p)
        refine Dm_v rfl (Or.inr rfl) (by decide) (fun x y d ht e => ?_) (Or.inr ⟨x, y, 1, t, t2 k, Int32.le_refl _⟩)
        rcases (((re_s h ht hs ha).2.2.1 k).2 e).1 with z | z
        · rw [z]; decide
        · rw [z]; exact Int32.le_refl _
    rw [u]
    by_cases q : lkH_ kn xs ys SN PA PT ha s = 0 <;> by_cases p : hsg_ (gat_ kn xs ys SN PA PT) s = 0
    · rw [if_pos q, if_pos p, if_neg (fun z => z.2 p)]; decide
    · rw [if_pos q, if_neg p, if_pos ⟨by decide, p⟩]; decide
    · rw [if_neg q, if_pos p, if_neg (fun z => z.2 p)]; decide
    · rw [if_neg q, if_neg p, if_neg (fun z => absurd z.1 (by decide))]; decide
end

theorem ifc_ {P Q : Prop} [Decidable P] [Decidable Q] (h : P ↔ Q) : (if P then (1 : Int32) else 0) = if Q then 1 else 0 := by
  by_cases c : P
  · rw [if_pos c, if_pos (h.mp c)]
  · rw [if_neg c, if_neg (fun z => c (h.mpr z))]
theorem m1l {v : Int32} (h : -1 ≤ v) : v < 0 ↔ v = -1 := by
  have a : (-1 : Int32).toInt = -1 := by decide
  have z : (0 : Int32).toInt = 0 := by decide
  rw [Int32.le_iff_toInt_le, a] at h
  rw [Int32.lt_iff_toInt_lt, z]
  constructor
  · intro k; exact Int32.toInt_inj.mp (by rw [a]; omega)
  · intro k; rw [k, a]; decide
/-- the class's questions over its matrix, the reference's over its own -/
theorem isq_v {m n : Nat → Int32} {w d e : Int32} (hm : ∀ a b, t3_ a → t3_ b → mat_ m a b = mat_ n a b) (h1 : ∀ a b, t3_ a → t3_ b → -1 ≤ mat_ n a b) (hd : dif_ n 0 = d) (he : dis_ n 0 = e) : isc_ w m = isq_ w n d e := by
  have g : ∀ a b, t3_ a → t3_ b → (hs_ m a b = 0 ↔ thr_ n a b = 0) := fun a b ha hb => by
    unfold hs_ thr_
    rw [if01, if01, hm a b ha hb, m1l (h1 a b ha hb)]
  have d1 : dif_ m 0 = d := by rw [← hd]; unfold dif_; rw [hm 0 0 t3_0 t3_0, hm 0 1 t3_0 t3_1, hm 0 2 t3_0 t3_2]
  have e1 : dis_ m 0 = e := by rw [← he]; unfold dis_; rw [hm 0 0 t3_0 t3_0, hm 1 0 t3_1 t3_0, hm 2 0 t3_2 t3_0]
  have dl : -1 ≤ d := by rw [← hd]; unfold dif_; exact Int32.le_trans (h1 0 0 t3_0 t3_0) mxl
  have el : -1 ≤ e := by rw [← he]; unfold dis_; exact Int32.le_trans (h1 0 0 t3_0 t3_0) mxl
  have g00 := g 0 0 t3_0 t3_0; have g01 := g 0 1 t3_0 t3_1; have g02 := g 0 2 t3_0 t3_2; have g10 := g 1 0 t3_1 t3_0; have g11 := g 1 1 t3_1 t3_1; have g12 := g 1 2 t3_1 t3_2; have g20 := g 2 0 t3_2 t3_0; have g21 := g 2 1 t3_2 t3_1
  have hc : hcp_ m = 0 ↔ mee_ n = 0 := by unfold hcp_ mee_; rw [if01, if01, g00, g01, g10, g11]
  have fl : fls_ m = 0 ↔ ¬ non_ n 2 5 = 0 := by
    unfold fls_ non_
    rw [if01, if10, g02, g12]
    unfold thr_; rw [if01, if01]; rfl
  have sl : slf_ m = 0 ↔ ¬ non_ n 6 7 = 0 := by
    unfold slf_ non_
    rw [if01, if10, g20, g21]
    unfold thr_; rw [if01, if01]; rfl
  have e00 := hm 0 0 t3_0 t3_0
  have dn : d = -1 ↔ d < 0 := (m1l dl).symm
  have en : e = -1 ↔ e < 0 := (m1l el).symm
  have d0 : ¬ 0 ≤ d ↔ d < 0 := Int32.not_le
  unfold isc_ isq_
  by_cases w0 : w = 0
  · rw [if_pos w0, if_pos w0]
    unfold aeq_
    exact ifc_ (by rw [d1, e1, dn, en, d0, g00, fl, sl])
  rw [if_neg w0, if_neg w0]
  by_cases w1 : w = 1
  · rw [if_pos w1, if_pos w1]; exact ifc_ hc
  rw [if_neg w1, if_neg w1]
  by_cases w2 : w = 2
  · rw [if_pos w2, if_pos w2]; exact ifc_ (by rw [g00, hc])
  rw [if_neg w2, if_neg w2]
  by_cases w3 : w = 3
  · rw [if_pos w3, if_pos w3]
    unfold dcr_ crg_
    rw [d1, e1, e00]
    by_cases c1 : e ≤ d
    · rw [if_pos c1, if_neg (fun z => absurd c1 (Int32.not_le.mpr z))]
      by_cases c2 : d ≤ e
      · rw [if_pos c2, if_neg (fun z => absurd c2 (Int32.not_le.mpr z))]
      · rw [if_neg c2, if_pos (Int32.not_le.mp c2)]
        have q : (hs_ m 0 0 = 0 ∨ hs_ m 2 0 = 0) ↔ ¬ (¬ thr_ n 0 0 = 0 ∧ ¬ thr_ n 2 0 = 0) := by rw [g00, g20]; exact ⟨fun z w => z.elim w.1 w.2, fun z => Decidable.byContradiction (fun y => z ⟨fun u => y (Or.inl u), fun u => y (Or.inr u)⟩)⟩
        by_cases c3 : hs_ m 0 0 = 0 ∨ hs_ m 2 0 = 0
        · rw [if_pos c3, if_neg (q.mp c3)]
        · rw [if_neg c3, if_pos (Decidable.byContradiction (fun z => c3 (q.mpr z)))]
    · rw [if_neg c1, if_pos (Int32.not_le.mp c1)]
      have q : (hs_ m 0 0 = 0 ∨ hs_ m 0 2 = 0) ↔ ¬ (¬ thr_ n 0 0 = 0 ∧ ¬ thr_ n 0 2 = 0) := by rw [g00, g02]; exact ⟨fun z w => z.elim w.1 w.2, fun z => Decidable.byContradiction (fun y => z ⟨fun u => y (Or.inl u), fun u => y (Or.inr u)⟩)⟩
      by_cases c3 : hs_ m 0 0 = 0 ∨ hs_ m 0 2 = 0
      · rw [if_pos c3, if_neg (q.mp c3)]
      · rw [if_neg c3, if_pos (Decidable.byContradiction (fun z => c3 (q.mpr z)))]
  rw [if_neg w3, if_neg w3]
  by_cases w4 : w = 4
  · rw [if_pos w4, if_pos w4]; exact ifc_ (by rw [g00, fl])
  rw [if_neg w4, if_neg w4]
  by_cases w5 : w = 5
  · rw [if_pos w5, if_pos w5]; exact ifc_ (by rw [g00, sl])
  rw [if_neg w5, if_neg w5]
  by_cases w6 : w = 6
  · rw [if_pos w6, if_pos w6]
    unfold dov_
    refine ifc_ ?_
    rw [d1, e1, e00, dn, g02, g20]
    exact ⟨fun z => ⟨z.2.1, z.1, z.2.2.1, z.2.2.2.1, z.2.2.2.2⟩, fun z => ⟨z.2.1, z.1, z.2.2.1, z.2.2.2.1, z.2.2.2.2⟩⟩
  rw [if_neg w6, if_neg w6]
  by_cases w7 : w = 7
  · rw [if_pos w7, if_pos w7]; exact ifc_ (by rw [hc, fl])
  · rw [if_neg w7, if_neg w7]; exact ifc_ (by rw [hc, sl])
theorem rel_x {m n : Nat → Int32} : ∀ k, (∀ i, i < k → m i = n i) → rel_ m k = rel_ n k
  | 0, _ => rfl
  | k + 1, h => by rw [rel_, rel_, rel_x k (fun i hi => h i (by omega)), h k (by omega)]
theorem lkM_1 {kn xs ys : Nat → Int32} {PA PT : Nat → Nat} {SN : Nat → Nat → Nat} {mr : Nat → Int32} : ∀ a b, t3_ a → t3_ b → -1 ≤ mat_ (lkM_ kn xs ys SN PA PT mr) a b := fun a b ha hb => by
  have z := (lkM_z (kn := kn) (xs := xs) (ys := ys) (PA := PA) (PT := PT) (SN := SN) (mx := mr)).1 a b ha hb
  refine Int32.le_trans ?_ z
  rw [m0_e ha hb]; split <;> decide
