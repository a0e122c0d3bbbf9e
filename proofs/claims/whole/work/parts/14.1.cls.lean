/-! the class's matrix: raised by its points and its beams -/
theorem fm_c {α β : Type} {f g : α → List β} : ∀ L : List α, (∀ a ∈ L, f a = g a) → L.flatMap f = L.flatMap g
  | [], _ => rfl
  | a :: L, h => by rw [List.flatMap_cons, List.flatMap_cons, h a (List.mem_cons_self ..), fm_c L (fun z hz => h z (List.mem_cons_of_mem _ hz))]
theorem fo_c {α β : Type} {f g : β → α → β} : ∀ (L : List α) (b : β), (∀ a ∈ L, ∀ b, f b a = g b a) → L.foldl f b = L.foldl g b
  | [], _, _ => rfl
  | a :: L, b, h => by
    rw [List.foldl_cons, List.foldl_cons, h a (List.mem_cons_self ..)]
    exact fo_c L _ (fun z hz => h z (List.mem_cons_of_mem _ hz))
section
variable {ks : Int32} {bx by1 bdx bdy : Int64} {xs ys xs' ys' : Nat → Int32} {S : List (Nat × Nat)} {M : List Nat}
theorem ccl_x (hS : ∀ q ∈ S, (xs q.1 = xs' q.1 ∧ ys q.1 = ys' q.1) ∧ (xs q.2 = xs' q.2 ∧ ys q.2 = ys' q.2)) (hM : ∀ i ∈ M, xs i = xs' i ∧ ys i = ys' i) : ccl_ ks bx by1 bdx bdy xs ys S M = ccl_ ks bx by1 bdx bdy xs' ys' S M := by
  unfold ccl_
  rw [fm_c S (f := csg_ ks bx by1 bdx bdy xs ys) (g := csg_ ks bx by1 bdx bdy xs' ys') (fun q hq => by unfold csg_; rw [(hS q hq).1.1, (hS q hq).1.2, (hS q hq).2.1, (hS q hq).2.2]),
    fm_c M (f := cmq_ ks bx by1 bdx bdy xs ys) (g := cmq_ ks bx by1 bdx bdy xs' ys') (fun i hi => by unfold cmq_; rw [(hM i hi).1, (hM i hi).2])]
theorem ctu_x (S : List (Nat × Nat)) (h : ∀ q ∈ S, (xs q.1 = xs' q.1 ∧ ys q.1 = ys' q.1) ∧ (xs q.2 = xs' q.2 ∧ ys q.2 = ys' q.2)) : ctu_ bx by1 bdx bdy xs ys S = ctu_ bx by1 bdx bdy xs' ys' S := by
  unfold ctu_
  exact fo_c S 0 (fun q hq t => by rw [(h q hq).1.1, (h q hq).1.2, (h q hq).2.1, (h q hq).2.2])
theorem wis_x {kd x y : Int32} : ∀ (S : List (Nat × Nat)) (b : Int32), (∀ q ∈ S, (xs q.1 = xs' q.1 ∧ ys q.1 = ys' q.1) ∧ (xs q.2 = xs' q.2 ∧ ys q.2 = ys' q.2)) → wis_ kd xs ys x y S b = wis_ kd xs' ys' x y S b
  | [], _, _ => rfl
  | q :: S, b, h => by
    have e := h q (List.mem_cons_self ..)
    have e1 : sos_ xs ys q.1 q.2 x y = sos_ xs' ys' q.1 q.2 x y := by unfold sos_; rw [e.1.1, e.1.2, e.2.1, e.2.2]
    have e2 : inb_ xs ys q.1 q.2 x y = inb_ xs' ys' q.1 q.2 x y := by unfold inb_; rw [e.1.1, e.1.2, e.2.1, e.2.2]
    rw [wis_, wis_, e1, e2, e.1.2, e.2.2, wis_x S _ (fun z hz => h z (List.mem_cons_of_mem _ hz))]
theorem mfi_x {x y : Int32} : ∀ (M : List Nat) (i : Nat), (∀ j ∈ M, xs j = xs' j ∧ ys j = ys' j) → mfi_ xs ys x y M i = mfi_ xs' ys' x y M i
  | [], _, _ => rfl
  | p :: M, i, h => by
    have e := h p (List.mem_cons_self ..)
    rw [mfi_, mfi_, e.1, e.2, mfi_x M (i + 1) (fun z hz => h z (List.mem_cons_of_mem _ hz))]
theorem whs_x {kd x y : Int32} (hS : ∀ q ∈ S, (xs q.1 = xs' q.1 ∧ ys q.1 = ys' q.1) ∧ (xs q.2 = xs' q.2 ∧ ys q.2 = ys' q.2)) (hM : ∀ i ∈ M, xs i = xs' i ∧ ys i = ys' i) : whs_ kd xs ys S M x y = whs_ kd xs' ys' S M x y := by
  unfold whs_; rw [mfi_x M 0 hM, wis_x S 0 hS]
end
theorem chn_z {R : Nat × Nat → (Nat → Int32) → (Nat → Int32) → Prop} {T : Nat × Nat → Int32 → Int32 → Int32 → Prop} {S : List (Nat × Nat)} {mx mx2 : Nat → Int32} (h : chn_ R S mx mx2) (hR : ∀ q ∈ S, ∀ m m', R q m m' → rz_ (T q) m m') : rz_ (fun x y d => ∃ q ∈ S, T q x y d) mx mx2 := by
  obtain ⟨f, h0, h1, h2⟩ := h
  have key : ∀ n, n ≤ S.length → rz_ (fun x y d => ∃ q ∈ S.take n, T q x y d) mx (f n) := by
    intro n
    induction n with
    | zero => intro _; rw [h0]; exact rz_w rz_0 (fun _ _ _ => ⟨fun h => h.elim, fun ⟨q, h, _⟩ => absurd h (by simp)⟩)
    | succ n ih =>
      intro hn
      refine rz_w (rz_t (ih (by omega)) (hR _ (sl_m (by omega)) _ _ (h2 n (by omega)))) (fun x y d => ?_)
      rw [tk_s (by omega)]
      constructor
      · rintro (⟨q, hq, ht⟩ | ht)
        · exact ⟨q, List.mem_append_left _ hq, ht⟩
        · exact ⟨_, List.mem_append_right _ (List.mem_singleton.mpr rfl), ht⟩
      · rintro ⟨q, hq, ht⟩
        rcases List.mem_append.mp hq with k | k
        · exact Or.inl ⟨q, k, ht⟩
        · rw [List.mem_singleton.mp k] at ht; exact Or.inr ht
  have := key S.length (Nat.le_refl _)
  rw [List.take_length, h1] at this; exact this
section
variable {kn xs ys : Nat → Int32} {PA PT : Nat → Nat} {SN : Nat → Nat → Nat} {xs1 ys1 xs2 ys2 : Nat → Int32}
/-- the class's rows hold the reference's points -/
def agr_ (xs ys : Nat → Int32) (s n : Nat) (xs1 ys1 : Nat → Int32) : Prop := ∀ i, i < n → xs1 i = xo_ xs s i ∧ ys1 i = xo_ ys s i
theorem agS_ (h : shs_ kn xs ys SN PA PT) {s : Nat} (hs : s < 2) (e : agr_ xs ys s (PT s) xs1 ys1) : ∀ q ∈ SS_ kn xs ys SN PA PT s, (xs1 q.1 = xo_ xs s q.1 ∧ ys1 q.1 = xo_ ys s q.1) ∧ (xs1 q.2 = xo_ xs s q.2 ∧ ys1 q.2 = xo_ ys s q.2) := fun q hq => ⟨e _ (SS_l h hs hq).1, e _ (SS_l h hs hq).2⟩
theorem agM_ (h : shs_ kn xs ys SN PA PT) {s : Nat} (hs : s < 2) (e : agr_ xs ys s (PT s) xs1 ys1) : ∀ i ∈ MM_ kn xs ys SN PA PT s, xs1 i = xo_ xs s i ∧ ys1 i = xo_ ys s i := fun i hi => e _ (MM_l h hs hi)
theorem SS_x (h : shs_ kn xs ys SN PA PT) {s : Nat} (hs : s < 2) (e : agr_ xs ys s (PT s) xs1 ys1) : prS_ (kn s) xs1 ys1 (SN s) (PA s) (PT s) (PA s) = SS_ kn xs ys SN PA PT s ∧ prM_ (kn s) xs1 ys1 (SN s) (PA s) (PT s) (PA s) = MM_ kn xs ys SN PA PT s :=
  ⟨prS_x (h s hs).2.1 e (PA s) (Nat.le_refl _), prM_x (shr_s (h s hs)) (by have := (h s hs).2.2.2.2.1; omega) e (PA s) (Nat.le_refl _)⟩
theorem cut_x (h : shs_ kn xs ys SN PA PT) (e1 : agr_ xs ys 0 (PT 0) xs1 ys1) (e2 : agr_ xs ys 1 (PT 1) xs2 ys2) {s0 : Nat} (hs0 : s0 < 2) {q0 : Nat × Nat} (hq0 : q0 ∈ SS_ kn xs ys SN PA PT s0) {xb yb : Nat → Int32} (eb : agr_ xs ys s0 (PT s0) xb yb) :
    cutl_ 0 64 xs1 ys1 (SS_ kn xs ys SN PA PT 0) (MM_ kn xs ys SN PA PT 0) xs2 ys2 (SS_ kn xs ys SN PA PT 1) (MM_ kn xs ys SN PA PT 1) (xb q0.1).toInt64 (yb q0.1).toInt64 ((xb q0.2).toInt64 - (xb q0.1).toInt64) ((yb q0.2).toInt64 - (yb q0.1).toInt64) = CC_ kn xs ys SN PA PT s0 q0 := by
  have b := agS_ h hs0 eb q0 hq0
  unfold cutl_
  rw [b.1.1, b.1.2, b.2.1, b.2.2, ccl_x (agS_ h (by decide) e1) (agM_ h (by decide) e1), ccl_x (agS_ h (by decide) e2) (agM_ h (by decide) e2)]
/-- one beam of the class -/
theorem sgr_z (h : shs_ kn xs ys SN PA PT) (e1 : agr_ xs ys 0 (PT 0) xs1 ys1) (e2 : agr_ xs ys 1 (PT 1) xs2 ys2) {s0 : Nat} (hs0 : s0 < 2) {q0 : Nat × Nat} (hq0 : q0 ∈ SS_ kn xs ys SN PA PT s0) {xb yb : Nat → Int32} (eb : agr_ xs ys s0 (PT s0) xb yb) {mx mx2 : Nat → Int32}
    (hr : sgr_ (kn 0) (kn 1) 0 64 xs1 ys1 (SS_ kn xs ys SN PA PT 0) (MM_ kn xs ys SN PA PT 0) xs2 ys2 (SS_ kn xs ys SN PA PT 1) (MM_ kn xs ys SN PA PT 1) xb yb q0 mx mx2) : rz_ (TC_ kn xs ys SN PA PT s0 q0) mx mx2 := by
  have ec := cut_x h e1 e2 hs0 hq0 eb
  have b := agS_ h hs0 eb q0 hq0
  have t1 : ctu_ (xb q0.1).toInt64 (yb q0.1).toInt64 ((xb q0.2).toInt64 - (xb q0.1).toInt64) ((yb q0.2).toInt64 - (yb q0.1).toInt64) xs1 ys1 (SS_ kn xs ys SN PA PT 0) = ct_ kn xs ys SN PA PT s0 q0 0 := by
    rw [b.1.1, b.1.2, b.2.1, b.2.2]; exact ctu_x _ (agS_ h (by decide) e1)
  have t2 : ctu_ (xb q0.1).toInt64 (yb q0.1).toInt64 ((xb q0.2).toInt64 - (xb q0.1).toInt64) ((yb q0.2).toInt64 - (yb q0.1).toInt64) xs2 ys2 (SS_ kn xs ys SN PA PT 1) = ct_ kn xs ys SN PA PT s0 q0 1 := by
    rw [b.1.1, b.1.2, b.2.1, b.2.2]; exact ctu_x _ (agS_ h (by decide) e2)
  obtain ⟨ov, un, sg, oj, h1, h2, h3, h4, h5⟩ := hr
  rw [ec] at h1 h2 h3 h4 h5
  rw [t1, t2] at h5
  rw [h5]
  exact wk_T (cc_v h hs0 hq0) h1 h2 h3 h4
/-- a point of the class -/
def pcT_ (kn xs ys : Nat → Int32) (SN : Nat → Nat → Nat) (PA PT : Nat → Nat) (s i : Nat) (x y d : Int32) : Prop :=
  x = whs_ (kn 0) (xo_ xs 0) (xo_ ys 0) (SS_ kn xs ys SN PA PT 0) (MM_ kn xs ys SN PA PT 0) (xo_ xs s i) (xo_ ys s i) ∧ y = whs_ (kn 1) (xo_ xs 1) (xo_ ys 1) (SS_ kn xs ys SN PA PT 1) (MM_ kn xs ys SN PA PT 1) (xo_ xs s i) (xo_ ys s i) ∧ d = 0
theorem vis_z (h : shs_ kn xs ys SN PA PT) (e1 : agr_ xs ys 0 (PT 0) xs1 ys1) (e2 : agr_ xs ys 1 (PT 1) xs2 ys2) {s : Nat} {xb yb : Nat → Int32} {mx : Nat → Int32} : ∀ n, agr_ xs ys s n xb yb →
    rz_ (fun x y d => ∃ i, i < n ∧ pcT_ kn xs ys SN PA PT s i x y d) mx (vis_ (kn 0) xs1 ys1 (SS_ kn xs ys SN PA PT 0) (MM_ kn xs ys SN PA PT 0) (kn 1) xs2 ys2 (SS_ kn xs ys SN PA PT 1) (MM_ kn xs ys SN PA PT 1) xb yb mx n)
  | 0, _ => rz_w rz_0 (fun _ _ _ => ⟨fun h => h.elim, fun ⟨c, h, _⟩ => absurd h (Nat.not_lt_zero _)⟩)
  | n + 1, eb => by
    have b := eb n (by omega)
    rw [vis_, b.1, b.2, whs_x (agS_ h (by decide) e1) (agM_ h (by decide) e1), whs_x (agS_ h (by decide) e2) (agM_ h (by decide) e2)]
    refine rz_w (rz_t (vis_z h e1 e2 n (fun i hi => eb i (by omega))) (rz_1 t3_whs t3_whs)) (fun x y d => ?_)
    constructor
    · rintro (⟨c, h1, h2⟩ | h)
      · exact ⟨c, by omega, h2⟩
      · exact ⟨n, by omega, h⟩
    · rintro ⟨c, h1, h2⟩
      rcases Nat.lt_or_ge c n with q | q
      · exact Or.inl ⟨c, q, h2⟩
      · rw [show c = n by omega] at h2; exact Or.inr h2
/-- the class's triples -/
def clT_ (kn xs ys : Nat → Int32) (SN : Nat → Nat → Nat) (PA PT : Nat → Nat) (x y d : Int32) : Prop :=
  (∃ s, s < 2 ∧ kn s = 1 ∧ ∃ i, i < PT s ∧ pcT_ kn xs ys SN PA PT s i x y d) ∨ (∃ s, s < 2 ∧ ∃ q ∈ SS_ kn xs ys SN PA PT s, TC_ kn xs ys SN PA PT s q x y d)
theorem ref_z (h : shs_ kn xs ys SN PA PT) (e1 : agr_ xs ys 0 (PT 0) xs1 ys1) (e2 : agr_ xs ys 1 (PT 1) xs2 ys2) {mx mx2 : Nat → Int32}
    (hr : ref_ (kn 0) (kn 1) 0 64 xs1 ys1 (prS_ (kn 0) xs1 ys1 (SN 0) (PA 0) (PT 0) (PA 0)) (prM_ (kn 0) xs1 ys1 (SN 0) (PA 0) (PT 0) (PA 0)) xs2 ys2 (prS_ (kn 1) xs2 ys2 (SN 1) (PA 1) (PT 1) (PA 1)) (prM_ (kn 1) xs2 ys2 (SN 1) (PA 1) (PT 1) (PA 1)) (PT 0) (PT 1) mx mx2) :
    rz_ (clT_ kn xs ys SN PA PT) (rai_ (fil_ mx (-1) 9) 2 2 2) mx2 := by
  rw [(SS_x h (by decide) e1).1, (SS_x h (by decide) e1).2, (SS_x h (by decide) e2).1, (SS_x h (by decide) e2).2] at hr
  obtain ⟨m0, m1, m2, m3, h0, h1, h2, h3, h4⟩ := hr
  have z1 : rz_ (fun x y d => kn 0 = 1 ∧ ∃ i, i < PT 0 ∧ pcT_ kn xs ys SN PA PT 0 i x y d) m0 m1 := by
    rw [h1]
    by_cases c : kn 0 = 1
    · rw [if_pos c]; exact rz_w (vis_z h e1 e2 (PT 0) e1) (fun x y d => ⟨fun z => ⟨c, z⟩, fun z => z.2⟩)
    · rw [if_neg c]; exact rz_w rz_0 (fun x y d => ⟨fun z => z.elim, fun z => c z.1⟩)
  have z2 : rz_ (fun x y d => kn 1 = 1 ∧ ∃ i, i < PT 1 ∧ pcT_ kn xs ys SN PA PT 1 i x y d) m1 m2 := by
    rw [h2]
    by_cases c : kn 1 = 1
    · rw [if_pos c]; exact rz_w (vis_z h e1 e2 (PT 1) e2) (fun x y d => ⟨fun z => ⟨c, z⟩, fun z => z.2⟩)
    · rw [if_neg c]; exact rz_w rz_0 (fun x y d => ⟨fun z => z.elim, fun z => c z.1⟩)
  have z3 := chn_z (T := TC_ kn xs ys SN PA PT 0) h3 (fun q hq m m' hr => sgr_z h e1 e2 (by decide) hq e1 hr)
  have z4 := chn_z (T := TC_ kn xs ys SN PA PT 1) h4 (fun q hq m m' hr => sgr_z h e1 e2 (by decide) hq e2 hr)
  rw [← h0]
  refine rz_w (rz_t (rz_t (rz_t z1 z2) z3) z4) (fun x y d => ?_)
  unfold clT_
  constructor
  · rintro (((⟨a, b⟩ | ⟨a, b⟩) | a) | a)
    · exact Or.inl ⟨0, by decide, a, b⟩
    · exact Or.inl ⟨1, by decide, a, b⟩
    · exact Or.inr ⟨0, by decide, a⟩
    · exact Or.inr ⟨1, by decide, a⟩
  · rintro (⟨s, hs, a⟩ | ⟨s, hs, a⟩)
    · rcases (show s = 0 ∨ s = 1 by omega) with e | e
      · subst e; exact Or.inl (Or.inl (Or.inl a))
      · subst e; exact Or.inl (Or.inl (Or.inr a))
    · rcases (show s = 0 ∨ s = 1 by omega) with e | e
      · subst e; exact Or.inl (Or.inr a)
      · subst e; exact Or.inr a
end
