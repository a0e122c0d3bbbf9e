/-! what a walk over sorted cuts raises -/
/-- raised by the triples of T, and by nothing else -/
def rz_ (T : Int32 → Int32 → Int32 → Prop) (mx mx2 : Nat → Int32) : Prop :=
  (∀ a b, t3_ a → t3_ b → mat_ mx a b ≤ mat_ mx2 a b) ∧ (∀ a b d, T a b d → t3_ a ∧ t3_ b ∧ d ≤ mat_ mx2 a b) ∧ (∀ a b, t3_ a → t3_ b → mat_ mx2 a b = mat_ mx a b ∨ T a b (mat_ mx2 a b))
theorem ix_j {a b x y : Int32} (ha : t3_ a) (hb : t3_ b) (hx : t3_ x) (hy : t3_ y) : (3 * a + b).toNatClampNeg = (3 * x + y).toNatClampNeg → a = x ∧ b = y := by
  rcases ha with h | h | h <;> rcases hb with k | k | k <;> rcases hx with u | u | u <;> rcases hy with v | v | v <;> subst h <;> subst k <;> subst u <;> subst v <;> decide
theorem mat_u {mx : Nat → Int32} {a b x y d : Int32} (ha : t3_ a) (hb : t3_ b) (hx : t3_ x) (hy : t3_ y) : mat_ (upd mx (3 * a + b).toNatClampNeg d) x y = if x = a ∧ y = b then d else mat_ mx x y := by
  unfold mat_ upd
  by_cases q : (3 * x + y).toNatClampNeg = (3 * a + b).toNatClampNeg
  · rw [if_pos q, if_pos (ix_j hx hy ha hb q)]
  · rw [if_neg q, if_neg (fun z => q (by rw [z.1, z.2]))]
theorem rz_1 {mx : Nat → Int32} {a b d : Int32} (ha : t3_ a) (hb : t3_ b) : rz_ (fun x y z => x = a ∧ y = b ∧ z = d) mx (rai_ mx a b d) := by
  unfold rai_
  by_cases q : mat_ mx a b < d
  · rw [if_pos q]
    refine ⟨fun x y hx hy => ?_, fun x y z h => ?_, fun x y hx hy => ?_⟩
    · rw [mat_u ha hb hx hy]; split
      · rename_i e; rw [e.1, e.2]; exact Int32.le_of_lt q
      · exact Int32.le_refl _
    · rw [h.1, h.2.1, h.2.2, mat_u ha hb ha hb, if_pos ⟨rfl, rfl⟩]; exact ⟨ha, hb, Int32.le_refl _⟩
    · rw [mat_u ha hb hx hy]; split
      · rename_i e; exact Or.inr ⟨e.1, e.2, rfl⟩
      · exact Or.inl rfl
  · rw [if_neg q]
    refine ⟨fun _ _ _ _ => Int32.le_refl _, fun x y z h => ?_, fun _ _ _ _ => Or.inl rfl⟩
    rw [h.1, h.2.1, h.2.2]; exact ⟨ha, hb, Int32.not_lt.mp q⟩
theorem rz_0 {mx : Nat → Int32} : rz_ (fun _ _ _ => False) mx mx := ⟨fun _ _ _ _ => Int32.le_refl _, fun _ _ _ h => h.elim, fun _ _ _ _ => Or.inl rfl⟩
theorem rz_t {T U : Int32 → Int32 → Int32 → Prop} {m0 m1 m2 : Nat → Int32} (h1 : rz_ T m0 m1) (h2 : rz_ U m1 m2) : rz_ (fun a b d => T a b d ∨ U a b d) m0 m2 := by
  refine ⟨fun a b ha hb => Int32.le_trans (h1.1 a b ha hb) (h2.1 a b ha hb), fun a b d h => ?_, fun a b ha hb => ?_⟩
  · rcases h with h | h
    · obtain ⟨ha, hb, hd⟩ := h1.2.1 a b d h
      exact ⟨ha, hb, Int32.le_trans hd (h2.1 a b ha hb)⟩
    · exact h2.2.1 a b d h
  · rcases h2.2.2 a b ha hb with e | e
    · rcases h1.2.2 a b ha hb with f | f
      · exact Or.inl (e.trans f)
      · rw [e]; exact Or.inr (Or.inl f)
    · exact Or.inr (Or.inr e)
theorem rz_w {T U : Int32 → Int32 → Int32 → Prop} {m0 m1 : Nat → Int32} (h : rz_ T m0 m1) (e : ∀ a b d, T a b d ↔ U a b d) : rz_ U m0 m1 :=
  ⟨h.1, fun a b d q => h.2.1 a b d ((e a b d).mpr q), fun a b ha hb => (h.2.2 a b ha hb).imp id (fun q => (e _ _ _).mp q)⟩
/-- two raised matrices are alike if each triple of the one is topped by the other -/
theorem rz_q {T U : Int32 → Int32 → Int32 → Prop} {m0 n0 m1 n1 : Nat → Int32} (h1 : rz_ T m0 m1) (h2 : rz_ U n0 n1) (e : ∀ a b, t3_ a → t3_ b → mat_ m0 a b = mat_ n0 a b)
    (d1 : ∀ a b d, T a b d → d ≤ mat_ m0 a b ∨ ∃ d2, U a b d2 ∧ d ≤ d2) (d2 : ∀ a b d, U a b d → d ≤ mat_ m0 a b ∨ ∃ d2, T a b d2 ∧ d ≤ d2) : ∀ a b, t3_ a → t3_ b → mat_ m1 a b = mat_ n1 a b := by
  intro a b ha hb
  have l1 : mat_ m1 a b ≤ mat_ n1 a b := by
    rcases h1.2.2 a b ha hb with q | q
    · rw [q, e a b ha hb]; exact h2.1 a b ha hb
    · rcases d1 a b _ q with k | ⟨d, k1, k2⟩
      · exact Int32.le_trans k (by rw [e a b ha hb]; exact h2.1 a b ha hb)
      · exact Int32.le_trans k2 (h2.2.1 a b d k1).2.2
  have l2 : mat_ n1 a b ≤ mat_ m1 a b := by
    rcases h2.2.2 a b ha hb with q | q
    · rw [q, ← e a b ha hb]; exact h1.1 a b ha hb
    · rcases d2 a b _ q with k | ⟨d, k1, k2⟩
      · exact Int32.le_trans k (h1.1 a b ha hb)
      · exact Int32.le_trans k2 (h1.2.1 a b d k1).2.2
  exact Int32.le_antisymm l1 l2
def raT_ (kd1 kd2 cv1 tu1 cv2 tu2 : Int32) (x y d : Int32) : Prop := (x = pah_ kd1 cv1 tu1 ∧ y = pah_ kd2 cv2 tu2 ∧ d = 1) ∨ (x = pbs_ kd1 tu1 16 ∧ y = pbs_ kd2 tu2 16 ∧ d = 2) ∨ (x = pbs_ kd1 tu1 32 ∧ y = pbs_ kd2 tu2 32 ∧ d = 2)
def wT_ (kd1 kd2 : Int32) : List (Int32 × Bool) → CS_ → CS_ → Int32 → Int32 → Int32 → Prop
  | [], _, _, _, _, _ => False
  | (c, la) :: R, a, b, x, y, d =>
    if la = true then (x = he_ kd1 (if c &&& 64 = 0 then ar_ c a else a) ∧ y = he_ kd2 (if c &&& 64 = 0 then b else ar_ c b) ∧ d = 0) ∨
      (¬ R.isEmpty = true ∧ raT_ kd1 kd2 (de_ (if c &&& 64 = 0 then ar_ c a else a)).1 (de_ (if c &&& 64 = 0 then ar_ c a else a)).2.2.2.2.1 (de_ (if c &&& 64 = 0 then b else ar_ c b)).1 (de_ (if c &&& 64 = 0 then b else ar_ c b)).2.2.2.2.1 x y d) ∨
      wT_ kd1 kd2 R (de_ (if c &&& 64 = 0 then ar_ c a else a)) (de_ (if c &&& 64 = 0 then b else ar_ c b)) x y d
    else wT_ kd1 kd2 R (if c &&& 64 = 0 then ar_ c a else a) (if c &&& 64 = 0 then b else ar_ c b) x y d
theorem t3_he {kd : Int32} (a : CS_) : t3_ (he_ kd a) := by
  obtain ⟨a1, a2, a3, a4, a5, a6⟩ := a; exact t3_phe
theorem ra_z {kd1 kd2 : Int32} {mx : Nat → Int32} (a b : CS_) : rz_ (raT_ kd1 kd2 a.1 a.2.2.2.2.1 b.1 b.2.2.2.2.1) mx (ra_ kd1 kd2 mx a b) := by
  obtain ⟨a1, a2, a3, a4, a5, a6⟩ := a
  obtain ⟨b1, b2, b3, b4, b5, b6⟩ := b
  exact rz_w (rz_t (rz_1 t3_pah t3_pah) (rz_t (rz_1 t3_pbs t3_pbs) (rz_1 t3_pbs t3_pbs))) (fun _ _ _ => Iff.rfl)
theorem wk_z {kd1 kd2 : Int32} : ∀ (L : List (Int32 × Bool)) (a b : CS_) (mx : Nat → Int32), rz_ (wT_ kd1 kd2 L a b) mx (wkf_ kd1 kd2 L a b mx)
  | [], _, _, _ => rz_0
  | (c, la) :: R, a, b, mx => by
    rw [wkf_]
    generalize ea : (if c &&& 64 = 0 then ar_ c a else a) = a1
    generalize eb : (if c &&& 64 = 0 then b else ar_ c b) = b1
    cases la with
    | false =>
      rw [if_neg (by decide)]
      refine rz_w (wk_z R a1 b1 mx) (fun x y d => ?_)
      rw [wT_, if_neg (by decide), ea, eb]
    | true =>
      rw [if_pos rfl]
      by_cases hR : R.isEmpty = true
      · rw [if_pos hR]
        refine rz_w (rz_t (rz_1 (t3_he a1) (t3_he b1)) (wk_z R (de_ a1) (de_ b1) _)) (fun x y d => ?_)
        rw [wT_, if_pos rfl, ea, eb]
        exact ⟨fun h => h.imp id Or.inr, fun h => h.imp id (fun k => k.resolve_left (fun z => z.1 hR))⟩
      · rw [if_neg hR]
        refine rz_w (rz_t (rz_t (rz_1 (t3_he a1) (t3_he b1)) (ra_z (de_ a1) (de_ b1))) (wk_z R (de_ a1) (de_ b1) _)) (fun x y d => ?_)
        rw [wT_, if_pos rfl, ea, eb]
        constructor
        · rintro ((h | h) | h)
          · exact Or.inl h
          · exact Or.inr (Or.inl ⟨hR, h⟩)
          · exact Or.inr (Or.inr h)
        · rintro (h | h | h)
          · exact Or.inl (Or.inl h)
          · exact Or.inl (Or.inr h.2)
          · exact Or.inr h
/-- a course's state at N / D: what lies before, and what lies there -/
def stt_ (own : CT3_ → Bool) (tu : Int32) (N D : Int) (P : List CT3_) : CS_ :=
  (gz_ (fun c => own c && clt3 N D c) P, gz_ (fun c => own c && ceq3 N D c) P, an_ (fun c => own c && ceq3 N D c) 1 P, an_ (fun c => own c && ceq3 N D c) 2 P, tu ^^^ xz_ (fun c => own c && clt3 N D c) P, xz_ (fun c => own c && ceq3 N D c) P)
/-- a cut lies between 0 and 1 -/
def cvi_ (c : CT3_) : Prop := 0 < c.2.1.toInt
theorem gz_1 {p : CT3_ → Bool} {c : CT3_} {P : List CT3_} : gz_ p (P ++ [c]) = gz_ p P + (if p c = true then ga_ c.2.2 else 0) := by rw [gz_a, gz_, gz_, Int32.add_zero]
theorem xz_1 {p : CT3_ → Bool} {c : CT3_} {P : List CT3_} : xz_ p (P ++ [c]) = xz_ p P ^^^ (if p c = true then c.2.2 &&& 48 else 0) := by rw [xz_a, xz_, xz_, Int32.xor_zero]
theorem an_1 {p : CT3_ → Bool} {k : Int32} {c : CT3_} {P : List CT3_} : an_ p k (P ++ [c]) = if p c = true then arm_ (an_ p k P) c.2.2 k else an_ p k P := by
  have e : (P ++ [c]).any (fun c => p c && !decide (c.2.2 &&& k = 0)) = (P.any (fun c => p c && !decide (c.2.2 &&& k = 0)) || (p c && !decide (c.2.2 &&& k = 0))) := by rw [List.any_append, List.any_cons, List.any_nil, Bool.or_false]
  unfold an_ arm_
  rw [e]
  generalize P.any (fun c => p c && !decide (c.2.2 &&& k = 0)) = A
  generalize p c = b
  by_cases q : c.2.2 &&& k = 0
  · rw [decide_eq_true q]
    cases A <;> cases b <;> simp [q]
  · rw [decide_eq_false q]
    cases A <;> cases b <;> simp [q]
theorem stt_o {own : CT3_ → Bool} {tu : Int32} {N D : Int} {P : List CT3_} {c : CT3_} (hc : ceq3 N D c = true) (ho : own c = true) : ar_ c.2.2 (stt_ own tu N D P) = stt_ own tu N D (P ++ [c]) := by
  have hl : clt3 N D c = false := by
    unfold ceq3 at hc; unfold clt3; rw [decide_eq_true_eq] at hc; exact decide_eq_false (by omega)
  unfold stt_ ar_
  rw [gz_1, gz_1, an_1, an_1, xz_1, xz_1, ho, hc, hl]
  simp only [Bool.and_false, Bool.and_true, Bool.true_and, if_true, Bool.false_eq_true, if_false, Int32.add_zero, Int32.xor_zero, arc_g]
theorem stt_n {own : CT3_ → Bool} {tu : Int32} {N D : Int} {P : List CT3_} {c : CT3_} (ho : own c = false) : stt_ own tu N D (P ++ [c]) = stt_ own tu N D P := by
  unfold stt_
  rw [gz_1, gz_1, an_1, an_1, xz_1, xz_1, ho]
  simp only [Bool.false_and, Bool.false_eq_true, if_false, Int32.add_zero, Int32.xor_zero]
theorem ceq_t {N D M E : Int} {c : CT3_} (hD : 0 < D) (hE : 0 < E) (h : N * E = M * D) : (clt3 N D c = clt3 M E c) ∧ (ceq3 N D c = ceq3 M E c) ∧ (cle3 N D c = cle3 M E c) := by
  unfold clt3 ceq3 cle3
  generalize c.1.toInt = x; generalize c.2.1.toInt = y
  have e : E * (x * D - N * y) = D * (x * E - M * y) := by grind
  have s1 := pl0p (x := x * D - N * y) hE
  have s2 := pl0p (x := x * E - M * y) hD
  rw [e] at s1
  have k1 : x * D < N * y ↔ x * E < M * y := by omega
  have k2 : x * D = N * y ↔ x * E = M * y := by omega
  have k3 : x * D ≤ N * y ↔ x * E ≤ M * y := by omega
  exact ⟨decide_eq_decide.mpr k1, decide_eq_decide.mpr k2, decide_eq_decide.mpr k3⟩
theorem gx_f {p q : CT3_ → Bool} (h : ∀ c, p c = q c) : p = q := funext h
theorem stt_e {own : CT3_ → Bool} {tu : Int32} {N D M E : Int} {P : List CT3_} (hD : 0 < D) (hE : 0 < E) (h : N * E = M * D) : stt_ own tu N D P = stt_ own tu M E P := by
  unfold stt_
  have e1 : (fun c => own c && clt3 N D c) = (fun c => own c && clt3 M E c) := funext (fun c => by rw [(ceq_t (c := c) hD hE h).1])
  have e2 : (fun c => own c && ceq3 N D c) = (fun c => own c && ceq3 M E c) := funext (fun c => by rw [(ceq_t (c := c) hD hE h).2.1])
  rw [e1, e2]
theorem gz_0 {p : CT3_ → Bool} : ∀ R : List CT3_, (∀ c ∈ R, p c = false) → gz_ p R = 0 ∧ xz_ p R = 0
  | [], _ => ⟨rfl, rfl⟩
  | c :: R, h => by
    obtain ⟨i1, i2⟩ := gz_0 R (fun z hz => h z (List.mem_cons_of_mem _ hz))
    rw [gz_, xz_, i1, i2, h c (List.mem_cons_self ..), if_neg Bool.false_ne_true, if_neg Bool.false_ne_true]; decide
theorem an_0 {p : CT3_ → Bool} {k : Int32} {P R : List CT3_} (h : ∀ c ∈ R, p c = false) : an_ p k (P ++ R) = an_ p k P := by
  unfold an_
  have e : R.any (fun c => p c && !decide (c.2.2 &&& k = 0)) = false := by
    rw [List.any_eq_false]; intro c hc; rw [h c hc]; simp
  rw [List.any_append, e, Bool.or_false]
/-- what lies behind tells nothing -/
theorem stt_r {own : CT3_ → Bool} {tu : Int32} {N D : Int} {P R : List CT3_} (h : ∀ c ∈ R, cle3 N D c = false) : stt_ own tu N D (P ++ R) = stt_ own tu N D P := by
  have h1 : ∀ c ∈ R, (own c && clt3 N D c) = false := fun c hc => by
    have := h c hc; unfold cle3 at this; rw [decide_eq_false_iff_not] at this
    unfold clt3; rw [decide_eq_false (by omega)]; simp
  have h2 : ∀ c ∈ R, (own c && ceq3 N D c) = false := fun c hc => by
    have := h c hc; unfold cle3 at this; rw [decide_eq_false_iff_not] at this
    unfold ceq3; rw [decide_eq_false (by omega)]; simp
  unfold stt_
  rw [gz_a, gz_a, xz_a, xz_a, an_0 h2, an_0 h2, (gz_0 R h1).1, (gz_0 R h1).2, (gz_0 R h2).1, (gz_0 R h2).2, Int32.add_zero, Int32.add_zero, Int32.xor_zero, Int32.xor_zero]
theorem gx_s {p q r : CT3_ → Bool} : ∀ P : List CT3_, (∀ c ∈ P, (p c = true ∧ q c = false ∧ r c = true) ∨ (p c = false ∧ q c = true ∧ r c = true) ∨ (p c = false ∧ q c = false ∧ r c = false)) → gz_ p P + gz_ q P = gz_ r P ∧ xz_ p P ^^^ xz_ q P = xz_ r P
  | [], _ => ⟨by rw [gz_, gz_, gz_]; decide, by rw [xz_, xz_, xz_]; decide⟩
  | c :: P, h => by
    obtain ⟨i1, i2⟩ := gx_s P (fun z hz => h z (List.mem_cons_of_mem _ hz))
    rw [gz_, gz_, gz_, xz_, xz_, xz_, ← i1, ← i2]
    generalize gz_ p P = g1; generalize gz_ q P = g2; generalize xz_ p P = x1; generalize xz_ q P = x2
    generalize ga_ c.2.2 = g; generalize c.2.2 &&& 48 = x
    rcases h c (List.mem_cons_self ..) with ⟨a, b, d⟩ | ⟨a, b, d⟩ | ⟨a, b, d⟩ <;> rw [a, b, d] <;> simp only [if_true, Bool.false_eq_true, if_false, Int32.zero_add, Int32.zero_xor]
    · exact ⟨by rw [Int32.add_assoc], by rw [Int32.xor_assoc]⟩
    · exact ⟨by rw [← Int32.add_assoc, ← Int32.add_assoc, Int32.add_comm g1], by rw [← Int32.xor_assoc, ← Int32.xor_assoc, Int32.xor_comm x1]⟩
    · exact ⟨trivial, trivial⟩
theorem cle_s (N D : Int) (c : CT3_) : (clt3 N D c = true ∧ ceq3 N D c = false ∧ cle3 N D c = true) ∨ (clt3 N D c = false ∧ ceq3 N D c = true ∧ cle3 N D c = true) ∨ (clt3 N D c = false ∧ ceq3 N D c = false ∧ cle3 N D c = false) := by
  unfold clt3 ceq3 cle3
  rcases Int.lt_trichotomy (c.1.toInt * D) (N * c.2.1.toInt) with h | h | h
  · exact Or.inl ⟨decide_eq_true h, decide_eq_false (by omega), decide_eq_true (by omega)⟩
  · exact Or.inr (Or.inl ⟨decide_eq_false (by omega), decide_eq_true h, decide_eq_true (by omega)⟩)
  · exact Or.inr (Or.inr ⟨decide_eq_false (by omega), decide_eq_false (by omega), decide_eq_false (by omega)⟩)
theorem de_c {own : CT3_ → Bool} {tu : Int32} {N D : Int} {P : List CT3_} : (de_ (stt_ own tu N D P)).1 = gz_ (fun c => own c && cle3 N D c) P ∧ (de_ (stt_ own tu N D P)).2.2.2.2.1 = tu ^^^ xz_ (fun c => own c && cle3 N D c) P := by
  have h := gx_s (p := fun c => own c && clt3 N D c) (q := fun c => own c && ceq3 N D c) (r := fun c => own c && cle3 N D c) P (fun c _ => by
    cases ho : own c
    · exact Or.inr (Or.inr ⟨by simp [ho], by simp [ho], by simp [ho]⟩)
    · rcases cle_s N D c with ⟨a, b, d⟩ | ⟨a, b, d⟩ | ⟨a, b, d⟩
      · exact Or.inl ⟨by simp [ho, a], by simp [ho, b], by simp [ho, d]⟩
      · exact Or.inr (Or.inl ⟨by simp [ho, a], by simp [ho, b], by simp [ho, d]⟩)
      · exact Or.inr (Or.inr ⟨by simp [ho, a], by simp [ho, b], by simp [ho, d]⟩))
  unfold stt_ de_
  exact ⟨h.1, by show (tu ^^^ _) ^^^ _ = _; rw [Int32.xor_assoc, h.2]⟩
/-- on to the next place -/
theorem de_s {own : CT3_ → Bool} {tu : Int32} {N D M E : Int} {P : List CT3_} (h1 : ∀ c ∈ P, cle3 N D c = true) (h2 : ∀ c ∈ P, clt3 M E c = true) : de_ (stt_ own tu N D P) = stt_ own tu M E P := by
  have h := gx_s (p := fun c => own c && clt3 N D c) (q := fun c => own c && ceq3 N D c) (r := fun c => own c && clt3 M E c) P (fun c hc => by
    cases ho : own c
    · exact Or.inr (Or.inr ⟨by simp [ho], by simp [ho], by simp [ho]⟩)
    · rcases cle_s N D c with ⟨a, b, d⟩ | ⟨a, b, d⟩ | ⟨a, b, d⟩
      · exact Or.inl ⟨by simp [ho, a], by simp [ho, b], by simp [ho, h2 c hc]⟩
      · exact Or.inr (Or.inl ⟨by simp [ho, a], by simp [ho, b], by simp [ho, h2 c hc]⟩)
      · rw [h1 c hc] at d; exact absurd d (by decide))
  have e : ∀ c ∈ P, (own c && ceq3 M E c) = false := fun c hc => by
    rcases cle_s M E c with ⟨a, b, d⟩ | ⟨a, b, d⟩ | ⟨a, b, d⟩
    · rw [b]; simp
    · rw [h2 c hc] at a; exact absurd a (by decide)
    · rw [b]; simp
  have z := gz_0 P e
  have a0 : ∀ k, an_ (fun c => own c && ceq3 M E c) k P = 0 := fun k => by
    have := an_0 (p := fun c => own c && ceq3 M E c) (k := k) (P := []) (R := P) e
    rw [List.nil_append] at this; rw [this]; rfl
  unfold stt_
  rw [z.1, z.2, a0, a0, ← h.1, ← h.2, ← Int32.xor_assoc]
  rfl
