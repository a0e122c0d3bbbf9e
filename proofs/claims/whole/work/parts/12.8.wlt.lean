/-! the walk's triples, cut by cut -/
def nx_ (c : CT3_) : List CT3_ → Bool
  | [] => true
  | e :: _ => !ceq3 e.1.toInt e.2.1.toInt c
def wf_ : List CT3_ → List (Int32 × Bool)
  | [] => []
  | c :: R => (c.2.2, nx_ c R) :: wf_ R
def ow1_ (c : CT3_) : Bool := decide (c.2.2 &&& 64 = 0)
def ow2_ (c : CT3_) : Bool := !decide (c.2.2 &&& 64 = 0)
/-- the triples of the place of one cut -/
def TT_ (kd1 kd2 tu1 tu2 : Int32) (C : List CT3_) (c : CT3_) (x y d : Int32) : Prop :=
  (x = he_ kd1 (stt_ ow1_ tu1 c.1.toInt c.2.1.toInt C) ∧ y = he_ kd2 (stt_ ow2_ tu2 c.1.toInt c.2.1.toInt C) ∧ d = 0) ∨
  ((∃ e ∈ C, clt3 e.1.toInt e.2.1.toInt c = true) ∧ raT_ kd1 kd2 (gz_ (fun e => ow1_ e && cle3 c.1.toInt c.2.1.toInt e) C) (tu1 ^^^ xz_ (fun e => ow1_ e && cle3 c.1.toInt c.2.1.toInt e) C) (gz_ (fun e => ow2_ e && cle3 c.1.toInt c.2.1.toInt e) C) (tu2 ^^^ xz_ (fun e => ow2_ e && cle3 c.1.toInt c.2.1.toInt e) C) x y d)
theorem ceq_s (c e : CT3_) : ceq3 e.1.toInt e.2.1.toInt c = ceq3 c.1.toInt c.2.1.toInt e := by
  unfold ceq3; exact decide_eq_decide.mpr ⟨fun h => by omega, fun h => by omega⟩
theorem cll_s (c e : CT3_) : cle3 e.1.toInt e.2.1.toInt c = !clt3 c.1.toInt c.2.1.toInt e := by
  unfold cle3 clt3
  by_cases h : c.1.toInt * e.2.1.toInt ≤ e.1.toInt * c.2.1.toInt
  · rw [decide_eq_true h, decide_eq_false (by omega)]; rfl
  · rw [decide_eq_false h, decide_eq_true (by omega)]; rfl
theorem ar_1 {c : CT3_} {tu : Int32} {N D : Int} {P : List CT3_} (h : ceq3 N D c = true) : (if c.2.2 &&& 64 = 0 then ar_ c.2.2 (stt_ ow1_ tu N D P) else stt_ ow1_ tu N D P) = stt_ ow1_ tu N D (P ++ [c]) := by
  by_cases q : c.2.2 &&& 64 = 0
  · rw [if_pos q]; exact stt_o h (by unfold ow1_; exact decide_eq_true q)
  · rw [if_neg q]; exact (stt_n (by unfold ow1_; exact decide_eq_false q)).symm
theorem ar_2 {c : CT3_} {tu : Int32} {N D : Int} {P : List CT3_} (h : ceq3 N D c = true) : (if c.2.2 &&& 64 = 0 then stt_ ow2_ tu N D P else ar_ c.2.2 (stt_ ow2_ tu N D P)) = stt_ ow2_ tu N D (P ++ [c]) := by
  by_cases q : c.2.2 &&& 64 = 0
  · rw [if_pos q]; exact (stt_n (by unfold ow2_; rw [decide_eq_true q]; rfl)).symm
  · rw [if_neg q]; exact stt_o h (by unfold ow2_; rw [decide_eq_false q]; rfl)
/-- c lies before e, or with it -/
def cpr_ (c e : CT3_) : Prop := cle3 e.1.toInt e.2.1.toInt c = true
theorem cpr_t {a b c : CT3_} (hb : cvi_ b) (hc : cvi_ c) (ha : cvi_ a) (h1 : cpr_ a b) (h2 : clt3 c.1.toInt c.2.1.toInt b = true) : clt3 c.1.toInt c.2.1.toInt a = true := by
  unfold cpr_ cle3 at h1; unfold clt3 at h2 ⊢; unfold cvi_ at *
  rw [decide_eq_true_eq] at *
  generalize a.1.toInt = x1 at *; generalize a.2.1.toInt = y1 at *; generalize b.1.toInt = x2 at *; generalize b.2.1.toInt = y2 at *; generalize c.1.toInt = x3 at *; generalize c.2.1.toInt = y3 at *
  have e : y2 * (x3 * y1 - x1 * y3) = y1 * (x3 * y2 - x2 * y3) + y3 * (x2 * y1 - x1 * y2) := by grind
  have m1 := mt_ y1 (x3 * y2 - x2 * y3); have m2 := mt_ y3 (x2 * y1 - x1 * y2); have m3 := mt_ y2 (x3 * y1 - x1 * y3)
  rw [e] at m3
  generalize y1 * (x3 * y2 - x2 * y3) = p at *; generalize y3 * (x2 * y1 - x1 * y2) = q at *
  omega
section
variable {kd1 kd2 tu1 tu2 : Int32}
theorem TT_e {C : List CT3_} {c e : CT3_} (hc : cvi_ c) (he : cvi_ e) (h : ceq3 e.1.toInt e.2.1.toInt c = true) {x y d : Int32} : TT_ kd1 kd2 tu1 tu2 C c x y d ↔ TT_ kd1 kd2 tu1 tu2 C e x y d := by
  unfold cvi_ at hc he
  have h' : c.1.toInt * e.2.1.toInt = e.1.toInt * c.2.1.toInt := by unfold ceq3 at h; exact of_decide_eq_true h
  have f : ∀ z : CT3_, cle3 c.1.toInt c.2.1.toInt z = cle3 e.1.toInt e.2.1.toInt z := fun z => (ceq_t (c := z) hc he h').2.2
  have g : (∃ z ∈ C, clt3 z.1.toInt z.2.1.toInt c = true) ↔ (∃ z ∈ C, clt3 z.1.toInt z.2.1.toInt e = true) := by
    have k : ∀ z : CT3_, clt3 z.1.toInt z.2.1.toInt c = clt3 z.1.toInt z.2.1.toInt e := fun z => by
      have a := cll_s z c; have b := cll_s z e; rw [f z, b] at a
      cases q : clt3 z.1.toInt z.2.1.toInt c <;> cases r : clt3 z.1.toInt z.2.1.toInt e <;> rw [q, r] at a <;> first | rfl | exact absurd a (by decide)
    constructor
    · rintro ⟨z, h1, h2⟩; exact ⟨z, h1, by rw [← k]; exact h2⟩
    · rintro ⟨z, h1, h2⟩; exact ⟨z, h1, by rw [k]; exact h2⟩
  unfold TT_
  rw [stt_e (own := ow1_) hc he h', stt_e (own := ow2_) hc he h', g]
  simp only [f]
theorem wT_i : ∀ (R P : List CT3_) (N D : Int), 0 < D → (∀ c ∈ P ++ R, cvi_ c) → (P ++ R).Pairwise cpr_ → (∀ c R', R = c :: R' → ceq3 N D c = true) → ∀ x y d,
    (wT_ kd1 kd2 (wf_ R) (stt_ ow1_ tu1 N D P) (stt_ ow2_ tu2 N D P) x y d ↔ ∃ c ∈ R, TT_ kd1 kd2 tu1 tu2 (P ++ R) c x y d)
  | [], P, N, D, _, _, _, _, x, y, d => by
    rw [wf_, wT_]; exact ⟨fun h => h.elim, fun ⟨c, h, _⟩ => absurd h (by simp)⟩
  | c :: R, P, N, D, hD, hv, hp, h0, x, y, d => by
    have hc0 := h0 c R rfl
    have vc : cvi_ c := hv c (List.mem_append_right _ (List.mem_cons_self ..))
    have vc' := vc; unfold cvi_ at vc'
    have hc1 : N * c.2.1.toInt = c.1.toInt * D := by unfold ceq3 at hc0; exact (of_decide_eq_true hc0).symm
    rw [stt_e (own := ow1_) hD vc' hc1, stt_e (own := ow2_) hD vc' hc1, wf_]
    have hcc : ceq3 c.1.toInt c.2.1.toInt c = true := by unfold ceq3; exact decide_eq_true rfl
    have hPR : P ++ c :: R = (P ++ [c]) ++ R := by rw [List.append_assoc]; rfl
    have hle : ∀ e ∈ P ++ [c], cle3 c.1.toInt c.2.1.toInt e = true := by
      intro e he
      rcases List.mem_append.mp he with k | k
      · exact (List.pairwise_append.mp hp).2.2 e k c (List.mem_cons_self ..)
      · rw [List.mem_singleton.mp k]; unfold cle3; exact decide_eq_true (Int.le_refl _)
    cases R with
    | nil =>
      rw [nx_, wT_, if_pos rfl, wf_, ar_1 hcc, ar_2 hcc]
      constructor
      · rintro (h | h | h)
        · exact ⟨c, List.mem_cons_self .., Or.inl h⟩
        · exact absurd rfl h.1
        · rw [wT_] at h; exact h.elim
      · rintro ⟨e, he, h⟩
        rw [List.mem_singleton.mp he] at h
        rcases h with h | h
        · exact Or.inl h
        · obtain ⟨⟨z, hz, k⟩, -⟩ := h
          have := hle z hz
          rw [cll_s, k] at this; exact absurd this (by decide)
    | cons e R =>
      have ve : cvi_ e := hv e (List.mem_append_right _ (List.mem_cons_of_mem _ (List.mem_cons_self ..)))
      have ve' := ve; unfold cvi_ at ve'
      have hpe : cpr_ c e := (List.pairwise_cons.mp (List.pairwise_append.mp hp).2.1).1 e (List.mem_cons_self ..)
      rw [hPR] at hv hp ⊢
      rw [nx_, wT_, ar_1 hcc, ar_2 hcc]
      cases hq : ceq3 e.1.toInt e.2.1.toInt c
      · -- the last of its place
        rw [Bool.not_false, if_pos rfl]
        have lt : clt3 e.1.toInt e.2.1.toInt c = true := by
          rcases cle_s e.1.toInt e.2.1.toInt c with ⟨a, b, z⟩ | ⟨a, b, z⟩ | ⟨a, b, z⟩
          · exact a
          · rw [hq] at b; exact absurd b (by decide)
          · unfold cpr_ at hpe; rw [hpe] at z; exact absurd z (by decide)
        have hlt : ∀ z ∈ P ++ [c], clt3 e.1.toInt e.2.1.toInt z = true := by
          intro z hz
          exact cpr_t vc ve (hv z (List.mem_append_left _ hz)) (hle z hz) lt
        have hgt : ∀ z ∈ e :: R, cle3 c.1.toInt c.2.1.toInt z = false := by
          intro z hz
          rw [cll_s]
          have : clt3 z.1.toInt z.2.1.toInt c = true := by
            rcases List.mem_cons.mp hz with k | k
            · rw [k]; exact lt
            · have pe : cpr_ e z := (List.pairwise_cons.mp (List.pairwise_append.mp hp).2.1).1 z k
              have vz := hv z (List.mem_append_right _ hz)
              have a := lt; unfold clt3 at a ⊢; unfold cpr_ cle3 at pe; unfold cvi_ at vz
              rw [decide_eq_true_eq] at *
              generalize c.1.toInt = x1 at *; generalize c.2.1.toInt = y1 at *; generalize e.1.toInt = x2 at *; generalize e.2.1.toInt = y2 at *; generalize z.1.toInt = x3 at *; generalize z.2.1.toInt = y3 at *
              have e : y2 * (x3 * y1 - x1 * y3) = y1 * (x3 * y2 - x2 * y3) + y3 * (x2 * y1 - x1 * y2) := by grind
              have m1 := mt_ y1 (x3 * y2 - x2 * y3); have m2 := mt_ y3 (x2 * y1 - x1 * y2); have m3 := mt_ y2 (x3 * y1 - x1 * y3)
              rw [e] at m3
              generalize y1 * (x3 * y2 - x2 * y3) = p at *; generalize y3 * (x2 * y1 - x1 * y2) = q at *
              omega
          rw [this]; rfl
        rw [de_s (own := ow1_) hle hlt, de_s (own := ow2_) hle hlt]
        have ih := wT_i (e :: R) (P ++ [c]) e.1.toInt e.2.1.toInt ve' hv hp (fun z R' hz => by injection hz with h1 h2; rw [← h1]; unfold ceq3; exact decide_eq_true rfl) x y d
        rw [ih]
        have s1 : stt_ ow1_ tu1 c.1.toInt c.2.1.toInt (P ++ [c]) = stt_ ow1_ tu1 c.1.toInt c.2.1.toInt (P ++ [c] ++ e :: R) := (stt_r hgt).symm
        have s2 : stt_ ow2_ tu2 c.1.toInt c.2.1.toInt (P ++ [c]) = stt_ ow2_ tu2 c.1.toInt c.2.1.toInt (P ++ [c] ++ e :: R) := (stt_r hgt).symm
        rw [s1, s2]
        have d1 := de_c (own := ow1_) (tu := tu1) (N := c.1.toInt) (D := c.2.1.toInt) (P := P ++ [c] ++ e :: R)
        have d2 := de_c (own := ow2_) (tu := tu2) (N := c.1.toInt) (D := c.2.1.toInt) (P := P ++ [c] ++ e :: R)
        constructor
        · rintro (h | h | ⟨z, hz, h⟩)
          · exact ⟨c, List.mem_cons_self .., Or.inl h⟩
          · refine ⟨c, List.mem_cons_self .., Or.inr ⟨⟨e, List.mem_append_right _ (List.mem_cons_self ..), lt⟩, ?_⟩⟩
            rw [← d1.1, ← d1.2, ← d2.1, ← d2.2, ← s1, ← s2]
            have h2 := h.2
            rw [de_s (own := ow1_) hle hlt, de_s (own := ow2_) hle hlt]; exact h2
          · exact ⟨z, List.mem_cons_of_mem _ hz, h⟩
        · rintro ⟨z, hz, h⟩
          rcases List.mem_cons.mp hz with k | k
          · rw [k] at h
            rcases h with h | h
            · exact Or.inl h
            · refine Or.inr (Or.inl ⟨by rw [wf_]; simp, ?_⟩)
              have h2 := h.2
              rw [← d1.1, ← d1.2, ← d2.1, ← d2.2, ← s1, ← s2, de_s (own := ow1_) hle hlt, de_s (own := ow2_) hle hlt] at h2
              exact h2
          · exact Or.inr (Or.inr ⟨z, k, h⟩)
      · rw [Bool.not_true, if_neg (by decide)]
        have ih := wT_i (e :: R) (P ++ [c]) c.1.toInt c.2.1.toInt vc' hv hp (fun z R' hz => by injection hz with h1 h2; rw [← h1, ← ceq_s]; exact hq) x y d
        rw [ih]
        constructor
        · rintro ⟨z, hz, h⟩; exact ⟨z, List.mem_cons_of_mem _ hz, h⟩
        · rintro ⟨z, hz, h⟩
          rcases List.mem_cons.mp hz with k | k
          · rw [k] at h; exact ⟨e, List.mem_cons_self .., (TT_e vc ve hq).mp h⟩
          · exact ⟨z, k, h⟩
end
