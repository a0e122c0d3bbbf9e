/-! a course's places at N / D of a beam -/
def wI_ (kd : Int32) (on : Nat) (mk : Bool) (X : Nat) : Int32 := if kd = 1 then (if mk = true then 0 else 2) else if kd = 2 then (if mk = true then 1 else if 0 < on then 0 else 2) else (if 0 < on then 1 else if X % 2 = 1 then 0 else 2)
def bI_ (kd : Int32) (n : Nat) : Int32 := if kd = 3 ∧ n % 2 = 1 then 0 else 2
/-- what is known of a figure's segments and marks -/
def fgr_ (kd : Int32) (xs ys : Nat → Int32) (S : List (Nat × Nat)) (M : List Nat) : Prop :=
  (kd = 1 ∨ kd = 2 ∨ kd = 3) ∧ (kd = 1 → S = []) ∧ (kd = 3 → M = []) ∧ (kd = 3 → ∀ φ : Nat → Nat, (∀ i j, xs i = xs j → ys i = ys j → φ i = φ j) → sm_ (fun q => φ q.1 + φ q.2) S % 2 = 0) ∧ rS_ xs ys S ∧ rM_ xs ys M ∧ S.length < 2 ^ 30 ∧ (∀ q ∈ S, ¬ (xs q.1 = xs q.2 ∧ ys q.1 = ys q.2))
/-- no segment goes through the place, but along the beam; and none ends there -/
def hno_ (xs ys : Nat → Int32) (S : List (Nat × Nat)) (AX AY DX DY N D : Int) : Prop := ∀ q ∈ S, onq_ xs ys AX AY DX DY N D q = 1 → sdp_ xs ys AX AY DX DY N D q.1 = 0 ∧ sdp_ xs ys AX AY DX DY N D q.2 = 0 ∧ ¬ (rv_ AX DX N D (xs q.1).toInt = 0 ∧ rv_ AY DY N D (ys q.1).toInt = 0) ∧ ¬ (rv_ AX DX N D (xs q.2).toInt = 0 ∧ rv_ AY DY N D (ys q.2).toInt = 0)
def an_ (p : CT3_ → Bool) (k : Int32) (C : List CT3_) : Int32 := if C.any (fun c => p c && !decide (c.2.2 &&& k = 0)) = true then 1 else 0
theorem an_y {p : CT3_ → Bool} {k : Int32} {C : List CT3_} : ¬ an_ p k C = 0 ↔ ∃ c ∈ C, p c = true ∧ ¬ c.2.2 &&& k = 0 := by
  unfold an_
  rw [if10, List.any_eq_true]
  constructor
  · rintro ⟨c, hc, e⟩
    rw [Bool.and_eq_true, Bool.not_eq_true', decide_eq_false_iff_not] at e
    exact ⟨c, hc, e⟩
  · rintro ⟨c, hc, e⟩
    refine ⟨c, hc, ?_⟩
    rw [Bool.and_eq_true, Bool.not_eq_true', decide_eq_false_iff_not]
    exact e
section
variable {kd : Int32} {xs ys : Nat → Int32} {S : List (Nat × Nat)} {M : List Nat} {bx by1 bdx bdy : Int64} {AX AY DX DY N D : Int} {ks : Int32}
theorem sm_pl (hF : fgr_ kd xs ys S M) (h3 : kd = 3) (hd : ¬ (DX = 0 ∧ DY = 0)) (hno : hno_ xs ys S AX AY DX DY N D) :
    (sm_ (cyq_ xs ys AX AY DX DY N D) S + sm_ (clq_ xs ys AX AY DX DY N D) S + cs_ DX DY * sm_ (onq_ xs ys AX AY DX DY N D) S) % 2 = 0 ∧ (sm_ (clq_ xs ys AX AY DX DY N D) S + sm_ (crq_ xs ys AX AY DX DY N D) S + sm_ (onq_ xs ys AX AY DX DY N D) S) % 2 = 0 := by
  have hr := hF.2.2.2.1 h3
  constructor
  · have e := hr (fun i => fs_ DX DY (rv_ AX DX N D (xs i).toInt) (rv_ AY DY N D (ys i).toInt)) (fun i j h1 h2 => by rw [h1, h2])
    have m := sm_m (F := fun q => (cyq_ xs ys AX AY DX DY N D q + clq_ xs ys AX AY DX DY N D q) + cs_ DX DY * onq_ xs ys AX AY DX DY N D q) (G := fun q => fs_ DX DY (rv_ AX DX N D (xs q.1).toInt) (rv_ AY DY N D (ys q.1).toInt) + fs_ DX DY (rv_ AX DX N D (xs q.2).toInt) (rv_ AY DY N D (ys q.2).toInt)) S (fun q hq => pl_ hd (hno q hq))
    rw [sm_s, sm_s, sm_k] at m
    omega
  · have e := hr (fun i => gs_ DX DY (rv_ AX DX N D (xs i).toInt) (rv_ AY DY N D (ys i).toInt)) (fun i j h1 h2 => by rw [h1, h2])
    have m := sm_m (F := fun q => (clq_ xs ys AX AY DX DY N D q + crq_ xs ys AX AY DX DY N D q) + onq_ xs ys AX AY DX DY N D q) (G := fun q => gs_ DX DY (rv_ AX DX N D (xs q.1).toInt) (rv_ AY DY N D (ys q.1).toInt) + gs_ DX DY (rv_ AX DX N D (xs q.2).toInt) (rv_ AY DY N D (ys q.2).toInt)) S (fun q hq => pr_ hd (hno q hq))
    rw [sm_s, sm_s] at m
    omega
theorem sm_b {F : Nat × Nat → Nat} (h : ∀ q, F q ≤ 1) : ∀ S : List (Nat × Nat), sm_ F S ≤ S.length
  | [] => Nat.le_refl _
  | q :: S => by rw [sm_, List.length_cons]; have := sm_b h S; have := h q; omega
theorem pn_b {c : Prop} [Decidable c] : pn_ c ≤ 1 := by unfold pn_; split <;> omega
/-- the course's numbers behind the cuts up to N / D -/
theorem crs_n (hF : fgr_ kd xs ys S M) (hB : bm5_ bx by1 bdx bdy AX AY DX DY) (hks : ks = 0 ∨ ks = 64) (hD : 0 < D) (hN : 0 ≤ N) (hND : N ≤ D) :
    ctu_ bx by1 bdx bdy xs ys S ^^^ xz_ (cle3 N D) (ccl_ ks bx by1 bdx bdy xs ys S M) = en2_ (sm_ (clq_ xs ys AX AY DX DY N D) S) (sm_ (crq_ xs ys AX AY DX DY N D) S) ∧
    ((0 < gz_ (cle3 N D) (ccl_ ks bx by1 bdx bdy xs ys S M)) ↔ 0 < sm_ (cdq_ xs ys AX AY DX DY N D) S) := by
  obtain ⟨-, -, -, -, hS, hM, hl, -⟩ := hF
  obtain ⟨k1, k2⟩ := ctu_g (xs := xs) (ys := ys) hB hks hD hN hND S 0 hS
  obtain ⟨m1, m2⟩ := cmq_z (xs := xs) (ys := ys) (p := cle3 N D) hB hks M hM
  unfold ccl_ ctu_
  rw [xz_a, gz_a, m1, m2, Int32.xor_zero, Int32.add_zero, k1, Int32.zero_xor, k2]
  refine ⟨rfl, ?_⟩
  have := sm_b (F := cdq_ xs ys AX AY DX DY N D) (fun q => pn_b) S
  rw [Int32.lt_iff_toInt_lt, nI_toInt (by omega)]
  have z : (0 : Int32).toInt = 0 := by decide
  rw [z]; omega
theorem pbs_l {l r : Nat} : pbs_ kd (en2_ l r) 16 = bI_ kd l := by
  unfold pbs_ bI_
  by_cases c : kd = 3 ∧ l % 2 = 1
  · rw [if_pos c, if_pos ⟨c.1, en2_l.mpr c.2⟩]
  · rw [if_neg c, if_neg (fun z => c ⟨z.1, en2_l.mp z.2⟩)]
theorem pbs_r {l r : Nat} : pbs_ kd (en2_ l r) 32 = bI_ kd r := by
  unfold pbs_ bI_
  by_cases c : kd = 3 ∧ r % 2 = 1
  · rw [if_pos c, if_pos ⟨c.1, en2_r.mpr c.2⟩]
  · rw [if_neg c, if_neg (fun z => c ⟨z.1, en2_r.mp z.2⟩)]
theorem bI_c {a b : Nat} (h : kd = 3 → a % 2 = b % 2) : bI_ kd a = bI_ kd b := by
  unfold bI_
  by_cases c : kd = 3 ∧ a % 2 = 1
  · rw [if_pos c, if_pos ⟨c.1, by have := h c.1; omega⟩]
  · rw [if_neg c, if_neg (fun z => c ⟨z.1, by have := h z.1; omega⟩)]
theorem wI_m (hk : kd = 1 ∨ kd = 2 ∨ kd = 3) {X : Nat} : wI_ kd 0 false X = bI_ kd X := by
  unfold wI_ bI_
  rcases hk with e | e | e
  · subst e; simp
  · subst e; simp
  · subst e
    by_cases c : X % 2 = 1
    · simp [c]
    · simp [c]
theorem wI_n {X : Nat} : wI_ kd 0 false X = if kd = 1 then 2 else if kd = 2 then 2 else if X % 2 = 1 then 0 else 2 := by
  unfold wI_; simp
/-- ahead, to the left, to the right -/
theorem crs_a (hF : fgr_ kd xs ys S M) (hB : bm5_ bx by1 bdx bdy AX AY DX DY) (hks : ks = 0 ∨ ks = 64) (hD : 0 < D) (hN : 0 ≤ N) (hND : N < D) (hno : hno_ xs ys S AX AY DX DY N D) :
    pah_ kd (gz_ (cle3 N D) (ccl_ ks bx by1 bdx bdy xs ys S M)) (ctu_ bx by1 bdx bdy xs ys S ^^^ xz_ (cle3 N D) (ccl_ ks bx by1 bdx bdy xs ys S M)) = wI_ kd (sm_ (onq_ xs ys AX AY DX DY N D) S) false (sm_ (cyq_ xs ys AX AY DX DY N D) S) ∧
    pbs_ kd (ctu_ bx by1 bdx bdy xs ys S ^^^ xz_ (cle3 N D) (ccl_ ks bx by1 bdx bdy xs ys S M)) 16 = bI_ kd (sm_ (cyq_ xs ys AX AY DX DY N D) S + cs_ DX DY * sm_ (onq_ xs ys AX AY DX DY N D) S) ∧
    pbs_ kd (ctu_ bx by1 bdx bdy xs ys S ^^^ xz_ (cle3 N D) (ccl_ ks bx by1 bdx bdy xs ys S M)) 32 = bI_ kd (sm_ (cyq_ xs ys AX AY DX DY N D) S + (1 - cs_ DX DY) * sm_ (onq_ xs ys AX AY DX DY N D) S) := by
  obtain ⟨n1, n2⟩ := crs_n hF hB hks hD hN (Int.le_of_lt hND)
  have hd := hB.2.2.2.2.2.2.2.2
  have hc : 0 < sm_ (cdq_ xs ys AX AY DX DY N D) S ↔ 0 < sm_ (onq_ xs ys AX AY DX DY N D) S := by
    constructor
    · intro h; exact (met_g (ks := ks) hB hks hD hN (Int.le_of_lt hND) hF.2.2.2.2.1).mp (Or.inr h)
    · intro h
      obtain ⟨q, hq, k⟩ := sm_0 S h
      have k1 : onq_ xs ys AX AY DX DY N D q = 1 := by
        unfold onq_ at k ⊢
        rcases on_01 (vx := rv_ AX DX N D (xs q.1).toInt) (vy := rv_ AY DY N D (ys q.1).toInt) (wx := rv_ AX DX N D (xs q.2).toInt) (wy := rv_ AY DY N D (ys q.2).toInt) with z | z
        · exact z
        · rw [z] at k; exact absurd k (Nat.lt_irrefl _)
      obtain ⟨a1, a2, a3, a4⟩ := hno q hq k1
      have z1 := zt_0 (vx := rv_ AX DX N D (xs q.1).toInt) (vy := rv_ AY DY N D (ys q.1).toInt) hd a1
      have z2 := zt_0 (vx := rv_ AX DX N D (xs q.2).toInt) (vy := rv_ AY DY N D (ys q.2).toInt) hd a2
      have o := (onB (dx := DX) (dy := DY) hd a1 a2).mp k1
      have w1 : ¬ zt_ DX DY (rv_ AX DX N D (xs q.1).toInt) (rv_ AY DY N D (ys q.1).toInt) = 0 := fun h => a3 (z1.mp h)
      have w2 : ¬ zt_ DX DY (rv_ AX DX N D (xs q.2).toInt) (rv_ AY DY N D (ys q.2).toInt) = 0 := fun h => a4 (z2.mp h)
      refine sm_g S q hq ?_
      have : cdq_ xs ys AX AY DX DY N D q = 1 := by
        unfold cdq_; rw [pn_1]; unfold ztp_
        exact ⟨a1, a2, by omega, by omega, hND⟩
      omega
  rw [n1]
  refine ⟨?_, ?_, ?_⟩
  · unfold pah_
    by_cases h : 0 < sm_ (cdq_ xs ys AX AY DX DY N D) S
    · rw [if_pos (n2.mpr h)]
      have h2 := hc.mp h
      unfold pos_ wI_
      rcases hF.1 with e | e | e
      · rw [hF.2.1 e] at h2; exact absurd h2 (Nat.lt_irrefl _)
      · subst e; simp [h2]
      · subst e; simp [h2]
    · rw [if_neg (fun q => h (n2.mp q))]
      have h2 : sm_ (onq_ xs ys AX AY DX DY N D) S = 0 := by
        rcases Nat.eq_zero_or_pos (sm_ (onq_ xs ys AX AY DX DY N D) S) with z | z
        · exact z
        · exact absurd (hc.mpr z) h
      rw [h2, wI_m hF.1, pbs_l]
      refine bI_c (fun e => ?_)
      have p := (sm_pl hF e hd hno).1
      rw [h2, Nat.mul_zero, Nat.add_zero] at p
      omega
  · rw [pbs_l]
    refine bI_c (fun e => ?_)
    have p := (sm_pl hF e hd hno).1
    omega
  · rw [pbs_r]
    refine bI_c (fun e => ?_)
    have p := sm_pl hF e hd hno
    have hcs : cs_ DX DY * sm_ (onq_ xs ys AX AY DX DY N D) S + (1 - cs_ DX DY) * sm_ (onq_ xs ys AX AY DX DY N D) S = sm_ (onq_ xs ys AX AY DX DY N D) S := by
      have : cs_ DX DY ≤ 1 := pn_b
      rw [← Nat.add_mul, show cs_ DX DY + (1 - cs_ DX DY) = 1 by omega, Nat.one_mul]
    omega
theorem gx_c {p q : CT3_ → Bool} : ∀ C : List CT3_, (∀ c ∈ C, p c = q c) → gz_ p C = gz_ q C ∧ xz_ p C = xz_ q C
  | [], _ => ⟨rfl, rfl⟩
  | c :: C, h => by
    obtain ⟨i1, i2⟩ := gx_c C (fun z hz => h z (List.mem_cons_of_mem _ hz))
    rw [gz_, gz_, xz_, xz_, i1, i2, h c (List.mem_cons_self ..)]; exact ⟨rfl, rfl⟩
/-- at the place itself -/
theorem crs_h (hF : fgr_ kd xs ys S M) (hB : bm5_ bx by1 bdx bdy AX AY DX DY) (hks : ks = 0 ∨ ks = 64) (hD : 0 < D) (hN : 0 ≤ N) (hND : N ≤ D) :
    phe_ kd (gz_ (clt3 N D) (ccl_ ks bx by1 bdx bdy xs ys S M)) (an_ (ceq3 N D) 1 (ccl_ ks bx by1 bdx bdy xs ys S M)) (an_ (ceq3 N D) 2 (ccl_ ks bx by1 bdx bdy xs ys S M)) (ctu_ bx by1 bdx bdy xs ys S ^^^ xz_ (clt3 N D) (ccl_ ks bx by1 bdx bdy xs ys S M)) =
      wI_ kd (sm_ (onq_ xs ys AX AY DX DY N D) S) (M.any (atp_ xs ys AX AY DX DY N D)) (sm_ (cyq_ xs ys AX AY DX DY N D) S) := by
  have hd := hB.2.2.2.2.2.2.2.2
  obtain ⟨n1, n2⟩ := crs_n hF hB hks hD hN hND
  have hS := hF.2.2.2.2.1; have hM := hF.2.2.2.2.2.1
  have em : (∃ c ∈ M.flatMap (cmq_ ks bx by1 bdx bdy xs ys), ceq3 N D c = true) ↔ M.any (atp_ xs ys AX AY DX DY N D) = true := cmq_m hB hks hD hN hND hM
  have es := met_g (ks := ks) (xs := xs) (ys := ys) hB hks hD hN hND hS
  have a2 : ¬ an_ (ceq3 N D) 2 (ccl_ ks bx by1 bdx bdy xs ys S M) = 0 ↔ M.any (atp_ xs ys AX AY DX DY N D) = true := by
    rw [← em, an_y]
    constructor
    · rintro ⟨c, hc, e⟩
      rcases List.mem_append.mp hc with k | k
      · obtain ⟨q, hq, hcq⟩ := List.mem_flatMap.mp k
        exact absurd (csg_t hks c hcq).2.1 e.2
      · exact ⟨c, k, e.1⟩
    · rintro ⟨c, hc, e⟩
      obtain ⟨i, hi, hci⟩ := List.mem_flatMap.mp hc
      exact ⟨c, List.mem_append_right _ hc, e, (cmq_t hks c hci).2.1⟩
  have a1 : ¬ an_ (ceq3 N D) 1 (ccl_ ks bx by1 bdx bdy xs ys S M) = 0 ↔ (∃ c ∈ S.flatMap (csg_ ks bx by1 bdx bdy xs ys), ceq3 N D c = true) := by
    rw [an_y]
    constructor
    · rintro ⟨c, hc, e⟩
      rcases List.mem_append.mp hc with k | k
      · exact ⟨c, k, e.1⟩
      · obtain ⟨i, hi, hci⟩ := List.mem_flatMap.mp k
        exact absurd (cmq_t hks c hci).1 e.2
    · rintro ⟨c, hc, e⟩
      obtain ⟨q, hq, hcq⟩ := List.mem_flatMap.mp hc
      exact ⟨c, List.mem_append_left _ hc, e, (csg_t hks c hcq).1⟩
  unfold phe_
  by_cases m2 : M.any (atp_ xs ys AX AY DX DY N D) = true
  · rw [if_neg (a2.mpr m2), m2]
    unfold pom_ wI_
    rcases hF.1 with e | e | e
    · subst e; simp
    · subst e; simp
    · rw [hF.2.2.1 e] at m2; exact absurd m2 (by simp)
  · rw [if_pos (Decidable.byContradiction (fun h => m2 (a2.mp h)))]
    have m3 : M.any (atp_ xs ys AX AY DX DY N D) = false := by
      cases h : M.any (atp_ xs ys AX AY DX DY N D)
      · rfl
      · exact absurd h m2
    rw [m3]
    by_cases m1 : ∃ c ∈ S.flatMap (csg_ ks bx by1 bdx bdy xs ys), ceq3 N D c = true
    · rw [if_neg (a1.mpr m1)]
      have h2 := es.mp (Or.inl m1)
      unfold pos_ wI_
      rcases hF.1 with e | e | e
      · rw [hF.2.1 e] at h2; exact absurd h2 (Nat.lt_irrefl _)
      · subst e; simp [h2]
      · subst e; simp [h2]
    · rw [if_pos (Decidable.byContradiction (fun h => m1 (a1.mp h)))]
      have hne : ∀ c ∈ ccl_ ks bx by1 bdx bdy xs ys S M, clt3 N D c = cle3 N D c := by
        intro c hc
        have : ¬ ceq3 N D c = true := fun h => by
          rcases List.mem_append.mp hc with k | k
          · exact m1 ⟨c, k, h⟩
          · exact m2 (em.mp ⟨c, k, h⟩)
        unfold ceq3 at this; rw [decide_eq_true_eq] at this
        unfold clt3 cle3
        by_cases z : c.1.toInt * D < N * c.2.1.toInt
        · rw [decide_eq_true z, decide_eq_true (by omega)]
        · rw [decide_eq_false z, decide_eq_false (by omega)]
      obtain ⟨g1, g2⟩ := gx_c _ hne
      rw [g1, g2, n1]
      unfold pah_
      by_cases h : 0 < sm_ (cdq_ xs ys AX AY DX DY N D) S
      · rw [if_pos (n2.mpr h)]
        have h2 := es.mp (Or.inr h)
        unfold pos_ wI_
        rcases hF.1 with e | e | e
        · rw [hF.2.1 e] at h2; exact absurd h2 (Nat.lt_irrefl _)
        · subst e; simp [h2]
        · subst e; simp [h2]
      · rw [if_neg (fun q => h (n2.mp q))]
        have h2 : sm_ (onq_ xs ys AX AY DX DY N D) S = 0 := by
          rcases Nat.eq_zero_or_pos (sm_ (onq_ xs ys AX AY DX DY N D) S) with z | z
          · exact z
          · rcases es.mpr z with w | w
            · exact absurd w m1
            · exact absurd w h
        have hno : hno_ xs ys S AX AY DX DY N D := fun q hq o => by
          have := sm_g S q hq (F := onq_ xs ys AX AY DX DY N D) (by omega)
          omega
        rw [h2, wI_m hF.1, pbs_l]
        refine bI_c (fun e => ?_)
        have p := (sm_pl hF e hd hno).1
        rw [h2, Nat.mul_zero, Nat.add_zero] at p
        omega
end
