/-! one beam: its triples -/
theorem an_p {p : CT3_ → Bool} {k : Int32} {C E : List CT3_} (h : C.Perm E) : an_ p k C = an_ p k E := by
  unfold an_
  have e : C.any (fun c => p c && !decide (c.2.2 &&& k = 0)) = E.any (fun c => p c && !decide (c.2.2 &&& k = 0)) := h.any_eq
  rw [e]
theorem stt_p {own : CT3_ → Bool} {tu : Int32} {N D : Int} {C E : List CT3_} (h : C.Perm E) : stt_ own tu N D C = stt_ own tu N D E := by
  unfold stt_; rw [gz_p h, gz_p h, an_p h, an_p h, xz_p h, xz_p h]
theorem TT_p {kd1 kd2 tu1 tu2 : Int32} {C E : List CT3_} {c : CT3_} {x y d : Int32} (h : C.Perm E) : TT_ kd1 kd2 tu1 tu2 C c x y d ↔ TT_ kd1 kd2 tu1 tu2 E c x y d := by
  have g : (∃ z ∈ C, clt3 z.1.toInt z.2.1.toInt c = true) ↔ (∃ z ∈ E, clt3 z.1.toInt z.2.1.toInt c = true) :=
    ⟨fun ⟨z, a, b⟩ => ⟨z, h.mem_iff.mp a, b⟩, fun ⟨z, a, b⟩ => ⟨z, h.mem_iff.mpr a, b⟩⟩
  unfold TT_
  rw [stt_p h, stt_p h, g, gz_p h, gz_p h, xz_p h, xz_p h]
theorem cvd_2 {c : CT3_} (h : cvd_ c) : ∃ a b : Nat, c.1 = lN a ∧ c.2.1 = lN b ∧ c.1.toInt = a ∧ c.2.1.toInt = b ∧ a ≤ b ∧ 0 < b ∧ b < 2 ^ 62 := by
  obtain ⟨a, b, e1, e2, h1, h2, h3⟩ := h
  exact ⟨a, b, e1, e2, by rw [e1, pk_lT (by omega)], by rw [e2, pk_lT (by omega)], h1, h2, h3⟩
theorem cpf_q {c e : CT3_} (hc : cvd_ c) (he : cvd_ e) : (cpf_ c.1 c.2.1 e.1 e.2.1 ≤ 0 ↔ cpr_ c e) ∧ (cpf_ c.1 c.2.1 e.1 e.2.1 = 0 ↔ ceq3 e.1.toInt e.2.1.toInt c = true) := by
  obtain ⟨a1, b1, e1, f1, i1, j1, l1, p1, u1⟩ := cvd_2 hc
  obtain ⟨a2, b2, e2, f2, i2, j2, l2, p2, u2⟩ := cvd_2 he
  unfold cpr_ cle3 ceq3
  rw [decide_eq_true_eq, decide_eq_true_eq, i1, j1, i2, j2]
  rw [e1, f1, e2, f2, cpf_le (by omega) u1 (by omega) u2 p1 p2, cpf_eq (by omega) u1 (by omega) u2 p1 p2]
  constructor
  · norm_cast
  · norm_cast
section
variable {C : List CT3_} {ov un : Nat → Int64} {sg : Nat → Int32} {oj : Nat → Nat}
def eL_ (C : List CT3_) (oj : Nat → Nat) (n : Nat) : List CT3_ := (List.range n).map (fun i => C.getD (oj i) (0, 0, 0))
theorem eL_l {n : Nat} : (eL_ C oj n).length = n := by unfold eL_; rw [List.length_map, List.length_range]
theorem eL_d {n i : Nat} (h : i < n) : (eL_ C oj n).drop i = C.getD (oj i) (0, 0, 0) :: (eL_ C oj n).drop (i + 1) := by
  rw [List.drop_eq_getElem_cons (by rw [eL_l]; exact h)]
  congr 1
  unfold eL_; simp
theorem gD_s (C : List CT3_) : (List.range C.length).map (fun i => C.getD i (0, 0, 0)) = C := by
  apply List.ext_getElem
  · rw [List.length_map, List.length_range]
  · intro i h1 h2
    rw [List.getElem_map, List.getElem_range]; simp [List.getD, List.getElem?_eq_getElem h2]
theorem eL_p (hp : (seg_ oj 0 C.length).Perm (seg_ (fun i => i) 0 C.length)) : (eL_ C oj C.length).Perm C := by
  have h := hp.map (fun i => C.getD i (0, 0, 0))
  unfold seg_ at h
  rw [List.map_map, List.map_map, Nat.sub_zero, ← List.range_eq_range'] at h
  have e := gD_s C
  have h2 : ((List.range C.length).map ((fun i => C.getD i (0, 0, 0)) ∘ (fun i => i))) = C := e
  rw [h2] at h
  exact h
theorem wl_w (hv : ∀ c ∈ C, cvd_ c) (h : ∀ i, i < C.length → ov i = (C.getD i (0, 0, 0)).1 ∧ un i = (C.getD i (0, 0, 0)).2.1 ∧ sg i = (C.getD i (0, 0, 0)).2.2) (hj : ∀ i, i < C.length → oj i < C.length) :
    ∀ k i, i + k = C.length → (wl_ sg oj ov un C.length).drop i = wf_ ((eL_ C oj C.length).drop i)
  | 0, i, hi => by
    rw [List.drop_eq_nil_of_le (by rw [wl_l]; omega), List.drop_eq_nil_of_le (by rw [eL_l]; omega), wf_]
  | k + 1, i, hi => by
    have hm : ∀ j, j < C.length → C.getD j (0, 0, 0) ∈ C := fun j hj => by simp [List.getD, List.getElem?_eq_getElem hj]
    rw [wl_s (by omega), eL_d (by omega), wf_, wl_w hv h hj k (i + 1) (by omega)]
    congr 1
    have h1 := h (oj i) (hj i (by omega))
    rw [h1.2.2]
    congr 1
    unfold ls_
    rcases Nat.lt_or_ge (i + 1) C.length with q | q
    · have h2 := h (oj (i + 1)) (hj (i + 1) q)
      rw [eL_d q, nx_, h1.1, h1.2.1, h2.1, h2.2.1]
      have e := (cpf_q (hv _ (hm _ (hj i (by omega)))) (hv _ (hm _ (hj (i + 1) q)))).2
      congr 1
      by_cases z : ceq3 (C.getD (oj (i + 1)) (0, 0, 0)).1.toInt (C.getD (oj (i + 1)) (0, 0, 0)).2.1.toInt (C.getD (oj i) (0, 0, 0)) = true
      · rw [z]; exact decide_eq_true ⟨q, e.mpr z⟩
      · rw [Bool.not_eq_true _ |>.mp z]; exact decide_eq_false (fun w => z (e.mp w.2))
    · rw [List.drop_eq_nil_of_le (by rw [eL_l]; omega), nx_, decide_eq_false (fun w => by omega)]; rfl
theorem eL_w (hv : ∀ c ∈ C, cvd_ c) (h : ∀ i, i < C.length → ov i = (C.getD i (0, 0, 0)).1 ∧ un i = (C.getD i (0, 0, 0)).2.1 ∧ sg i = (C.getD i (0, 0, 0)).2.2) (hj : ∀ i, i < C.length → oj i < C.length) (hb : blk_ ov un oj C.length C.length) : (eL_ C oj C.length).Pairwise cpr_ := by
  have hm : ∀ j, j < C.length → C.getD j (0, 0, 0) ∈ C := fun j hj => by simp [List.getD, List.getElem?_eq_getElem hj]
  rw [List.pairwise_iff_getElem]
  intro i j hi hj2 hij
  rw [eL_l] at hi hj2
  have e : ∀ k (hk : k < (eL_ C oj C.length).length), (eL_ C oj C.length)[k] = C.getD (oj k) (0, 0, 0) := fun k hk => by unfold eL_; simp
  rw [e, e]
  have k := hb i j hij hj2 (by rw [Nat.div_eq_of_lt hi, Nat.div_eq_of_lt hj2])
  unfold cle_ at k
  rw [decide_eq_true_eq, (h _ (hj i hi)).1, (h _ (hj i hi)).2.1, (h _ (hj j hj2)).1, (h _ (hj j hj2)).2.1] at k
  exact (cpf_q (hv _ (hm _ (hj i hi))) (hv _ (hm _ (hj j hj2)))).1.mp k
/-- a sorted walk raises each cut's triples -/
theorem wk_T {kd1 kd2 tu1 tu2 : Int32} {mx : Nat → Int32} (hv : ∀ c ∈ C, cvd_ c) (h : ∀ i, i < C.length → ov i = (C.getD i (0, 0, 0)).1 ∧ un i = (C.getD i (0, 0, 0)).2.1 ∧ sg i = (C.getD i (0, 0, 0)).2.2) (hj : ∀ i, i < C.length → oj i < C.length)
    (hp : (seg_ oj 0 C.length).Perm (seg_ (fun i => i) 0 C.length)) (hb : blk_ ov un oj C.length C.length) :
    rz_ (fun x y d => ∃ c ∈ C, TT_ kd1 kd2 tu1 tu2 C c x y d) mx (wkf_ kd1 kd2 (wl_ sg oj ov un C.length) (0, 0, 0, 0, tu1, 0) (0, 0, 0, 0, tu2, 0) mx) := by
  have e := wl_w hv h hj C.length 0 (by omega)
  rw [List.drop_zero, List.drop_zero] at e
  have pE := eL_p hp
  rw [e]
  refine rz_w (wk_z _ _ _ _) (fun x y d => ?_)
  have hvE : ∀ c ∈ [] ++ eL_ C oj C.length, cvi_ c := fun c hc => by
    rw [List.nil_append] at hc
    obtain ⟨a, b, -, -, -, j1, -, p1, -⟩ := cvd_2 (hv c (pE.mem_iff.mp hc))
    unfold cvi_; rw [j1]; omega
  have hsE : ([] ++ eL_ C oj C.length).Pairwise cpr_ := by rw [List.nil_append]; exact eL_w hv h hj hb
  have s0 : ∀ (own : CT3_ → Bool) (tu : Int32) (N D : Int), stt_ own tu N D [] = (0, 0, 0, 0, tu, 0) := fun own tu N D => by
    unfold stt_; rw [gz_, gz_, xz_, xz_, Int32.xor_zero]; rfl
  have key : ∀ N D : Int, 0 < D → (∀ c R', eL_ C oj C.length = c :: R' → ceq3 N D c = true) → (wT_ kd1 kd2 (wf_ (eL_ C oj C.length)) (0, 0, 0, 0, tu1, 0) (0, 0, 0, 0, tu2, 0) x y d ↔ ∃ c ∈ eL_ C oj C.length, TT_ kd1 kd2 tu1 tu2 (eL_ C oj C.length) c x y d) := fun N D hD h0 => by
    have w := wT_i (kd1 := kd1) (kd2 := kd2) (tu1 := tu1) (tu2 := tu2) (eL_ C oj C.length) [] N D hD hvE hsE h0 x y d
    rw [s0, s0, List.nil_append] at w; exact w
  have k2 : (∃ c ∈ eL_ C oj C.length, TT_ kd1 kd2 tu1 tu2 (eL_ C oj C.length) c x y d) ↔ ∃ c ∈ C, TT_ kd1 kd2 tu1 tu2 C c x y d :=
    ⟨fun ⟨c, a, b⟩ => ⟨c, pE.mem_iff.mp a, (TT_p pE).mp b⟩, fun ⟨c, a, b⟩ => ⟨c, pE.mem_iff.mpr a, (TT_p pE).mpr b⟩⟩
  rw [← k2]
  cases hE : eL_ C oj C.length with
  | nil =>
    rw [← hE]; exact key 0 1 (by decide) (fun c R' q => by rw [hE] at q; exact absurd q (by simp))
  | cons c R =>
    rw [← hE]
    have vc := hvE c (by rw [List.nil_append, hE]; exact List.mem_cons_self ..)
    exact key c.1.toInt c.2.1.toInt vc (fun z R' q => by rw [hE] at q; injection q with q1 q2; rw [← q1]; unfold ceq3; exact decide_eq_true rfl)
end
/-- whose cut it is -/
theorem ccl_o {ks : Int32} {bx by1 bdx bdy : Int64} {xs ys : Nat → Int32} {S : List (Nat × Nat)} {M : List Nat} (hks : ks = 0 ∨ ks = 64) : ∀ c ∈ ccl_ ks bx by1 bdx bdy xs ys S M, c.2.2 &&& 64 = ks := by
  intro c hc
  rcases List.mem_append.mp hc with k | k
  · obtain ⟨q, _, h⟩ := List.mem_flatMap.mp k; exact (csg_t hks c h).2.2
  · obtain ⟨i, _, h⟩ := List.mem_flatMap.mp k; exact (cmq_t hks c h).2.2
theorem own_g {p : CT3_ → Bool} {A B : List CT3_} (hA : ∀ c ∈ A, c.2.2 &&& 64 = 0) (hB : ∀ c ∈ B, c.2.2 &&& 64 = 64) :
    (gz_ (fun c => ow1_ c && p c) (A ++ B) = gz_ p A ∧ xz_ (fun c => ow1_ c && p c) (A ++ B) = xz_ p A ∧ ∀ k, an_ (fun c => ow1_ c && p c) k (A ++ B) = an_ p k A) ∧
    (gz_ (fun c => ow2_ c && p c) (A ++ B) = gz_ p B ∧ xz_ (fun c => ow2_ c && p c) (A ++ B) = xz_ p B ∧ ∀ k, an_ (fun c => ow2_ c && p c) k (A ++ B) = an_ p k B) := by
  have a1 : ∀ c ∈ A, (ow1_ c && p c) = p c := fun c hc => by unfold ow1_; rw [decide_eq_true (hA c hc), Bool.true_and]
  have a2 : ∀ c ∈ A, (ow2_ c && p c) = false := fun c hc => by unfold ow2_; rw [decide_eq_true (hA c hc)]; rfl
  have b1 : ∀ c ∈ B, (ow1_ c && p c) = false := fun c hc => by unfold ow1_; rw [decide_eq_false (by rw [hB c hc]; decide), Bool.false_and]
  have b2 : ∀ c ∈ B, (ow2_ c && p c) = p c := fun c hc => by unfold ow2_; rw [decide_eq_false (by rw [hB c hc]; decide)]; rfl
  have an_e : ∀ {q r : CT3_ → Bool} {k : Int32} (L : List CT3_), (∀ c ∈ L, q c = r c) → L.any (fun c => q c && !decide (c.2.2 &&& k = 0)) = L.any (fun c => r c && !decide (c.2.2 &&& k = 0)) := by
    intro q r k L h
    induction L with
    | nil => rfl
    | cons c L ih => rw [List.any_cons, List.any_cons, h c (List.mem_cons_self ..), ih (fun z hz => h z (List.mem_cons_of_mem _ hz))]
  refine ⟨⟨?_, ?_, fun k => ?_⟩, ?_, ?_, fun k => ?_⟩
  · rw [gz_a, (gx_c A a1).1, (gz_0 B b1).1, Int32.add_zero]
  · rw [xz_a, (gx_c A a1).2, (gz_0 B b1).2, Int32.xor_zero]
  · rw [an_0 b1]; unfold an_; rw [an_e A a1]
  · rw [gz_a, (gx_c B b2).1, (gz_0 A a2).1, Int32.zero_add]
  · rw [xz_a, (gx_c B b2).2, (gz_0 A a2).2, Int32.zero_xor]
  · unfold an_
    have z : A.any (fun c => (ow2_ c && p c) && !decide (c.2.2 &&& k = 0)) = false := by
      rw [List.any_eq_false]; intro c hc; rw [a2 c hc]; simp
    rw [List.any_append, z, Bool.false_or, an_e B b2]
