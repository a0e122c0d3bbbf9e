theorem t3_pom {kd : Int32} : t3_ (pom_ kd) := by
  unfold pom_; split
  · exact t3_1
  · exact t3_0
theorem t3_pos {kd : Int32} : t3_ (pos_ kd) := by
  unfold pos_; split
  · exact t3_0
  · exact t3_1
theorem t3_pof {kd b : Int32} : t3_ (pof_ kd b) := by
  unfold pof_; split
  · exact t3_0
  · exact t3_2
theorem t3_pbs {kd tu t : Int32} : t3_ (pbs_ kd tu t) := by
  unfold pbs_; split
  · exact t3_0
  · exact t3_2
theorem t3_pah {kd cv tu : Int32} : t3_ (pah_ kd cv tu) := by
  unfold pah_; split
  · exact t3_pos
  · exact t3_pbs
theorem t3_phe {kd cv mt mk tu : Int32} : t3_ (phe_ kd cv mt mk tu) := by
  unfold phe_; split
  · split
    · exact t3_pah
    · exact t3_pos
  · exact t3_pom
theorem t3_wis {kd : Int32} {xs ys : Nat → Int32} {x y : Int32} : ∀ (S : List (Nat × Nat)) (b : Int32), t3_ (wis_ kd xs ys x y S b)
  | [], b => t3_pof
  | q :: S, b => by
    unfold wis_; split
    · exact t3_pos
    · exact t3_wis S _
theorem t3_whs {kd : Int32} {xs ys : Nat → Int32} {S : List (Nat × Nat)} {M : List Nat} {x y : Int32} : t3_ (whs_ kd xs ys S M x y) := by
  unfold whs_; split
  · exact t3_wis _ _
  · exact t3_pom
def rah_ (kd1 kd2 cv1 tu1 cv2 tu2 : Int32) (mx : Nat → Int32) : Nat → Int32 :=
  rai_ (rai_ (rai_ mx (pah_ kd1 cv1 tu1) (pah_ kd2 cv2 tu2) 1) (pbs_ kd1 tu1 16) (pbs_ kd2 tu2 16) 2) (pbs_ kd1 tu1 32) (pbs_ kd2 tu2 32) 2
def vis_ (kd1 : Int32) (xs1 ys1 : Nat → Int32) (S1 : List (Nat × Nat)) (M1 : List Nat) (kd2 : Int32) (xs2 ys2 : Nat → Int32) (S2 : List (Nat × Nat)) (M2 : List Nat) (xs ys : Nat → Int32) (mx : Nat → Int32) : Nat → (Nat → Int32)
  | 0 => mx
  | n + 1 => rai_ (vis_ kd1 xs1 ys1 S1 M1 kd2 xs2 ys2 S2 M2 xs ys mx n) (whs_ kd1 xs1 ys1 S1 M1 (xs n) (ys n)) (whs_ kd2 xs2 ys2 S2 M2 (xs n) (ys n)) 0
/-- a course's numbers: covers, gained, meets, marked, ahead, here -/
abbrev CS_ : Type := Int32 × Int32 × Int32 × Int32 × Int32 × Int32
def ar_ (c : Int32) : CS_ → CS_ | (cv, cg, m0, k0, tu, th) => (cv, arc_ cg c, arm_ m0 c 1, arm_ k0 c 2, tu, th ^^^ (c &&& 48))
def de_ : CS_ → CS_ | (cv, cg, _, _, tu, th) => (cv + cg, 0, 0, 0, tu ^^^ th, 0)
def he_ (kd : Int32) : CS_ → Int32 | (cv, _, m0, k0, tu, _) => phe_ kd cv m0 k0 tu
def ra_ (kd1 kd2 : Int32) (mx : Nat → Int32) : CS_ → CS_ → (Nat → Int32) | (cv1, _, _, _, tu1, _), (cv2, _, _, _, tu2, _) => rah_ kd1 kd2 cv1 tu1 cv2 tu2 mx
def wkf_ (kd1 kd2 : Int32) : List (Int32 × Bool) → CS_ → CS_ → (Nat → Int32) → (Nat → Int32)
  | [], _, _, mx => mx
  | (c, la) :: R, a, b, mx =>
    let a1 := if c &&& 64 = 0 then ar_ c a else a
    let b1 := if c &&& 64 = 0 then b else ar_ c b
    if la = true then wkf_ kd1 kd2 R (de_ a1) (de_ b1) (if R.isEmpty = true then rai_ mx (he_ kd1 a1) (he_ kd2 b1) 0 else ra_ kd1 kd2 (rai_ mx (he_ kd1 a1) (he_ kd2 b1) 0) (de_ a1) (de_ b1))
    else wkf_ kd1 kd2 R a1 b1 mx
def ls_ (oj : Nat → Nat) (ov un : Nat → Int64) (n i : Nat) : Bool := !decide (i + 1 < n ∧ cpf_ (ov (oj i)) (un (oj i)) (ov (oj (i + 1))) (un (oj (i + 1))) = 0)
def wl_ (sg : Nat → Int32) (oj : Nat → Nat) (ov un : Nat → Int64) (n : Nat) : List (Int32 × Bool) := (List.range n).map (fun i => (sg (oj i), ls_ oj ov un n i))
section
variable {sg : Nat → Int32} {oj : Nat → Nat} {ov un : Nat → Int64} {n i : Nat} {kd1 kd2 c : Int32} {R : List (Int32 × Bool)} {a b : CS_} {mx : Nat → Int32}
theorem wl_l : (wl_ sg oj ov un n).length = n := by unfold wl_; rw [List.length_map, List.length_range]
theorem wl_n : (wl_ sg oj ov un n).drop n = [] := List.drop_eq_nil_of_le (by rw [wl_l]; exact Nat.le_refl _)
theorem wl_s (h : i < n) : (wl_ sg oj ov un n).drop i = (sg (oj i), ls_ oj ov un n i) :: (wl_ sg oj ov un n).drop (i + 1) := by
  rw [List.drop_eq_getElem_cons (by rw [wl_l]; exact h)]
  congr 1
  unfold wl_; simp
theorem wl_e (h : n ≤ i + 1) : ((wl_ sg oj ov un n).drop (i + 1)).isEmpty = true := by rw [List.drop_eq_nil_of_le (by rw [wl_l]; exact h)]; rfl
theorem wl_f (h : i + 1 < n) : ¬ ((wl_ sg oj ov un n).drop (i + 1)).isEmpty = true := by rw [wl_s h]; simp
theorem lst_n {k : Prop} [Decidable k] (h : (if k then (0 : Int32) else 1) = 0) : ¬ (!decide k) = true := by
  by_cases q : k
  · simp [q]
  · rw [if_neg q] at h; exact absurd h (by decide)
theorem lst_y {k : Prop} [Decidable k] (h : ¬ (if k then (0 : Int32) else 1) = 0) : (!decide k) = true := by
  by_cases q : k
  · rw [if_pos q] at h; exact absurd rfl h
  · simp [q]
theorem wk_a1 {la : Bool} (c2 : c &&& 64 = 0) (h : ¬ la = true) : wkf_ kd1 kd2 ((c, la) :: R) a b mx = wkf_ kd1 kd2 R (ar_ c a) b mx := by
  rw [wkf_]; simp only [if_pos c2, if_neg h]
theorem wk_a2 {la : Bool} (c2 : c &&& 64 = 0) (h : la = true) (hR : R.isEmpty = true) : wkf_ kd1 kd2 ((c, la) :: R) a b mx = wkf_ kd1 kd2 R (de_ (ar_ c a)) (de_ b) (rai_ mx (he_ kd1 (ar_ c a)) (he_ kd2 b) 0) := by
  rw [wkf_]; simp only [if_pos c2, if_pos h, if_pos hR]
theorem wk_a3 {la : Bool} (c2 : c &&& 64 = 0) (h : la = true) (hR : ¬ R.isEmpty = true) : wkf_ kd1 kd2 ((c, la) :: R) a b mx = wkf_ kd1 kd2 R (de_ (ar_ c a)) (de_ b) (ra_ kd1 kd2 (rai_ mx (he_ kd1 (ar_ c a)) (he_ kd2 b) 0) (de_ (ar_ c a)) (de_ b)) := by
  rw [wkf_]; simp only [if_pos c2, if_pos h, if_neg hR]
theorem wk_b1 {la : Bool} (c2 : ¬ c &&& 64 = 0) (h : ¬ la = true) : wkf_ kd1 kd2 ((c, la) :: R) a b mx = wkf_ kd1 kd2 R a (ar_ c b) mx := by
  rw [wkf_]; simp only [if_neg c2, if_neg h]
theorem wk_b2 {la : Bool} (c2 : ¬ c &&& 64 = 0) (h : la = true) (hR : R.isEmpty = true) : wkf_ kd1 kd2 ((c, la) :: R) a b mx = wkf_ kd1 kd2 R (de_ a) (de_ (ar_ c b)) (rai_ mx (he_ kd1 a) (he_ kd2 (ar_ c b)) 0) := by
  rw [wkf_]; simp only [if_neg c2, if_pos h, if_pos hR]
theorem wk_b3 {la : Bool} (c2 : ¬ c &&& 64 = 0) (h : la = true) (hR : ¬ R.isEmpty = true) : wkf_ kd1 kd2 ((c, la) :: R) a b mx = wkf_ kd1 kd2 R (de_ a) (de_ (ar_ c b)) (ra_ kd1 kd2 (rai_ mx (he_ kd1 a) (he_ kd2 (ar_ c b)) 0) (de_ a) (de_ (ar_ c b))) := by
  rw [wkf_]; simp only [if_neg c2, if_pos h, if_neg hR]
end
