abbrev nil_ : List (Int64 × Int64 × Int32) := []
/-- all cuts of one beam -/
def cutl_ (ks1 ks2 : Int32) (xs1 ys1 : Nat → Int32) (sl1 : List (Nat × Nat)) (ml1 : List Nat) (xs2 ys2 : Nat → Int32) (sl2 : List (Nat × Nat)) (ml2 : List Nat) (bx by1 bdx bdy : Int64) : List (Int64 × Int64 × Int32) :=
  ccl_ ks1 bx by1 bdx bdy xs1 ys1 sl1 ml1 ++ ccl_ ks2 bx by1 bdx bdy xs2 ys2 sl2 ml2
def nct_ (ks1 ks2 : Int32) (xs1 ys1 : Nat → Int32) (sl1 : List (Nat × Nat)) (ml1 : List Nat) (xs2 ys2 : Nat → Int32) (sl2 : List (Nat × Nat)) (ml2 : List Nat) (xs ys : Nat → Int32) (q : Nat × Nat) : Nat :=
  (cutl_ ks1 ks2 xs1 ys1 sl1 ml1 xs2 ys2 sl2 ml2 (xs q.1).toInt64 (ys q.1).toInt64 ((xs q.2).toInt64 - (xs q.1).toInt64) ((ys q.2).toInt64 - (ys q.1).toInt64)).length
theorem ccl_l {ks : Int32} {bx by1 bdx bdy : Int64} {xs ys : Nat → Int32} {S : List (Nat × Nat)} {M : List Nat} : (ccl_ ks bx by1 bdx bdy xs ys S M).length ≤ 2 * S.length + M.length := by
  unfold ccl_; rw [List.length_append]
  have := fm_2 (f := csg_ ks bx by1 bdx bdy xs ys) (fun q => cbs_l) S
  have := fm_1 (f := cmq_ ks bx by1 bdx bdy xs ys) (fun q => cmk_l) M
  omega
theorem nct_b {ks1 ks2 : Int32} {xs1 ys1 : Nat → Int32} {sl1 : List (Nat × Nat)} {ml1 : List Nat} {xs2 ys2 : Nat → Int32} {sl2 : List (Nat × Nat)} {ml2 : List Nat} {xs ys : Nat → Int32} {q : Nat × Nat} :
    nct_ ks1 ks2 xs1 ys1 sl1 ml1 xs2 ys2 sl2 ml2 xs ys q ≤ 2 * sl1.length + ml1.length + (2 * sl2.length + ml2.length) := by
  unfold nct_ cutl_; rw [List.length_append]
  exact Nat.add_le_add ccl_l ccl_l
/-- the room behind the beams of S -/
def cpl_ (N : Nat × Nat → Nat) (cap : Nat) (S : List (Nat × Nat)) : Nat := S.foldl (fun c q => dbn_ c 0 (N q)) cap
theorem cpl_s {N : Nat × Nat → Nat} {cap : Nat} {S : List (Nat × Nat)} {q : Nat × Nat} : dbn_ (cpl_ N cap S) 0 (N q) = cpl_ N cap (S ++ [q]) := by
  unfold cpl_; rw [List.foldl_append]; rfl
theorem cpl_l {N : Nat × Nat → Nat} : ∀ {cap : Nat} (S : List (Nat × Nat)), cap ≤ cpl_ N cap S
  | _, [] => Nat.le_refl _
  | cap, q :: S => Nat.le_trans (dbn_l (k := 0) (N q)) (cpl_l (cap := dbn_ cap 0 (N q)) S)
theorem cpl_u {N : Nat × Nat → Nat} {B : Nat} : ∀ {cap : Nat}, cap ≤ B → (∀ q, 2 * N q ≤ B) → ∀ S : List (Nat × Nat), cpl_ N cap S ≤ B
  | _, h, _, [] => h
  | cap, h, hN, q :: S => cpl_u (cap := dbn_ cap 0 (N q)) (dbn_u h _ (by have := hN q; omega)) hN S
theorem cpl_t {N : Nat × Nat → Nat} {cap : Nat} {S : List (Nat × Nat)} (n : Nat) : cpl_ N cap (S.take n) ≤ cpl_ N cap S := by
  conv => rhs; rw [← List.take_append_drop n S]
  unfold cpl_; rw [List.foldl_append]
  exact cpl_l (N := N) (cap := (S.take n).foldl (fun c q => dbn_ c 0 (N q)) cap) (S.drop n)
/-- what a walk over all beams of S does to the matrix, beam by beam -/
def chn_ (R : Nat × Nat → (Nat → Int32) → (Nat → Int32) → Prop) (S : List (Nat × Nat)) (mx mx2 : Nat → Int32) : Prop :=
  ∃ f : Nat → Nat → Int32, f 0 = mx ∧ f S.length = mx2 ∧ ∀ i, i < S.length → R (S.getD i (0, 0)) (f i) (f (i + 1))
theorem chn_0 {R : Nat × Nat → (Nat → Int32) → (Nat → Int32) → Prop} {S : List (Nat × Nat)} {mx : Nat → Int32} : chn_ R (S.take 0) mx mx := ⟨fun _ => mx, rfl, rfl, fun i h => absurd h (by simp)⟩
theorem chn_s {R : Nat × Nat → (Nat → Int32) → (Nat → Int32) → Prop} {S : List (Nat × Nat)} {q : Nat × Nat} {mx m1 m2 : Nat → Int32} (h : chn_ R S mx m1) (hR : R q m1 m2) : chn_ R (S ++ [q]) mx m2 := by
  obtain ⟨f, h0, h1, h2⟩ := h
  refine ⟨fun i => if i ≤ S.length then f i else m2, by simp [h0], ?_, fun i hi => ?_⟩
  · show (if (S ++ [q]).length ≤ S.length then f (S ++ [q]).length else m2) = m2
    rw [if_neg (by rw [List.length_append, List.length_singleton]; omega)]
  rw [List.length_append, List.length_singleton] at hi
  show R ((S ++ [q]).getD i (0, 0)) (if i ≤ S.length then f i else m2) (if i + 1 ≤ S.length then f (i + 1) else m2)
  rcases Nat.lt_or_ge i S.length with k | k
  · have e : (S ++ [q]).getD i (0, 0) = S.getD i (0, 0) := by simp [List.getD, List.getElem?_append_left k]
    rw [e, if_pos (by omega), if_pos (by omega)]; exact h2 i k
  · have e : i = S.length := by omega
    subst e
    have e : (S ++ [q]).getD S.length (0, 0) = q := by simp [List.getD]
    rw [e, if_pos (Nat.le_refl _), if_neg (by omega), h1]; exact hR
theorem cul_v {ov un : Nat → Int64} {sg od : Nat → Int32} {L : List (Int64 × Int64 × Int32)} (h : cul_ ov un sg od L) (hv : ∀ c ∈ L, cvd_ c) : ∀ i, i < L.length → ∃ a b : Nat, ov i = lN a ∧ un i = lN b ∧ a ≤ b ∧ 0 < b ∧ b < 2 ^ 62 := by
  intro i hi
  have hm : L.getD i (0, 0, 0) ∈ L := by simp [List.getD, List.getElem?_eq_getElem hi]
  obtain ⟨a, b, e1, e2, h1⟩ := hv _ hm
  exact ⟨a, b, by rw [(h i hi).1, e1], by rw [(h i hi).2.1, e2], h1⟩
/-- one beam: its cuts in some order that is sorted, and the walk over them -/
def sgr_ (kd1 kd2 ks1 ks2 : Int32) (xs1 ys1 : Nat → Int32) (sl1 : List (Nat × Nat)) (ml1 : List Nat) (xs2 ys2 : Nat → Int32) (sl2 : List (Nat × Nat)) (ml2 : List Nat) (xs ys : Nat → Int32) (q : Nat × Nat) (mx mx2 : Nat → Int32) : Prop :=
  ∃ (ov un : Nat → Int64) (sg : Nat → Int32) (oj : Nat → Nat),
    (∀ i, i < (cutl_ ks1 ks2 xs1 ys1 sl1 ml1 xs2 ys2 sl2 ml2 (xs q.1).toInt64 (ys q.1).toInt64 ((xs q.2).toInt64 - (xs q.1).toInt64) ((ys q.2).toInt64 - (ys q.1).toInt64)).length → ov i = ((cutl_ ks1 ks2 xs1 ys1 sl1 ml1 xs2 ys2 sl2 ml2 (xs q.1).toInt64 (ys q.1).toInt64 ((xs q.2).toInt64 - (xs q.1).toInt64) ((ys q.2).toInt64 - (ys q.1).toInt64)).getD i (0, 0, 0)).1 ∧ un i = ((cutl_ ks1 ks2 xs1 ys1 sl1 ml1 xs2 ys2 sl2 ml2 (xs q.1).toInt64 (ys q.1).toInt64 ((xs q.2).toInt64 - (xs q.1).toInt64) ((ys q.2).toInt64 - (ys q.1).toInt64)).getD i (0, 0, 0)).2.1 ∧ sg i = ((cutl_ ks1 ks2 xs1 ys1 sl1 ml1 xs2 ys2 sl2 ml2 (xs q.1).toInt64 (ys q.1).toInt64 ((xs q.2).toInt64 - (xs q.1).toInt64) ((ys q.2).toInt64 - (ys q.1).toInt64)).getD i (0, 0, 0)).2.2) ∧
    (∀ i, i < (cutl_ ks1 ks2 xs1 ys1 sl1 ml1 xs2 ys2 sl2 ml2 (xs q.1).toInt64 (ys q.1).toInt64 ((xs q.2).toInt64 - (xs q.1).toInt64) ((ys q.2).toInt64 - (ys q.1).toInt64)).length → oj i < (cutl_ ks1 ks2 xs1 ys1 sl1 ml1 xs2 ys2 sl2 ml2 (xs q.1).toInt64 (ys q.1).toInt64 ((xs q.2).toInt64 - (xs q.1).toInt64) ((ys q.2).toInt64 - (ys q.1).toInt64)).length) ∧
    (seg_ oj 0 (cutl_ ks1 ks2 xs1 ys1 sl1 ml1 xs2 ys2 sl2 ml2 (xs q.1).toInt64 (ys q.1).toInt64 ((xs q.2).toInt64 - (xs q.1).toInt64) ((ys q.2).toInt64 - (ys q.1).toInt64)).length).Perm (seg_ (fun i => i) 0 (cutl_ ks1 ks2 xs1 ys1 sl1 ml1 xs2 ys2 sl2 ml2 (xs q.1).toInt64 (ys q.1).toInt64 ((xs q.2).toInt64 - (xs q.1).toInt64) ((ys q.2).toInt64 - (ys q.1).toInt64)).length) ∧
    blk_ ov un oj (cutl_ ks1 ks2 xs1 ys1 sl1 ml1 xs2 ys2 sl2 ml2 (xs q.1).toInt64 (ys q.1).toInt64 ((xs q.2).toInt64 - (xs q.1).toInt64) ((ys q.2).toInt64 - (ys q.1).toInt64)).length (cutl_ ks1 ks2 xs1 ys1 sl1 ml1 xs2 ys2 sl2 ml2 (xs q.1).toInt64 (ys q.1).toInt64 ((xs q.2).toInt64 - (xs q.1).toInt64) ((ys q.2).toInt64 - (ys q.1).toInt64)).length ∧
    mx2 = wkf_ kd1 kd2 (wl_ sg oj ov un (cutl_ ks1 ks2 xs1 ys1 sl1 ml1 xs2 ys2 sl2 ml2 (xs q.1).toInt64 (ys q.1).toInt64 ((xs q.2).toInt64 - (xs q.1).toInt64) ((ys q.2).toInt64 - (ys q.1).toInt64)).length)
      (0, 0, 0, 0, ctu_ (xs q.1).toInt64 (ys q.1).toInt64 ((xs q.2).toInt64 - (xs q.1).toInt64) ((ys q.2).toInt64 - (ys q.1).toInt64) xs1 ys1 sl1, 0) (0, 0, 0, 0, ctu_ (xs q.1).toInt64 (ys q.1).toInt64 ((xs q.2).toInt64 - (xs q.1).toInt64) ((ys q.2).toInt64 - (ys q.1).toInt64) xs2 ys2 sl2, 0) mx
