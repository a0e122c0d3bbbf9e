theorem tk_s {S : List (Nat × Nat)} {i : Nat} (h : i < S.length) : S.take (i + 1) = S.take i ++ [S.getD i (0, 0)] := by
  rw [List.take_succ]; simp [List.getD, List.getElem?_eq_getElem h]
theorem tk_m {S : List Nat} {i : Nat} (h : i < S.length) : S.take (i + 1) = S.take i ++ [S.getD i 0] := by
  rw [List.take_succ]; simp [List.getD, List.getElem?_eq_getElem h]
theorem dbn_m {cap k n m : Nat} (h : n ≤ m) : dbn_ cap k n ≤ dbn_ cap k m := by
  rw [show m = n + (m - n) by omega, dbn_a]; exact dbn_l _
theorem cbs_l {ks : Int32} {a b o x y s : Int64} : (cbs_ ks a b o x y s).length ≤ 2 := by
  unfold cbs_ cov_ cac_
  split
  · split
    · split <;> simp
    · simp
  · split <;> simp
theorem cmk_l {ks : Int32} {s0 a s : Int64} : (cmk_ ks s0 a s).length ≤ 1 := by unfold cmk_; split <;> simp
theorem fm_2 {α β : Type} {f : α → List β} (h : ∀ q, (f q).length ≤ 2) : ∀ L : List α, (L.flatMap f).length ≤ 2 * L.length
  | [] => Nat.le_refl _
  | a :: L => by rw [List.flatMap_cons, List.length_append, List.length_cons]; have := fm_2 h L; have := h a; omega
theorem fm_1 {α β : Type} {f : α → List β} (h : ∀ q, (f q).length ≤ 1) : ∀ L : List α, (L.flatMap f).length ≤ L.length
  | [] => Nat.le_refl _
  | a :: L => by rw [List.flatMap_cons, List.length_append, List.length_cons]; have := fm_1 h L; have := h a; omega
theorem fm_t {α β : Type} {f : α → List β} {L : List α} (n : Nat) : ((L.take n).flatMap f).length ≤ (L.flatMap f).length := by
  conv => rhs; rw [← List.take_append_drop n L, List.flatMap_append, List.length_append]
  omega
def csg_ (ks : Int32) (bx by1 bdx bdy : Int64) (xs ys : Nat → Int32) (q : Nat × Nat) : List (Int64 × Int64 × Int32) :=
  cbs_ ks (sid_ bx by1 bdx bdy (xs q.1) (ys q.1)) (sid_ bx by1 bdx bdy (xs q.2) (ys q.2)) (rea_ bx by1 (xs q.1) (ys q.1) (xs q.2) (ys q.2)) (alo_ bx by1 bdx bdy (xs q.1) (ys q.1)) (alo_ bx by1 bdx bdy (xs q.2) (ys q.2)) (spa_ bdx bdy)
def cmq_ (ks : Int32) (bx by1 bdx bdy : Int64) (xs ys : Nat → Int32) (p : Nat) : List (Int64 × Int64 × Int32) :=
  cmk_ ks (sid_ bx by1 bdx bdy (xs p) (ys p)) (alo_ bx by1 bdx bdy (xs p) (ys p)) (spa_ bdx bdy)
def ccl_ (ks : Int32) (bx by1 bdx bdy : Int64) (xs ys : Nat → Int32) (S : List (Nat × Nat)) (M : List Nat) : List (Int64 × Int64 × Int32) := S.flatMap (csg_ ks bx by1 bdx bdy xs ys) ++ M.flatMap (cmq_ ks bx by1 bdx bdy xs ys)
def ctu_ (bx by1 bdx bdy : Int64) (xs ys : Nat → Int32) (S : List (Nat × Nat)) : Int32 :=
  S.foldl (fun t q => cbt_ t (sid_ bx by1 bdx bdy (xs q.1) (ys q.1)) (sid_ bx by1 bdx bdy (xs q.2) (ys q.2)) (rea_ bx by1 (xs q.1) (ys q.1) (xs q.2) (ys q.2))) 0
theorem upl_ {f : Nat → Int64} {g : Nat → Int64} {i : Nat} (h : ∀ j, j < i → f j = g j) : ∀ j, j < i + 1 → vp_updL f i (g i) j = g j := by
  intro j hj
  by_cases q : j = i
  · subst q; exact pk_uLs
  · rw [pk_uLn q]; exact h j (by omega)
