/-! marks -/
/-- taking one out -/
theorem tk_p : ∀ (L : List Nat) (j : Nat), j < L.length → L.Perm (L.getD j 0 :: (L.set j (L.getD (L.length - 1) 0)).take (L.length - 1))
  | [], j, h => absurd h (Nat.not_lt_zero _)
  | x :: L, 0, _ => by
    cases L with
    | nil => exact List.Perm.refl _
    | cons y L =>
      have e : (x :: y :: L).getD ((x :: y :: L).length - 1) 0 = (y :: L).getD L.length 0 := rfl
      rw [e]
      show (x :: y :: L).Perm (x :: ((y :: L).getD L.length 0 :: y :: L).take (L.length + 1))
      rw [List.take_succ_cons]
      refine List.Perm.cons x ?_
      have h2 := (List.take_append_drop L.length (y :: L))
      have h3 : (y :: L).drop L.length = [(y :: L).getD L.length 0] := by
        rw [List.drop_eq_getElem_cons (by simp), List.drop_eq_nil_of_le (by simp)]
        simp [List.getD, List.getElem?_eq_getElem]
      rw [h3] at h2
      have h4 := List.perm_append_comm (l₁ := (y :: L).take L.length) (l₂ := [(y :: L).getD L.length 0])
      rw [h2] at h4
      exact h4
  | x :: L, j + 1, h => by
    have hj : j < L.length := by rw [List.length_cons] at h; omega
    have ih := tk_p L j hj
    obtain ⟨n, hn⟩ : ∃ n, L.length = n + 1 := ⟨L.length - 1, by omega⟩
    have e1 : (x :: L).getD ((x :: L).length - 1) 0 = L.getD (L.length - 1) 0 := by
      rw [List.length_cons, hn]; rfl
    have e2 : (x :: L).getD (j + 1) 0 = L.getD j 0 := rfl
    rw [e1, e2, List.set_cons_succ, List.length_cons]
    show (x :: L).Perm (L.getD j 0 :: List.take (L.length + 1 - 1) (x :: L.set j (L.getD (L.length - 1) 0)))
    rw [show L.length + 1 - 1 = (L.length - 1) + 1 by omega, List.take_succ_cons]
    exact (List.Perm.cons x ih).trans (List.Perm.swap _ _ _)
/-- no two marks at one place -/
def md_ (xs ys : Nat → Int32) (M : List Nat) : Prop := M.Pairwise (fun p q => ¬ (xs p = xs q ∧ ys p = ys q))
theorem mfi_n {xs ys : Nat → Int32} {x y : Int32} : ∀ (M : List Nat) (i : Nat), i + M.length < 2 ^ 31 → (mfi_ xs ys x y M i = -1 ↔ ∀ p ∈ M, ¬ (xs p = x ∧ ys p = y))
  | [], i, _ => ⟨fun _ p h => absurd h (by simp), fun _ => rfl⟩
  | p :: M, i, hi => by
    rw [List.length_cons] at hi
    unfold mfi_
    by_cases c : xs p = x ∧ ys p = y
    · rw [if_pos c]
      constructor
      · intro e; have := congrArg Int32.toInt e; rw [nI_toInt (by omega)] at this; simp at this
      · intro h; exact absurd c (h p (List.mem_cons_self ..))
    · rw [if_neg c, mfi_n M (i + 1) (by omega)]
      constructor
      · intro h q hq
        rcases List.mem_cons.mp hq with e | e
        · rw [e]; exact c
        · exact h q e
      · intro h q hq; exact h q (List.mem_cons_of_mem _ hq)
theorem mfi_f {xs ys : Nat → Int32} {x y : Int32} : ∀ (M : List Nat) (i j : Nat), i + M.length < 2 ^ 31 → mfi_ xs ys x y M i = nI j → j < 2 ^ 31 → i ≤ j ∧ j < i + M.length ∧ xs (M.getD (j - i) 0) = x ∧ ys (M.getD (j - i) 0) = y
  | [], i, j, _, h, hj => by
    unfold mfi_ at h
    have := congrArg Int32.toInt h; rw [nI_toInt hj] at this; simp at this
  | p :: M, i, j, hi, h, hj => by
    rw [List.length_cons] at hi
    unfold mfi_ at h
    by_cases c : xs p = x ∧ ys p = y
    · rw [if_pos c] at h
      have e : i = j := (nI_eq (by omega) (by omega)).mp h
      subst e
      rw [Nat.sub_self]
      exact ⟨Nat.le_refl _, by simp, c.1, c.2⟩
    · rw [if_neg c] at h
      obtain ⟨a, b, e1, e2⟩ := mfi_f M (i + 1) j (by omega) h hj
      rw [show j - i = (j - (i + 1)) + 1 by omega]
      exact ⟨by omega, by rw [List.length_cons]; omega, e1, e2⟩
/-- a turn: on the place's count, and no place twice -/
theorem trn_w {xs ys : Nat → Int32} {M : List Nat} {p : Nat} {f : Nat → Bool} (hf : ∀ i j, xs i = xs j → ys i = ys j → f i = f j) (hd : md_ xs ys M) (hl : M.length < 2 ^ 30) :
    (trn_ xs ys M p).countP f % 2 = (M.countP f + (if f p = true then 1 else 0)) % 2 ∧ md_ xs ys (trn_ xs ys M p) := by
  by_cases c : mfi_ xs ys (xs p) (ys p) M 0 = -1
  · rw [trn_1 c]
    have h := (mfi_n M 0 (by omega)).mp c
    refine ⟨by rw [List.countP_append, List.countP_singleton], ?_⟩
    unfold md_
    rw [List.pairwise_append]
    refine ⟨hd, List.pairwise_singleton _ _, fun a ha b hb => ?_⟩
    rw [List.mem_singleton.mp hb]; exact h a ha
  · obtain ⟨j, e, hj⟩ := mfi_j c (by omega)
    obtain ⟨-, -, e1, e2⟩ := mfi_f M 0 j (by omega) e (by omega)
    rw [Nat.sub_zero] at e1 e2
    rw [trn_2 c e (by omega)]
    have pm := tk_p M j hj
    have hc := pm.countP_eq f
    rw [List.countP_cons, hf _ p e1 e2] at hc
    refine ⟨by rw [hc]; split <;> omega, ?_⟩
    unfold md_ at hd ⊢
    have := pm.pairwise hd (fun h z => h ⟨z.1.symm, z.2.symm⟩)
    exact (List.pairwise_cons.mp this).2
def b01_ (b : Bool) : Nat := if b = true then 1 else 0
/-- how often the place is an end, of n parts -/
def eq2_ (f : Nat → Bool) (sn : Nat → Nat) (P N : Nat) : Nat → Nat
  | 0 => 0
  | k + 1 => eq2_ f sn P N k + (if sn k < pe_ sn P N k then b01_ (f (sn k)) + b01_ (f (pe_ sn P N k - 1)) else 0)
theorem prM_2 {xs ys : Nat → Int32} {sn : Nat → Nat} {P N : Nat} {st : Nat → Int32} {f : Nat → Bool} (hf : ∀ i j, xs i = xs j → ys i = ys j → f i = f j) (h : sta_ sn P N st) (hN : N < 2 ^ 29) : ∀ k, k ≤ P → (prM_ 2 xs ys sn P N k).countP f % 2 = eq2_ f sn P N k % 2 ∧ md_ xs ys (prM_ 2 xs ys sn P N k)
  | 0, _ => ⟨rfl, List.Pairwise.nil⟩
  | k + 1, hk => by
    obtain ⟨i1, i2⟩ := prM_2 hf h hN k (by omega)
    have hl := (prL_ (kd := 2) (xs := xs) (ys := ys) h (k := k) (by omega) (by omega)).2.1
    have hs := (h.1 k (by omega)).2
    rw [prM_, eq2_]
    by_cases q : sn k < pe_ sn P N k
    · rw [if_pos q, if_pos q]
      unfold ppM_
      rw [if_neg (by decide), if_neg (by decide)]
      obtain ⟨a1, a2⟩ := trn_w (p := sn k) hf i2 (by omega)
      have l2 := trn_l (xs := xs) (ys := ys) (L := prM_ 2 xs ys sn P N k) (p := sn k)
      obtain ⟨b1, b2⟩ := trn_w (p := pe_ sn P N k - 1) hf a2 (by omega)
      refine ⟨?_, b2⟩
      unfold b01_
      omega
    · rw [if_neg q, if_neg q]; exact ⟨by omega, i2⟩
/-- at most one mark lies at a place -/
theorem md_1 {xs ys : Nat → Int32} {f : Nat → Bool} (hg : ∀ i j, f i = true → f j = true → xs i = xs j ∧ ys i = ys j) : ∀ M : List Nat, md_ xs ys M → (M.any f = true ↔ M.countP f % 2 = 1)
  | [], _ => by simp
  | p :: M, h => by
    obtain ⟨h1, h2⟩ := List.pairwise_cons.mp h
    rw [List.any_cons, List.countP_cons, Bool.or_eq_true, md_1 hg M h2]
    cases hp : f p
    · simp
    · have z : M.countP f = 0 := by
        rw [List.countP_eq_zero]; intro q hq hfq
        exact h1 q hq (hg p q hp hfq)
      rw [z]; simp
/-- the points of a shape of points -/
theorem prM_1 {xs ys : Nat → Int32} {sn : Nat → Nat} {P N : Nat} {st : Nat → Int32} (h : sta_ sn P N st) : ∀ k, k ≤ P → 0 < k → prM_ 1 xs ys sn P N k = List.range' 0 (bn_ sn P N k)
  | 0, _, h0 => absurd h0 (Nat.lt_irrefl _)
  | k + 1, hk, _ => by
    have e2 : bn_ sn P N k = sn k := by unfold bn_; rw [if_pos (by omega)]
    have e3 := bn_s (sn := sn) (P := P) (N := N) (k := k) (by omega)
    have hm := bn_m h (k := k) (by omega)
    have ih : prM_ 1 xs ys sn P N k = List.range' 0 (sn k) := by
      rcases Nat.eq_zero_or_pos k with q | q
      · subst q; rw [h.2.2 (by omega)]; rfl
      · rw [prM_1 h k (by omega) q, e2]
    rw [prM_, ih]
    by_cases q : sn k < pe_ sn P N k
    · rw [if_pos q]
      unfold ppM_
      rw [if_pos rfl, ← e3, show pe_ sn P N k - 1 + 1 - sn k = pe_ sn P N k - sn k by omega]
      have := List.range'_append_1 (s := 0) (m := sn k) (n := pe_ sn P N k - sn k)
      rw [Nat.zero_add, show sn k + (pe_ sn P N k - sn k) = pe_ sn P N k by omega] at this
      exact this
    · rw [if_neg q, ← e3, show pe_ sn P N k = sn k by omega]
theorem trn_x {xs ys xs' ys' : Nat → Int32} {M : List Nat} {p N : Nat} (he : ∀ i, i < N → xs i = xs' i ∧ ys i = ys' i) (hM : ∀ q ∈ M, q < N) (hp : p < N) : trn_ xs ys M p = trn_ xs' ys' M p := by
  have e : ∀ (M : List Nat) (i : Nat), (∀ q ∈ M, q < N) → mfi_ xs ys (xs p) (ys p) M i = mfi_ xs' ys' (xs' p) (ys' p) M i := by
    intro M
    induction M with
    | nil => intro i _; rfl
    | cons q M ih =>
      intro i h
      unfold mfi_
      rw [(he q (h q (List.mem_cons_self ..))).1, (he q (h q (List.mem_cons_self ..))).2, (he p hp).1, (he p hp).2]
      have := ih (i + 1) (fun z hz => h z (List.mem_cons_of_mem _ hz))
      rw [(he p hp).1, (he p hp).2] at this
      rw [this]
  unfold trn_; rw [e M 0 hM]
theorem prM_x {kd : Int32} {xs ys xs' ys' : Nat → Int32} {sn : Nat → Nat} {P N : Nat} {st : Nat → Int32} (h : sta_ sn P N st) (hN : N < 2 ^ 30) (he : ∀ i, i < N → xs i = xs' i ∧ ys i = ys' i) : ∀ k, k ≤ P → prM_ kd xs ys sn P N k = prM_ kd xs' ys' sn P N k
  | 0, _ => rfl
  | k + 1, hk => by
    have hq := (prL_ (kd := kd) (xs := xs) (ys := ys) h (k := k) (by omega) hN).2.2
    have hp : pe_ sn P N k ≤ N := pe_n h
    have ih := prM_x (kd := kd) h hN he k (by omega)
    rw [prM_, prM_]
    split
    · unfold ppM_
      split
      · rw [ih]
      · split
        · exact ih
        · have e1 := trn_x he hq (p := sn k) (by omega)
          have e2 := trn_x he (M := trn_ xs ys (prM_ kd xs ys sn P N k) (sn k)) (p := pe_ sn P N k - 1) (trn_q hq (by omega)) (by omega)
          rw [e2, e1, ih]
    · exact ih
