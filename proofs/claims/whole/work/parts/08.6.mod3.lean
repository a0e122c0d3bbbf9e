/-- the reference's segments: from, to, whose -/
def ml3_ (fr to1 wh : Nat → Int32) (L : List (Nat × Nat × Nat)) : Prop := ∀ i, i < L.length → fr i = nI (L.getD i (0, 0, 0)).1 ∧ to1 i = nI (L.getD i (0, 0, 0)).2.1 ∧ wh i = nI (L.getD i (0, 0, 0)).2.2
theorem m3_m {L : List (Nat × Nat × Nat)} {i : Nat} (h : i < L.length) : L.getD i (0, 0, 0) ∈ L := by simp [List.getD, List.getElem?_eq_getElem h]
theorem m3_t {L : List (Nat × Nat × Nat)} {i : Nat} (h : i < L.length) : L.take (i + 1) = L.take i ++ [L.getD i (0, 0, 0)] := by
  rw [List.take_succ]; simp [List.getD, List.getElem?_eq_getElem h]
def cF_ (xs ys : Nat → Int32) (x0 y0 dx dy : Int64) (N D : Int) (s : Nat) (q : Nat × Nat × Nat) : Bool := decide (q.2.2 = s ∧ iso_ xs ys x0 y0 dx dy N D q.1 q.2.1 = 0 ∧ ¬ crx_ xs ys x0 y0 dx dy N D q.1 q.2.1 = 0)
def hF_ (xs ys : Nat → Int32) (x0 y0 dx dy : Int64) (N D : Int) (s : Nat) (q : Nat × Nat × Nat) : Bool := decide (q.2.2 = s ∧ ¬ iso_ xs ys x0 y0 dx dy N D q.1 q.2.1 = 0)
theorem ct_y {L : List (Nat × Nat × Nat)} {i : Nat} {f : Nat × Nat × Nat → Bool} (h : i < L.length) (hf : f (L.getD i (0, 0, 0)) = true) : nI ((L.take (i + 1)).countP f) = nI ((L.take i).countP f) + 1 := by
  rw [m3_t h, List.countP_append, List.countP_singleton, if_pos hf]; exact (nI_1 _).symm
theorem ct_n {L : List (Nat × Nat × Nat)} {i : Nat} {f : Nat × Nat × Nat → Bool} (h : i < L.length) (hf : ¬ f (L.getD i (0, 0, 0)) = true) : nI ((L.take (i + 1)).countP f) = nI ((L.take i).countP f) + 0 := by
  rw [m3_t h, List.countP_append, List.countP_singleton, if_neg hf, Int32.add_zero, Nat.add_zero]
theorem ct_l {L : List (Nat × Nat × Nat)} {f : Nat × Nat × Nat → Bool} {n : Nat} : (L.take n).countP f ≤ L.length := Nat.le_trans List.countP_le_length (by rw [List.length_take]; omega)
/-- one of n is 1 -/
def hp_ (f : Nat → Int32) : Nat → Int32
  | 0 => 0
  | n + 1 => if hp_ f n = 0 then f n else hp_ f n
theorem hp_m {f : Nat → Int32} {k : Nat} (h : ¬ hp_ f k = 0) : ∀ n, k ≤ n → hp_ f n = hp_ f k
  | 0, q => by rw [show k = 0 by omega]
  | n + 1, q => by
    rcases Nat.lt_or_ge n k with w | w
    · rw [show k = n + 1 by omega]
    · rw [hp_, hp_m h n w, if_neg h]
theorem hp_z {f : Nat → Int32} (hf : ∀ k, narrow .boolean (.int (f k)) = .int (f k)) : ∀ n, narrow .boolean (.int (hp_ f n)) = .int (hp_ f n)
  | 0 => by show narrow .boolean (.int 0) = .int 0; decide +kernel
  | n + 1 => by
    rw [hp_]; split
    · exact hf n
    · exact hp_z hf n
theorem isp_z {xs ys : Nat → Int32} {x0 y0 dx dy : Int64} {N D : Int} {p : Nat} : narrow .boolean (.int (isp_ xs ys x0 y0 dx dy N D p)) = .int (isp_ xs ys x0 y0 dx dy N D p) := by unfold isp_; split <;> decide +kernel
theorem isp_01 {xs ys : Nat → Int32} {x0 y0 dx dy : Int64} {N D : Int} {p : Nat} : isp_ xs ys x0 y0 dx dy N D p = 0 ∨ isp_ xs ys x0 y0 dx dy N D p = 1 := by
  unfold isp_; split
  · exact Or.inr rfl
  · exact Or.inl rfl
/-- the reference's numbers of both shapes -/
def mst_ (pt pa bg : Nat → Int32) (PT PA : Nat → Nat) (SN : Nat → Nat → Nat) : Prop :=
  ∀ s, s < 2 → pt s = nI (PT s) ∧ pa s = nI (PA s) ∧ PT s ≤ 2048 ∧ PA s ≤ 1024 ∧ (∀ p, p < PA s → bg (1025 * s + p) = nI (SN s p) ∧ SN s p ≤ PT s)
def ew_ (f : Nat → Int32) (b n : Nat) : Nat := (if f b = 0 then 0 else 1) + (if f n = 0 then 0 else 1)
/-- how often the place is an end -/
def en_ (f : Nat → Int32) (sn : Nat → Nat) (P N o : Nat) : Nat → Nat
  | 0 => 0
  | k + 1 => en_ f sn P N o k + (if sn k < pe_ sn P N k then ew_ f (o + sn k) (o + pe_ sn P N k - 1) else 0)
theorem en_l {f : Nat → Int32} {sn : Nat → Nat} {P N o : Nat} : ∀ k, en_ f sn P N o k ≤ 2 * k
  | 0 => Nat.le_refl _
  | k + 1 => by
    have := en_l (f := f) (sn := sn) (P := P) (N := N) (o := o) k
    rw [en_]; unfold ew_
    repeat' split
    all_goals omega
def whr_ (kd : Int32) (xs ys : Nat → Int32) (x0 y0 dx dy : Int64) (N D : Int) (L : List (Nat × Nat × Nat)) (s P n : Nat) (sn : Nat → Nat) : Int32 :=
  if kd = 1 then (if hp_ (fun k => isp_ xs ys x0 y0 dx dy N D (2048 * s + k)) n = 0 then 2 else 0)
  else if kd = 2 then (if en_ (isp_ xs ys x0 y0 dx dy N D) sn P n (2048 * s) P % 2 = 1 then 1 else if 0 < L.countP (hF_ xs ys x0 y0 dx dy N D s) then 0 else 2)
  else (if 0 < L.countP (hF_ xs ys x0 y0 dx dy N D s) then 1 else if L.countP (cF_ xs ys x0 y0 dx dy N D s) % 2 = 1 then 0 else 2)
theorem ew_i {f : Nat → Int32} {a b n : Nat} : nI (n + ew_ f a b) = nI n + ((if f a = 0 then (0 : Int32) else 1) + (if f b = 0 then (0 : Int32) else 1)) := by
  unfold ew_
  rw [← nI_add]; congr 1
  by_cases h1 : f a = 0 <;> by_cases h2 : f b = 0 <;> simp [h1, h2] <;> decide
