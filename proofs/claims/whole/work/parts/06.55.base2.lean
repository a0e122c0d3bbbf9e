def sos_ (xs ys : Nat → Int32) (t h : Nat) (x y : Int32) : Int64 := ((xs h).toInt64 - (xs t).toInt64) * (y.toInt64 - (ys t).toInt64) - ((ys h).toInt64 - (ys t).toInt64) * (x.toInt64 - (xs t).toInt64)
def mi_ (a b : Int32) : Int32 := if b < a then b else a
def mx_ (a b : Int32) : Int32 := if a < b then b else a
def inb_ (xs ys : Nat → Int32) (t h : Nat) (x y : Int32) : Int32 := if mi_ (xs t) (xs h) ≤ x ∧ x ≤ mx_ (xs t) (xs h) ∧ mi_ (ys t) (ys h) ≤ y ∧ y ≤ mx_ (ys t) (ys h) then 1 else 0
section
variable {xs ys : Nat → Int32} {t h : Nat} {x y : Int32}
theorem inb1_ (c : x < mi_ (xs t) (xs h)) : 0 = inb_ xs ys t h x y := by unfold inb_; rw [if_neg (fun q => Int32.not_le.mpr c q.1)]
theorem inb2_ (c : mx_ (xs t) (xs h) < x) : 0 = inb_ xs ys t h x y := by unfold inb_; rw [if_neg (fun q => Int32.not_le.mpr c q.2.1)]
theorem inb3_ (c : y < mi_ (ys t) (ys h)) : 0 = inb_ xs ys t h x y := by unfold inb_; rw [if_neg (fun q => Int32.not_le.mpr c q.2.2.1)]
theorem inb4_ (c : mx_ (ys t) (ys h) < y) : 0 = inb_ xs ys t h x y := by unfold inb_; rw [if_neg (fun q => Int32.not_le.mpr c q.2.2.2)]
theorem inb5_ (c1 : ¬ x < mi_ (xs t) (xs h)) (c2 : ¬ mx_ (xs t) (xs h) < x) (c3 : ¬ y < mi_ (ys t) (ys h)) (c4 : ¬ mx_ (ys t) (ys h) < y) : 1 = inb_ xs ys t h x y := by
  unfold inb_; rw [if_pos ⟨Int32.not_lt.mp c1, Int32.not_lt.mp c2, Int32.not_lt.mp c3, Int32.not_lt.mp c4⟩]
end
/-- a row's first cells hold the numbers of a list -/
def al_ (f : Nat → Int32) (L : List Nat) : Prop := ∀ i, i < L.length → f i = nI (L.getD i 0)
theorem al_1 {α : Type} {L : List α} {p : α} : nI (L ++ [p]).length = nI L.length + 1 := by rw [List.length_append]; exact (nI_1 _).symm
theorem al_p {f : Nat → Int32} {L : List Nat} {p : Nat} (h : al_ f L) : al_ (upd f L.length (nI p)) (L ++ [p]) := by
  intro i hi
  rw [List.length_append, List.length_singleton] at hi
  rcases Nat.lt_or_ge i L.length with q | q
  · rw [pk_un (by omega), h i q]; simp [List.getD, List.getElem?_append_left q]
  · have e : i = L.length := by omega
    subst e; rw [pk_us]; simp [List.getD]
theorem al_m {L : List Nat} {i : Nat} (h : i < L.length) : L.getD i 0 ∈ L := by
  simp [List.getD, List.getElem?_eq_getElem h]
theorem al_s {f : Nat → Int32} {L : List Nat} {j : Nat} (h : al_ f L) (hj : j < L.length) : al_ (upd f j (nI (L.getD (L.length - 1) 0))) ((L.set j (L.getD (L.length - 1) 0)).take (L.length - 1)) := by
  intro i hi
  rw [List.length_take, List.length_set] at hi
  have e : ((L.set j (L.getD (L.length - 1) 0)).take (L.length - 1)).getD i 0 = (L.set j (L.getD (L.length - 1) 0)).getD i 0 := by
    simp only [List.getD, List.getElem?_take]; rw [if_pos (by omega)]
  rw [e]
  by_cases q : i = j
  · subst q; rw [pk_us]; simp [List.getD, List.getElem?_set, hj]
  · rw [pk_un q, h i (by omega)]; simp only [List.getD, List.getElem?_set, if_neg (fun z : j = i => q z.symm)]
def mfi_ (xs ys : Nat → Int32) (x y : Int32) : List Nat → Nat → Int32
  | [], _ => -1
  | p :: M, i => if xs p = x ∧ ys p = y then nI i else mfi_ xs ys x y M (i + 1)
section
variable {xs ys : Nat → Int32} {x y : Int32}
theorem mfi_s {L : List Nat} {i : Nat} (h : i < L.length) : mfi_ xs ys x y (L.drop i) i = if xs (L.getD i 0) = x ∧ ys (L.getD i 0) = y then nI i else mfi_ xs ys x y (L.drop (i + 1)) (i + 1) := by
  rw [List.drop_eq_getElem_cons h]
  have e : L[i] = L.getD i 0 := by simp [List.getD, List.getElem?_eq_getElem h]
  rw [e]; rfl
theorem mfi_j0 : ∀ (L : List Nat) (i : Nat), ¬ mfi_ xs ys x y L i = -1 → ∃ j, mfi_ xs ys x y L i = nI j ∧ i ≤ j ∧ j < i + L.length
  | [], i, h => absurd rfl h
  | p :: M, i, h => by
    unfold mfi_ at h ⊢
    by_cases c : xs p = x ∧ ys p = y
    · rw [if_pos c]; exact ⟨i, rfl, Nat.le_refl _, by simp⟩
    · rw [if_neg c] at h ⊢
      obtain ⟨j, e, h1, h2⟩ := mfi_j0 M (i + 1) h
      exact ⟨j, e, by omega, by rw [List.length_cons]; omega⟩
theorem mfi_j {L : List Nat} (h : ¬ mfi_ xs ys x y L 0 = -1) (hL : L.length < 2 ^ 31) : ∃ j, mfi_ xs ys x y L 0 = nI j ∧ j < L.length := by
  obtain ⟨j, e, -, h2⟩ := mfi_j0 L 0 h
  exact ⟨j, e, by omega⟩
end
def trn_ (xs ys : Nat → Int32) (L : List Nat) (p : Nat) : List Nat :=
  if mfi_ xs ys (xs p) (ys p) L 0 = -1 then L ++ [p] else (L.set (mfi_ xs ys (xs p) (ys p) L 0).toNatClampNeg (L.getD (L.length - 1) 0)).take (L.length - 1)
theorem trn_1 {xs ys : Nat → Int32} {L : List Nat} {p : Nat} (h : mfi_ xs ys (xs p) (ys p) L 0 = -1) : trn_ xs ys L p = L ++ [p] := by unfold trn_; rw [if_pos h]
theorem trn_2 {xs ys : Nat → Int32} {L : List Nat} {p j : Nat} (h : ¬ mfi_ xs ys (xs p) (ys p) L 0 = -1) (e : mfi_ xs ys (xs p) (ys p) L 0 = nI j) (hj : j < 2 ^ 31) : trn_ xs ys L p = (L.set j (L.getD (L.length - 1) 0)).take (L.length - 1) := by
  unfold trn_; rw [if_neg h, e, nI_clamp hj]
def sl_ (ta he : Nat → Int32) (S : List (Nat × Nat)) : Prop := ∀ i, i < S.length → ta i = nI (S.getD i (0, 0)).1 ∧ he i = nI (S.getD i (0, 0)).2
theorem sl_p {ta he : Nat → Int32} {S : List (Nat × Nat)} {t h : Nat} (hs : sl_ ta he S) : sl_ (upd ta S.length (nI t)) (upd he S.length (nI h)) (S ++ [(t, h)]) := by
  intro i hi
  rw [List.length_append, List.length_singleton] at hi
  rcases Nat.lt_or_ge i S.length with q | q
  · rw [pk_un (by omega), pk_un (by omega), (hs i q).1, (hs i q).2]; simp [List.getD, List.getElem?_append_left q]
  · have e : i = S.length := by omega
    subst e; rw [pk_us, pk_us]; simp [List.getD]
theorem sl_m {S : List (Nat × Nat)} {i : Nat} (h : i < S.length) : S.getD i (0, 0) ∈ S := by
  simp [List.getD, List.getElem?_eq_getElem h]
def sgs_ (xs ys : Nat → Int32) (S : List (Nat × Nat)) (t h : Nat) : List (Nat × Nat) := if xs t = xs h ∧ ys t = ys h then S else S ++ [(t, h)]
def bo_ (c : Prop) [Decidable c] : Int32 := if c then 1 else 0
theorem bo_t {c : Prop} [Decidable c] (h : c) : 1 = bo_ c := by unfold bo_; rw [if_pos h]
theorem bo_f {c : Prop} [Decidable c] (h : ¬ c) : 0 = bo_ c := by unfold bo_; rw [if_neg h]
/-- the crossing turns the parity -/
def tog_ (r1 r2 r3 b : Int32) : Int32 := if r1 = r2 then b else if r1 = r3 then (if b = 0 then 1 else 0) else b
theorem tog1_ {r1 r2 r3 b : Int32} (h : r1 = r2) : tog_ r1 r2 r3 b = b := by unfold tog_; rw [if_pos h]
theorem tog2_ {r1 r2 r3 b : Int32} (h : ¬ r1 = r3) : tog_ r1 r2 r3 b = b := by unfold tog_; rw [if_neg h]; split <;> rfl
theorem tog3_ {r1 r2 r3 b : Int32} (h : ¬ r1 = r2) (h2 : r1 = r3) (h3 : ¬ b = 0) : tog_ r1 r2 r3 b = 0 := by unfold tog_; rw [if_neg h, if_pos h2, if_neg h3]
theorem tog4_ {r1 r2 r3 b : Int32} (h : ¬ r1 = r2) (h2 : r1 = r3) (h3 : b = 0) : tog_ r1 r2 r3 b = 1 := by unfold tog_; rw [if_neg h, if_pos h2, if_pos h3]
def wis_ (kd : Int32) (xs ys : Nat → Int32) (x y : Int32) : List (Nat × Nat) → Int32 → Int32
  | [], b => pof_ kd b
  | q :: S, b => if sos_ xs ys q.1 q.2 x y = 0 ∧ ¬ inb_ xs ys q.1 q.2 x y = 0 then pos_ kd else wis_ kd xs ys x y S (tog_ (bo_ (y < ys q.2)) (bo_ (y < ys q.1)) (bo_ (0 < sos_ xs ys q.1 q.2 x y)) b)
theorem wis_s {kd : Int32} {xs ys : Nat → Int32} {x y b : Int32} {S : List (Nat × Nat)} {i : Nat} (h : i < S.length) :
    wis_ kd xs ys x y (S.drop i) b = if sos_ xs ys (S.getD i (0, 0)).1 (S.getD i (0, 0)).2 x y = 0 ∧ ¬ inb_ xs ys (S.getD i (0, 0)).1 (S.getD i (0, 0)).2 x y = 0 then pos_ kd else wis_ kd xs ys x y (S.drop (i + 1)) (tog_ (bo_ (y < ys (S.getD i (0, 0)).2)) (bo_ (y < ys (S.getD i (0, 0)).1)) (bo_ (0 < sos_ xs ys (S.getD i (0, 0)).1 (S.getD i (0, 0)).2 x y)) b) := by
  rw [List.drop_eq_getElem_cons h]
  have e : S[i] = S.getD i (0, 0) := by simp [List.getD, List.getElem?_eq_getElem h]
  rw [e]; rfl
def whs_ (kd : Int32) (xs ys : Nat → Int32) (S : List (Nat × Nat)) (M : List Nat) (x y : Int32) : Int32 := if mfi_ xs ys x y M 0 = -1 then wis_ kd xs ys x y S 0 else pom_ kd
def mr_ (ct cx : Nat) : Nat := if ct < cx then cx else ct
theorem rg_s {L : List Nat} {a i : Nat} (h : a ≤ i) : (L ++ List.range' a (i - a)) ++ [i] = L ++ List.range' a (i + 1 - a) := by
  rw [List.append_assoc]
  have e : i + 1 - a = (i - a) + 1 := by omega
  rw [e, List.range'_concat]
  have e2 : a + 1 * (i - a) = i := by omega
  rw [e2]
/-- the segments from each of n points, from a on, to the next -/
def psg_ (xs ys : Nat → Int32) (S : List (Nat × Nat)) (a : Nat) : Nat → List (Nat × Nat)
  | 0 => S
  | n + 1 => sgs_ xs ys (psg_ xs ys S a n) (a + n) (a + n + 1)
theorem psg_s {xs ys : Nat → Int32} {S : List (Nat × Nat)} {a i : Nat} (h : a ≤ i) : sgs_ xs ys (psg_ xs ys S a (i - a)) i (i + 1) = psg_ xs ys S a (i + 1 - a) := by
  have e : i + 1 - a = (i - a) + 1 := by omega
  have e2 : a + (i - a) = i := by omega
  rw [e, psg_, e2]
theorem sgs_l {xs ys : Nat → Int32} {S : List (Nat × Nat)} {t h n : Nat} (hl : S.length + 1 ≤ n) : (sgs_ xs ys S t h).length ≤ n := by
  unfold sgs_; split
  · omega
  · rw [List.length_append, List.length_singleton]; omega
theorem trn_l {xs ys : Nat → Int32} {L : List Nat} {p : Nat} : (trn_ xs ys L p).length ≤ L.length + 1 := by
  unfold trn_; split
  · rw [List.length_append, List.length_singleton]; omega
  · rw [List.length_take, List.length_set]; omega
theorem trn_q {xs ys : Nat → Int32} {L : List Nat} {p n : Nat} (h : ∀ q ∈ L, q < n) (hp : p < n) : ∀ q ∈ trn_ xs ys L p, q < n := by
  unfold trn_; split
  · intro q hq; rcases List.mem_append.mp hq with z | z
    · exact h q z
    · rw [List.mem_singleton.mp z]; exact hp
  · intro q hq
    have hq := List.mem_of_mem_take hq
    rcases List.mem_or_eq_of_mem_set hq with z | z
    · exact h q z
    · rw [z]
      rcases Nat.lt_or_ge (L.length - 1) L.length with k | k
      · exact h _ (al_m k)
      · have : L = [] := List.eq_nil_of_length_eq_zero (by omega)
        subst this; simp at hq
theorem mfi_a {xs ys : Nat → Int32} {x y : Int32} : ∀ (L : List Nat) (i p : Nat), i + L.length < 2 ^ 31 → xs p = x ∧ ys p = y → ¬ mfi_ xs ys x y (L ++ [p]) i = -1
  | [], i, p, hi, h => by
    rw [List.nil_append]; unfold mfi_; rw [if_pos h]
    intro e; have := congrArg Int32.toInt e; rw [nI_toInt (by simpa using hi)] at this; simp at this
  | q :: M, i, p, hi, h => by
    rw [List.cons_append]; unfold mfi_; split
    · intro e; have := congrArg Int32.toInt e; rw [nI_toInt (by rw [List.length_cons] at hi; omega)] at this; simp at this
    · exact mfi_a M (i + 1) p (by rw [List.length_cons] at hi; omega) h
/-- a turn behind a turn: there is room -/
theorem trn_r {xs ys : Nat → Int32} {L : List Nat} {a z ct : Nat} (hq : mfi_ xs ys (xs z) (ys z) (trn_ xs ys L a) 0 = -1) (hL : L.length ≤ a) (ha : a ≤ z) (hz : z < ct ∧ ct < 100000) : (trn_ xs ys L a).length < ct := by
  rcases Nat.lt_or_ge a z with k | k
  · have := trn_l (xs := xs) (ys := ys) (L := L) (p := a); omega
  · have e : a = z := by omega
    subst e
    by_cases c : mfi_ xs ys (xs a) (ys a) L 0 = -1
    · rw [trn_1 c] at hq; exact absurd hq (mfi_a L 0 a (by omega) ⟨rfl, rfl⟩)
    · unfold trn_; rw [if_neg c, List.length_take, List.length_set]; omega
def ppS_ (kd : Int32) (xs ys : Nat → Int32) (S : List (Nat × Nat)) (a z : Nat) : List (Nat × Nat) := if kd = 1 then S else if kd = 3 then sgs_ xs ys (psg_ xs ys S a (z - a)) z a else psg_ xs ys S a (z - a)
def ppM_ (kd : Int32) (xs ys : Nat → Int32) (M : List Nat) (a z : Nat) : List Nat := if kd = 1 then M ++ List.range' a (z + 1 - a) else if kd = 3 then M else trn_ xs ys (trn_ xs ys M a) z
