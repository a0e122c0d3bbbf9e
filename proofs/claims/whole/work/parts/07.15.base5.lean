/-- the cuts so far: their rows, in the order of their coming -/
def cul_ (ov un : Nat → Int64) (sg od : Nat → Int32) (L : List (Int64 × Int64 × Int32)) : Prop := ∀ i, i < L.length → ov i = (L.getD i (0, 0, 0)).1 ∧ un i = (L.getD i (0, 0, 0)).2.1 ∧ sg i = (L.getD i (0, 0, 0)).2.2 ∧ od i = nI i
theorem cul_a {ov un : Nat → Int64} {sg od : Nat → Int32} {ov2 un2 : Nat → Int64} {sg2 od2 : Nat → Int32} {L : List (Int64 × Int64 × Int32)} {o d : Int64} {sn : Int32} (h : cul_ ov un sg od L)
    (hw : (∀ i, i < L.length → ov2 i = ov i ∧ un2 i = un i ∧ sg2 i = sg i ∧ od2 i = od i) ∧ ov2 L.length = o ∧ un2 L.length = d ∧ sg2 L.length = sn ∧ od2 L.length = nI L.length) : cul_ ov2 un2 sg2 od2 (L ++ [(o, d, sn)]) := by
  intro i hi
  rw [List.length_append, List.length_singleton] at hi
  rcases Nat.lt_or_ge i L.length with q | q
  · have e : (L ++ [(o, d, sn)]).getD i (0, 0, 0) = L.getD i (0, 0, 0) := by simp [List.getD, List.getElem?_append_left q]
    obtain ⟨a, b, c, d⟩ := hw.1 i q
    obtain ⟨a', b', c', d'⟩ := h i q
    rw [e, a, b, c, d]; exact ⟨a', b', c', d'⟩
  · have e : i = L.length := by omega
    subst e
    have e : (L ++ [(o, d, sn)]).getD L.length (0, 0, 0) = (o, d, sn) := by simp [List.getD]
    rw [e]; exact hw.2
/-- the room behind n more cuts -/
def dbn_ (cap k : Nat) : Nat → Nat
  | 0 => cap
  | n + 1 => gcap_ (k + n) (dbn_ cap k n)
theorem gc_m {k cap : Nat} (h : k = cap) (h16 : 16 ≤ cap) : 5 ≤ gcap_ k cap - cap ∧ 10 * cap ≤ 10 * (gcap_ k cap - cap) := by unfold gcap_; rw [if_pos h]; omega
theorem gc_l {k cap : Nat} : cap ≤ gcap_ k cap := by unfold gcap_; split <;> omega
theorem gc_k {k cap : Nat} (h : k ≤ cap) (h0 : 0 < cap) : k + 1 ≤ gcap_ k cap := by unfold gcap_; split <;> omega
theorem gc_u {k cap B : Nat} (h : cap ≤ B) (h2 : 2 * k ≤ B) : gcap_ k cap ≤ B := by unfold gcap_; split <;> omega
theorem dbn_l {cap k : Nat} : ∀ n, cap ≤ dbn_ cap k n
  | 0 => Nat.le_refl _
  | n + 1 => Nat.le_trans (dbn_l n) gc_l
theorem dbn_k {cap k : Nat} (h : k ≤ cap) (h0 : 0 < cap) : ∀ n, k + n ≤ dbn_ cap k n
  | 0 => h
  | n + 1 => by have := gc_k (dbn_k h h0 n) (Nat.lt_of_lt_of_le h0 (dbn_l n)); rw [dbn_]; omega
theorem dbn_u {cap k B : Nat} (h : cap ≤ B) : ∀ n, 2 * (k + n) ≤ B → dbn_ cap k n ≤ B
  | 0, _ => h
  | n + 1, h2 => gc_u (dbn_u h n (by omega)) (by omega)
theorem dbn_a {cap k n : Nat} : ∀ m, dbn_ cap k (n + m) = dbn_ (dbn_ cap k n) (k + n) m
  | 0 => rfl
  | m + 1 => by rw [← Nat.add_assoc, dbn_, dbn_, dbn_a m, Nat.add_assoc]
def cat_ (tu : Int32) (o : Int64) (t : Int32) : Int32 := if 0 < o then tu ^^^ t else tu
def cac_ (ks : Int32) (o d : Int64) (t : Int32) : List (Int64 × Int64 × Int32) := if 0 ≤ o ∧ o ≤ d then [(o, d, (ks ||| 1) ||| (if 0 < o then t else 0))] else []
theorem cat0_ {o : Int64} (c : ¬ lg_cmp o 0 ≤ 0) : 0 < o := Int64.not_le.mp (fun h => c ((lg_cmp_le _ _).mpr h))
theorem cat9_ {o : Int64} (c : lg_cmp o 0 ≤ 0) : ¬ 0 < o := Int64.not_lt.mpr ((lg_cmp_le _ _).mp c)
theorem cat1_ {tu t : Int32} {o : Int64} (c : ¬ lg_cmp o 0 ≤ 0) : tu ^^^ t = cat_ tu o t := by unfold cat_; rw [if_pos (cat0_ c)]
theorem cat2_ {tu t : Int32} {o : Int64} (c : lg_cmp o 0 ≤ 0) : tu = cat_ tu o t := by unfold cat_; rw [if_neg (cat9_ c)]
theorem cac1_ {ks t : Int32} {o d : Int64} (c : lg_cmp o 0 < 0) : cac_ ks o d t = [] := by unfold cac_; rw [if_neg (fun h => Int64.not_le.mpr ((lg_cmp_lt _ _).mp c) h.1)]
theorem cac2_ {ks t : Int32} {o d : Int64} (c : 0 < lg_cmp o d) : cac_ ks o d t = [] := by unfold cac_; rw [if_neg (fun h => Int64.not_le.mpr ((lg_cmp_gt _ _).mp c) h.2)]
theorem cac3_ {ks t x : Int32} {o d : Int64} (c : ¬ lg_cmp o 0 < 0) (c2 : ¬ 0 < lg_cmp o d) (h : (if 0 < o then t else 0) = x) : cac_ ks o d t = [(o, d, (ks ||| 1) ||| x)] := by
  unfold cac_; rw [if_pos ⟨Int64.not_lt.mp (fun h => c ((lg_cmp_lt _ _).mpr h)), Int64.not_lt.mp (fun h => c2 ((lg_cmp_gt _ _).mpr h))⟩, h]
def cfr_ (a b : Int64) : Int64 := if 0 < (if b < a then b else a) then (if b < a then b else a) else 0
def cto_ (a b s : Int64) : Int64 := if s < (if b < a then a else b) then s else (if b < a then a else b)
def cov_ (ks : Int32) (a b s : Int64) : List (Int64 × Int64 × Int32) := if cfr_ a b ≤ cto_ a b s then [(cfr_ a b, s, (ks ||| 1) ||| 4), (cto_ a b s, s, (ks ||| 1) ||| 8)] else []
theorem cov1_ {ks : Int32} {a b s : Int64} (c : 0 < lg_cmp (cfr_ a b) (cto_ a b s)) : cov_ ks a b s = [] := by unfold cov_; rw [if_neg (Int64.not_le.mpr ((lg_cmp_gt _ _).mp c))]
theorem cov2_ {ks : Int32} {a b s : Int64} (c : ¬ 0 < lg_cmp (cfr_ a b) (cto_ a b s)) : cov_ ks a b s = [(cfr_ a b, s, (ks ||| 1) ||| 4), (cto_ a b s, s, (ks ||| 1) ||| 8)] := by unfold cov_; rw [if_pos (Int64.not_lt.mp (fun h => c ((lg_cmp_gt _ _).mpr h)))]
def cmk_ (ks : Int32) (s0 a s : Int64) : List (Int64 × Int64 × Int32) := if s0 = 0 ∧ 0 ≤ a ∧ a ≤ s then [(a, s, ks ||| 2)] else []
section
variable {ks : Int32} {s0 a s : Int64}
theorem cmk0_ (c : ¬ lg_cmp s0 0 = 0) : cmk_ ks s0 a s = [] := by unfold cmk_; rw [if_neg (fun h => c ((lg_cmp_eq _ _).mpr h.1))]
theorem cmk1_ (c : lg_cmp a 0 < 0) : cmk_ ks s0 a s = [] := by unfold cmk_; rw [if_neg (fun h => Int64.not_le.mpr ((lg_cmp_lt _ _).mp c) h.2.1)]
theorem cmk2_ (c : 0 < lg_cmp a s) : cmk_ ks s0 a s = [] := by unfold cmk_; rw [if_neg (fun h => Int64.not_le.mpr ((lg_cmp_gt _ _).mp c) h.2.2)]
theorem cmk3_ (c : lg_cmp s0 0 = 0) (c1 : ¬ lg_cmp a 0 < 0) (c2 : ¬ 0 < lg_cmp a s) : cmk_ ks s0 a s = [(a, s, ks ||| 2)] := by
  unfold cmk_; rw [if_pos ⟨(lg_cmp_eq _ _).mp c, Int64.not_lt.mp (fun h => c1 ((lg_cmp_lt _ _).mpr h)), Int64.not_lt.mp (fun h => c2 ((lg_cmp_gt _ _).mpr h))⟩]
end
def tl_ (a b : Int64) : Int32 := if bo_ (0 < a) = bo_ (0 < b) then 0 else 1
def tr_ (a b : Int64) : Int32 := if bo_ (a < 0) = bo_ (b < 0) then 0 else 1
def tns_ (a b : Int64) : Int32 := (if tl_ a b = 0 then 0 else 16) ||| (if tr_ a b = 0 then 0 else 32)
def ovr_ (a b o : Int64) : Int64 := if b - a < 0 then -o else o
def und_ (a b : Int64) : Int64 := if 0 < b - a then b - a else -(b - a)
def cbs_ (ks : Int32) (a b o x y s : Int64) : List (Int64 × Int64 × Int32) := if tl_ a b = 0 ∧ tr_ a b = 0 then (if a = 0 then cov_ ks x y s else []) else cac_ ks (ovr_ a b o) (und_ a b) (tns_ a b)
def cbt_ (tu : Int32) (a b o : Int64) : Int32 := if tl_ a b = 0 ∧ tr_ a b = 0 then tu else cat_ tu (ovr_ a b o) (tns_ a b)
