/-! merging the order of the cuts -/
def seg_ (f : Nat → Nat) (a b : Nat) : List Nat := (List.range' a (b - a)).map f
def cle_ (ov un : Nat → Int64) (i j : Nat) : Bool := decide (cpf_ (ov i) (un i) (ov j) (un j) ≤ 0)
theorem cle_n {ov un : Nat → Int64} {i j : Nat} (h : 0 < cpf_ (ov i) (un i) (ov j) (un j)) : ¬ cle_ ov un i j = true := by
  unfold cle_; simp only [decide_eq_true_eq]; exact Int32.not_le.mpr h
theorem cle_y {ov un : Nat → Int64} {i j : Nat} (h : ¬ 0 < cpf_ (ov i) (un i) (ov j) (un j)) : cle_ ov un i j = true := by
  unfold cle_; simp only [decide_eq_true_eq]; exact Int32.not_lt.mp h
theorem seg_0 {f : Nat → Nat} {a b : Nat} (h : b ≤ a) : seg_ f a b = [] := by unfold seg_; rw [Nat.sub_eq_zero_of_le h]; rfl
theorem seg_s {f : Nat → Nat} {a b : Nat} (h : a < b) : seg_ f a b = f a :: seg_ f (a + 1) b := by
  unfold seg_; rw [show b - a = (b - (a + 1)) + 1 by omega, List.range'_succ, List.map_cons]
theorem seg_l {f : Nat → Nat} {a b : Nat} : (seg_ f a b).length = b - a := by unfold seg_; rw [List.length_map, List.length_range']
theorem seg_g {f : Nat → Nat} {a b x : Nat} : x ∈ seg_ f a b ↔ ∃ i, a ≤ i ∧ i < b ∧ f i = x := by
  unfold seg_; rw [List.mem_map]
  constructor
  · rintro ⟨i, hi, e⟩; have := List.mem_range'_1.mp hi; exact ⟨i, this.1, by omega, e⟩
  · rintro ⟨i, h1, h2, e⟩; exact ⟨i, List.mem_range'_1.mpr ⟨h1, by omega⟩, e⟩
theorem seg_e {f g : Nat → Nat} {a b : Nat} (h : ∀ i, a ≤ i → i < b → f i = g i) : seg_ f a b = seg_ g a b := by
  unfold seg_; apply List.map_congr_left; intro i hi; have := List.mem_range'_1.mp hi; exact h i this.1 (by omega)
theorem seg_x {f : Nat → Nat} {a b c : Nat} (h1 : a ≤ b) (h2 : b ≤ c) : seg_ f a c = seg_ f a b ++ seg_ f b c := by
  unfold seg_; rw [← List.map_append]; congr 1
  rw [show c - a = (b - a) + (c - b) by omega, ← List.range'_append_1]; congr 2; omega
theorem seg_c {o : Nat → Nat} {a t x : Nat} (h : a ≤ t) : seg_ (va_up o t x) a (t + 1) = seg_ o a t ++ [x] := by
  rw [seg_x h (Nat.le_succ t), seg_s (Nat.lt_succ_self t), seg_0 (Nat.le_refl _), va_up_self]
  congr 1
  exact seg_e (fun i h1 h2 => va_up_ne _ _ (by omega))
section
variable {ov un : Nat → Int64} {oj : Nat → Nat} {lf b rt z : Nat}
theorem mg_l (h : lf < b) (h2 : rt < z → cle_ ov un (oj lf) (oj rt) = true) : (seg_ oj lf b).merge (seg_ oj rt z) (cle_ ov un) = oj lf :: (seg_ oj (lf + 1) b).merge (seg_ oj rt z) (cle_ ov un) := by
  rcases Nat.lt_or_ge rt z with q | q
  · rw [seg_s h, seg_s q, List.cons_merge_cons_pos _ _ _ (h2 q)]
  · rw [seg_0 q, List.merge_right, List.merge_right, seg_s h]
theorem mg_r (h : rt < z) (h2 : lf < b → ¬ cle_ ov un (oj lf) (oj rt) = true) : (seg_ oj lf b).merge (seg_ oj rt z) (cle_ ov un) = oj rt :: (seg_ oj lf b).merge (seg_ oj (rt + 1) z) (cle_ ov un) := by
  rcases Nat.lt_or_ge lf b with q | q
  · rw [seg_s q, seg_s h, List.cons_merge_cons_neg _ _ _ (h2 q)]
  · rw [seg_0 q, List.nil_merge, List.nil_merge, seg_s h]
theorem mg5_ {s1 : Nat → Int32} {o1 : Nat → Nat} {a t t2 x : Nat} (h : ∀ i, a ≤ i → i < t → s1 i = nI (o1 i)) (e : t2 = t + 1) : ∀ i, a ≤ i → i < t2 → upd s1 t (nI x) i = nI (va_up o1 t x i) := by
  intro i h1 h2
  by_cases q : i = t
  · subst q; rw [pk_us, va_up_self]
  · rw [pk_un q, va_up_ne _ _ q]; exact h i h1 (by omega)
theorem mg6_ {s1 sp : Nat → Int32} {a z t : Nat} {v : Int32} (h : ∀ i, ¬ (a ≤ i ∧ i < z) → s1 i = sp i) (ha : a ≤ t) (hz : t < z) : ∀ i, ¬ (a ≤ i ∧ i < z) → upd s1 t v i = sp i := by
  intro i hi; rw [pk_un (by omega)]; exact h i hi
theorem mg7_ {o1 : Nat → Nat} {a t t2 x : Nat} {M M2 F : List Nat} (ha : a ≤ t) (e : t2 = t + 1) (h : seg_ o1 a t ++ M = F) (hm : M = x :: M2) : seg_ (va_up o1 t x) a t2 ++ M2 = F := by
  subst e; rw [seg_c ha, ← h, hm, List.append_assoc]; rfl
end
def mn_ (a b : Nat) : Nat := min a b
theorem mnn_ {a b : Nat} (ha : a < 2 ^ 31) (hb : b < 2 ^ 31) : nI (mn_ a b) = if nI b < nI a then nI b else nI a := by
  unfold mn_
  by_cases q : b < a
  · rw [if_pos ((nI_ltI hb ha).mpr q), Nat.min_eq_right (by omega)]
  · rw [if_neg (fun h => q ((nI_ltI hb ha).mp h)), Nat.min_eq_left (by omega)]
/-- sorted within blocks of w -/
def blk_ (ov un : Nat → Int64) (j : Nat → Nat) (n w : Nat) : Prop := ∀ x y, x < y → y < n → x / w = y / w → cle_ ov un (j x) (j y) = true
theorem blk_1 {ov un : Nat → Int64} {j : Nat → Nat} {n : Nat} : blk_ ov un j n 1 := fun x y h _ e => by rw [Nat.div_one, Nat.div_one] at e; omega
theorem blk_0 {ov un : Nat → Int64} {j : Nat → Nat} {n w : Nat} (h : n = 0) : blk_ ov un j n w := fun x y _ hy _ => by omega
theorem blk_m {ov un : Nat → Int64} {j : Nat → Nat} {n w : Nat} (h : blk_ ov un j n w) (hw : n ≤ w) : blk_ ov un j n n := fun x y h1 h2 _ => h x y h1 h2 (by rw [Nat.div_eq_of_lt (by omega), Nat.div_eq_of_lt (by omega)])
def srj_ (j1 j2 : Nat → Nat) (x : Nat) : Nat → Nat := fun i => if i < x then j1 i else j2 i
theorem seg_pw {f : Nat → Nat} {a b : Nat} {r : Nat → Nat → Prop} : (seg_ f a b).Pairwise r ↔ ∀ x y, a ≤ x → x < y → y < b → r (f x) (f y) := by
  unfold seg_; rw [List.pairwise_map]
  constructor
  · intro h x y h1 h2 h3
    rw [List.pairwise_iff_getElem] at h
    have := h (x - a) (y - a) (by rw [List.length_range']; omega) (by rw [List.length_range']; omega) (by omega)
    simp only [List.getElem_range'] at this
    rw [show a + 1 * (x - a) = x by omega, show a + 1 * (y - a) = y by omega] at this
    exact this
  · intro h
    rw [List.pairwise_iff_getElem]
    intro i j hi hj hij
    rw [List.length_range'] at hi hj
    simp only [List.getElem_range']
    exact h _ _ (by omega) (by omega) (by omega)
/-- sorted lists merge to a sorted one, where the order is one on what they hold -/
theorem pw_merge {α : Type} {le : α → α → Bool} {p : α → Prop} (tr : ∀ a b c, p a → p b → p c → le a b = true → le b c = true → le a c = true) (to : ∀ a b, p a → p b → le a b = true ∨ le b a = true) :
    ∀ (l₁ l₂ : List α), (∀ x ∈ l₁, p x) → (∀ x ∈ l₂, p x) → l₁.Pairwise (fun a b => le a b = true) → l₂.Pairwise (fun a b => le a b = true) → (l₁.merge l₂ le).Pairwise (fun a b => le a b = true) := by
  intro l₁
  induction l₁ with
  | nil => intro l₂ _ _ _ h; rw [List.nil_merge]; exact h
  | cons x l₁ ih₁ =>
    intro l₂
    induction l₂ with
    | nil => intro _ _ h _; rw [List.merge_right]; exact h
    | cons y l₂ ih₂ =>
      intro p1 p2 h1 h2
      have px := p1 x List.mem_cons_self
      have py := p2 y List.mem_cons_self
      have h1' := List.pairwise_cons.mp h1
      have h2' := List.pairwise_cons.mp h2
      by_cases c : le x y = true
      · rw [List.cons_merge_cons_pos _ _ _ c]
        refine List.pairwise_cons.mpr ⟨fun w hw => ?_, ih₁ (y :: l₂) (fun w hw => p1 w (List.mem_cons_of_mem _ hw)) p2 h1'.2 h2⟩
        rcases List.mem_merge.mp hw with q | q
        · exact h1'.1 w q
        · rcases List.mem_cons.mp q with q | q
          · rw [q]; exact c
          · exact tr x y w px py (p2 w (List.mem_cons_of_mem _ q)) c (h2'.1 w q)
      · have c' : le y x = true := (to x y px py).resolve_left c
        rw [List.cons_merge_cons_neg _ _ _ c]
        refine List.pairwise_cons.mpr ⟨fun w hw => ?_, ih₂ p1 (fun w hw => p2 w (List.mem_cons_of_mem _ hw)) h1 h2'.2⟩
        rcases List.mem_merge.mp hw with q | q
        · rcases List.mem_cons.mp q with q | q
          · rw [q]; exact c'
          · exact tr y x w py px (p1 w (List.mem_cons_of_mem _ q)) c' (h1'.1 w q)
        · exact h2'.1 w q
theorem srt_ {ov un : Nat → Int64} {n wd x1 : Nat} {o0 s1 s2 : Nat → Int32} {j0 j1 j2 : Nat → Nat}
    (htr : ∀ a b c, a < n → b < n → c < n → cle_ ov un a b = true → cle_ ov un b c = true → cle_ ov un a c = true) (hto : ∀ a b, a < n → b < n → cle_ ov un a b = true ∨ cle_ ov un b a = true)
    (i1 : 1 ≤ wd) (e1 : wd < n) (e2 : x1 < n) (jb : x1 % (2 * wd) = 0) (i3 : ∀ i, i < n → o0 i = nI (j0 i) ∧ j0 i < n) (i5 : blk_ ov un j0 n wd)
    (jc : ∀ i, i < x1 → i < n → s1 i = nI (j1 i) ∧ j1 i < n) (jd : (seg_ j1 0 (mn_ x1 n)).Perm (seg_ j0 0 (mn_ x1 n))) (je : blk_ ov un j1 (mn_ x1 n) (2 * wd))
    (hw : (∀ i, x1 ≤ i → i < mn_ (x1 + 2 * wd) n → s2 i = nI (j2 i)) ∧ (∀ i, ¬ (x1 ≤ i ∧ i < mn_ (x1 + 2 * wd) n) → s2 i = s1 i) ∧ seg_ j2 x1 (mn_ (x1 + 2 * wd) n) = (seg_ j0 x1 (mn_ (x1 + wd) n)).merge (seg_ j0 (mn_ (x1 + wd) n) (mn_ (x1 + 2 * wd) n)) (cle_ ov un)) :
    (∀ i, i < x1 + 2 * wd → i < n → s2 i = nI (srj_ j1 j2 x1 i) ∧ srj_ j1 j2 x1 i < n) ∧ (seg_ (srj_ j1 j2 x1) 0 (mn_ (x1 + 2 * wd) n)).Perm (seg_ j0 0 (mn_ (x1 + 2 * wd) n)) ∧ blk_ ov un (srj_ j1 j2 x1) (mn_ (x1 + 2 * wd) n) (2 * wd) := by
  obtain ⟨w1, w2, w3⟩ := hw
  have em : mn_ x1 n = x1 := by unfold mn_; omega
  rw [em] at jd je
  obtain ⟨z, ez⟩ : ∃ z, z = mn_ (x1 + 2 * wd) n := ⟨_, rfl⟩
  obtain ⟨y, ey⟩ : ∃ y, y = mn_ (x1 + wd) n := ⟨_, rfl⟩
  rw [← ez, ← ey] at w3
  rw [← ez] at w1 w2 ⊢
  have hy : x1 ≤ y ∧ y ≤ z ∧ z ≤ n ∧ z ≤ x1 + 2 * wd ∧ y ≤ x1 + wd ∧ (y < z → y = x1 + wd) ∧ (z < x1 + 2 * wd → z = n) := by rw [ey, ez]; unfold mn_; omega
  have hmem : ∀ x ∈ seg_ j2 x1 z, x < n := by
    intro x hx
    rw [w3] at hx
    rcases List.mem_merge.mp hx with q | q
    · obtain ⟨i, h1, h2, e⟩ := seg_g.mp q; rw [← e]; exact (i3 i (by omega)).2
    · obtain ⟨i, h1, h2, e⟩ := seg_g.mp q; rw [← e]; exact (i3 i (by omega)).2
  have hp : (seg_ j2 x1 z).Perm (seg_ j0 x1 z) := by
    rw [w3, seg_x hy.1 hy.2.1]; exact List.merge_perm_append _
  have hsrt : (seg_ j2 x1 z).Pairwise (fun a b => cle_ ov un a b = true) := by
    rw [w3]
    refine pw_merge (p := fun x => x < n) htr hto _ _ ?_ ?_ ?_ ?_
    · intro x hx; obtain ⟨i, h1, h2, e⟩ := seg_g.mp hx; rw [← e]; exact (i3 i (by omega)).2
    · intro x hx; obtain ⟨i, h1, h2, e⟩ := seg_g.mp hx; rw [← e]; exact (i3 i (by omega)).2
    · refine seg_pw.mpr (fun a b h1 h2 h3 => i5 a b h2 (by omega) ?_)
      have d : x1 = 2 * wd * (x1 / (2 * wd)) := by have := Nat.div_add_mod x1 (2 * wd); omega
      have m0 : 2 * (x1 / (2 * wd)) * wd = 2 * wd * (x1 / (2 * wd)) := by simp [Nat.mul_comm, Nat.mul_assoc, Nat.mul_left_comm]
      have a1 : a / wd = 2 * (x1 / (2 * wd)) := by rw [Nat.div_eq_iff (by omega)]; constructor <;> omega
      have b1 : b / wd = 2 * (x1 / (2 * wd)) := by rw [Nat.div_eq_iff (by omega)]; constructor <;> omega
      rw [a1, b1]
    · refine seg_pw.mpr (fun a b h1 h2 h3 => i5 a b h2 (by omega) ?_)
      have hyy : y = x1 + wd := hy.2.2.2.2.2.1 (by omega)
      have d : x1 = 2 * wd * (x1 / (2 * wd)) := by have := Nat.div_add_mod x1 (2 * wd); omega
      have m1 : (2 * (x1 / (2 * wd)) + 1) * wd = 2 * wd * (x1 / (2 * wd)) + wd := by rw [Nat.add_mul]; simp [Nat.mul_comm, Nat.mul_assoc, Nat.mul_left_comm]
      have a1 : a / wd = 2 * (x1 / (2 * wd)) + 1 := by
        rw [Nat.div_eq_iff (by omega)]; constructor <;> omega
      have b1 : b / wd = 2 * (x1 / (2 * wd)) + 1 := by
        rw [Nat.div_eq_iff (by omega)]; constructor <;> omega
      rw [a1, b1]
  have s1e : seg_ (srj_ j1 j2 x1) 0 x1 = seg_ j1 0 x1 := seg_e (fun i _ h => by unfold srj_; rw [if_pos h])
  have s2e : seg_ (srj_ j1 j2 x1) x1 z = seg_ j2 x1 z := seg_e (fun i h _ => by unfold srj_; rw [if_neg (by omega)])
  refine ⟨fun i h1 h2 => ?_, ?_, ?_⟩
  · rcases Nat.lt_or_ge i x1 with q | q
    · unfold srj_; rw [if_pos q, w2 i (by omega)]; exact jc i q h2
    · have hz : i < z := by omega
      unfold srj_; rw [if_neg (by omega), w1 i q hz]; exact ⟨rfl, hmem _ (seg_g.mpr ⟨i, q, hz, rfl⟩)⟩
  · rw [seg_x (Nat.zero_le x1) (by omega : x1 ≤ z), seg_x (f := j0) (Nat.zero_le x1) (by omega : x1 ≤ z), s1e, s2e]
    exact jd.append hp
  · intro x y' h1 h2 h3
    rcases Nat.lt_or_ge y' x1 with q | q
    · unfold srj_; rw [if_pos (by omega), if_pos q]; exact je x y' h1 q h3
    · rcases Nat.lt_or_ge x x1 with q2 | q2
      · exfalso
        have d : x1 = 2 * wd * (x1 / (2 * wd)) := by have := Nat.div_add_mod x1 (2 * wd); omega
        have l1 : x / (2 * wd) < x1 / (2 * wd) := by
          rw [Nat.div_lt_iff_lt_mul (by omega)]; rw [Nat.mul_comm]; omega
        have l2 : x1 / (2 * wd) ≤ y' / (2 * wd) := Nat.div_le_div_right q
        omega
      · have := seg_pw.mp hsrt x y' q2 h1 h2
        unfold srj_; rw [if_neg (by omega), if_neg (by omega)]; exact this
