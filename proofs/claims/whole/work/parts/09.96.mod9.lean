/-- the reference's questions -/
def hsg_ (L : List (Nat × Nat × Nat)) (s : Nat) : Int32 := bo_ (∃ w ∈ L, w.2.2 = s)
theorem hsg_y {L : List (Nat × Nat × Nat)} {k s : Nat} (h : k < L.length) (e : (L.getD k (0, 0, 0)).2.2 = s) : 1 = hsg_ (L.take (k + 1)) s := by
  unfold hsg_ bo_; rw [if_pos]; rw [m3_t h]; exact ⟨_, List.mem_append_right _ (List.mem_singleton.mpr rfl), e⟩
theorem hsg_1 {L : List (Nat × Nat × Nat)} {k s : Nat} (h : k < L.length) (e : ¬ hsg_ (L.take k) s = 0) : 1 = hsg_ (L.take (k + 1)) s := by
  unfold hsg_ bo_ at e ⊢
  by_cases q : ∃ w ∈ L.take k, w.2.2 = s
  · obtain ⟨w, h1, h2⟩ := q
    rw [if_pos]; rw [m3_t h]; exact ⟨w, List.mem_append_left _ h1, h2⟩
  · rw [if_neg q] at e; exact absurd rfl e
theorem hsg_n {L : List (Nat × Nat × Nat)} {k s : Nat} (h : k < L.length) (e : hsg_ (L.take k) s = 0) (e2 : ¬ (L.getD k (0, 0, 0)).2.2 = s) : 0 = hsg_ (L.take (k + 1)) s := by
  unfold hsg_ bo_ at e ⊢
  rw [if_neg]; rintro ⟨w, h1, h2⟩
  rw [m3_t h] at h1
  rcases List.mem_append.mp h1 with q | q
  · rw [if_pos ⟨w, q, h2⟩] at e; exact absurd e (by decide)
  · rw [List.mem_singleton.mp q] at h2; exact e2 h2
def ino_ (kd : Int32) (n : Nat) (L : List (Nat × Nat × Nat)) (s : Nat) (a : Int32) : Int32 := if kd = 1 then (if 0 < n then 0 else -1) else if kd = 2 then (if hsg_ L s = 0 then -1 else 1) else (if a = 0 then -1 else 2)
def thr_ (mx : Nat → Int32) (a b : Int32) : Int32 := if mat_ mx a b < 0 then 0 else 1
def mee_ (mx : Nat → Int32) : Int32 := if thr_ mx 0 0 = 0 ∧ thr_ mx 0 1 = 0 ∧ thr_ mx 1 0 = 0 ∧ thr_ mx 1 1 = 0 then 0 else 1
def non_ (mx : Nat → Int32) (a b : Nat) : Int32 := if mx a < 0 ∧ mx b < 0 then 1 else 0
def crg_ (mx : Nat → Int32) (d e : Int32) : Int32 := if d < e then (if ¬ thr_ mx 0 0 = 0 ∧ ¬ thr_ mx 0 2 = 0 then 1 else 0) else if e < d then (if ¬ thr_ mx 0 0 = 0 ∧ ¬ thr_ mx 2 0 = 0 then 1 else 0) else (if d = 1 ∧ mat_ mx 0 0 = 0 then 1 else 0)
def rel_ (mx : Nat → Int32) : Nat → Int32
  | 0 => 0
  | k + 1 => 4 * rel_ mx k + mx k + 1
theorem crg_z {mx : Nat → Int32} {d e : Int32} : narrow .boolean (.int (crg_ mx d e)) = .int (crg_ mx d e) := by
  unfold crg_
  repeat' split
  all_goals decide +kernel
theorem hsg_z {L : List (Nat × Nat × Nat)} {s : Nat} : narrow .boolean (.int (hsg_ L s)) = .int (hsg_ L s) := bo_n
