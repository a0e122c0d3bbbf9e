/-! the class and the reference side by side: what holds between two calls -/
def uN_ (f : Nat → Nat) (i v : Nat) : Nat → Nat := fun j => if j = i then v else f j
theorem uN_s {f : Nat → Nat} {i v : Nat} : uN_ f i v i = v := by unfold uN_; rw [if_pos rfl]
theorem uN_n {f : Nat → Nat} {i j v : Nat} (h : ¬ j = i) : uN_ f i v j = f j := by unfold uN_; rw [if_neg h]
def uS_ (f : Nat → Nat → Nat) (i k v : Nat) : Nat → Nat → Nat := fun j => if j = i then uN_ (f i) k v else f j
theorem uS_s {f : Nat → Nat → Nat} {i k v : Nat} : uS_ f i k v i = uN_ (f i) k v := by unfold uS_; rw [if_pos rfl]
theorem uS_n {f : Nat → Nat → Nat} {i j k v : Nat} (h : ¬ j = i) : uS_ f i k v j = f j := by unfold uS_; rw [if_neg h]
/-- the reference's numbers behind n calls -/
def RI_ (n : Nat) (kn pt pa bg xs ys : Nat → Int32) (PT PA : Nat → Nat) (SN : Nat → Nat → Nat) : Prop := mst_ pt pa bg PT PA SN ∧ shs_ kn xs ys SN PA PT ∧ (∀ s, s < 2 → PT s ≤ n ∧ PA s ≤ n) ∧ n ≤ 512
/-- a figure of the class -/
def FI_ (s : Nat) (kn xs ys : Nat → Int32) (PT PA : Nat → Nat) (SN : Nat → Nat → Nat) (kd pr sc mn : Int32) (cx cp ct : Nat) (xs1 ys1 st ta he ma : Nat → Int32) : Prop :=
  kd = kn s ∧ agr_ xs ys s (PT s) xs1 ys1 ∧ sta_ (SN s) (PA s) (PT s) st ∧ ct ≤ 1024 ∧ (16 ≤ cx ∧ cx ≤ 1024 ∧ PT s ≤ cx) ∧ (16 ≤ cp ∧ cp ≤ 1024 ∧ PA s ≤ cp) ∧
  (pr = 0 ∨ (pr = 1 ∧ cx ≤ ct ∧ sc = nI (prS_ kd xs1 ys1 (SN s) (PA s) (PT s) (PA s)).length ∧ mn = nI (prM_ kd xs1 ys1 (SN s) (PA s) (PT s) (PA s)).length ∧ sl_ ta he (prS_ kd xs1 ys1 (SN s) (PA s) (PT s) (PA s)) ∧ al_ ma (prM_ kd xs1 ys1 (SN s) (PA s) (PT s) (PA s))))
/-- the matrix of the class, if it is fresh -/
def MI_ (fr : Int32) (mx kn xs ys : Nat → Int32) (SN : Nat → Nat → Nat) (PA PT : Nat → Nat) : Prop := fr = 0 ∨ (fr = 1 ∧ ∀ mr a b, t3_ a → t3_ b → mat_ mx a b = mat_ (lkM_ kn xs ys SN PA PT mr) a b)
theorem mo_2 {kn xs ys : Nat → Int32} {SN : Nat → Nat → Nat} {PA PT : Nat → Nat} (h : shs_ kn xs ys SN PA PT) : ∀ s, s < 2 → mon_ (SN s) (PA s) (PT s) := fun s hs => (h s hs).2.1
section
variable {n : Nat} {kn pt pa bg xs ys : Nat → Int32} {PT PA : Nat → Nat} {SN : Nat → Nat → Nat} {t : Nat}
/-- a shape begun anew -/
theorem RI_sh (h : RI_ n kn pt pa bg xs ys PT PA SN) (hn : n < 512) (ht : t < 2) {kv : Int32} (hk : ¬ wi_ kv 1 3 = 0) : RI_ (n + 1) (upd kn t kv) (upd pt t 0) (upd pa t 0) bg xs ys (uN_ PT t 0) (uN_ PA t 0) SN := by
  obtain ⟨h1, h2, h3, h4⟩ := h
  refine ⟨fun s hs => ?_, fun s hs => ?_, fun s hs => ?_, by omega⟩
  · by_cases e : s = t
    · subst e; rw [pk_us, pk_us, uN_s, uN_s]; exact ⟨rfl, rfl, by omega, by omega, fun p hp => absurd hp (Nat.not_lt_zero _)⟩
    · rw [pk_un e, pk_un e, uN_n e, uN_n e]; exact h1 s hs
  · by_cases e : s = t
    · subst e; rw [pk_us, uN_s, uN_s]
      refine ⟨?_, ⟨fun i hi => absurd hi (by omega), fun i hi => absurd hi (by omega)⟩, fun z => absurd z (by omega), fun _ => rfl, by omega, by omega, fun i hi => absurd hi (by omega)⟩
      unfold wi_ at hk
      have q := if10.mp hk
      rw [Int32.le_iff_toInt_le, Int32.le_iff_toInt_le] at q
      have a : (1 : Int32).toInt = 1 := by decide
      have c : (3 : Int32).toInt = 3 := by decide
      rw [a, c] at q
      rcases (show kv.toInt = 1 ∨ kv.toInt = 2 ∨ kv.toInt = 3 by omega) with z | z | z
      · exact Or.inl (Int32.toInt_inj.mp (by rw [z]; decide))
      · exact Or.inr (Or.inl (Int32.toInt_inj.mp (by rw [z]; decide)))
      · exact Or.inr (Or.inr (Int32.toInt_inj.mp (by rw [z]; decide)))
    · rw [pk_un e, uN_n e, uN_n e]; exact h2 s hs
  · by_cases e : s = t
    · subst e; rw [uN_s, uN_s]; omega
    · rw [uN_n e, uN_n e]; have := h3 s hs; omega
theorem FI_sh (ht : t < 2) {kv kd pr sc mn : Int32} {cx cp ct : Nat} {xs1 ys1 st ta he ma : Nat → Int32} (h : FI_ t kn xs ys PT PA SN kd pr sc mn cx cp ct xs1 ys1 st ta he ma) : FI_ t (upd kn t kv) xs ys (uN_ PT t 0) (uN_ PA t 0) SN kv 0 sc mn cx cp ct xs1 ys1 st ta he ma := by
  obtain ⟨h1, h2, h3, h4, h5, h6, h7⟩ := h
  unfold FI_
  rw [pk_us, uN_s, uN_s]
  exact ⟨rfl, fun i hi => absurd hi (Nat.not_lt_zero _), ⟨fun i hi => absurd hi (Nat.not_lt_zero _), fun i hi => absurd hi (by omega), fun z => absurd z (by omega)⟩, h4, ⟨h5.1, h5.2.1, by omega⟩, ⟨h6.1, h6.2.1, by omega⟩, Or.inl rfl⟩
/-- what another shape's change leaves -/
theorem FI_o {s : Nat} {kn' xs' ys' : Nat → Int32} {PT' PA' : Nat → Nat} {SN' : Nat → Nat → Nat} {kd pr sc mn : Int32} {cx cp ct : Nat} {xs1 ys1 st ta he ma : Nat → Int32} (h : FI_ s kn xs ys PT PA SN kd pr sc mn cx cp ct xs1 ys1 st ta he ma)
    (e1 : kn' s = kn s) (e2 : PT' s = PT s) (e3 : PA' s = PA s) (e4 : SN' s = SN s) (e5 : ∀ i, i < PT s → xo_ xs' s i = xo_ xs s i ∧ xo_ ys' s i = xo_ ys s i) : FI_ s kn' xs' ys' PT' PA' SN' kd pr sc mn cx cp ct xs1 ys1 st ta he ma := by
  obtain ⟨h1, h2, h3, h4, h5, h6, h7⟩ := h
  unfold FI_
  rw [e1, e2, e3, e4]
  exact ⟨h1, fun i hi => ⟨(h2 i hi).1.trans (e5 i hi).1.symm, (h2 i hi).2.trans (e5 i hi).2.symm⟩, h3, h4, h5, h6, h7⟩
theorem RI_n (h : RI_ n kn pt pa bg xs ys PT PA SN) (hn : n < 512) : RI_ (n + 1) kn pt pa bg xs ys PT PA SN := ⟨h.1, h.2.1, fun s hs => by have := h.2.2.1 s hs; omega, by omega⟩
/-- a part begun -/
theorem RI_pa (h : RI_ n kn pt pa bg xs ys PT PA SN) (hn : n < 512) (ht : t < 2) : RI_ (n + 1) kn pt (upd pa t (nI (PA t + 1))) (upd bg (1025 * t + PA t) (nI (PT t))) xs ys PT (uN_ PA t (PA t + 1)) (uS_ SN t (PA t) (PT t)) := by
  obtain ⟨h1, h2, h3, h4⟩ := h
  have l := h3 t ht
  refine ⟨fun s hs => ?_, fun s hs => ?_, fun s hs => ?_, by omega⟩
  · have a := h1 s hs
    have l2 := h3 s hs
    by_cases e : s = t
    · subst e; rw [pk_us, uN_s, uS_s]
      refine ⟨a.1, rfl, a.2.2.1, by omega, fun p hp => ?_⟩
      by_cases z : p = PA s
      · subst z; rw [pk_us, uN_s]; exact ⟨rfl, Nat.le_refl _⟩
      · rw [pk_un (by omega), uN_n z]; exact a.2.2.2.2 p (by omega)
    · rw [pk_un e, uN_n e, uS_n e]
      exact ⟨a.1, a.2.1, a.2.2.1, a.2.2.2.1, fun p hp => by rw [pk_un (by omega)]; exact a.2.2.2.2 p hp⟩
  · by_cases e : s = t
    · subst e; rw [uN_s, uS_s]
      obtain ⟨b1, b2, b3, b4, b5, b6, b7⟩ := h2 s hs
      refine ⟨b1, ⟨fun i hi => ?_, fun i hi => ?_⟩, fun _ => ?_, fun z => absurd z (by omega), b5, by omega, b7⟩
      · by_cases z : i + 1 = PA s
        · rw [z, uN_s, uN_n (by omega)]; exact b2.2 i (by omega)
        · rw [uN_n (by omega), uN_n z]; exact b2.1 i (by omega)
      · by_cases z : i = PA s
        · rw [z, uN_s]; exact Nat.le_refl _
        · rw [uN_n z]; exact b2.2 i (by omega)
      · by_cases z : 0 = PA s
        · rw [z, uN_s]; exact (b4 z.symm).trans z
        · rw [uN_n z]; exact b3 (by omega)
    · rw [uN_n e, uS_n e]; exact h2 s hs
  · have l2 := h3 s hs
    by_cases e : s = t
    · subst e; rw [uN_s]; omega
    · rw [uN_n e]; omega
theorem gc_2 {k cp n : Nat} (h1 : 16 ≤ cp ∧ cp ≤ 1024 ∧ k ≤ cp) (h2 : k < 512) : 16 ≤ gcap_ k cp ∧ gcap_ k cp ≤ 1024 ∧ k + 1 ≤ gcap_ k cp := by
  unfold gcap_; split <;> omega
theorem FI_pa (hr : RI_ n kn pt pa bg xs ys PT PA SN) (hn : n < 512) (ht : t < 2) {kd pr sc mn : Int32} {cx cp ct : Nat} {xs1 ys1 st st2 ta he ma : Nat → Int32} (h : FI_ t kn xs ys PT PA SN kd pr sc mn cx cp ct xs1 ys1 st ta he ma) (e1 : ∀ i, i < PA t → st2 i = st i) (e2 : st2 (PA t) = nI (PT t)) :
    FI_ t kn xs ys PT (uN_ PA t (PA t + 1)) (uS_ SN t (PA t) (PT t)) kd 0 sc mn cx (gcap_ (PA t) cp) ct xs1 ys1 st2 ta he ma := by
  obtain ⟨h1, h2, h3, h4, h5, h6, h7⟩ := h
  have l := hr.2.2.1 t ht
  have g := gc_2 (n := n) h6 (by omega)
  have st' : sta_ (uN_ (SN t) (PA t) (PT t)) (PA t + 1) (PT t) st2 := by
    have rm := (RI_pa hr hn ht).2.1 t ht
    rw [uN_s, uS_s] at rm
    refine ⟨fun i hi => ⟨?_, rm.2.1.2 i hi⟩, rm.2.1.1, rm.2.2.1⟩
    by_cases z : i = PA t
    · rw [z, uN_s]; exact e2
    · rw [uN_n z, e1 i (by omega)]; exact (h3.1 i (by omega)).1
  unfold FI_
  rw [uN_s, uS_s]
  exact ⟨h1, h2, st', h4, h5, g, Or.inl rfl⟩
/-- a point added -/
theorem RI_pt (h : RI_ n kn pt pa bg xs ys PT PA SN) (hn : n < 512) (ht : t < 2) (hp : ¬ PA t = 0) {x y : Int32} (hx : far_ x = 0) (hy : far_ y = 0) : RI_ (n + 1) kn (upd pt t (nI (PT t + 1))) pa bg (upd xs (2048 * t + PT t) x) (upd ys (2048 * t + PT t) y) (uN_ PT t (PT t + 1)) PA SN := by
  obtain ⟨h1, h2, h3, h4⟩ := h
  have l := h3 t ht
  have fr : ∀ v : Int32, far_ v = 0 → r5_ v := fun v hv => by
    unfold far_ at hv
    by_cases q : wi_ v (-500000000) 500000000 = 0
    · rw [if_pos q] at hv; exact absurd hv (by decide)
    · unfold wi_ at q
      have k := if10.mp q
      rw [Int32.le_iff_toInt_le, Int32.le_iff_toInt_le] at k
      have a : (-500000000 : Int32).toInt = -500000000 := by decide
      have c : (500000000 : Int32).toInt = 500000000 := by decide
      rw [a, c] at k; exact k
  refine ⟨fun s hs => ?_, fun s hs => ?_, fun s hs => ?_, by omega⟩
  · have a := h1 s hs
    have l2 := h3 s hs
    by_cases e : s = t
    · subst e; rw [pk_us, uN_s]
      exact ⟨rfl, a.2.1, by omega, a.2.2.2.1, fun p hp => ⟨(a.2.2.2.2 p hp).1, by have := (a.2.2.2.2 p hp).2; omega⟩⟩
    · rw [pk_un e, uN_n e]; exact a
  · obtain ⟨b1, b2, b3, b4, b5, b6, b7⟩ := h2 s hs
    by_cases e : s = t
    · subst e; rw [uN_s]
      refine ⟨b1, ⟨b2.1, fun i hi => by have := b2.2 i hi; omega⟩, b3, fun z => absurd z hp, by omega, b6, fun i hi => ?_⟩
      unfold xo_
      by_cases z : i = PT s
      · subst z; rw [pk_us, pk_us]; exact ⟨fr x hx, fr y hy⟩
      · rw [pk_un (by omega), pk_un (by omega)]; exact b7 i (by omega)
    · rw [uN_n e]
      refine ⟨b1, b2, b3, b4, b5, b6, fun i hi => ?_⟩
      have l2 := h3 s hs
      unfold xo_
      rw [pk_un (by omega), pk_un (by omega)]; exact b7 i hi
  · have l2 := h3 s hs
    by_cases e : s = t
    · subst e; rw [uN_s]; omega
    · rw [uN_n e]; omega
theorem FI_pt (hr : RI_ n kn pt pa bg xs ys PT PA SN) (hn : n < 512) (ht : t < 2) {kd pr sc mn x y : Int32} {cx cp ct : Nat} {xs1 ys1 xs2 ys2 st ta he ma : Nat → Int32} (h : FI_ t kn xs ys PT PA SN kd pr sc mn cx cp ct xs1 ys1 st ta he ma) (e1 : ∀ i, i < PT t → xs2 i = xs1 i ∧ ys2 i = ys1 i) (e2 : xs2 (PT t) = x) (e3 : ys2 (PT t) = y) :
    FI_ t kn (upd xs (2048 * t + PT t) x) (upd ys (2048 * t + PT t) y) (uN_ PT t (PT t + 1)) PA SN kd 0 sc mn (gcap_ (PT t) cx) cp ct xs2 ys2 st ta he ma := by
  obtain ⟨h1, h2, h3, h4, h5, h6, h7⟩ := h
  have l := hr.2.2.1 t ht
  have g := gc_2 (n := n) h5 (by omega)
  unfold FI_
  rw [uN_s]
  refine ⟨h1, fun i hi => ?_, ⟨fun i hi => ⟨(h3.1 i hi).1, by have := (h3.1 i hi).2; omega⟩, h3.2.1, h3.2.2⟩, h4, g, h6, Or.inl rfl⟩
  unfold xo_
  by_cases z : i = PT t
  · subst z; rw [pk_us, pk_us]; exact ⟨e2, e3⟩
  · rw [pk_un (by omega), pk_un (by omega), (e1 i (by omega)).1, (e1 i (by omega)).2]; exact h2 i (by omega)
/-- another shape's points are left -/
theorem xo_o {s i : Nat} (hs : s < 2) (ht : t < 2) (e : ¬ s = t) (hi : i < 2048) {x : Int32} {f : Nat → Int32} {k : Nat} (hk : k < 2048) : xo_ (upd f (2048 * t + k) x) s i = xo_ f s i := by
  unfold xo_; exact pk_un (by omega)
end
