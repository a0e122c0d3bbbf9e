/-! OURS: the objects' field lists, a world's words, loops and joins -/
abbrev bm_ (x y dx dy : Int64) : List Value := [.long x, .long y, .long dx, .long dy]
abbrev co_ (f : Nat) (sg cv cg mt mk ta th : Int32) : List Value := [.ref f, .int sg, .int cv, .int cg, .int mt, .int mk, .int ta, .int th]
abbrev cu_ (sz : Int32) (ov un sg od sp : Nat) : List Value := [.int sz, .ref ov, .ref un, .ref sg, .ref od, .ref sp]
abbrev fg_ (kd pn n : Int32) (xs ys st : Nat) (pr sc : Int32) (ta he : Nat) (mn : Int32) (mk sd : Nat) : List Value := [.int kd, .int pn, .int n, .ref xs, .ref ys, .ref st, .int pr, .int sc, .ref ta, .ref he, .int mn, .ref mk, .ref sd]
abbrev ov_ (f s b c m : Nat) (fr : Int32) : List Value := [.ref f, .ref s, .ref b, .ref c, .ref m, .int fr]
abbrev sr_ (f s o : Nat) : List Value := [.ref f, .ref s, .ref o]
abbrev ty_ (cI cJ cZ : ClassId) : List (ClassId × FieldType) := [(cI, .int), (cJ, .long), (cZ, .boolean)]
abbrev wd_ (g : va_G) (cI cJ cZ : ClassId) (A : Nat → Prop) (ws : va_W) (t : State) : Prop := va_P g vwCl ws t.heap ∧ va_K g vwCl (ty_ cI cJ cZ) t ∧ va_D A ws
abbrev pc_ (g : va_G) (cI cJ cZ : ClassId) (av : List Value) (ws : va_W) (sz : Nat) : Array Value → State → Prop := va_Pc av (fun U => U.heap.size = sz ∧ va_P g vwCl ws U.heap ∧ va_K g vwCl (ty_ cI cJ cZ) U ∧ va_D (fun _ => True) ws)
theorem bl_ {g : va_G} {cI cJ cZ : ClassId} {av : List Value} {ws : va_W} {sz : Nat} : FrameBlind (pc_ g cI cJ cZ av ws sz) := fun a U g mk q => by
  obtain ⟨q0, q1, qP, qK, qD⟩ := q
  exact ⟨q0, q1, qP, va_K.moved (u := U) (U := U.calling g mk a) (Vm.Alike.refl U.vm) qK, qD⟩
theorem pv_ {s : State} {H : Heap} {g : va_G} {cI cJ cZ : ClassId} {ws : va_W} {A : Nat → Prop} {b : Nat} {As : List Value} {C : String} (hK : va_K g vwCl (ty_ cI cJ cZ) s) (hP : va_P g vwCl ws H) (hD : va_D A ws) (hr : ∃ cellB : Cell, H[b]? = some cellB ∧ cellB.vm.isStatics = false ∧ s.vm.findClass C = some cellB.cls) : PreV s H C b (pc_ g cI cJ cZ (.ref b :: As) ws H.size) As :=
  ⟨bl_, hr, fun U hU hW => ⟨rfl, by rw [hU], by rw [hU]; exact hP, va_K.moved hW.alike hK, hD.weaken (fun _ _ _ _ => trivial)⟩⟩
theorem ps_ {s : State} {H : Heap} {g : va_G} {cI cJ cZ : ClassId} {ws : va_W} {A : Nat → Prop} {As : List Value} (hK : va_K g vwCl (ty_ cI cJ cZ) s) (hP : va_P g vwCl ws H) (hD : va_D A ws) : PreS s H (pc_ g cI cJ cZ As ws H.size) As :=
  ⟨bl_, fun U hU hW => ⟨rfl, by rw [hU], by rw [hU]; exact hP, va_K.moved hW.alike hK, hD.weaken (fun _ _ _ _ => trivial)⟩⟩
section
variable {p : Program} {l : Launch} {e : Env} {R : Room} {s : State} {m : MethodId} {args : Array Value} {below : List Frame} {meth : Method} {c : Code} {H : Heap} {locs : List Loc} {cells slots : Nat} {Q : State → Prop}
theorem tpi_ {x y : Int32} {pc : Nat} {ls : Array Slot} {rest : List Value} (h : y = x) (k : W p l e R s m args below meth c H locs cells slots Q (F0 m pc ls (.int y :: rest))) : W p l e R s m args below meth c H locs cells slots Q (F0 m pc ls (.int x :: rest)) := h ▸ k
theorem tpl_ {x y : Int64} {pc : Nat} {ls : Array Slot} {rest : List Value} (h : y = x) (k : W p l e R s m args below meth c H locs cells slots Q (F0 m pc ls (.long y :: rest))) : W p l e R s m args below meth c H locs cells slots Q (F0 m pc ls (.long x :: rest)) := h ▸ k
theorem nwa_ {cc : ByteArray} {pc : Nat} {ls : Array Slot} {rest : List Value} {D : va_G} {cl : List vw_C} {A : Nat → Prop} {tys : List (ClassId × FieldType)} {ws : va_W} {H0 : Heap} (hexec : p.tables.exec = Jvm.exec) (hb : c.code = cc) {atype : ArrayType} (harr : (Cond.arrayClass (newarray.typeOf atype)).before args s = true) {ty : FieldType} (hty : newarray.typeOf atype = ty) {cA : ClassId} (hK : va_K D cl tys s) (t0 : Nat) (ht : tys[t0]? = some (cA, ty)) (hra : ∀ c, va_RA s c ty → s.vm.findClass ("[" ++ ty.toString) = some c) (hP : va_P D cl ws H) (hD : va_D A ws) (hS : va_S A H0 H locs) (hA : ∀ q, H0.size ≤ q → A q)
    {n : Int32} {N' : Nat} {a0 : vp_A} (ha : ∀ cA : ClassId, vp_cell cA a0 = arrV cA N' (fun _ => defaultValue ty)) (hn : ¬ n < 0) (hN : n.toNatClampNeg = N') (hbytes : N' * componentBytes ty ≤ 536870912) (hcells : cells + 1 ≤ R.cells) (hslots : slots + N' ≤ R.slots) (hdg : decode cc pc = .ok (.newarray atype, 2))
    (kk : ∀ (q : Nat) (H1 : Heap), va_P D cl (ws ++ [(q, .inl (cA, a0))]) H1 → va_D A (ws ++ [(q, .inl (cA, a0))]) → va_S A H0 H1 locs → W p l e R s m args below meth c H1 locs (cells + 1) (slots + N') Q (F0 m (pc + 2) ls (.ref q :: rest))) : W p l e R s m args below meth c H locs cells slots Q (F0 m pc ls (.int n :: rest)) := by
  refine va_newa hexec hb harr hty hK hP hD hS hA ha hn hN hbytes hcells hslots hdg (fun q c' H1 hK' hP' hD' hS' => ?_)
  have e1 := hra c' (hK'.2 tys.length (c', ty) (by simp)).2
  have e2 := hra cA (hK.2 t0 (cA, ty) ht).2
  have e3 : c' = cA := Option.some.inj (e1.symm.trans e2)
  subst e3
  exact kk q H1 hP' hD' hS'
/-- a loop at pc: a measure falls -/
theorem lpW {σ : Type} {pc : Nat} (μ : σ → Nat) (kc ks : σ → Nat) (I : σ → Heap → List Loc → Array Slot → Prop)
    (hs : ∀ x : σ, (∀ y : σ, μ y < μ x → ∀ H locs ls, I y H locs ls → W p l e R s m args below meth c H locs (kc y) (ks y) Q (F0 m pc ls [])) → ∀ H locs ls, I x H locs ls → W p l e R s m args below meth c H locs (kc x) (ks x) Q (F0 m pc ls []))
    (x : σ) {ls : Array Slot} (hc : kc x = cells) (hsl : ks x = slots) (h : I x H locs ls) : W p l e R s m args below meth c H locs cells slots Q (F0 m pc ls []) := by
  subst hc; subst hsl
  have key : ∀ n : Nat, ∀ x : σ, μ x < n → ∀ H locs ls, I x H locs ls → W p l e R s m args below meth c H locs (kc x) (ks x) Q (F0 m pc ls []) := by
    intro n
    induction n with
    | zero => intro x h; exact absurd h (Nat.not_lt_zero _)
    | succ n ih => intro x hx H locs ls hI; exact hs x (fun y hy => ih y (by omega)) H locs ls hI
  exact key (μ x + 1) x (Nat.lt_succ_self _) H locs ls h
/-- a join at pc2 with a value of its own on the stack: nothing else differs -/
theorem jnV {α : Type} {pc2 : Nat} {ls : Array Slot} {g0 : JFrame} (C : α → Prop) (st : α → List Value)
    (h1 : (∀ x, C x → W p l e R s m args below meth c H locs cells slots Q (F0 m pc2 ls (st x))) → W p l e R s m args below meth c H locs cells slots Q g0)
    (h2 : ∀ x, C x → W p l e R s m args below meth c H locs cells slots Q (F0 m pc2 ls (st x))) : W p l e R s m args below meth c H locs cells slots Q g0 := h1 h2
/-- a join at pc2, anything may differ -/
theorem jnW {σ : Type} {g0 : JFrame} (pc2 : Nat) (st : σ → List Value) (kc ks : σ → Nat) (I : σ → Heap → List Loc → Array Slot → Prop)
    (h1 : (∀ x H locs ls, I x H locs ls → W p l e R s m args below meth c H locs (kc x) (ks x) Q (F0 m pc2 ls (st x))) → W p l e R s m args below meth c H locs cells slots Q g0)
    (h2 : ∀ x H locs ls, I x H locs ls → W p l e R s m args below meth c H locs (kc x) (ks x) Q (F0 m pc2 ls (st x))) : W p l e R s m args below meth c H locs cells slots Q g0 := h1 h2
end
theorem bz_ {c : Prop} [Decidable c] : narrow .boolean (.int (if c then 1 else 0)) = .int (if c then 1 else 0) := by split <;> decide +kernel
def sid_ (x y dx dy : Int64) (px py : Int32) : Int64 := dx * (py.toInt64 - y) - dy * (px.toInt64 - x)
def rea_ (x y : Int64) (px py qx qy : Int32) : Int64 := (px.toInt64 - x) * (qy.toInt64 - py.toInt64) - (py.toInt64 - y) * (qx.toInt64 - px.toInt64)
def alo_ (x y dx dy : Int64) (px py : Int32) : Int64 := if dx = 0 then (if 0 < dy then py.toInt64 - y else y - py.toInt64) else (if 0 < dx then px.toInt64 - x else x - px.toInt64)
def spa_ (dx dy : Int64) : Int64 := if dx = 0 then (if 0 < dy then dy else -dy) else (if 0 < dx then dx else -dx)
theorem al1_ {x y dx dy : Int64} {px py : Int32} (h1 : lg_cmp dx 0 = 0) (h2 : lg_cmp dy 0 ≤ 0) : y - py.toInt64 = alo_ x y dx dy px py := by
  unfold alo_; rw [if_pos ((lg_cmp_eq _ _).mp h1), if_neg (fun h => Int64.not_le.mpr h ((lg_cmp_le _ _).mp h2))]
theorem al2_ {x y dx dy : Int64} {px py : Int32} (h1 : lg_cmp dx 0 = 0) (h2 : ¬ lg_cmp dy 0 ≤ 0) : py.toInt64 - y = alo_ x y dx dy px py := by
  unfold alo_; rw [if_pos ((lg_cmp_eq _ _).mp h1), if_pos (Int64.not_le.mp (fun h => h2 ((lg_cmp_le _ _).mpr h)))]
theorem al3_ {x y dx dy : Int64} {px py : Int32} (h1 : ¬ lg_cmp dx 0 = 0) (h2 : lg_cmp dx 0 ≤ 0) : x - px.toInt64 = alo_ x y dx dy px py := by
  unfold alo_; rw [if_neg (fun h => h1 ((lg_cmp_eq _ _).mpr h)), if_neg (fun h => Int64.not_le.mpr h ((lg_cmp_le _ _).mp h2))]
theorem al4_ {x y dx dy : Int64} {px py : Int32} (h1 : ¬ lg_cmp dx 0 = 0) (h2 : ¬ lg_cmp dx 0 ≤ 0) : px.toInt64 - x = alo_ x y dx dy px py := by
  unfold alo_; rw [if_neg (fun h => h1 ((lg_cmp_eq _ _).mpr h)), if_pos (Int64.not_le.mp (fun h => h2 ((lg_cmp_le _ _).mpr h)))]
def cmp_ (x y : Int64) : Int32 := if x < y then -1 else if x = y then 0 else 1
theorem cmp1_ {a b : Int64} (h1 : lg_cmp a b ≥ 0) (h2 : ¬ lg_cmp a b = 0) : 1 = cmp_ a b := by
  unfold cmp_; rw [if_neg (fun h => Int64.not_le.mpr h ((lg_cmp_ge _ _).mp h1)), if_neg (fun h => h2 ((lg_cmp_eq _ _).mpr h))]
theorem cmp2_ {a b : Int64} (h1 : lg_cmp a b ≥ 0) (h2 : lg_cmp a b = 0) : 0 = cmp_ a b := by
  unfold cmp_; rw [if_neg (fun h => Int64.not_le.mpr h ((lg_cmp_ge _ _).mp h1)), if_pos ((lg_cmp_eq _ _).mp h2)]
theorem cmp3_ {a b : Int64} (h1 : ¬ lg_cmp a b ≥ 0) : -1 = cmp_ a b := by
  unfold cmp_; rw [if_pos (Int64.not_le.mp (fun h => h1 ((lg_cmp_ge _ _).mpr h)))]
def fil_ (f : Nat → Int32) (v : Int32) (i : Nat) : Nat → Int32 := fun j => if j < i then v else f j
theorem fil_0 (f : Nat → Int32) (v : Int32) : fil_ f v 0 = f := by funext j; simp [fil_]
theorem fil_s (f : Nat → Int32) (v : Int32) (i : Nat) : upd (fil_ f v i) i v = fil_ f v (i + 1) := by
  funext j; simp only [upd, fil_]
  by_cases h : j = i
  · rw [if_pos h, if_pos (by omega)]
  · rw [if_neg h]; by_cases h2 : j < i
    · rw [if_pos h2, if_pos (by omega)]
    · rw [if_neg h2, if_neg (by omega)]
theorem i_ge {a b : Nat} (h : nI b ≤ nI a) (ha : a < 2 ^ 31) (hb : b < 2 ^ 31) : b ≤ a := (nI_leI hb ha).mp h
theorem i_nge {a b : Nat} (h : ¬ nI b ≤ nI a) (ha : a < 2 ^ 31) (hb : b < 2 ^ 31) : a < b := Nat.lt_of_not_le (fun q => h ((nI_leI hb ha).mpr q))
theorem i_gt {a b : Nat} (h : nI b < nI a) (ha : a < 2 ^ 31) (hb : b < 2 ^ 31) : b < a := (nI_ltI hb ha).mp h
theorem i_ngt {a b : Nat} (h : ¬ nI b < nI a) (ha : a < 2 ^ 31) (hb : b < 2 ^ 31) : a ≤ b := Nat.le_of_not_lt (fun q => h ((nI_ltI hb ha).mpr q))
def hmid_ (a b : Int64) : Int64 := (a >>> ((31 : Int32).toInt64 &&& 63)) * (b &&& 2147483647) + (a &&& 2147483647) * (b >>> ((31 : Int32).toInt64 &&& 63))
def hlow_ (a b : Int64) : Int64 := (a &&& 2147483647) * (b &&& 2147483647) + ((hmid_ a b &&& 2147483647) <<< ((31 : Int32).toInt64 &&& 63))
def hip_ (a b : Int64) : Int64 := (a >>> ((31 : Int32).toInt64 &&& 63)) * (b >>> ((31 : Int32).toInt64 &&& 63)) + ((hmid_ a b).toUInt64 >>> ((31 : Int32).toInt64.toUInt64 &&& Int64.toUInt64 63)).toInt64 + ((hlow_ a b).toUInt64 >>> ((62 : Int32).toInt64.toUInt64 &&& Int64.toUInt64 63)).toInt64
def cpf_ (o1 u1 o2 u2 : Int64) : Int32 := if u1 = u2 then cmp_ o1 o2 else if hip_ o1 u2 = hip_ o2 u1 then cmp_ (o1 * u2 &&& 4611686018427387903) (o2 * u1 &&& 4611686018427387903) else cmp_ (hip_ o1 u2) (hip_ o2 u1)
theorem cpf1_ {o1 u1 o2 u2 : Int64} (c1 : lg_cmp u1 u2 = 0) : cmp_ o1 o2 = cpf_ o1 u1 o2 u2 := by
  unfold cpf_; rw [if_pos ((lg_cmp_eq _ _).mp c1)]
theorem cpf2_ {o1 u1 o2 u2 : Int64} (c1 : ¬ lg_cmp u1 u2 = 0) (c2 : lg_cmp (hip_ o1 u2) (hip_ o2 u1) = 0) : cmp_ (o1 * u2 &&& 4611686018427387903) (o2 * u1 &&& 4611686018427387903) = cpf_ o1 u1 o2 u2 := by
  unfold cpf_; rw [if_neg (fun h => c1 ((lg_cmp_eq _ _).mpr h)), if_pos ((lg_cmp_eq _ _).mp c2)]
theorem cpf3_ {o1 u1 o2 u2 : Int64} (c1 : ¬ lg_cmp u1 u2 = 0) (c2 : ¬ lg_cmp (hip_ o1 u2) (hip_ o2 u1) = 0) : cmp_ (hip_ o1 u2) (hip_ o2 u1) = cpf_ o1 u1 o2 u2 := by
  unfold cpf_; rw [if_neg (fun h => c1 ((lg_cmp_eq _ _).mpr h)), if_neg (fun h => c2 ((lg_cmp_eq _ _).mpr h))]
def gcap_ (k cap : Nat) : Nat := if k = cap then 2 * k else cap
theorem cpy_ {α : Type} {f g : Nat → α} {n i : Nat} (h : i < n) : va_cpy f g 0 0 n i = f i := by
  rw [pk_cpy_in (Nat.zero_le _) (by omega)]; congr 1; omega
def pom_ (kd : Int32) : Int32 := if kd = 2 then 1 else 0
def pos_ (kd : Int32) : Int32 := if kd = 2 then 0 else 1
def pof_ (kd b : Int32) : Int32 := if kd = 3 ∧ ¬ b = 0 then 0 else 2
def pbs_ (kd tu t : Int32) : Int32 := if kd = 3 ∧ ¬ (tu &&& t) = 0 then 0 else 2
def pah_ (kd cv tu : Int32) : Int32 := if 0 < cv then pos_ kd else pbs_ kd tu 16
def phe_ (kd cv mt mk tu : Int32) : Int32 := if mk = 0 then (if mt = 0 then pah_ kd cv tu else pos_ kd) else pom_ kd
theorem pbs1_ {kd tu t : Int32} (h : tu &&& t = 0) : pof_ kd 0 = pbs_ kd tu t := by
  unfold pof_ pbs_; rw [if_neg (fun q => q.2 rfl), if_neg (fun q => q.2 h)]
theorem pbs2_ {kd tu t : Int32} (h : ¬ tu &&& t = 0) : pof_ kd 1 = pbs_ kd tu t := by
  unfold pof_ pbs_
  by_cases hk : kd = 3
  · rw [if_pos ⟨hk, by decide⟩, if_pos ⟨hk, h⟩]
  · rw [if_neg (fun q => hk q.1), if_neg (fun q => hk q.1)]
def arm_ (b c k : Int32) : Int32 := if b = 0 ∧ c &&& k = 0 then 0 else 1
theorem arm1_ {b c k : Int32} (h : ¬ b = 0) : 1 = arm_ b c k := by unfold arm_; rw [if_neg (fun q => h q.1)]
theorem arm2_ {b c k : Int32} (h : b = 0) (h2 : c &&& k = 0) : 0 = arm_ b c k := by unfold arm_; rw [if_pos ⟨h, h2⟩]
theorem arm3_ {b c k : Int32} (h2 : ¬ c &&& k = 0) : 1 = arm_ b c k := by unfold arm_; rw [if_neg (fun q => h2 q.2)]
theorem arm_n {b c k : Int32} : narrow .boolean (.int (arm_ b c k)) = .int (arm_ b c k) := by unfold arm_; split <;> decide +kernel
theorem arm_f {b c k : Int32} : fits .boolean (.int (arm_ b c k)) = true := by unfold arm_; split <;> decide +kernel
def arc_ (cg c : Int32) : Int32 := if c &&& 8 = 0 then (if c &&& 4 = 0 then cg else cg + 1) else (if c &&& 4 = 0 then cg else cg + 1) - 1
