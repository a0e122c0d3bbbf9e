/-- words of the tables that a throw needs and that aren't among a method's own -/
def evB_ : List Cond := [.castable "java/lang/IndexOutOfBoundsException" "java/lang/IndexOutOfBoundsException", .castable "java/lang/IllegalArgumentException" "java/lang/IllegalArgumentException", .castable "java/lang/IllegalStateException" "java/lang/IllegalStateException", .declares (Bundle.initS "java/lang/RuntimeException"), .declares (Bundle.initS "java/lang/Exception"), .declares (Bundle.initS Bundle.tN)]
def evS_ : List (Nat × String) := [(132, "no such shape"), (34, "no such kind"), (55, "too many parts"), (136, "x or y is too far out"), (65, "no part has begun"), (67, "too many points"), (87, "no such entry"), (90, "no such question"), (130, "nothing of this number is counted")]
def evT_ (U : State) : Prop := (∀ w ∈ evB_, va_Nw w U) ∧ (∀ q ∈ evS_, ∃ sa, vk_R RX5 q.1 q.2 sa U) ∧ va_Nw (.methodLinkNest RX5 9 yX3_init "ShapeRelator") U ∧ va_Nw (.methodLinkNest RX4 11 yX0_init "ShapeRelator") U ∧ va_Nw (.methodLinkNest RX4 20 yX2_init "ShapeRelator") U ∧ va_Nc "java/lang/IllegalArgumentException" "java/lang/IndexOutOfBoundsException" U ∧ va_Nc "java/lang/IllegalStateException" "java/lang/IndexOutOfBoundsException" U ∧ va_Nc "java/lang/IllegalStateException" "java/lang/IllegalArgumentException" U
theorem nwD {x : MethodName} {s U : State} (hW : s.WarmedH U.vm) (hZ : va_Nw (.declares x) s) : va_Nw (.declares x) U := va_tabs rfl (rfl : (s.setVm U.vm).vm = U.vm) (by rw [Cond.declares_setVm hW.alike]; exact hZ)
theorem evT_w {s U : State} (hW : s.WarmedH U.vm) (h : evT_ s) : evT_ U := by
  obtain ⟨h1, h2, h3, h4, h5, h6, h7, h8⟩ := h
  refine ⟨fun w hw => ?_, fun q hq => ?_, va_Nw.warmM hW h3, va_Nw.warmM hW h4, va_Nw.warmM hW h5, h6.moved hW.alike, h7.moved hW.alike, h8.moved hW.alike⟩
  · have h9 := h1 w hw
    unfold evB_ at hw
    rcases List.mem_cons.mp hw with e | hw
    · subst e; exact va_Nw.warmC hW h9
    rcases List.mem_cons.mp hw with e | hw
    · subst e; exact va_Nw.warmC hW h9
    rcases List.mem_cons.mp hw with e | hw
    · subst e; exact va_Nw.warmC hW h9
    rcases List.mem_cons.mp hw with e | hw
    · subst e; exact nwD hW h9
    rcases List.mem_cons.mp hw with e | hw
    · subst e; exact nwD hW h9
    rw [List.mem_singleton.mp hw] at h9 ⊢; exact nwD hW h9
  · obtain ⟨sa, hs⟩ := h2 q hq; exact ⟨sa, vk_R.warm hW hs⟩
theorem evT_s {s U : State} (hv : s.vm = U.vm) (h : evT_ s) : evT_ U := by
  obtain ⟨h1, h2, h3, h4, h5, h6, h7, h8⟩ := h
  have ha : s.vm.Alike U.vm := by rw [← hv]; exact Vm.Alike.refl _
  refine ⟨fun w hw => ?_, fun q hq => ?_, va_Nw.same rfl hv h3, va_Nw.same rfl hv h4, va_Nw.same rfl hv h5, h6.moved ha, h7.moved ha, h8.moved ha⟩
  · have h9 := h1 w hw
    have ht : w.onTables = true := by
      unfold evB_ at hw
      rcases List.mem_cons.mp hw with e | hw
      · subst e; rfl
      rcases List.mem_cons.mp hw with e | hw
      · subst e; rfl
      rcases List.mem_cons.mp hw with e | hw
      · subst e; rfl
      rcases List.mem_cons.mp hw with e | hw
      · subst e; rfl
      rcases List.mem_cons.mp hw with e | hw
      · subst e; rfl
      rw [List.mem_singleton.mp hw]; rfl
    exact va_Nw.same ht hv h9
  · obtain ⟨sa, hs⟩ := h2 q hq; exact ⟨sa, vk_R.same hv.symm hs⟩
/-- what a method that may throw, or make one of the nest, takes of its start -/
def ev_ (A : Nat → Prop) (U : State) : Prop := evT_ U ∧ vx_Zq Bundle.tN "UNASSIGNED_STACK" Bundle.steD A U U.heap ∧ vx_Zq Bundle.tN "SUPPRESSED_SENTINEL" Bundle.listD A U U.heap
theorem ev_p {A B : Nat → Prop} {s U : State} {H : Heap} {locs : List Loc} (h : ev_ A s) (hS : va_S A s.heap H locs) (hB : ∀ q, B q → A q) (hU : U.heap = H) (hW : s.WarmedH U.vm) : ev_ B U := by
  obtain ⟨h1, h2, h3⟩ := h
  refine ⟨evT_w hW h1, ?_, ?_⟩
  · rw [hU]; exact (vx_Zq.moved hW.alike (h2.kept hS.2.1)).narrow hB
  · rw [hU]; exact (vx_Zq.moved hW.alike (h3.kept hS.2.1)).narrow hB
theorem ev_c {A : Nat → Prop} {U : State} {g : JFrame} {mk : MethodId} {a : Array Value} (h : ev_ A U) : ev_ A (U.calling g mk a) :=
  ⟨evT_s (s := U) (U := U.calling g mk a) rfl h.1, vx_Zq.moved (u := U) (U := U.calling g mk a) (Vm.Alike.refl U.vm) h.2.1, vx_Zq.moved (u := U) (U := U.calling g mk a) (Vm.Alike.refl U.vm) h.2.2⟩
abbrev pce_ (g : va_G) (cI cJ cZ : ClassId) (av : List Value) (ws : va_W) (sz : Nat) : Array Value → State → Prop := va_Pc av (fun U => (U.heap.size = sz ∧ va_P g vwCl ws U.heap ∧ va_K g vwCl (ty_ cI cJ cZ) U ∧ va_D (fun _ => True) ws) ∧ ev_ (va_A ws sz) U)
theorem ble_ {g : va_G} {cI cJ cZ : ClassId} {av : List Value} {ws : va_W} {sz : Nat} : FrameBlind (pce_ g cI cJ cZ av ws sz) := fun a U g mk q => by
  obtain ⟨q0, ⟨q1, qP, qK, qD⟩, qe⟩ := q
  exact ⟨q0, ⟨q1, qP, va_K.moved (u := U) (U := U.calling g mk a) (Vm.Alike.refl U.vm) qK, qD⟩, ev_c qe⟩
theorem pve_ {s : State} {H : Heap} {g : va_G} {cI cJ cZ : ClassId} {ws : va_W} {A : Nat → Prop} {b : Nat} {As : List Value} {C : String} {A0 : Nat → Prop} {locs : List Loc} (hev : ev_ A0 s) (hS : va_S A0 s.heap H locs) (hF : ∀ q, va_A ws H.size q → A0 q) (hK : va_K g vwCl (ty_ cI cJ cZ) s) (hP : va_P g vwCl ws H) (hD : va_D A ws) (hr : ∃ cellB : Cell, H[b]? = some cellB ∧ cellB.vm.isStatics = false ∧ s.vm.findClass C = some cellB.cls) : PreV s H C b (pce_ g cI cJ cZ (.ref b :: As) ws H.size) As :=
  ⟨ble_, hr, fun U hU hW => ⟨rfl, ⟨by rw [hU], by rw [hU]; exact hP, va_K.moved hW.alike hK, hD.weaken (fun _ _ _ _ => trivial)⟩, ev_p hev hS hF hU hW⟩⟩
theorem pse_ {s : State} {H : Heap} {g : va_G} {cI cJ cZ : ClassId} {ws : va_W} {A : Nat → Prop} {As : List Value} {A0 : Nat → Prop} {locs : List Loc} (hev : ev_ A0 s) (hS : va_S A0 s.heap H locs) (hF : ∀ q, va_A ws H.size q → A0 q) (hK : va_K g vwCl (ty_ cI cJ cZ) s) (hP : va_P g vwCl ws H) (hD : va_D A ws) : PreS s H (pce_ g cI cJ cZ As ws H.size) As :=
  ⟨ble_, fun U hU hW => ⟨rfl, ⟨by rw [hU], by rw [hU]; exact hP, va_K.moved hW.alike hK, hD.weaken (fun _ _ _ _ => trivial)⟩, ev_p hev hS hF hU hW⟩⟩
section
variable {p : Program} {l : Launch} {e : Env} {R : Room} {s : State} {m : MethodId} {args : Array Value} {below : List Frame} {meth : Method} {c : Code} {H : Heap} {locs : List Loc} {cells slots : Nat} {Q : State → Prop}
variable {mc ms : Nat} {free : Addr → Prop} {A0 A1 : Nat → Prop} {H0 : Heap} {a : Array Value} {pc : Nat} {ls : Array Slot} {st0 rest : List Value}
theorem vx_callr {S SX : Type} {post : S → Prop} {px : SX → Prop} {B : S → Nat → State → Prop} {BX : String → SX → State → Prop} {AX : Nat → Prop} (hr : vx_Run p l e R s m args below meth c H locs cells slots mc ms (F0 m pc ls st0) rest (va_Qr post B A1 a) (vx_X px BX AX) free) (hS : va_S A0 H0 H locs) (hA : ∀ q, q < H.size → A1 q → A0 q) (hf : ∀ q, free q → A0 q) (hAX : ∀ q, q < H.size → AX q → A0 q)
    (kx : ∀ (E : String) (ce : Cell) (q9 : Addr) (u : SX) (t : State) (H1 : Heap) (locs1 : List Loc), t.heap = H1 → s.vm.Alike t.vm → px u → BX E u t → H.size ≤ H1.size → (∀ q : Nat, q < H.size → ¬ AX q → H1[q]? = H[q]?) → va_S A0 H0 H1 locs1 → H1[q9]? = some ce → ce.vm = .none → s.vm.findClass E = some ce.cls → vx_W p l e R s m args below meth c H1 locs1 (cells + mc) (slots + ms) Q (F0 m pc ls rest) q9)
    (kk : ∀ (u : S) (ra : Nat) (t : State) (H1 : Heap) (locs1 : List Loc), t.heap = H1 → s.vm.Alike t.vm → post u → B u ra t → H.size ≤ H1.size → (∀ q : Nat, q < H.size → ¬ A1 q → H1[q]? = H[q]?) → va_S A0 H0 H1 locs1 → W p l e R s m args below meth c H1 locs1 (cells + mc) (slots + ms) Q (F0 m (pc + 3) ls (.ref ra :: rest))) : W p l e R s m args below meth c H locs cells slots Q (F0 m pc ls st0) := by
  intro T hT X
  rcases hr T hT X with ⟨v, st₀, t, T', L, h0, X', hL, e1, e2, ⟨⟨u, ra, hv, hp, hb⟩, hF⟩, st⟩ | ⟨q, st₀, t, T', L, E, ce, h0, X', hL, e1, e2, ⟨u, hp, hb, hF⟩, hce, hcv, hcl, st⟩
  · cases hv
    obtain ⟨k1, k2, k3⟩ := vx_keep h0 e1 hS hA hf hL hF
    obtain ⟨t2, a1, b1⟩ := kk u ra t T'.heap (locs ++ L) e1.symm (by rw [← e2]; exact X'.warmed.alike) hp hb k1 k2 k3 T' rfl X'
    exact ⟨t2, st t2 a1, b1⟩
  · obtain ⟨k1, k2, k3⟩ := vx_keep h0 e1 hS hAX hf hL hF
    obtain ⟨t2, a1, b1⟩ := kx E ce q u t T'.heap (locs ++ L) e1.symm (by rw [← e2]; exact X'.warmed.alike) hp hb k1 k2 k3 (by rw [e1]; exact hce) hcv hcl T' rfl X'
    exact ⟨t2, st.trans a1, b1⟩
end
/-- the words of a throw of E -/
abbrev nm2_ : List String := ["java/lang/RuntimeException", "java/lang/Exception"]
theorem evB_u {s : State} {args : Array Value} (h : evT_ s) : ∀ w ∈ evB_, w.before args s = true := fun w hw => by
  refine va_Nw.use ?_ (h.1 w hw)
  unfold evB_ at hw
  rcases List.mem_cons.mp hw with e | hw
  · subst e; rfl
  rcases List.mem_cons.mp hw with e | hw
  · subst e; rfl
  rcases List.mem_cons.mp hw with e | hw
  · subst e; rfl
  rcases List.mem_cons.mp hw with e | hw
  · subst e; rfl
  rcases List.mem_cons.mp hw with e | hw
  · subst e; rfl
  rw [List.mem_singleton.mp hw]; rfl
theorem nb1_ : ∀ w ∈ (vx_atS RX5 89 "java/lang/IndexOutOfBoundsException" nm2_).filter (fun w => !goodWord w), w ∈ evB_ := by decide +kernel
theorem nb2_ : ∀ w ∈ (vx_atS RX5 36 "java/lang/IllegalArgumentException" nm2_).filter (fun w => !goodWord w), w ∈ evB_ := by decide +kernel
theorem nb3_ : ∀ w ∈ (vx_atS RX5 57 "java/lang/IllegalStateException" nm2_).filter (fun w => !goodWord w), w ∈ evB_ := by decide +kernel
theorem go1_ : ∀ w ∈ Cond.classLink RX5 85 "java/lang/IndexOutOfBoundsException" :: Cond.initialized "java/lang/IndexOutOfBoundsException" :: vx_atS RX5 89 "java/lang/IndexOutOfBoundsException" nm2_, vx_ot w = true := by decide +kernel
theorem go2_ : ∀ w ∈ Cond.classLink RX5 32 "java/lang/IllegalArgumentException" :: Cond.initialized "java/lang/IllegalArgumentException" :: vx_atS RX5 36 "java/lang/IllegalArgumentException" nm2_, vx_ot w = true := by decide +kernel
theorem go3_ : ∀ w ∈ Cond.classLink RX5 53 "java/lang/IllegalStateException" :: Cond.initialized "java/lang/IllegalStateException" :: vx_atS RX5 57 "java/lang/IllegalStateException" nm2_, vx_ot w = true := by decide +kernel
theorem fi1_ : Bundle.fit "java/lang/IndexOutOfBoundsException" = true := by decide +kernel
theorem fi2_ : Bundle.fit "java/lang/IllegalArgumentException" = true := by decide +kernel
theorem fi3_ : Bundle.fit "java/lang/IllegalStateException" = true := by decide +kernel
theorem fin_ : ∀ n ∈ nm2_, Bundle.fit n = true := by decide +kernel
/-- the world of a throw: nothing old has changed -/
theorem vp_k {g : va_G} {ws : va_W} {H H1 : Heap} (h : va_P g vwCl ws H) (hq : ∀ q : Nat, q < H.size → H1[q]? = H[q]?) : va_P g vwCl ws H1 := h.kept (fun k q hk => hq _ (h k q hk).lt)
theorem vf_k {A : Nat → Prop} {s t : State} {H : Heap} {locs : List Loc} (h : va_S A s.heap H locs) (hz : H.size ≤ t.heap.size) (hq : ∀ q : Nat, q < H.size → t.heap[q]? = H[q]?) : va_F A s t :=
  ⟨Nat.le_trans h.1 hz, fun q h1 h2 => (hq q (Nat.lt_of_lt_of_le h1 h.1)).trans (h.2.1 q h1 h2)⟩
theorem fa_l {v : Int32} (h : v < -500000000) : ¬ far_ v = 0 := by
  have e : wi_ v (-500000000) 500000000 = 0 := by unfold wi_; rw [if_neg (fun q => Int32.not_le.mpr h q.1)]
  unfold far_; rw [if_pos e]; decide
theorem fa_g {v : Int32} (h : 500000000 < v) : ¬ far_ v = 0 := by
  have e : wi_ v (-500000000) 500000000 = 0 := by unfold wi_; rw [if_neg (fun q => Int32.not_le.mpr h q.2)]
  unfold far_; rw [if_pos e]; decide
theorem fa_0 {v : Int32} (h1 : ¬ v < -500000000) (h2 : ¬ 500000000 < v) : far_ v = 0 := by
  have e : wi_ v (-500000000) 500000000 = 1 := by unfold wi_; rw [if_pos ⟨Int32.not_lt.mp h1, Int32.not_lt.mp h2⟩]
  unfold far_; rw [e, if_neg (by decide)]
theorem sw_o {v : Int32} {n : Nat} {N : Int32} (hn : N.toInt = (n : Int)) (h0 : v < 0 ∨ N < v) : v.toInt < 0 ∨ (n : Int) < v.toInt := by
  rcases h0 with h | h
  · rw [Int32.lt_iff_toInt_lt] at h; exact Or.inl h
  · rw [Int32.lt_iff_toInt_lt, hn] at h; exact Or.inr h
theorem w2_c {v : Int32} : (v = 0 ∨ v = 1 ∨ v = 2) ∨ wi_ v 0 2 = 0 := by
  by_cases h : wi_ v 0 2 = 0
  · exact Or.inr h
  · exact Or.inl (t3_w h)
theorem w2_o {v : Int32} (h : wi_ v 0 2 = 0) : v.toInt < 0 ∨ (2 : Int) < v.toInt := by
  unfold wi_ at h
  by_cases q : 0 ≤ v ∧ v ≤ 2
  · rw [if_pos q] at h; exact absurd h (by decide)
  · rw [Int32.le_iff_toInt_le, Int32.le_iff_toInt_le] at q
    have a : (0 : Int32).toInt = 0 := by decide
    have c : (2 : Int32).toInt = 2 := by decide
    rw [a, c] at q; omega
