set_option maxHeartbeats 4000000 in
set_option maxRecDepth 100000 in
/-- THE LAW'S LOOP -/
theorem law_loop {p : Program} {l : Launch} {e : Env} {s : State} {m : MethodId} {below : List Frame} {meth : Method} {c : Code} {g : va_G} {cI cJ cZ : ClassId} {b ra0 f1 f2 oa k1 k2 ba ca qm0 ot ma zk zp za zb zx zy zf zt zw zm zh zz zo zu : Nat} {L : Nat} {sc : Nat → Int32} (hlt : l.stackTraces = false) (hL : L ≤ 2048) (C0 : lw_At p s m meth c b L sc) (hK : va_K g vwCl (ty_ cI cJ cZ) s) (hev : ev_ (fun q : Nat => s.heap.size ≤ q) s) (hne : ¬ f1 = f2) :
    ∀ (k n cap : Nat), 4 * n ≤ L → L < 4 * n + 4 * k → ∀ (kd1 : Int32) (qx1 : Nat) (qy1 : Nat) (qs1 : Nat) (pr1 : Int32) (sc1 : Int32) (qt1 : Nat) (qh1 : Nat) (mn1 : Int32) (qm1 : Nat) (qd1 : Nat) (cx1 : Nat) (xs1 : Nat → Int32) (ys1 : Nat → Int32) (cp1 : Nat) (st1 : Nat → Int32) (ct1 : Nat) (ta1 : Nat → Int32) (he1 : Nat → Int32) (ma1 : Nat → Int32) (sd1 : Nat → Int64) (kd2 : Int32) (qx2 : Nat) (qy2 : Nat) (qs2 : Nat) (pr2 : Int32) (sc2 : Int32) (qt2 : Nat) (qh2 : Nat) (mn2 : Int32) (qm2 : Nat) (qd2 : Nat) (cx2 : Nat) (xs2 : Nat → Int32) (ys2 : Nat → Int32) (cp2 : Nat) (st2 : Nat → Int32) (ct2 : Nat) (ta2 : Nat → Int32) (he2 : Nat → Int32) (ma2 : Nat → Int32) (sd2 : Nat → Int64) (cv1 : Int32) (cg1 : Int32) (mt1 : Int32) (mk1 : Int32) (tu1 : Int32) (tw1 : Int32) (cv2 : Int32) (cg2 : Int32) (mt2 : Int32) (mk2 : Int32) (tu2 : Int32) (tw2 : Int32) (bx : Int64) (by1 : Int64) (bdx : Int64) (bdy : Int64) (ccs : Int32) (qo : Nat) (qu : Nat) (qg : Nat) (qr : Nat) (qp : Nat) (cov : Nat → Int64) (cun : Nat → Int64) (csg : Nat → Int32) (cod : Nat → Int32) (csp : Nat → Int32) (cmx : Nat → Int32) (cfr : Int32) (ou : Nat → Int64) (th : Int32) (rsn : Int32) (x0 : Int64) (y0 : Int64) (dx : Int64) (dy : Int64) (cu : Int32) (kn : Nat → Int32) (pt : Nat → Int32) (pa : Nat → Int32) (bg : Nat → Int32) (xs : Nat → Int32) (ys : Nat → Int32) (rfr : Nat → Int32) (rto : Nat → Int32) (rwh : Nat → Int32) (rmx : Nat → Int32) (rha : Nat → Int32) (rz : Nat → Int64) (rov : Nat → Int64) (run : Nat → Int64) (PT : Nat → Nat) (PA : Nat → Nat) (SN : Nat → Nat → Nat) (H : Heap) (locs : List Loc) (ls : Array Slot), LJ_ g cI cJ cZ (fun q : Nat => s.heap.size ≤ q) s b ra0 f1 f2 oa k1 k2 ba ca qm0 ot ma zk zp za zb zx zy zf zt zw zm zh zz zo zu kd1 qx1 qy1 qs1 pr1 sc1 qt1 qh1 mn1 qm1 qd1 cx1 xs1 ys1 cp1 st1 ct1 ta1 he1 ma1 sd1 kd2 qx2 qy2 qs2 pr2 sc2 qt2 qh2 mn2 qm2 qd2 cx2 xs2 ys2 cp2 st2 ct2 ta2 he2 ma2 sd2 cv1 cg1 mt1 mk1 tu1 tw1 cv2 cg2 mt2 mk2 tu2 tw2 bx by1 bdx bdy ccs qo qu qg qr qp cov cun csg cod csp cmx cfr ou th rsn x0 y0 dx dy cu kn pt pa bg xs ys rfr rto rwh rmx rha rz rov run PT PA SN n n cap H locs ls → W p l e room_1 s m #[Value.ref b] below meth c H locs (60 + 12 * n + cap) (48000 + 8300 * n + 10 * cap) (lw_Z below #[Value.ref b] s) (F0 m 23 ls []) := by
  obtain ⟨hx, hb, hr, hml, hown, htl, hX, hbl, hlocks, hgv⟩ := id C0
  have hb : c.code = cL_law := hb
  have hbA : ¬ (fun q : Nat => s.heap.size ≤ q) b := Nat.not_le.mpr hbl
  intro k
  induction k with
  | zero =>
    intro n cap h1 h2
    exact absurd h2 (by omega)
  | succ k ih =>
    intro n cap h4 hk kd1 qx1 qy1 qs1 pr1 sc1 qt1 qh1 mn1 qm1 qd1 cx1 xs1 ys1 cp1 st1 ct1 ta1 he1 ma1 sd1 kd2 qx2 qy2 qs2 pr2 sc2 qt2 qh2 mn2 qm2 qd2 cx2 xs2 ys2 cp2 st2 ct2 ta2 he2 ma2 sd2 cv1 cg1 mt1 mk1 tu1 tw1 cv2 cg2 mt2 mk2 tu2 tw2 bx by1 bdx bdy ccs qo qu qg qr qp cov cun csg cod csp cmx cfr ou th rsn x0 y0 dx dy cu kn pt pa bg xs ys rfr rto rwh rmx rha rz rov run PT PA SN H locs ls hI
    obtain ⟨hI, hP, hD, hS, hl⟩ := hI
    have hcap := hI.2.2.2.2.2
    refine lv_iload hx hb dL_law_23 (lv_at hl 4 rfl) ?_
    refine lv_aload_n hx hb dL_law_25 rfl (lv_at hl 0 rfl) ?_
    refine va_slen hx hb hX hbl hbA hS dL_law_26 ?_
    refine lv_iconst (v := 4) hx hb dL_law_27 (by decide) ?_
    refine lv_isub hx hb dL_law_28 ?_
    refine lv_icmp_gt (tgt := 646) hx hb dL_law_29 (by decide) (fun c1 => ?_) (fun c1 => ?_)
    · refine lv_iconst (v := 1) hx hb dL_law_646 (by decide) ?_
      refine va_forget (fun q hq => hS.2.2 q hq) ?_
      refine W.widen (k := 601024) (n := 7293034) (by omega) (by omega) ?_
      exact lw_ret hx hb hr hlocks dL_law_647
    · have hn : 4 * n + 4 ≤ L := hd_c hL h4 c1
      refine lv_aload_n hx hb dL_law_32 rfl (lv_at hl 0 rfl) ?_
      refine lv_iload hx hb dL_law_33 (lv_at hl 4 rfl) ?_
      refine va_sld hx hb hX hbl hbA hS (vp_in_nI (show 4 * n < L by omega) (by omega)) dL_law_35 ?_
      refine lv_bipush (v := 15) hx hb dL_law_36 (by decide) ?_
      refine lv_iand hx hb dL_law_38 ?_
      exact law_sw hlt hL C0 hK hev hbA hne n cap hn H locs ls kd1 qx1 qy1 qs1 pr1 sc1 qt1 qh1 mn1 qm1 qd1 cx1 xs1 ys1 cp1 st1 ct1 ta1 he1 ma1 sd1 kd2 qx2 qy2 qs2 pr2 sc2 qt2 qh2 mn2 qm2 qd2 cx2 xs2 ys2 cp2 st2 ct2 ta2 he2 ma2 sd2 cv1 cg1 mt1 mk1 tu1 tw1 cv2 cg2 mt2 mk2 tu2 tw2 bx by1 bdx bdy ccs qo qu qg qr qp cov cun csg cod csp cmx cfr ou th rsn x0 y0 dx dy cu kn pt pa bg xs ys rfr rto rwh rmx rha rz rov run PT PA SN hI hP hD hS hl (fun kd1 qx1 qy1 qs1 pr1 sc1 qt1 qh1 mn1 qm1 qd1 cx1 xs1 ys1 cp1 st1 ct1 ta1 he1 ma1 sd1 kd2 qx2 qy2 qs2 pr2 sc2 qt2 qh2 mn2 qm2 qd2 cx2 xs2 ys2 cp2 st2 ct2 ta2 he2 ma2 sd2 cv1 cg1 mt1 mk1 tu1 tw1 cv2 cg2 mt2 mk2 tu2 tw2 bx by1 bdx bdy ccs qo qu qg qr qp cov cun csg cod csp cmx cfr ou th rsn x0 y0 dx dy cu kn pt pa bg xs ys rfr rto rwh rmx rha rz rov run PT PA SN cap9 H locs ls hI => law_inc hx hb n kd1 qx1 qy1 qs1 pr1 sc1 qt1 qh1 mn1 qm1 qd1 cx1 xs1 ys1 cp1 st1 ct1 ta1 he1 ma1 sd1 kd2 qx2 qy2 qs2 pr2 sc2 qt2 qh2 mn2 qm2 qd2 cx2 xs2 ys2 cp2 st2 ct2 ta2 he2 ma2 sd2 cv1 cg1 mt1 mk1 tu1 tw1 cv2 cg2 mt2 mk2 tu2 tw2 bx by1 bdx bdy ccs qo qu qg qr qp cov cun csg cod csp cmx cfr ou th rsn x0 y0 dx dy cu kn pt pa bg xs ys rfr rto rwh rmx rha rz rov run PT PA SN cap9 H locs ls hI (fun H locs ls hI => ih (n + 1) cap9 (by omega) (by omega) kd1 qx1 qy1 qs1 pr1 sc1 qt1 qh1 mn1 qm1 qd1 cx1 xs1 ys1 cp1 st1 ct1 ta1 he1 ma1 sd1 kd2 qx2 qy2 qs2 pr2 sc2 qt2 qh2 mn2 qm2 qd2 cx2 xs2 ys2 cp2 st2 ct2 ta2 he2 ma2 sd2 cv1 cg1 mt1 mk1 tu1 tw1 cv2 cg2 mt2 mk2 tu2 tw2 bx by1 bdx bdy ccs qo qu qg qr qp cov cun csg cod csp cmx cfr ou th rsn x0 y0 dx dy cu kn pt pa bg xs ys rfr rto rwh rmx rha rz rov run PT PA SN H locs ls hI)) _
