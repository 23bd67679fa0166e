/-- what is heard at y of a set of WORDS said at x -/
def hearM (cl : Nat → Nat) (nc air sn : Nat) (wd : Nat → Nat) (nw x y set : Nat) : Snd := playM quietM (onS set) wd (waysM cl air sn x y nc) 0 nw
/-- which of them are CLEAR -/
def clrM (cl : Nat → Nat) (nc air sn : Nat) (wd : Nat → Nat) (nw x y set : Nat) : Nat := bitsM (fun w => onS set w && hitM (hearM cl nc air sn wd nw x y set) wd w 0 (absd x y) (air * absd x y)) nw
def cntClr (cl : Nat → Nat) (nc air sn : Nat) (wd : Nat → Nat) (nw x y : Nat) : Nat := popM (clrM cl nc air sn wd nw x y (2 ^ nw - 1))
def rentM (cl : Nat → Nat) (nc air sn : Nat) (wd : Nat → Nat) (nw x : Nat) : Nat := cntM (fun w => backM (hearM cl nc air sn wd nw x x (2 ^ nw - 1)) wd w (waysM cl air sn x x nc)) nw
theorem waysM_head (cl : Nat → Nat) (air sn x y nc : Nat) : (waysM cl air sn x y nc).getD 0 (0, 0) = (absd x y, air * absd x y) := by
  induction nc with
  | zero => rfl
  | succ f ih =>
    have h := waysM_pos cl air sn x y f
    rw [waysM_s]
    have e : (waysM cl air sn x y f ++ wayM cl air sn x y f).getD 0 (0, 0) = (waysM cl air sn x y f).getD 0 (0, 0) := by
      simp [List.getD_eq_getElem?_getD, List.getElem?_append, h]
    rw [e, ih]
theorem waysM_lp (cl : Nat → Nat) (air sn x y nc : Nat) : 0 < lenW (waysM cl air sn x y nc) := waysM_pos cl air sn x y nc
theorem rep_head {bt lw cl : Nat → Nat} {air sn x y nc : Nat} (h : repW bt lw (waysM cl air sn x y nc)) : bt 0 = absd x y ∧ lw 0 = air * absd x y := by
  obtain ⟨h1, h2, -⟩ := h 0 (waysM_lp cl air sn x y nc)
  rw [waysM_head] at h1 h2
  exact ⟨h1, h2⟩
theorem pow8 {n : Nat} (h : n ≤ 8) : 2 ^ n ≤ 256 := by
  have := Nat.pow_le_pow_right (n := 2) (by omega) h
  simpa using this
theorem bits_4096 {c : Nat → Bool} {n : Nat} (h : n ≤ 8) : bitsM c n < 4096 := by
  have h1 := bitsM_lt c n
  have h2 := pow8 h
  omega

set_option maxRecDepth 100000 in
set_option maxHeartbeats 4000000 in
theorem c_X6_listen (l : Launch) (D : va_G) (cI cC : ClassId) (o : Nat) (t0 : Nat) (a1 : Nat) (a2 : Nat) (w0 : Nat) (y0 : Nat) (s0 : Nat) (h0 : Nat) (g0 : Nat) (u0 : Nat) (v0 : Nat) (wb : Nat) (bb : Nat) (wl : Nat) (bl : Nat) (v1 : Nat) (va : Nat) (l1 : Nat) (la : Nat) (kw : Nat) (bt : Nat → Nat) (lw : Nat → Nat) (vg : Nat → Nat) (lg : Nat → Nat) (k1 : Nat) (k2 : Nat) (a : Nat) (b1 : Nat) (c1 : Nat) (b2 : Nat) (c2 : Nat) (cl : Nat → Nat) (nc : Nat) (wd : Nat → Nat) (nw : Nat) (sp : Nat) (he : Nat) (air : Nat) (sn : Nat) (y : Nat) (set : Nat) (hy : y ≤ 40) (hset : set < 2147483648) (hnn : nc ≤ 4 ∧ nw ≤ 8) (hok : okC cl nc) (hokd : okD wd nw) (hsp : sp ≤ 40) (hair : air ≤ 99 ∧ sn < 2147483648) : mtV l D cI cC yX6_listen wsX6_listen ({ frames := 4, cells := 0, slots := 0, locals := 98 }) [.ref o, .ref a, .int (nI y), .int (nI set)] [(o, eEPR t0 a1 a2 w0 y0 s0 h0 g0 u0 v0), (w0, eWay wb wl), (wb, eRow bb kw), (bb, eArr cI 9 bt), (wl, eRow bl kw), (bl, eArr cI 9 lw), (s0, eSnd v1 l1), (v1, eRow va k1), (va, eArr cI 150 vg), (l1, eRow la k2), (la, eArr cI 150 lg), (a, eCan b1 b2 sp he air sn), (b1, eRow c1 (3 * nc)), (c1, eArr cI 12 cl), (b2, eRow c2 (3 * nw)), (c2, eArr cI 24 wd)] (fun ((bt', lw') : (Nat → Nat) × (Nat → Nat)) => repW bt' lw' (waysM cl air sn sp y nc)) (fun ((bt', lw') : (Nat → Nat) × (Nat → Nat)) => [(o, eEPR t0 a1 a2 w0 y0 s0 h0 g0 u0 v0), (w0, eWay wb wl), (wb, eRow bb (lenW (waysM cl air sn sp y nc))), (bb, eArr cI 9 bt'), (wl, eRow bl (lenW (waysM cl air sn sp y nc))), (bl, eArr cI 9 lw'), (s0, eSnd v1 l1), (v1, eRow va 150), (va, eArr cI 150 ((hearM cl nc air sn wd nw sp y set).2)), (l1, eRow la 150), (la, eArr cI 150 ((hearM cl nc air sn wd nw sp y set).1)), (a, eCan b1 b2 sp he air sn), (b1, eRow c1 (3 * nc)), (c1, eArr cI 12 cl), (b2, eRow c2 (3 * nw)), (c2, eArr cI 24 wd)]) := by
  refine mtV_of (cc := cX6_listen) (maxL := 4) (ret := none) (by decide) rfl rfl ?_
  intro p e s m below meth c A hx hb hml hr hts hown hlocks hN hA hK hP hD hS ls hl
  have hown : s.vm.findClass RX6 = some m.cls := hown
  have hl : lv_has ls 4 [(0, .ref o), (1, .ref a), (2, .int (nI y)), (3, .int (nI set))] := hl
  obtain ⟨H, hHe⟩ : ∃ H, H = s.heap := ⟨_, rfl⟩
  rw [← hHe] at hP ⊢
  have hS : va_S A s.heap H [] := by rw [hHe]; exact va_S.rf
  have fl29 := hts (.fieldLink RX6 29 "EchoPaysRent" "ways" "LEchoPaysRent$Ways;") (by decide +kernel)
  have inX6 : ∀ w ∈ wsX60, w ∈ wsX6_listen := by decide +kernel
  have fn151 : (Cond.fieldLinkNest RX6 151 "EchoPaysRent$Canyon" "speaker" "I" "EchoPaysRent").before ([.ref o, .ref a, .int (nI y), .int (nI set)] : List Value).toArray s = true := nz_use hN (List.mem_of_getElem? (i := 1) rfl)
  have inX0 : ∀ w ∈ wsX00, w ∈ wsX6_listen := by decide +kernel
  have fl39 := hts (.fieldLink RX6 39 "EchoPaysRent" "sound" "LEchoPaysRent$Sound;") (by decide +kernel)
  refine lv_aload_n hx hb dX6_listen_0 rfl (lv_at hl 0 rfl) ?_
  refine va_get (D := D) (ci := 6) (v := .ref w0) (C := RX6) (T := TX6) (N := 10) hx hb hts inX6 hown hK hP 0 rfl rfl 3 (by decide) fl29 (fun _ h9 => h9) rfl dX6_listen_1 ?_
  refine lv_aload_n hx hb dX6_listen_4 rfl (lv_at hl 1 rfl) ?_
  refine lv_aload_n hx hb dX6_listen_5 rfl (lv_at hl 1 rfl) ?_
  refine va_getN (D := D) (ci := 0) (v := .int (nI sp)) (C := RX0) (T := TX0) (N := 6) hx hb hts inX0 hown hK hP 11 rfl rfl 2 (by decide) fn151 (fun _ h9 => h9) rfl dX6_listen_6 ?_
  refine lv_iload_n hx hb dX6_listen_9 rfl (lv_at hl 2 rfl) ?_
  refine k_Vv (q := (RX5, TX5, 2)) (ci := 5) (As := [.ref a, .int (nI sp), .int (nI y)]) (wr := [(o, eEPR t0 a1 a2 w0 y0 s0 h0 g0 u0 v0), (s0, eSnd v1 l1), (v1, eRow va k1), (va, eArr cI 150 vg), (l1, eRow la k2), (la, eArr cI 150 lg), (b2, eRow c2 (3 * nw)), (c2, eArr cI 24 wd)]) ⟨hx, hb, hml, hown, hts⟩ (c_X5_trace l D cI cC w0 wb bb wl bl bt lw a b1 b2 sp he air sn c1 cl nc (by omega) sp y kw hok (by omega) (by omega) (by omega)) (cwV 3 hts gX6_listen_X5_trace rfl rfl rfl (by decide +kernel) ⟨Nat.le_of_ble_eq_true rfl, Nat.le_of_ble_eq_true rfl⟩) rfl hl.1 rfl (Nat.le_of_ble_eq_true rfl) dX6_listen_10 ⟨Nat.zero_le _, Nat.zero_le _⟩ hN hK hP hD hS hA rfl (q0 := 1) rfl [1, 2, 3, 4, 5, 11, 12, 13] [0, 6, 7, 8, 9, 10, 14, 15] rfl rfl ⟨rfl, rfl, by decide⟩ (fun u H locs w4 hP hD hS => ?_)
  obtain ⟨bt'2, lw'3⟩ := u
  have h5 : repW bt'2 lw'3 (waysM cl air sn sp y nc) := w4
  refine lv_aload_n hx hb dX6_listen_13 rfl (lv_at hl 0 rfl) ?_
  refine va_get (D := D) (ci := 6) (v := .ref s0) (C := RX6) (T := TX6) (N := 10) hx hb hts inX6 hown hK hP 0 rfl rfl 5 (by decide) fl39 (fun _ h9 => h9) rfl dX6_listen_14 ?_
  refine k_Vv (q := (RX3, TX3, 2)) (ci := 3) (As := []) (wr := [(o, eEPR t0 a1 a2 w0 y0 s0 h0 g0 u0 v0), (b2, eRow c2 (3 * nw)), (c2, eArr cI 24 wd), (w0, eWay wb wl), (wb, eRow bb (lenW (waysM cl air sn sp y nc))), (bb, eArr cI 9 bt'2), (wl, eRow bl (lenW (waysM cl air sn sp y nc))), (bl, eArr cI 9 lw'3), (a, eCan b1 b2 sp he air sn), (b1, eRow c1 (3 * nc)), (c1, eArr cI 12 cl)]) ⟨hx, hb, hml, hown, hts⟩ (c_X3_hush l D cI cC s0 v1 va l1 la vg lg k1 k2) (cwV 0 hts gX6_listen_X3_hush rfl rfl rfl (by decide +kernel) ⟨Nat.le_of_ble_eq_true rfl, Nat.le_of_ble_eq_true rfl⟩) rfl hl.1 rfl (Nat.le_of_ble_eq_true rfl) dX6_listen_17 ⟨Nat.zero_le _, Nat.zero_le _⟩ hN hK hP hD hS hA rfl (q0 := 1) rfl [1, 2, 3, 4, 5] [0, 6, 7, 8, 9, 10, 11, 12, 13, 14, 15] rfl rfl ⟨rfl, rfl, by decide⟩ (fun u H locs w7 hP hD hS => ?_)
  refine lv_aload_n hx hb dX6_listen_20 rfl (lv_at hl 0 rfl) ?_
  refine va_get (D := D) (ci := 6) (v := .ref s0) (C := RX6) (T := TX6) (N := 10) hx hb hts inX6 hown hK hP 0 rfl rfl 5 (by decide) fl39 (fun _ h9 => h9) rfl dX6_listen_21 ?_
  refine lv_aload_n hx hb dX6_listen_24 rfl (lv_at hl 1 rfl) ?_
  refine lv_iload_n hx hb dX6_listen_25 rfl (lv_at hl 3 rfl) ?_
  refine lv_aload_n hx hb dX6_listen_26 rfl (lv_at hl 0 rfl) ?_
  refine va_get (D := D) (ci := 6) (v := .ref w0) (C := RX6) (T := TX6) (N := 10) hx hb hts inX6 hown hK hP 0 rfl rfl 3 (by decide) fl29 (fun _ h9 => h9) rfl dX6_listen_27 ?_
  refine lv_iconst (v := (nI 0)) hx hb dX6_listen_30 (by decide) ?_
  have f8 : lenW (waysM cl air sn sp y nc) ≤ 1 + 2 * nc := waysM_lenW cl air sn sp y nc
  refine k_Vv (q := (RX3, TX3, 2)) (ci := 3) (As := [.ref a, .int (nI set), .ref w0, .int (nI 0)]) (wr := [(o, eEPR t0 a1 a2 w0 y0 s0 h0 g0 u0 v0), (b1, eRow c1 (3 * nc)), (c1, eArr cI 12 cl)]) ⟨hx, hb, hml, hown, hts⟩ (c_X3_play l D cI cC s0 v1 va l1 la quietM a b1 b2 sp he air sn c2 wd nw w0 wb bb wl bl bt'2 lw'3 (waysM cl air sn sp y nc) set 0 (by omega) (by omega) (by omega) okS_quiet h5 (by omega) hokd) (cwV 4 hts gX6_listen_X3_play rfl rfl rfl (by decide +kernel) ⟨Nat.le_of_ble_eq_true rfl, Nat.le_of_ble_eq_true rfl⟩) rfl hl.1 rfl (Nat.le_of_ble_eq_true rfl) dX6_listen_31 ⟨Nat.zero_le _, Nat.zero_le _⟩ hN hK hP hD hS hA rfl (q0 := 11) rfl [11, 12, 13, 14, 15, 8, 1, 2, 3, 4, 5, 6, 7] [0, 9, 10] rfl rfl ⟨rfl, rfl, by decide⟩ (fun u H locs w10 hP hD hS => ?_)
  have hP : va_P D vwCl [(o, eEPR t0 a1 a2 w0 y0 s0 h0 g0 u0 v0), (b1, eRow c1 (3 * nc)), (c1, eArr cI 12 cl), (s0, eSnd v1 l1), (v1, eRow va 150), (va, eArr cI 150 ((hearM cl nc air sn wd nw sp y set).2)), (l1, eRow la 150), (la, eArr cI 150 ((hearM cl nc air sn wd nw sp y set).1)), (a, eCan b1 b2 sp he air sn), (b2, eRow c2 (3 * nw)), (c2, eArr cI 24 wd), (w0, eWay wb wl), (wb, eRow bb (lenW (waysM cl air sn sp y nc))), (bb, eArr cI 9 bt'2), (wl, eRow bl (lenW (waysM cl air sn sp y nc))), (bl, eArr cI 9 lw'3)] H := hP
  have hD : va_D A [(o, eEPR t0 a1 a2 w0 y0 s0 h0 g0 u0 v0), (b1, eRow c1 (3 * nc)), (c1, eArr cI 12 cl), (s0, eSnd v1 l1), (v1, eRow va 150), (va, eArr cI 150 ((hearM cl nc air sn wd nw sp y set).2)), (l1, eRow la 150), (la, eArr cI 150 ((hearM cl nc air sn wd nw sp y set).1)), (a, eCan b1 b2 sp he air sn), (b2, eRow c2 (3 * nw)), (c2, eArr cI 24 wd), (w0, eWay wb wl), (wb, eRow bb (lenW (waysM cl air sn sp y nc))), (bb, eArr cI 9 bt'2), (wl, eRow bl (lenW (waysM cl air sn sp y nc))), (bl, eArr cI 9 lw'3)] := hD
  exact x_vret hx hb hr hlocks dX6_listen_34 (post := fun ((bt', lw') : (Nat → Nat) × (Nat → Nat)) => repW bt' lw' (waysM cl air sn sp y nc)) (w1 := fun ((bt', lw') : (Nat → Nat) × (Nat → Nat)) => [(o, eEPR t0 a1 a2 w0 y0 s0 h0 g0 u0 v0), (w0, eWay wb wl), (wb, eRow bb (lenW (waysM cl air sn sp y nc))), (bb, eArr cI 9 bt'), (wl, eRow bl (lenW (waysM cl air sn sp y nc))), (bl, eArr cI 9 lw'), (s0, eSnd v1 l1), (v1, eRow va 150), (va, eArr cI 150 ((hearM cl nc air sn wd nw sp y set).2)), (l1, eRow la 150), (la, eArr cI 150 ((hearM cl nc air sn wd nw sp y set).1)), (a, eCan b1 b2 sp he air sn), (b1, eRow c1 (3 * nc)), (c1, eArr cI 12 cl), (b2, eRow c2 (3 * nw)), (c2, eArr cI 24 wd)]) (bt'2, lw'3) h5 hK (hP.sub [0, 11, 12, 13, 14, 15, 3, 4, 5, 6, 7, 8, 1, 2, 9, 10] rfl) (hD.sub [0, 11, 12, 13, 14, 15, 3, 4, 5, 6, 7, 8, 1, 2, 9, 10] rfl rfl) hS

set_option maxRecDepth 100000 in
set_option maxHeartbeats 4000000 in
theorem c_X6_clearSet (l : Launch) (D : va_G) (cI cC : ClassId) (o : Nat) (t0 : Nat) (a1 : Nat) (a2 : Nat) (w0 : Nat) (y0 : Nat) (s0 : Nat) (h0 : Nat) (g0 : Nat) (u0 : Nat) (v0 : Nat) (wb : Nat) (bb : Nat) (wl : Nat) (bl : Nat) (v1 : Nat) (va : Nat) (l1 : Nat) (la : Nat) (kw : Nat) (bt : Nat → Nat) (lw : Nat → Nat) (vg : Nat → Nat) (lg : Nat → Nat) (k1 : Nat) (k2 : Nat) (a : Nat) (b1 : Nat) (c1 : Nat) (b2 : Nat) (c2 : Nat) (cl : Nat → Nat) (nc : Nat) (wd : Nat → Nat) (nw : Nat) (sp : Nat) (he : Nat) (air : Nat) (sn : Nat) (y : Nat) (set : Nat) (hy : y ≤ 40) (hset : set < 2147483648) (hnn : nc ≤ 4 ∧ nw ≤ 8) (hok : okC cl nc) (hokd : okD wd nw) (hsp : sp ≤ 40) (hair : air ≤ 99 ∧ sn < 2147483648) : mtI l D cI cC yX6_clearSet wsX6_clearSet ({ frames := 5, cells := 0, slots := 0, locals := 121 }) [.ref o, .ref a, .int (nI y), .int (nI set)] [(o, eEPR t0 a1 a2 w0 y0 s0 h0 g0 u0 v0), (w0, eWay wb wl), (wb, eRow bb kw), (bb, eArr cI 9 bt), (wl, eRow bl kw), (bl, eArr cI 9 lw), (s0, eSnd v1 l1), (v1, eRow va k1), (va, eArr cI 150 vg), (l1, eRow la k2), (la, eArr cI 150 lg), (a, eCan b1 b2 sp he air sn), (b1, eRow c1 (3 * nc)), (c1, eArr cI 12 cl), (b2, eRow c2 (3 * nw)), (c2, eArr cI 24 wd)] (fun (r : Int32) ((bt', lw') : (Nat → Nat) × (Nat → Nat)) => r = (nI (clrM cl nc air sn wd nw sp y set)) ∧ repW bt' lw' (waysM cl air sn sp y nc)) (fun ((bt', lw') : (Nat → Nat) × (Nat → Nat)) => [(o, eEPR t0 a1 a2 w0 y0 s0 h0 g0 u0 v0), (w0, eWay wb wl), (wb, eRow bb (lenW (waysM cl air sn sp y nc))), (bb, eArr cI 9 bt'), (wl, eRow bl (lenW (waysM cl air sn sp y nc))), (bl, eArr cI 9 lw'), (s0, eSnd v1 l1), (v1, eRow va 150), (va, eArr cI 150 ((hearM cl nc air sn wd nw sp y set).2)), (l1, eRow la 150), (la, eArr cI 150 ((hearM cl nc air sn wd nw sp y set).1)), (a, eCan b1 b2 sp he air sn), (b1, eRow c1 (3 * nc)), (c1, eArr cI 12 cl), (b2, eRow c2 (3 * nw)), (c2, eArr cI 24 wd)]) := by
  refine mtI_of (cc := cX6_clearSet) (maxL := 4) (ret := (some .int)) (by decide) rfl rfl ?_
  intro p e s m below meth c A hx hb hml hr hts hown hlocks hN hA hK hP hD hS ls hl
  have hown : s.vm.findClass RX6 = some m.cls := hown
  have hl : lv_has ls 4 [(0, .ref o), (1, .ref a), (2, .int (nI y)), (3, .int (nI set))] := hl
  obtain ⟨H, hHe⟩ : ∃ H, H = s.heap := ⟨_, rfl⟩
  rw [← hHe] at hP ⊢
  have hS : va_S A s.heap H [] := by rw [hHe]; exact va_S.rf
  have fl39 := hts (.fieldLink RX6 39 "EchoPaysRent" "sound" "LEchoPaysRent$Sound;") (by decide +kernel)
  have inX6 : ∀ w ∈ wsX60, w ∈ wsX6_clearSet := by decide +kernel
  have fl29 := hts (.fieldLink RX6 29 "EchoPaysRent" "ways" "LEchoPaysRent$Ways;") (by decide +kernel)
  refine lv_aload_n hx hb dX6_clearSet_0 rfl (lv_at hl 0 rfl) ?_
  refine lv_aload_n hx hb dX6_clearSet_1 rfl (lv_at hl 1 rfl) ?_
  refine lv_iload_n hx hb dX6_clearSet_2 rfl (lv_at hl 2 rfl) ?_
  refine lv_iload_n hx hb dX6_clearSet_3 rfl (lv_at hl 3 rfl) ?_
  refine k_Vv (q := (RX6, TX6, 10)) (ci := 6) (As := [.ref a, .int (nI y), .int (nI set)]) (wr := []) ⟨hx, hb, hml, hown, hts⟩ (c_X6_listen l D cI cC o t0 a1 a2 w0 y0 s0 h0 g0 u0 v0 wb bb wl bl v1 va l1 la kw bt lw vg lg k1 k2 a b1 c1 b2 c2 cl nc wd nw sp he air sn y set (by omega) (by omega) (by omega) hok hokd (by omega) (by omega)) (cwV 3 hts gX6_clearSet_X6_listen rfl rfl rfl (by decide +kernel) ⟨Nat.le_of_ble_eq_true rfl, Nat.le_of_ble_eq_true rfl⟩) rfl hl.1 rfl (Nat.le_of_ble_eq_true rfl) dX6_clearSet_4 ⟨Nat.zero_le _, Nat.zero_le _⟩ hN hK hP hD hS hA rfl (q0 := 0) rfl [0, 1, 2, 3, 4, 5, 6, 7, 8, 9, 10, 11, 12, 13, 14, 15] [] rfl rfl ⟨rfl, rfl, by decide⟩ (fun u H locs w4 hP hD hS => ?_)
  obtain ⟨bt'2, lw'3⟩ := u
  have h5 : repW bt'2 lw'3 (waysM cl air sn sp y nc) := w4
  have f6 : lenW (waysM cl air sn sp y nc) ≤ 1 + 2 * nc := waysM_lenW cl air sn sp y nc
  have f7 : 0 < lenW (waysM cl air sn sp y nc) := waysM_lp cl air sn sp y nc
  refine lv_aload_n hx hb dX6_clearSet_7 rfl (lv_at hl 0 rfl) ?_
  refine va_get (D := D) (ci := 6) (v := .ref s0) (C := RX6) (T := TX6) (N := 10) hx hb hts inX6 hown hK hP 0 rfl rfl 5 (by decide) fl39 (fun _ h9 => h9) rfl dX6_clearSet_8 ?_
  refine lv_aload_n hx hb dX6_clearSet_11 rfl (lv_at hl 1 rfl) ?_
  refine lv_iload_n hx hb dX6_clearSet_12 rfl (lv_at hl 3 rfl) ?_
  refine lv_aload_n hx hb dX6_clearSet_13 rfl (lv_at hl 0 rfl) ?_
  refine va_get (D := D) (ci := 6) (v := .ref w0) (C := RX6) (T := TX6) (N := 10) hx hb hts inX6 hown hK hP 0 rfl rfl 3 (by decide) fl29 (fun _ h9 => h9) rfl dX6_clearSet_14 ?_
  refine lv_iconst (v := (nI 0)) hx hb dX6_clearSet_17 (by decide) ?_
  refine k_V (q := (RX3, TX3, 2)) (ci := 3) (As := [.ref a, .int (nI set), .ref w0, .int (nI 0)]) (wr := [(o, eEPR t0 a1 a2 w0 y0 s0 h0 g0 u0 v0), (b1, eRow c1 (3 * nc)), (c1, eArr cI 12 cl)]) ⟨hx, hb, hml, hown, hts⟩ (c_X3_clearOf l D cI cC s0 v1 va l1 la (hearM cl nc air sn wd nw sp y set) a b1 b2 sp he air sn c2 wd nw w0 wb bb wl bl bt'2 lw'3 (waysM cl air sn sp y nc) set 0 (by omega) (by omega) (by omega) (by omega) (okS_play okS_quiet hokd nw (Nat.le_refl nw)) h5 (by omega) hokd) (cwV 4 hts gX6_clearSet_X3_clearOf rfl rfl rfl (by decide +kernel) ⟨Nat.le_of_ble_eq_true rfl, Nat.le_of_ble_eq_true rfl⟩) rfl hl.1 rfl (Nat.le_of_ble_eq_true rfl) dX6_clearSet_18 ⟨Nat.zero_le _, Nat.zero_le _⟩ hN hK hP hD hS hA rfl (q0 := 6) rfl [6, 7, 8, 9, 10, 11, 14, 15, 1, 2, 3, 4, 5] [0, 12, 13] rfl rfl ⟨rfl, rfl, by decide⟩ (fun r8 u H locs w9 hP hD hS => ?_)
  obtain rfl : r8 = (nI (bitsM (fun w => onS set w && hitM (hearM cl nc air sn wd nw sp y set) wd w 0 (bt'2 0) (lw'3 0)) nw)) := w9
  refine x_top (show nI (bitsM (fun w => onS set w && hitM (hearM cl nc air sn wd nw sp y set) wd w 0 (bt'2 0) (lw'3 0)) nw) = nI (clrM cl nc air sn wd nw sp y set) from by unfold clrM; rw [(rep_head h5).1, (rep_head h5).2]) ?_
  exact x_iret hx hb hr hlocks dX6_clearSet_21 rfl (post := fun (r : Int32) ((bt', lw') : (Nat → Nat) × (Nat → Nat)) => r = (nI (clrM cl nc air sn wd nw sp y set)) ∧ repW bt' lw' (waysM cl air sn sp y nc)) (w1 := fun ((bt', lw') : (Nat → Nat) × (Nat → Nat)) => [(o, eEPR t0 a1 a2 w0 y0 s0 h0 g0 u0 v0), (w0, eWay wb wl), (wb, eRow bb (lenW (waysM cl air sn sp y nc))), (bb, eArr cI 9 bt'), (wl, eRow bl (lenW (waysM cl air sn sp y nc))), (bl, eArr cI 9 lw'), (s0, eSnd v1 l1), (v1, eRow va 150), (va, eArr cI 150 ((hearM cl nc air sn wd nw sp y set).2)), (l1, eRow la 150), (la, eArr cI 150 ((hearM cl nc air sn wd nw sp y set).1)), (a, eCan b1 b2 sp he air sn), (b1, eRow c1 (3 * nc)), (c1, eArr cI 12 cl), (b2, eRow c2 (3 * nw)), (c2, eArr cI 24 wd)]) (bt'2, lw'3) ⟨rfl, h5⟩ hK (hP.sub [0, 11, 12, 13, 14, 15, 3, 4, 5, 6, 7, 8, 1, 2, 9, 10] rfl) (hD.sub [0, 11, 12, 13, 14, 15, 3, 4, 5, 6, 7, 8, 1, 2, 9, 10] rfl rfl) hS

set_option maxRecDepth 100000 in
set_option maxHeartbeats 4000000 in
theorem c_X6_clearCount (l : Launch) (D : va_G) (cI cC : ClassId) (o : Nat) (t0 : Nat) (a1 : Nat) (a2 : Nat) (w0 : Nat) (y0 : Nat) (s0 : Nat) (h0 : Nat) (g0 : Nat) (u0 : Nat) (v0 : Nat) (wb : Nat) (bb : Nat) (wl : Nat) (bl : Nat) (v1 : Nat) (va : Nat) (l1 : Nat) (la : Nat) (kw : Nat) (bt : Nat → Nat) (lw : Nat → Nat) (vg : Nat → Nat) (lg : Nat → Nat) (k1 : Nat) (k2 : Nat) (a : Nat) (b1 : Nat) (c1 : Nat) (b2 : Nat) (c2 : Nat) (cl : Nat → Nat) (nc : Nat) (wd : Nat → Nat) (nw : Nat) (sp : Nat) (he : Nat) (air : Nat) (sn : Nat) (y : Nat) (hy : y ≤ 40) (hnn : nc ≤ 4 ∧ nw ≤ 8) (hok : okC cl nc) (hokd : okD wd nw) (hsp : sp ≤ 40) (hair : air ≤ 99 ∧ sn < 2147483648) : mtI l D cI cC yX6_clearCount wsX6_clearCount ({ frames := 5, cells := 0, slots := 0, locals := 121 }) [.ref o, .ref a, .int (nI y)] [(o, eEPR t0 a1 a2 w0 y0 s0 h0 g0 u0 v0), (w0, eWay wb wl), (wb, eRow bb kw), (bb, eArr cI 9 bt), (wl, eRow bl kw), (bl, eArr cI 9 lw), (s0, eSnd v1 l1), (v1, eRow va k1), (va, eArr cI 150 vg), (l1, eRow la k2), (la, eArr cI 150 lg), (a, eCan b1 b2 sp he air sn), (b1, eRow c1 (3 * nc)), (c1, eArr cI 12 cl), (b2, eRow c2 (3 * nw)), (c2, eArr cI 24 wd)] (fun (r : Int32) ((bt', lw') : (Nat → Nat) × (Nat → Nat)) => r = (nI (cntClr cl nc air sn wd nw sp y)) ∧ repW bt' lw' (waysM cl air sn sp y nc)) (fun ((bt', lw') : (Nat → Nat) × (Nat → Nat)) => [(o, eEPR t0 a1 a2 w0 y0 s0 h0 g0 u0 v0), (w0, eWay wb wl), (wb, eRow bb (lenW (waysM cl air sn sp y nc))), (bb, eArr cI 9 bt'), (wl, eRow bl (lenW (waysM cl air sn sp y nc))), (bl, eArr cI 9 lw'), (s0, eSnd v1 l1), (v1, eRow va 150), (va, eArr cI 150 ((hearM cl nc air sn wd nw sp y (2 ^ nw - 1)).2)), (l1, eRow la 150), (la, eArr cI 150 ((hearM cl nc air sn wd nw sp y (2 ^ nw - 1)).1)), (a, eCan b1 b2 sp he air sn), (b1, eRow c1 (3 * nc)), (c1, eArr cI 12 cl), (b2, eRow c2 (3 * nw)), (c2, eArr cI 24 wd)]) := by
  refine mtI_of (cc := cX6_clearCount) (maxL := 3) (ret := (some .int)) (by decide) rfl rfl ?_
  intro p e s m below meth c A hx hb hml hr hts hown hlocks hN hA hK hP hD hS ls hl
  have hown : s.vm.findClass RX6 = some m.cls := hown
  have hl : lv_has ls 3 [(0, .ref o), (1, .ref a), (2, .int (nI y))] := hl
  obtain ⟨H, hHe⟩ : ∃ H, H = s.heap := ⟨_, rfl⟩
  rw [← hHe] at hP ⊢
  have hS : va_S A s.heap H [] := by rw [hHe]; exact va_S.rf
  have fl39 := hts (.fieldLink RX6 39 "EchoPaysRent" "sound" "LEchoPaysRent$Sound;") (by decide +kernel)
  have inX6 : ∀ w ∈ wsX60, w ∈ wsX6_clearCount := by decide +kernel
  have fl29 := hts (.fieldLink RX6 29 "EchoPaysRent" "ways" "LEchoPaysRent$Ways;") (by decide +kernel)
  have f1 : 2 ^ nw ≤ 256 := pow8 hnn.2
  refine lv_aload_n hx hb dX6_clearCount_0 rfl (lv_at hl 0 rfl) ?_
  refine lv_aload_n hx hb dX6_clearCount_1 rfl (lv_at hl 1 rfl) ?_
  refine lv_iload_n hx hb dX6_clearCount_2 rfl (lv_at hl 2 rfl) ?_
  refine lv_aload_n hx hb dX6_clearCount_3 rfl (lv_at hl 1 rfl) ?_
  refine k_V (q := (RX0, TX0, 6)) (ci := 0) (As := []) (wr := [(o, eEPR t0 a1 a2 w0 y0 s0 h0 g0 u0 v0), (w0, eWay wb wl), (wb, eRow bb kw), (bb, eArr cI 9 bt), (wl, eRow bl kw), (bl, eArr cI 9 lw), (s0, eSnd v1 l1), (v1, eRow va k1), (va, eArr cI 150 vg), (l1, eRow la k2), (la, eArr cI 150 lg), (b1, eRow c1 (3 * nc)), (c1, eArr cI 12 cl)]) ⟨hx, hb, hml, hown, hts⟩ (c_X0_allWords l D cI cC a b1 b2 sp he air sn c2 wd nw (by omega)) (cwV 0 hts gX6_clearCount_X0_allWords rfl rfl rfl (by decide +kernel) ⟨Nat.le_of_ble_eq_true rfl, Nat.le_of_ble_eq_true rfl⟩) rfl hl.1 rfl (Nat.le_of_ble_eq_true rfl) dX6_clearCount_4 ⟨Nat.zero_le _, Nat.zero_le _⟩ hN hK hP hD hS hA rfl (q0 := 11) rfl [11, 14, 15] [0, 1, 2, 3, 4, 5, 6, 7, 8, 9, 10, 12, 13] rfl rfl ⟨rfl, rfl, by decide⟩ (fun r2 u H locs w3 hP hD hS => ?_)
  obtain rfl : r2 = (nI (2 ^ nw - 1)) := w3
  refine k_Vv (q := (RX6, TX6, 10)) (ci := 6) (As := [.ref a, .int (nI y), .int (nI (2 ^ nw - 1))]) (wr := []) ⟨hx, hb, hml, hown, hts⟩ (c_X6_listen l D cI cC o t0 a1 a2 w0 y0 s0 h0 g0 u0 v0 wb bb wl bl v1 va l1 la kw bt lw vg lg k1 k2 a b1 c1 b2 c2 cl nc wd nw sp he air sn y (2 ^ nw - 1) (by omega) (by omega) (by omega) hok hokd (by omega) (by omega)) (cwV 3 hts gX6_clearCount_X6_listen rfl rfl rfl (by decide +kernel) ⟨Nat.le_of_ble_eq_true rfl, Nat.le_of_ble_eq_true rfl⟩) rfl hl.1 rfl (Nat.le_of_ble_eq_true rfl) dX6_clearCount_7 ⟨Nat.zero_le _, Nat.zero_le _⟩ hN hK hP hD hS hA rfl (q0 := 0) rfl [0, 1, 2, 3, 4, 5, 6, 7, 8, 9, 10, 13, 11, 12, 14, 15] [] rfl rfl ⟨rfl, rfl, by decide⟩ (fun u H locs w7 hP hD hS => ?_)
  obtain ⟨bt'5, lw'6⟩ := u
  have h8 : repW bt'5 lw'6 (waysM cl air sn sp y nc) := w7
  have f9 : lenW (waysM cl air sn sp y nc) ≤ 1 + 2 * nc := waysM_lenW cl air sn sp y nc
  have f10 : 0 < lenW (waysM cl air sn sp y nc) := waysM_lp cl air sn sp y nc
  refine lv_aload_n hx hb dX6_clearCount_10 rfl (lv_at hl 0 rfl) ?_
  refine va_get (D := D) (ci := 6) (v := .ref s0) (C := RX6) (T := TX6) (N := 10) hx hb hts inX6 hown hK hP 0 rfl rfl 5 (by decide) fl39 (fun _ h9 => h9) rfl dX6_clearCount_11 ?_
  refine lv_aload_n hx hb dX6_clearCount_14 rfl (lv_at hl 1 rfl) ?_
  refine lv_aload_n hx hb dX6_clearCount_15 rfl (lv_at hl 1 rfl) ?_
  refine k_V (q := (RX0, TX0, 6)) (ci := 0) (As := []) (wr := [(o, eEPR t0 a1 a2 w0 y0 s0 h0 g0 u0 v0), (w0, eWay wb wl), (wb, eRow bb (lenW (waysM cl air sn sp y nc))), (bb, eArr cI 9 bt'5), (wl, eRow bl (lenW (waysM cl air sn sp y nc))), (bl, eArr cI 9 lw'6), (s0, eSnd v1 l1), (v1, eRow va 150), (va, eArr cI 150 ((hearM cl nc air sn wd nw sp y (2 ^ nw - 1)).2)), (l1, eRow la 150), (la, eArr cI 150 ((hearM cl nc air sn wd nw sp y (2 ^ nw - 1)).1)), (b1, eRow c1 (3 * nc)), (c1, eArr cI 12 cl)]) ⟨hx, hb, hml, hown, hts⟩ (c_X0_allWords l D cI cC a b1 b2 sp he air sn c2 wd nw (by omega)) (cwV 0 hts gX6_clearCount_X0_allWords rfl rfl rfl (by decide +kernel) ⟨Nat.le_of_ble_eq_true rfl, Nat.le_of_ble_eq_true rfl⟩) rfl hl.1 rfl (Nat.le_of_ble_eq_true rfl) dX6_clearCount_16 ⟨Nat.zero_le _, Nat.zero_le _⟩ hN hK hP hD hS hA rfl (q0 := 11) rfl [11, 14, 15] [0, 1, 2, 3, 4, 5, 6, 7, 8, 9, 10, 12, 13] rfl rfl ⟨rfl, rfl, by decide⟩ (fun r11 u H locs w12 hP hD hS => ?_)
  obtain rfl : r11 = (nI (2 ^ nw - 1)) := w12
  refine lv_aload_n hx hb dX6_clearCount_19 rfl (lv_at hl 0 rfl) ?_
  refine va_get (D := D) (ci := 6) (v := .ref w0) (C := RX6) (T := TX6) (N := 10) hx hb hts inX6 hown hK hP 0 rfl rfl 3 (by decide) fl29 (fun _ h9 => h9) rfl dX6_clearCount_20 ?_
  refine lv_iconst (v := (nI 0)) hx hb dX6_clearCount_23 (by decide) ?_
  refine k_V (q := (RX3, TX3, 2)) (ci := 3) (As := [.ref a, .int (nI (2 ^ nw - 1)), .ref w0, .int (nI 0)]) (wr := [(o, eEPR t0 a1 a2 w0 y0 s0 h0 g0 u0 v0), (b1, eRow c1 (3 * nc)), (c1, eArr cI 12 cl)]) ⟨hx, hb, hml, hown, hts⟩ (c_X3_clearOf l D cI cC s0 v1 va l1 la (hearM cl nc air sn wd nw sp y (2 ^ nw - 1)) a b1 b2 sp he air sn c2 wd nw w0 wb bb wl bl bt'5 lw'6 (waysM cl air sn sp y nc) (2 ^ nw - 1) 0 (by omega) (by omega) (by omega) (by omega) (okS_play okS_quiet hokd nw (Nat.le_refl nw)) h8 (by omega) hokd) (cwV 4 hts gX6_clearCount_X3_clearOf rfl rfl rfl (by decide +kernel) ⟨Nat.le_of_ble_eq_true rfl, Nat.le_of_ble_eq_true rfl⟩) rfl hl.1 rfl (Nat.le_of_ble_eq_true rfl) dX6_clearCount_24 ⟨Nat.zero_le _, Nat.zero_le _⟩ hN hK hP hD hS hA rfl (q0 := 6) rfl [6, 7, 8, 9, 10, 13, 14, 15, 1, 2, 3, 4, 5] [0, 11, 12] rfl rfl ⟨rfl, rfl, by decide⟩ (fun r13 u H locs w14 hP hD hS => ?_)
  obtain rfl : r13 = (nI (bitsM (fun w => onS (2 ^ nw - 1) w && hitM (hearM cl nc air sn wd nw sp y (2 ^ nw - 1)) wd w 0 (bt'5 0) (lw'6 0)) nw)) := w14
  refine x_top (show nI (bitsM (fun w => onS (2 ^ nw - 1) w && hitM (hearM cl nc air sn wd nw sp y (2 ^ nw - 1)) wd w 0 (bt'5 0) (lw'6 0)) nw) = nI (clrM cl nc air sn wd nw sp y (2 ^ nw - 1)) from by unfold clrM; rw [(rep_head h8).1, (rep_head h8).2]) ?_
  refine k_S (As := [.int (nI (clrM cl nc air sn wd nw sp y (2 ^ nw - 1)))]) (wr := [(o, eEPR t0 a1 a2 w0 y0 s0 h0 g0 u0 v0), (b1, eRow c1 (3 * nc)), (c1, eArr cI 12 cl), (s0, eSnd v1 l1), (v1, eRow va 150), (va, eArr cI 150 ((hearM cl nc air sn wd nw sp y (2 ^ nw - 1)).2)), (l1, eRow la 150), (la, eArr cI 150 ((hearM cl nc air sn wd nw sp y (2 ^ nw - 1)).1)), (a, eCan b1 b2 sp he air sn), (b2, eRow c2 (3 * nw)), (c2, eArr cI 24 wd), (w0, eWay wb wl), (wb, eRow bb (lenW (waysM cl air sn sp y nc))), (bb, eArr cI 9 bt'5), (wl, eRow bl (lenW (waysM cl air sn sp y nc))), (bl, eArr cI 9 lw'6)]) ⟨hx, hb, hml, hown, hts⟩ (c_J6_bitCount_0f7a4 l D cI cC (clrM cl nc air sn wd nw sp y (2 ^ nw - 1)) (bits_4096 hnn.2)) ⟨callB_of 1 hts ggX6_clearCount_J6_bitCount_0f7a4 rfl rfl rfl (hts (.initialized RJ6) (by decide +kernel)) (hts (.methodLink RX6 173 yJ6_bitCount_0f7a4) (by decide +kernel)) (by decide +kernel) ⟨Nat.le_of_ble_eq_true rfl, Nat.le_of_ble_eq_true rfl⟩, hts (.static yJ6_bitCount_0f7a4) (by decide +kernel)⟩ rfl hl.1 rfl (Nat.le_of_ble_eq_true rfl) dX6_clearCount_27 ⟨Nat.zero_le _, Nat.zero_le _⟩ hN hK hP hD hS hA [] [0, 1, 2, 3, 4, 5, 6, 7, 8, 9, 10, 11, 12, 13, 14, 15] rfl rfl ⟨rfl, rfl, by decide⟩ (fun r15 u H locs w16 hP hD hS => ?_)
  obtain rfl : r15 = (nI (popM (clrM cl nc air sn wd nw sp y (2 ^ nw - 1)))) := w16
  refine x_top (show nI (popM (clrM cl nc air sn wd nw sp y (2 ^ nw - 1))) = nI (cntClr cl nc air sn wd nw sp y) from rfl) ?_
  exact x_iret hx hb hr hlocks dX6_clearCount_30 rfl (post := fun (r : Int32) ((bt', lw') : (Nat → Nat) × (Nat → Nat)) => r = (nI (cntClr cl nc air sn wd nw sp y)) ∧ repW bt' lw' (waysM cl air sn sp y nc)) (w1 := fun ((bt', lw') : (Nat → Nat) × (Nat → Nat)) => [(o, eEPR t0 a1 a2 w0 y0 s0 h0 g0 u0 v0), (w0, eWay wb wl), (wb, eRow bb (lenW (waysM cl air sn sp y nc))), (bb, eArr cI 9 bt'), (wl, eRow bl (lenW (waysM cl air sn sp y nc))), (bl, eArr cI 9 lw'), (s0, eSnd v1 l1), (v1, eRow va 150), (va, eArr cI 150 ((hearM cl nc air sn wd nw sp y (2 ^ nw - 1)).2)), (l1, eRow la 150), (la, eArr cI 150 ((hearM cl nc air sn wd nw sp y (2 ^ nw - 1)).1)), (a, eCan b1 b2 sp he air sn), (b1, eRow c1 (3 * nc)), (c1, eArr cI 12 cl), (b2, eRow c2 (3 * nw)), (c2, eArr cI 24 wd)]) (bt'5, lw'6) ⟨rfl, h8⟩ hK (hP.sub [0, 11, 12, 13, 14, 15, 3, 4, 5, 6, 7, 8, 1, 2, 9, 10] rfl) (hD.sub [0, 11, 12, 13, 14, 15, 3, 4, 5, 6, 7, 8, 1, 2, 9, 10] rfl rfl) hS

set_option maxRecDepth 100000 in
set_option maxHeartbeats 4000000 in
theorem c_X6_rentOf (l : Launch) (D : va_G) (cI cC : ClassId) (o : Nat) (t0 : Nat) (a1 : Nat) (a2 : Nat) (w0 : Nat) (y0 : Nat) (s0 : Nat) (h0 : Nat) (g0 : Nat) (u0 : Nat) (v0 : Nat) (wb : Nat) (bb : Nat) (wl : Nat) (bl : Nat) (v1 : Nat) (va : Nat) (l1 : Nat) (la : Nat) (kw : Nat) (bt : Nat → Nat) (lw : Nat → Nat) (vg : Nat → Nat) (lg : Nat → Nat) (k1 : Nat) (k2 : Nat) (a : Nat) (b1 : Nat) (c1 : Nat) (b2 : Nat) (c2 : Nat) (cl : Nat → Nat) (nc : Nat) (wd : Nat → Nat) (nw : Nat) (sp : Nat) (he : Nat) (air : Nat) (sn : Nat) (hnn : nc ≤ 4 ∧ nw ≤ 8) (hok : okC cl nc) (hokd : okD wd nw) (hsp : sp ≤ 40) (hair : air ≤ 99 ∧ sn < 2147483648) : mtI l D cI cC yX6_rentOf wsX6_rentOf ({ frames := 5, cells := 0, slots := 0, locals := 121 }) [.ref o, .ref a] [(o, eEPR t0 a1 a2 w0 y0 s0 h0 g0 u0 v0), (w0, eWay wb wl), (wb, eRow bb kw), (bb, eArr cI 9 bt), (wl, eRow bl kw), (bl, eArr cI 9 lw), (s0, eSnd v1 l1), (v1, eRow va k1), (va, eArr cI 150 vg), (l1, eRow la k2), (la, eArr cI 150 lg), (a, eCan b1 b2 sp he air sn), (b1, eRow c1 (3 * nc)), (c1, eArr cI 12 cl), (b2, eRow c2 (3 * nw)), (c2, eArr cI 24 wd)] (fun (r : Int32) ((bt', lw') : (Nat → Nat) × (Nat → Nat)) => r = (nI (rentM cl nc air sn wd nw sp)) ∧ repW bt' lw' (waysM cl air sn sp sp nc)) (fun ((bt', lw') : (Nat → Nat) × (Nat → Nat)) => [(o, eEPR t0 a1 a2 w0 y0 s0 h0 g0 u0 v0), (w0, eWay wb wl), (wb, eRow bb (lenW (waysM cl air sn sp sp nc))), (bb, eArr cI 9 bt'), (wl, eRow bl (lenW (waysM cl air sn sp sp nc))), (bl, eArr cI 9 lw'), (s0, eSnd v1 l1), (v1, eRow va 150), (va, eArr cI 150 ((hearM cl nc air sn wd nw sp sp (2 ^ nw - 1)).2)), (l1, eRow la 150), (la, eArr cI 150 ((hearM cl nc air sn wd nw sp sp (2 ^ nw - 1)).1)), (a, eCan b1 b2 sp he air sn), (b1, eRow c1 (3 * nc)), (c1, eArr cI 12 cl), (b2, eRow c2 (3 * nw)), (c2, eArr cI 24 wd)]) := by
  refine mtI_of (cc := cX6_rentOf) (maxL := 2) (ret := (some .int)) (by decide) rfl rfl ?_
  intro p e s m below meth c A hx hb hml hr hts hown hlocks hN hA hK hP hD hS ls hl
  have hown : s.vm.findClass RX6 = some m.cls := hown
  have hl : lv_has ls 2 [(0, .ref o), (1, .ref a)] := hl
  obtain ⟨H, hHe⟩ : ∃ H, H = s.heap := ⟨_, rfl⟩
  rw [← hHe] at hP ⊢
  have hS : va_S A s.heap H [] := by rw [hHe]; exact va_S.rf
  have fn151 : (Cond.fieldLinkNest RX6 151 "EchoPaysRent$Canyon" "speaker" "I" "EchoPaysRent").before ([.ref o, .ref a] : List Value).toArray s = true := nz_use hN (List.mem_of_getElem? (i := 1) rfl)
  have inX0 : ∀ w ∈ wsX00, w ∈ wsX6_rentOf := by decide +kernel
  have fl39 := hts (.fieldLink RX6 39 "EchoPaysRent" "sound" "LEchoPaysRent$Sound;") (by decide +kernel)
  have inX6 : ∀ w ∈ wsX60, w ∈ wsX6_rentOf := by decide +kernel
  have fl29 := hts (.fieldLink RX6 29 "EchoPaysRent" "ways" "LEchoPaysRent$Ways;") (by decide +kernel)
  have f1 : 2 ^ nw ≤ 256 := pow8 hnn.2
  refine lv_aload_n hx hb dX6_rentOf_0 rfl (lv_at hl 0 rfl) ?_
  refine lv_aload_n hx hb dX6_rentOf_1 rfl (lv_at hl 1 rfl) ?_
  refine lv_aload_n hx hb dX6_rentOf_2 rfl (lv_at hl 1 rfl) ?_
  refine va_getN (D := D) (ci := 0) (v := .int (nI sp)) (C := RX0) (T := TX0) (N := 6) hx hb hts inX0 hown hK hP 11 rfl rfl 2 (by decide) fn151 (fun _ h9 => h9) rfl dX6_rentOf_3 ?_
  refine lv_aload_n hx hb dX6_rentOf_6 rfl (lv_at hl 1 rfl) ?_
  refine k_V (q := (RX0, TX0, 6)) (ci := 0) (As := []) (wr := [(o, eEPR t0 a1 a2 w0 y0 s0 h0 g0 u0 v0), (w0, eWay wb wl), (wb, eRow bb kw), (bb, eArr cI 9 bt), (wl, eRow bl kw), (bl, eArr cI 9 lw), (s0, eSnd v1 l1), (v1, eRow va k1), (va, eArr cI 150 vg), (l1, eRow la k2), (la, eArr cI 150 lg), (b1, eRow c1 (3 * nc)), (c1, eArr cI 12 cl)]) ⟨hx, hb, hml, hown, hts⟩ (c_X0_allWords l D cI cC a b1 b2 sp he air sn c2 wd nw (by omega)) (cwV 0 hts gX6_rentOf_X0_allWords rfl rfl rfl (by decide +kernel) ⟨Nat.le_of_ble_eq_true rfl, Nat.le_of_ble_eq_true rfl⟩) rfl hl.1 rfl (Nat.le_of_ble_eq_true rfl) dX6_rentOf_7 ⟨Nat.zero_le _, Nat.zero_le _⟩ hN hK hP hD hS hA rfl (q0 := 11) rfl [11, 14, 15] [0, 1, 2, 3, 4, 5, 6, 7, 8, 9, 10, 12, 13] rfl rfl ⟨rfl, rfl, by decide⟩ (fun r2 u H locs w3 hP hD hS => ?_)
  obtain rfl : r2 = (nI (2 ^ nw - 1)) := w3
  refine k_Vv (q := (RX6, TX6, 10)) (ci := 6) (As := [.ref a, .int (nI sp), .int (nI (2 ^ nw - 1))]) (wr := []) ⟨hx, hb, hml, hown, hts⟩ (c_X6_listen l D cI cC o t0 a1 a2 w0 y0 s0 h0 g0 u0 v0 wb bb wl bl v1 va l1 la kw bt lw vg lg k1 k2 a b1 c1 b2 c2 cl nc wd nw sp he air sn sp (2 ^ nw - 1) (by omega) (by omega) (by omega) hok hokd (by omega) (by omega)) (cwV 3 hts gX6_rentOf_X6_listen rfl rfl rfl (by decide +kernel) ⟨Nat.le_of_ble_eq_true rfl, Nat.le_of_ble_eq_true rfl⟩) rfl hl.1 rfl (Nat.le_of_ble_eq_true rfl) dX6_rentOf_10 ⟨Nat.zero_le _, Nat.zero_le _⟩ hN hK hP hD hS hA rfl (q0 := 0) rfl [0, 1, 2, 3, 4, 5, 6, 7, 8, 9, 10, 13, 11, 12, 14, 15] [] rfl rfl ⟨rfl, rfl, by decide⟩ (fun u H locs w7 hP hD hS => ?_)
  obtain ⟨bt'5, lw'6⟩ := u
  have h8 : repW bt'5 lw'6 (waysM cl air sn sp sp nc) := w7
  have f9 : lenW (waysM cl air sn sp sp nc) ≤ 1 + 2 * nc := waysM_lenW cl air sn sp sp nc
  have f10 : 0 < lenW (waysM cl air sn sp sp nc) := waysM_lp cl air sn sp sp nc
  refine lv_aload_n hx hb dX6_rentOf_13 rfl (lv_at hl 0 rfl) ?_
  refine va_get (D := D) (ci := 6) (v := .ref s0) (C := RX6) (T := TX6) (N := 10) hx hb hts inX6 hown hK hP 0 rfl rfl 5 (by decide) fl39 (fun _ h9 => h9) rfl dX6_rentOf_14 ?_
  refine lv_aload_n hx hb dX6_rentOf_17 rfl (lv_at hl 1 rfl) ?_
  refine lv_aload_n hx hb dX6_rentOf_18 rfl (lv_at hl 0 rfl) ?_
  refine va_get (D := D) (ci := 6) (v := .ref w0) (C := RX6) (T := TX6) (N := 10) hx hb hts inX6 hown hK hP 0 rfl rfl 3 (by decide) fl29 (fun _ h9 => h9) rfl dX6_rentOf_19 ?_
  refine k_V (q := (RX3, TX3, 2)) (ci := 3) (As := [.ref a, .ref w0]) (wr := [(o, eEPR t0 a1 a2 w0 y0 s0 h0 g0 u0 v0), (b1, eRow c1 (3 * nc)), (c1, eArr cI 12 cl)]) ⟨hx, hb, hml, hown, hts⟩ (c_X3_paidOf l D cI cC s0 v1 va l1 la (hearM cl nc air sn wd nw sp sp (2 ^ nw - 1)) a b1 b2 sp he air sn c2 wd nw w0 wb bb wl bl bt'5 lw'6 (waysM cl air sn sp sp nc) (by omega) (by omega) (okS_play okS_quiet hokd nw (Nat.le_refl nw)) h8 (by omega) hokd) (cwV 2 hts gX6_rentOf_X3_paidOf rfl rfl rfl (by decide +kernel) ⟨Nat.le_of_ble_eq_true rfl, Nat.le_of_ble_eq_true rfl⟩) rfl hl.1 rfl (Nat.le_of_ble_eq_true rfl) dX6_rentOf_22 ⟨Nat.zero_le _, Nat.zero_le _⟩ hN hK hP hD hS hA rfl (q0 := 6) rfl [6, 7, 8, 9, 10, 11, 14, 15, 1, 2, 3, 4, 5] [0, 12, 13] rfl rfl ⟨rfl, rfl, by decide⟩ (fun r11 u H locs w12 hP hD hS => ?_)
  obtain rfl : r11 = (nI (cntM (fun w => backM (hearM cl nc air sn wd nw sp sp (2 ^ nw - 1)) wd w (waysM cl air sn sp sp nc)) nw)) := w12
  refine x_top (show nI (cntM (fun w => backM (hearM cl nc air sn wd nw sp sp (2 ^ nw - 1)) wd w (waysM cl air sn sp sp nc)) nw) = nI (rentM cl nc air sn wd nw sp) from rfl) ?_
  exact x_iret hx hb hr hlocks dX6_rentOf_25 rfl (post := fun (r : Int32) ((bt', lw') : (Nat → Nat) × (Nat → Nat)) => r = (nI (rentM cl nc air sn wd nw sp)) ∧ repW bt' lw' (waysM cl air sn sp sp nc)) (w1 := fun ((bt', lw') : (Nat → Nat) × (Nat → Nat)) => [(o, eEPR t0 a1 a2 w0 y0 s0 h0 g0 u0 v0), (w0, eWay wb wl), (wb, eRow bb (lenW (waysM cl air sn sp sp nc))), (bb, eArr cI 9 bt'), (wl, eRow bl (lenW (waysM cl air sn sp sp nc))), (bl, eArr cI 9 lw'), (s0, eSnd v1 l1), (v1, eRow va 150), (va, eArr cI 150 ((hearM cl nc air sn wd nw sp sp (2 ^ nw - 1)).2)), (l1, eRow la 150), (la, eArr cI 150 ((hearM cl nc air sn wd nw sp sp (2 ^ nw - 1)).1)), (a, eCan b1 b2 sp he air sn), (b1, eRow c1 (3 * nc)), (c1, eArr cI 12 cl), (b2, eRow c2 (3 * nw)), (c2, eArr cI 24 wd)]) (bt'5, lw'6) ⟨rfl, h8⟩ hK (hP.sub [0, 11, 12, 13, 14, 15, 3, 4, 5, 6, 7, 8, 1, 2, 9, 10] rfl) (hD.sub [0, 11, 12, 13, 14, 15, 3, 4, 5, 6, 7, 8, 1, 2, 9, 10] rfl rfl) hS
