set_option maxRecDepth 100000 in
set_option maxHeartbeats 4000000 in
theorem c_X5_size (l : Launch) (D : va_G) (cI cC : ClassId) (w0 : Nat) (wb : Nat) (bb : Nat) (wl : Nat) (bt : Nat → Nat) (k : Nat) : mtI l D cI cC yX5_size wsX5_size ({ frames := 1, cells := 0, slots := 0, locals := 20 }) [.ref w0] [(w0, eWay wb wl), (wb, eRow bb k), (bb, eArr cI 9 bt)] (fun (r : Int32) (_ : Unit) => r = (nI k)) (fun (_ : Unit) => [(w0, eWay wb wl), (wb, eRow bb k), (bb, eArr cI 9 bt)]) := by
  refine mtI_of (cc := cX5_size) (maxL := 1) (ret := (some .int)) (by decide) rfl rfl ?_
  intro p e s m below meth c A hx hb hml hr hts hown hlocks hN hA hK hP hD hS ls hl
  have hown : s.vm.findClass RX5 = some m.cls := hown
  have hl : lv_has ls 1 [(0, .ref w0)] := hl
  have fl14 := hts (.fieldLink RX5 14 "EchoPaysRent$Ways" "beats" "LEchoPaysRent$Row;") (by decide +kernel)
  have inX5 : ∀ w ∈ wsX50, w ∈ wsX5_size := by decide +kernel
  refine lv_aload_n hx hb dX5_size_0 rfl (lv_at hl 0 rfl) ?_
  refine va_get (D := D) (ci := 5) (v := .ref wb) (C := RX5) (T := TX5) (N := 2) hx hb hts inX5 hown hK hP 0 rfl rfl 0 (by decide) fl14 (fun _ h9 => h9) rfl dX5_size_1 ?_
  refine k_V (q := (RX1, TX1, 2)) (ci := 1) (As := []) (wr := [(w0, eWay wb wl)]) ⟨hx, hb, hml, hown, hts⟩ (c_X1_size l D cI cC wb bb 9 bt k) (cwV 0 hts gX5_size_X1_size rfl rfl rfl (by decide +kernel) ⟨Nat.le_of_ble_eq_true rfl, Nat.le_of_ble_eq_true rfl⟩) rfl hl.1 rfl (Nat.le_of_ble_eq_true rfl) dX5_size_4 ⟨Nat.zero_le _, Nat.zero_le _⟩ hN hK hP hD hS hA rfl (q0 := 1) rfl [1, 2] [0] rfl rfl ⟨rfl, rfl, by decide⟩ (fun r1 u H locs w2 hP hD hS => ?_)
  obtain rfl : r1 = (nI k) := w2
  exact x_iret hx hb hr hlocks dX5_size_7 rfl (post := fun (r : Int32) (_ : Unit) => r = (nI k)) (w1 := fun (_ : Unit) => [(w0, eWay wb wl), (wb, eRow bb k), (bb, eArr cI 9 bt)]) () rfl hK hP hD hS

set_option maxRecDepth 100000 in
set_option maxHeartbeats 4000000 in
theorem c_X5_later (l : Launch) (D : va_G) (cI cC : ClassId) (w0 : Nat) (wb : Nat) (bb : Nat) (wl : Nat) (bt : Nat → Nat) (k : Nat) (i : Nat) (hk : k ≤ 9) (hi : i < k) : mtI l D cI cC yX5_later wsX5_later ({ frames := 1, cells := 0, slots := 0, locals := 21 }) [.ref w0, .int (nI i)] [(w0, eWay wb wl), (wb, eRow bb k), (bb, eArr cI 9 bt)] (fun (r : Int32) (_ : Unit) => r = (nI (bt i))) (fun (_ : Unit) => [(w0, eWay wb wl), (wb, eRow bb k), (bb, eArr cI 9 bt)]) := by
  refine mtI_of (cc := cX5_later) (maxL := 2) (ret := (some .int)) (by decide) rfl rfl ?_
  intro p e s m below meth c A hx hb hml hr hts hown hlocks hN hA hK hP hD hS ls hl
  have hown : s.vm.findClass RX5 = some m.cls := hown
  have hl : lv_has ls 2 [(0, .ref w0), (1, .int (nI i))] := hl
  have fl14 := hts (.fieldLink RX5 14 "EchoPaysRent$Ways" "beats" "LEchoPaysRent$Row;") (by decide +kernel)
  have inX5 : ∀ w ∈ wsX50, w ∈ wsX5_later := by decide +kernel
  refine lv_aload_n hx hb dX5_later_0 rfl (lv_at hl 0 rfl) ?_
  refine va_get (D := D) (ci := 5) (v := .ref wb) (C := RX5) (T := TX5) (N := 2) hx hb hts inX5 hown hK hP 0 rfl rfl 0 (by decide) fl14 (fun _ h9 => h9) rfl dX5_later_1 ?_
  refine lv_iload_n hx hb dX5_later_4 rfl (lv_at hl 1 rfl) ?_
  refine k_V (q := (RX1, TX1, 2)) (ci := 1) (As := [.int (nI i)]) (wr := [(w0, eWay wb wl)]) ⟨hx, hb, hml, hown, hts⟩ (c_X1_at_lt l D cI cC wb bb 9 bt k i (by omega) (by omega) (by omega)) (cwV 1 hts gX5_later_X1_at rfl rfl rfl (by decide +kernel) ⟨Nat.le_of_ble_eq_true rfl, Nat.le_of_ble_eq_true rfl⟩) rfl hl.1 rfl (Nat.le_of_ble_eq_true rfl) dX5_later_5 ⟨Nat.zero_le _, Nat.zero_le _⟩ hN hK hP hD hS hA rfl (q0 := 1) rfl [1, 2] [0] rfl rfl ⟨rfl, rfl, by decide⟩ (fun r1 u H locs w2 hP hD hS => ?_)
  obtain rfl : r1 = (nI (bt i)) := w2
  exact x_iret hx hb hr hlocks dX5_later_8 rfl (post := fun (r : Int32) (_ : Unit) => r = (nI (bt i))) (w1 := fun (_ : Unit) => [(w0, eWay wb wl), (wb, eRow bb k), (bb, eArr cI 9 bt)]) () rfl hK hP hD hS

set_option maxRecDepth 100000 in
set_option maxHeartbeats 4000000 in
theorem c_X5_weaker (l : Launch) (D : va_G) (cI cC : ClassId) (w0 : Nat) (wb : Nat) (wl : Nat) (bl : Nat) (lw : Nat → Nat) (k : Nat) (i : Nat) (hk : k ≤ 9) (hi : i < k) : mtI l D cI cC yX5_weaker wsX5_weaker ({ frames := 1, cells := 0, slots := 0, locals := 21 }) [.ref w0, .int (nI i)] [(w0, eWay wb wl), (wl, eRow bl k), (bl, eArr cI 9 lw)] (fun (r : Int32) (_ : Unit) => r = (nI (lw i))) (fun (_ : Unit) => [(w0, eWay wb wl), (wl, eRow bl k), (bl, eArr cI 9 lw)]) := by
  refine mtI_of (cc := cX5_weaker) (maxL := 2) (ret := (some .int)) (by decide) rfl rfl ?_
  intro p e s m below meth c A hx hb hml hr hts hown hlocks hN hA hK hP hD hS ls hl
  have hown : s.vm.findClass RX5 = some m.cls := hown
  have hl : lv_has ls 2 [(0, .ref w0), (1, .int (nI i))] := hl
  have fl20 := hts (.fieldLink RX5 20 "EchoPaysRent$Ways" "losses" "LEchoPaysRent$Row;") (by decide +kernel)
  have inX5 : ∀ w ∈ wsX50, w ∈ wsX5_weaker := by decide +kernel
  refine lv_aload_n hx hb dX5_weaker_0 rfl (lv_at hl 0 rfl) ?_
  refine va_get (D := D) (ci := 5) (v := .ref wl) (C := RX5) (T := TX5) (N := 2) hx hb hts inX5 hown hK hP 0 rfl rfl 1 (by decide) fl20 (fun _ h9 => h9) rfl dX5_weaker_1 ?_
  refine lv_iload_n hx hb dX5_weaker_4 rfl (lv_at hl 1 rfl) ?_
  refine k_V (q := (RX1, TX1, 2)) (ci := 1) (As := [.int (nI i)]) (wr := [(w0, eWay wb wl)]) ⟨hx, hb, hml, hown, hts⟩ (c_X1_at_lt l D cI cC wl bl 9 lw k i (by omega) (by omega) (by omega)) (cwV 1 hts gX5_weaker_X1_at rfl rfl rfl (by decide +kernel) ⟨Nat.le_of_ble_eq_true rfl, Nat.le_of_ble_eq_true rfl⟩) rfl hl.1 rfl (Nat.le_of_ble_eq_true rfl) dX5_weaker_5 ⟨Nat.zero_le _, Nat.zero_le _⟩ hN hK hP hD hS hA rfl (q0 := 1) rfl [1, 2] [0] rfl rfl ⟨rfl, rfl, by decide⟩ (fun r1 u H locs w2 hP hD hS => ?_)
  obtain rfl : r1 = (nI (lw i)) := w2
  exact x_iret hx hb hr hlocks dX5_weaker_8 rfl (post := fun (r : Int32) (_ : Unit) => r = (nI (lw i))) (w1 := fun (_ : Unit) => [(w0, eWay wb wl), (wl, eRow bl k), (bl, eArr cI 9 lw)]) () rfl hK hP hD hS

set_option maxRecDepth 100000 in
set_option maxHeartbeats 4000000 in
theorem c_X5_addWay (l : Launch) (D : va_G) (cI cC : ClassId) (w0 : Nat) (wb : Nat) (bb : Nat) (wl : Nat) (bl : Nat) (bt : Nat → Nat) (lw : Nat → Nat) (L : List (Nat × Nat)) (y : Nat) (z : Nat) (hL : lenW L < 9) : mtV l D cI cC yX5_addWay wsX5_addWay ({ frames := 1, cells := 0, slots := 0, locals := 21 }) [.ref w0, .int (nI y), .int (nI z)] [(w0, eWay wb wl), (wb, eRow bb (lenW L)), (bb, eArr cI 9 bt), (wl, eRow bl (lenW L)), (bl, eArr cI 9 lw)] (fun (_ : Unit) => True) (fun (_ : Unit) => [(w0, eWay wb wl), (wb, eRow bb (lenW (L ++ [(y, z)]))), (bb, eArr cI 9 (upN bt (lenW L) y)), (wl, eRow bl (lenW (L ++ [(y, z)]))), (bl, eArr cI 9 (upN lw (lenW L) z))]) := by
  refine mtV_of (cc := cX5_addWay) (maxL := 3) (ret := none) (by decide) rfl rfl ?_
  intro p e s m below meth c A hx hb hml hr hts hown hlocks hN hA hK hP hD hS ls hl
  have hown : s.vm.findClass RX5 = some m.cls := hown
  have hl : lv_has ls 3 [(0, .ref w0), (1, .int (nI y)), (2, .int (nI z))] := hl
  have fl14 := hts (.fieldLink RX5 14 "EchoPaysRent$Ways" "beats" "LEchoPaysRent$Row;") (by decide +kernel)
  have inX5 : ∀ w ∈ wsX50, w ∈ wsX5_addWay := by decide +kernel
  have fl20 := hts (.fieldLink RX5 20 "EchoPaysRent$Ways" "losses" "LEchoPaysRent$Row;") (by decide +kernel)
  refine lv_aload_n hx hb dX5_addWay_0 rfl (lv_at hl 0 rfl) ?_
  refine va_get (D := D) (ci := 5) (v := .ref wb) (C := RX5) (T := TX5) (N := 2) hx hb hts inX5 hown hK hP 0 rfl rfl 0 (by decide) fl14 (fun _ h9 => h9) rfl dX5_addWay_1 ?_
  refine lv_iload_n hx hb dX5_addWay_4 rfl (lv_at hl 1 rfl) ?_
  refine k_V (q := (RX1, TX1, 2)) (ci := 1) (As := [.int (nI y)]) (wr := [(w0, eWay wb wl), (wl, eRow bl (lenW L)), (bl, eArr cI 9 lw)]) ⟨hx, hb, hml, hown, hts⟩ (c_X1_add_lt l D cI cC wb bb 9 bt (lenW L) y (by omega) (by omega)) (cwV 1 hts gX5_addWay_X1_add rfl rfl rfl (by decide +kernel) ⟨Nat.le_of_ble_eq_true rfl, Nat.le_of_ble_eq_true rfl⟩) rfl hl.1 rfl (Nat.le_of_ble_eq_true rfl) dX5_addWay_5 ⟨Nat.zero_le _, Nat.zero_le _⟩ hN hK hP hD hS hA rfl (q0 := 1) rfl [1, 2] [0, 3, 4] rfl rfl ⟨rfl, rfl, by decide⟩ (fun r1 u H locs w2 hP hD hS => ?_)
  obtain rfl : r1 = (nI 1) := w2
  refine lv_pop hx hb dX5_addWay_8 rfl ?_
  refine lv_aload_n hx hb dX5_addWay_9 rfl (lv_at hl 0 rfl) ?_
  refine va_get (D := D) (ci := 5) (v := .ref wl) (C := RX5) (T := TX5) (N := 2) hx hb hts inX5 hown hK hP 0 rfl rfl 1 (by decide) fl20 (fun _ h9 => h9) rfl dX5_addWay_10 ?_
  refine lv_iload_n hx hb dX5_addWay_13 rfl (lv_at hl 2 rfl) ?_
  refine k_V (q := (RX1, TX1, 2)) (ci := 1) (As := [.int (nI z)]) (wr := [(w0, eWay wb wl), (wb, eRow bb ((lenW L) + 1)), (bb, eArr cI 9 (upN bt (lenW L) y))]) ⟨hx, hb, hml, hown, hts⟩ (c_X1_add_lt l D cI cC wl bl 9 lw (lenW L) z (by omega) (by omega)) (cwV 1 hts gX5_addWay_X1_add rfl rfl rfl (by decide +kernel) ⟨Nat.le_of_ble_eq_true rfl, Nat.le_of_ble_eq_true rfl⟩) rfl hl.1 rfl (Nat.le_of_ble_eq_true rfl) dX5_addWay_14 ⟨Nat.zero_le _, Nat.zero_le _⟩ hN hK hP hD hS hA rfl (q0 := 1) rfl [1, 2] [0, 3, 4] rfl rfl ⟨rfl, rfl, by decide⟩ (fun r3 u H locs w4 hP hD hS => ?_)
  obtain rfl : r3 = (nI 1) := w4
  refine lv_pop hx hb dX5_addWay_17 rfl ?_
  have hP : va_P D vwCl [(w0, eWay wb wl), (wb, eRow bb (lenW (L ++ [(y, z)]))), (bb, eArr cI 9 (upN bt (lenW L) y)), (wl, eRow bl (lenW (L ++ [(y, z)]))), (bl, eArr cI 9 (upN lw (lenW L) z))] H := by rw [lenW_app]; exact hP
  have hD : va_D A [(w0, eWay wb wl), (wb, eRow bb (lenW (L ++ [(y, z)]))), (bb, eArr cI 9 (upN bt (lenW L) y)), (wl, eRow bl (lenW (L ++ [(y, z)]))), (bl, eArr cI 9 (upN lw (lenW L) z))] := by rw [lenW_app]; exact hD
  exact x_vret hx hb hr hlocks dX5_addWay_18 (post := fun (_ : Unit) => True) (w1 := fun (_ : Unit) => [(w0, eWay wb wl), (wb, eRow bb (lenW (L ++ [(y, z)]))), (bb, eArr cI 9 (upN bt (lenW L) y)), (wl, eRow bl (lenW (L ++ [(y, z)]))), (bl, eArr cI 9 (upN lw (lenW L) z))]) () trivial hK hP hD hS

set_option maxRecDepth 100000 in
set_option maxHeartbeats 4000000 in
theorem c_X5_traceCliff (l : Launch) (D : va_G) (cI cC : ClassId) (w0 : Nat) (wb : Nat) (bb : Nat) (wl : Nat) (bl : Nat) (bt : Nat → Nat) (lw : Nat → Nat) (a : Nat) (b1 : Nat) (b2 : Nat) (sp : Nat) (he : Nat) (air : Nat) (sn : Nat) (c1 : Nat) (cl : Nat → Nat) (nc : Nat) (hnc : nc ≤ 4) (L : List (Nat × Nat)) (x : Nat) (y : Nat) (f : Nat) (hf : f < nc) (hL : lenW L < 8) (hok : okC cl nc) (hrep : repW bt lw L) (hns : ¬ sn / 2 ^ f % 2 = 1) (hx40 : x ≤ 40 ∧ y ≤ 40) (hair : air ≤ 99) : mtV l D cI cC yX5_traceCliff wsX5_traceCliff ({ frames := 2, cells := 0, slots := 0, locals := 43 }) [.ref w0, .ref a, .int (nI f), .int (nI x), .int (nI y)] [(w0, eWay wb wl), (wb, eRow bb (lenW L)), (bb, eArr cI 9 bt), (wl, eRow bl (lenW L)), (bl, eArr cI 9 lw), (a, eCan b1 b2 sp he air sn), (b1, eRow c1 (3 * nc)), (c1, eArr cI 12 cl)] (fun ((bt', lw') : (Nat → Nat) × (Nat → Nat)) => repW bt' lw' (L ++ wayM cl air sn x y f)) (fun ((bt', lw') : (Nat → Nat) × (Nat → Nat)) => [(w0, eWay wb wl), (wb, eRow bb (lenW (L ++ wayM cl air sn x y f))), (bb, eArr cI 9 bt'), (wl, eRow bl (lenW (L ++ wayM cl air sn x y f))), (bl, eArr cI 9 lw'), (a, eCan b1 b2 sp he air sn), (b1, eRow c1 (3 * nc)), (c1, eArr cI 12 cl)]) := by
  refine mtV_of (cc := cX5_traceCliff) (maxL := 11) (ret := none) (by decide) rfl rfl ?_
  intro p e s m below meth c A hx hb hml hr hts hown hlocks hN hA hK hP hD hS ls hl
  have hown : s.vm.findClass RX5 = some m.cls := hown
  have hl : lv_has ls 11 [(0, .ref w0), (1, .ref a), (2, .int (nI f)), (3, .int (nI x)), (4, .int (nI y))] := hl
  have mab : (Cond.methodLink RX5 34 Lib.Math.abs.name).before _ s = true := hts (.methodLink RX5 34 Lib.Math.abs.name) (by decide +kernel)
  have fn39 : (Cond.fieldLinkNest RX5 39 "EchoPaysRent$Canyon" "air" "I" "EchoPaysRent").before ([.ref w0, .ref a, .int (nI f), .int (nI x), .int (nI y)] : List Value).toArray s = true := nz_use hN (List.mem_of_getElem? (i := 3) rfl)
  have inX0 : ∀ w ∈ wsX00, w ∈ wsX5_traceCliff := by decide +kernel
  obtain ⟨ok1, ok2, ok3⟩ := hok f hf
  refine lv_aload_n hx hb dX5_traceCliff_0 rfl (lv_at hl 1 rfl) ?_
  refine lv_iload_n hx hb dX5_traceCliff_1 rfl (lv_at hl 2 rfl) ?_
  refine lv_iconst (v := (nI 0)) hx hb dX5_traceCliff_2 (by decide) ?_
  refine k_V (q := (RX0, TX0, 6)) (ci := 0) (As := [.int (nI f), .int (nI 0)]) (wr := [(w0, eWay wb wl), (wb, eRow bb (lenW L)), (bb, eArr cI 9 bt), (wl, eRow bl (lenW L)), (bl, eArr cI 9 lw)]) ⟨hx, hb, hml, hown, hts⟩ (c_X0_cliffPart l D cI cC a b1 b2 sp he air sn c1 cl nc (by omega) f 0 (by omega) (by omega)) (cwV 2 hts gX5_traceCliff_X0_cliffPart rfl rfl rfl (by decide +kernel) ⟨Nat.le_of_ble_eq_true rfl, Nat.le_of_ble_eq_true rfl⟩) rfl hl.1 rfl (Nat.le_of_ble_eq_true rfl) dX5_traceCliff_3 ⟨Nat.zero_le _, Nat.zero_le _⟩ hN hK hP hD hS hA rfl (q0 := 5) rfl [5, 6, 7] [0, 1, 2, 3, 4] rfl rfl ⟨rfl, rfl, by decide⟩ (fun r1 u H locs w2 hP hD hS => ?_)
  obtain rfl : r1 = (nI (cl (3 * f + 0))) := w2
  refine lv_istore (lv' := [(5, .int (nI (cl (3 * f + 0)))), (0, .ref w0), (1, .ref a), (2, .int (nI f)), (3, .int (nI x)), (4, .int (nI y))]) hx hb dX5_traceCliff_6 hl (by decide) rfl (fun ls hl => ?_)
  refine lv_aload_n hx hb dX5_traceCliff_8 rfl (lv_at hl 2 rfl) ?_
  refine lv_iload_n hx hb dX5_traceCliff_9 rfl (lv_at hl 3 rfl) ?_
  refine lv_iconst (v := (nI 1)) hx hb dX5_traceCliff_10 (by decide) ?_
  refine k_V (q := (RX0, TX0, 6)) (ci := 0) (As := [.int (nI f), .int (nI 1)]) (wr := [(w0, eWay wb wl), (wb, eRow bb (lenW L)), (bb, eArr cI 9 bt), (wl, eRow bl (lenW L)), (bl, eArr cI 9 lw)]) ⟨hx, hb, hml, hown, hts⟩ (c_X0_cliffPart l D cI cC a b1 b2 sp he air sn c1 cl nc (by omega) f 1 (by omega) (by omega)) (cwV 2 hts gX5_traceCliff_X0_cliffPart rfl rfl rfl (by decide +kernel) ⟨Nat.le_of_ble_eq_true rfl, Nat.le_of_ble_eq_true rfl⟩) rfl hl.1 rfl (Nat.le_of_ble_eq_true rfl) dX5_traceCliff_11 ⟨Nat.zero_le _, Nat.zero_le _⟩ hN hK hP hD hS hA rfl (q0 := 5) rfl [5, 6, 7] [0, 1, 2, 3, 4] rfl rfl ⟨rfl, rfl, by decide⟩ (fun r3 u H locs w4 hP hD hS => ?_)
  obtain rfl : r3 = (nI (cl (3 * f + 1))) := w4
  refine lv_istore (lv' := [(6, .int (nI (cl (3 * f + 1)))), (5, .int (nI (cl (3 * f + 0)))), (0, .ref w0), (1, .ref a), (2, .int (nI f)), (3, .int (nI x)), (4, .int (nI y))]) hx hb dX5_traceCliff_14 hl (by decide) rfl (fun ls hl => ?_)
  refine lv_aload_n hx hb dX5_traceCliff_16 rfl (lv_at hl 3 rfl) ?_
  refine lv_iload_n hx hb dX5_traceCliff_17 rfl (lv_at hl 4 rfl) ?_
  refine lv_iconst (v := (nI 2)) hx hb dX5_traceCliff_18 (by decide) ?_
  refine k_V (q := (RX0, TX0, 6)) (ci := 0) (As := [.int (nI f), .int (nI 2)]) (wr := [(w0, eWay wb wl), (wb, eRow bb (lenW L)), (bb, eArr cI 9 bt), (wl, eRow bl (lenW L)), (bl, eArr cI 9 lw)]) ⟨hx, hb, hml, hown, hts⟩ (c_X0_cliffPart l D cI cC a b1 b2 sp he air sn c1 cl nc (by omega) f 2 (by omega) (by omega)) (cwV 2 hts gX5_traceCliff_X0_cliffPart rfl rfl rfl (by decide +kernel) ⟨Nat.le_of_ble_eq_true rfl, Nat.le_of_ble_eq_true rfl⟩) rfl hl.1 rfl (Nat.le_of_ble_eq_true rfl) dX5_traceCliff_19 ⟨Nat.zero_le _, Nat.zero_le _⟩ hN hK hP hD hS hA rfl (q0 := 5) rfl [5, 6, 7] [0, 1, 2, 3, 4] rfl rfl ⟨rfl, rfl, by decide⟩ (fun r5 u H locs w6 hP hD hS => ?_)
  obtain rfl : r5 = (nI (cl (3 * f + 2))) := w6
  refine lv_istore (lv' := [(7, .int (nI (cl (3 * f + 2)))), (6, .int (nI (cl (3 * f + 1)))), (5, .int (nI (cl (3 * f + 0)))), (0, .ref w0), (1, .ref a), (2, .int (nI f)), (3, .int (nI x)), (4, .int (nI y))]) hx hb dX5_traceCliff_22 hl (by decide) rfl (fun ls hl => ?_)
  refine lv_iload_n hx hb dX5_traceCliff_24 rfl (lv_at hl 6 rfl) ?_
  refine lv_iload hx hb dX5_traceCliff_25 (lv_at hl 2 rfl) ?_
  refine x_isubZ hx hb dX5_traceCliff_27 ?_
  refine va_mabs hx hb (by rw [hml]; exact hl.1.symm) hown mab (hts (.static Lib.Math.abs.name) (by decide +kernel)) (hts (.initialized "java/lang/Math") (by decide +kernel)) (hts (.code Lib.Math.abs.name Lib.Math.abs.code 1 (some .int)) (by decide +kernel)) (Nat.le_of_ble_eq_true rfl) (Nat.le_of_ble_eq_true rfl) (Nat.zero_le _) (Nat.zero_le _) dX5_traceCliff_28 ?_
  refine x_top (abs_nI (by omega) (by omega)) ?_
  have f7 : absd x (cl (3 * f + 0)) ≤ 40 := absd_le (by omega) (by omega)
  refine lv_iload hx hb dX5_traceCliff_31 (lv_at hl 2 rfl) ?_
  refine lv_iload hx hb dX5_traceCliff_33 (lv_at hl 7 rfl) ?_
  refine x_isubZ hx hb dX5_traceCliff_35 ?_
  refine va_mabs hx hb (by rw [hml]; exact hl.1.symm) hown mab (hts (.static Lib.Math.abs.name) (by decide +kernel)) (hts (.initialized "java/lang/Math") (by decide +kernel)) (hts (.code Lib.Math.abs.name Lib.Math.abs.code 1 (some .int)) (by decide +kernel)) (Nat.le_of_ble_eq_true rfl) (Nat.le_of_ble_eq_true rfl) (Nat.zero_le _) (Nat.zero_le _) dX5_traceCliff_36 ?_
  refine x_top (abs_nI (by omega) (by omega)) ?_
  have f8 : absd (cl (3 * f + 0)) y ≤ 40 := absd_le (by omega) (by omega)
  refine x_iadd hx hb dX5_traceCliff_39 ?_
  refine lv_istore (lv' := [(8, .int (nI (absd x (cl (3 * f + 0)) + (absd (cl (3 * f + 0)) y)))), (7, .int (nI (cl (3 * f + 2)))), (6, .int (nI (cl (3 * f + 1)))), (5, .int (nI (cl (3 * f + 0)))), (0, .ref w0), (1, .ref a), (2, .int (nI f)), (3, .int (nI x)), (4, .int (nI y))]) hx hb dX5_traceCliff_40 hl (by decide) rfl (fun ls hl => ?_)
  refine lv_iload hx hb dX5_traceCliff_42 (lv_at hl 1 rfl) ?_
  refine lv_iconst (v := (nI 2)) hx hb dX5_traceCliff_44 (by decide) ?_
  refine x_icmp_ne (tgt := 55) hx hb dX5_traceCliff_45 (by decide) (by omega) (by omega) (fun h9 => ?_) (fun h9 => ?_)
  · refine lv_iload hx hb dX5_traceCliff_55 (lv_at hl 0 rfl) ?_
    refine lv_istore (lv' := [(9, .int (nI (absd x (cl (3 * f + 0)) + (absd (cl (3 * f + 0)) y)))), (8, .int (nI (absd x (cl (3 * f + 0)) + (absd (cl (3 * f + 0)) y)))), (7, .int (nI (cl (3 * f + 2)))), (6, .int (nI (cl (3 * f + 1)))), (5, .int (nI (cl (3 * f + 0)))), (0, .ref w0), (1, .ref a), (2, .int (nI f)), (3, .int (nI x)), (4, .int (nI y))]) hx hb dX5_traceCliff_57 hl (by decide) rfl (fun ls hl => ?_)
    refine lv_aload_n hx hb dX5_traceCliff_59 rfl (lv_at hl 6 rfl) ?_
    refine va_getN (D := D) (ci := 0) (v := .int (nI air)) (C := RX0) (T := TX0) (N := 6) hx hb hts inX0 hown hK hP 5 rfl rfl 4 (by decide) fn39 (fun _ h9 => h9) rfl dX5_traceCliff_60 ?_
    refine lv_iload hx hb dX5_traceCliff_63 (lv_at hl 1 rfl) ?_
    refine x_imul hx hb dX5_traceCliff_65 ?_
    have f10 : air * (absd x (cl (3 * f + 0)) + absd (cl (3 * f + 0)) y) ≤ 7920 := (Nat.mul_le_mul hair (show absd x (cl (3 * f + 0)) + absd (cl (3 * f + 0)) y ≤ 80 by omega) : air * (absd x (cl (3 * f + 0)) + absd (cl (3 * f + 0)) y) ≤ 99 * 80)
    refine lv_iload hx hb dX5_traceCliff_66 (lv_at hl 2 rfl) ?_
    refine lv_iconst (v := (nI 1)) hx hb dX5_traceCliff_68 (by decide) ?_
    refine x_icmp_ne (tgt := 79) hx hb dX5_traceCliff_69 (by decide) (by omega) (by omega) (fun h11 => ?_) (fun h11 => ?_)
    · refine lv_iload hx hb dX5_traceCliff_79 (lv_at hl 3 rfl) ?_
      refine x_iadd hx hb dX5_traceCliff_81 ?_
      refine lv_istore (lv' := [(10, .int (nI (air * (absd x (cl (3 * f + 0)) + (absd (cl (3 * f + 0)) y)) + (cl (3 * f + 1))))), (9, .int (nI (absd x (cl (3 * f + 0)) + (absd (cl (3 * f + 0)) y)))), (8, .int (nI (absd x (cl (3 * f + 0)) + (absd (cl (3 * f + 0)) y)))), (7, .int (nI (cl (3 * f + 2)))), (6, .int (nI (cl (3 * f + 1)))), (5, .int (nI (cl (3 * f + 0)))), (0, .ref w0), (1, .ref a), (2, .int (nI f)), (3, .int (nI x)), (4, .int (nI y))]) hx hb dX5_traceCliff_82 hl (by decide) rfl (fun ls hl => ?_)
      refine lv_aload_n hx hb dX5_traceCliff_84 rfl (lv_at hl 6 rfl) ?_
      refine lv_iload hx hb dX5_traceCliff_85 (lv_at hl 1 rfl) ?_
      refine lv_iload hx hb dX5_traceCliff_87 (lv_at hl 0 rfl) ?_
      refine k_Vv (q := (RX5, TX5, 2)) (ci := 5) (As := [.int (nI (absd x (cl (3 * f + 0)) + (absd (cl (3 * f + 0)) y))), .int (nI (air * (absd x (cl (3 * f + 0)) + (absd (cl (3 * f + 0)) y)) + (cl (3 * f + 1))))]) (wr := [(a, eCan b1 b2 sp he air sn), (b1, eRow c1 (3 * nc)), (c1, eArr cI 12 cl)]) ⟨hx, hb, hml, hown, hts⟩ (c_X5_addWay l D cI cC w0 wb bb wl bl bt lw L (absd x (cl (3 * f + 0)) + (absd (cl (3 * f + 0)) y)) (air * (absd x (cl (3 * f + 0)) + (absd (cl (3 * f + 0)) y)) + (cl (3 * f + 1))) (by omega)) (cwV 2 hts gX5_traceCliff_X5_addWay rfl rfl rfl (by decide +kernel) ⟨Nat.le_of_ble_eq_true rfl, Nat.le_of_ble_eq_true rfl⟩) rfl hl.1 rfl (Nat.le_of_ble_eq_true rfl) dX5_traceCliff_89 ⟨Nat.zero_le _, Nat.zero_le _⟩ hN hK hP hD hS hA rfl (q0 := 0) rfl [0, 1, 2, 3, 4] [5, 6, 7] rfl rfl ⟨rfl, rfl, by decide⟩ (fun u H locs w13 hP hD hS => ?_)
      have f14 : lenW (L ++ [((absd x (cl (3 * f + 0)) + (absd (cl (3 * f + 0)) y)), (air * (absd x (cl (3 * f + 0)) + (absd (cl (3 * f + 0)) y)) + (cl (3 * f + 1))))]) = lenW L + 1 := lenW_app _ _
      refine lv_iload hx hb dX5_traceCliff_92 (lv_at hl 3 rfl) ?_
      refine lv_iconst (v := (nI 3)) hx hb dX5_traceCliff_94 (by decide) ?_
      refine x_icmp_ne (tgt := 110) hx hb dX5_traceCliff_95 (by decide) (by omega) (by omega) (fun h15 => ?_) (fun h15 => ?_)
      · have ew : L ++ wayM cl air sn x y f = L ++ [((absd x (cl (3 * f + 0)) + (absd (cl (3 * f + 0)) y)), (air * (absd x (cl (3 * f + 0)) + (absd (cl (3 * f + 0)) y)) + (cl (3 * f + 1))))] := by unfold wayM; rw [if_neg hns]; simp [h9, h11, h15]
        have hP : va_P D vwCl [(a, eCan b1 b2 sp he air sn), (b1, eRow c1 (3 * nc)), (c1, eArr cI 12 cl), (w0, eWay wb wl), (wb, eRow bb (lenW (L ++ wayM cl air sn x y f))), (bb, eArr cI 9 (upN bt (lenW L) (absd x (cl (3 * f + 0)) + (absd (cl (3 * f + 0)) y)))), (wl, eRow bl (lenW (L ++ wayM cl air sn x y f))), (bl, eArr cI 9 (upN lw (lenW L) (air * (absd x (cl (3 * f + 0)) + (absd (cl (3 * f + 0)) y)) + (cl (3 * f + 1)))))] H := by rw [ew]; exact hP
        have hD : va_D A [(a, eCan b1 b2 sp he air sn), (b1, eRow c1 (3 * nc)), (c1, eArr cI 12 cl), (w0, eWay wb wl), (wb, eRow bb (lenW (L ++ wayM cl air sn x y f))), (bb, eArr cI 9 (upN bt (lenW L) (absd x (cl (3 * f + 0)) + (absd (cl (3 * f + 0)) y)))), (wl, eRow bl (lenW (L ++ wayM cl air sn x y f))), (bl, eArr cI 9 (upN lw (lenW L) (air * (absd x (cl (3 * f + 0)) + (absd (cl (3 * f + 0)) y)) + (cl (3 * f + 1)))))] := by rw [ew]; exact hD
        exact x_vret hx hb hr hlocks dX5_traceCliff_110 (post := fun ((bt', lw') : (Nat → Nat) × (Nat → Nat)) => repW bt' lw' (L ++ wayM cl air sn x y f)) (w1 := fun ((bt', lw') : (Nat → Nat) × (Nat → Nat)) => [(w0, eWay wb wl), (wb, eRow bb (lenW (L ++ wayM cl air sn x y f))), (bb, eArr cI 9 bt'), (wl, eRow bl (lenW (L ++ wayM cl air sn x y f))), (bl, eArr cI 9 lw'), (a, eCan b1 b2 sp he air sn), (b1, eRow c1 (3 * nc)), (c1, eArr cI 12 cl)]) (upN bt (lenW L) (absd x (cl (3 * f + 0)) + (absd (cl (3 * f + 0)) y)), upN lw (lenW L) (air * (absd x (cl (3 * f + 0)) + (absd (cl (3 * f + 0)) y)) + (cl (3 * f + 1)))) (by rw [ew]; first | exact repW_app hrep (by omega) (by omega) | exact repW_app (repW_app hrep (by omega) (by omega)) (by omega) (by omega)) hK (hP.sub [3, 4, 5, 6, 7, 0, 1, 2] rfl) (hD.sub [3, 4, 5, 6, 7, 0, 1, 2] rfl rfl) hS
      · refine lv_aload_n hx hb dX5_traceCliff_98 rfl (lv_at hl 6 rfl) ?_
        refine lv_iload hx hb dX5_traceCliff_99 (lv_at hl 1 rfl) ?_
        refine lv_iconst (v := (nI 4)) hx hb dX5_traceCliff_101 (by decide) ?_
        refine x_iadd hx hb dX5_traceCliff_102 ?_
        refine lv_iload hx hb dX5_traceCliff_103 (lv_at hl 0 rfl) ?_
        refine lv_iconst (v := (nI 3)) hx hb dX5_traceCliff_105 (by decide) ?_
        refine x_iadd hx hb dX5_traceCliff_106 ?_
        refine k_Vv (q := (RX5, TX5, 2)) (ci := 5) (As := [.int (nI (absd x (cl (3 * f + 0)) + (absd (cl (3 * f + 0)) y) + 4)), .int (nI (air * (absd x (cl (3 * f + 0)) + (absd (cl (3 * f + 0)) y)) + (cl (3 * f + 1)) + 3))]) (wr := [(a, eCan b1 b2 sp he air sn), (b1, eRow c1 (3 * nc)), (c1, eArr cI 12 cl)]) ⟨hx, hb, hml, hown, hts⟩ (c_X5_addWay l D cI cC w0 wb bb wl bl (upN bt (lenW L) (absd x (cl (3 * f + 0)) + (absd (cl (3 * f + 0)) y))) (upN lw (lenW L) (air * (absd x (cl (3 * f + 0)) + (absd (cl (3 * f + 0)) y)) + (cl (3 * f + 1)))) (L ++ [((absd x (cl (3 * f + 0)) + (absd (cl (3 * f + 0)) y)), (air * (absd x (cl (3 * f + 0)) + (absd (cl (3 * f + 0)) y)) + (cl (3 * f + 1))))]) (absd x (cl (3 * f + 0)) + (absd (cl (3 * f + 0)) y) + 4) (air * (absd x (cl (3 * f + 0)) + (absd (cl (3 * f + 0)) y)) + (cl (3 * f + 1)) + 3) (by omega)) (cwV 2 hts gX5_traceCliff_X5_addWay rfl rfl rfl (by decide +kernel) ⟨Nat.le_of_ble_eq_true rfl, Nat.le_of_ble_eq_true rfl⟩) rfl hl.1 rfl (Nat.le_of_ble_eq_true rfl) dX5_traceCliff_107 ⟨Nat.zero_le _, Nat.zero_le _⟩ hN hK hP hD hS hA rfl (q0 := 3) rfl [3, 4, 5, 6, 7] [0, 1, 2] rfl rfl ⟨rfl, rfl, by decide⟩ (fun u H locs w17 hP hD hS => ?_)
        have ew : L ++ wayM cl air sn x y f = (L ++ [((absd x (cl (3 * f + 0)) + (absd (cl (3 * f + 0)) y)), (air * (absd x (cl (3 * f + 0)) + (absd (cl (3 * f + 0)) y)) + (cl (3 * f + 1))))]) ++ [((absd x (cl (3 * f + 0)) + (absd (cl (3 * f + 0)) y) + 4), (air * (absd x (cl (3 * f + 0)) + (absd (cl (3 * f + 0)) y)) + (cl (3 * f + 1)) + 3))] := by unfold wayM; rw [if_neg hns]; simp [h9, h11, h15]
        have hP : va_P D vwCl [(a, eCan b1 b2 sp he air sn), (b1, eRow c1 (3 * nc)), (c1, eArr cI 12 cl), (w0, eWay wb wl), (wb, eRow bb (lenW (L ++ wayM cl air sn x y f))), (bb, eArr cI 9 (upN (upN bt (lenW L) (absd x (cl (3 * f + 0)) + (absd (cl (3 * f + 0)) y))) (lenW (L ++ [((absd x (cl (3 * f + 0)) + (absd (cl (3 * f + 0)) y)), (air * (absd x (cl (3 * f + 0)) + (absd (cl (3 * f + 0)) y)) + (cl (3 * f + 1))))])) (absd x (cl (3 * f + 0)) + (absd (cl (3 * f + 0)) y) + 4))), (wl, eRow bl (lenW (L ++ wayM cl air sn x y f))), (bl, eArr cI 9 (upN (upN lw (lenW L) (air * (absd x (cl (3 * f + 0)) + (absd (cl (3 * f + 0)) y)) + (cl (3 * f + 1)))) (lenW (L ++ [((absd x (cl (3 * f + 0)) + (absd (cl (3 * f + 0)) y)), (air * (absd x (cl (3 * f + 0)) + (absd (cl (3 * f + 0)) y)) + (cl (3 * f + 1))))])) (air * (absd x (cl (3 * f + 0)) + (absd (cl (3 * f + 0)) y)) + (cl (3 * f + 1)) + 3)))] H := by rw [ew]; exact hP
        have hD : va_D A [(a, eCan b1 b2 sp he air sn), (b1, eRow c1 (3 * nc)), (c1, eArr cI 12 cl), (w0, eWay wb wl), (wb, eRow bb (lenW (L ++ wayM cl air sn x y f))), (bb, eArr cI 9 (upN (upN bt (lenW L) (absd x (cl (3 * f + 0)) + (absd (cl (3 * f + 0)) y))) (lenW (L ++ [((absd x (cl (3 * f + 0)) + (absd (cl (3 * f + 0)) y)), (air * (absd x (cl (3 * f + 0)) + (absd (cl (3 * f + 0)) y)) + (cl (3 * f + 1))))])) (absd x (cl (3 * f + 0)) + (absd (cl (3 * f + 0)) y) + 4))), (wl, eRow bl (lenW (L ++ wayM cl air sn x y f))), (bl, eArr cI 9 (upN (upN lw (lenW L) (air * (absd x (cl (3 * f + 0)) + (absd (cl (3 * f + 0)) y)) + (cl (3 * f + 1)))) (lenW (L ++ [((absd x (cl (3 * f + 0)) + (absd (cl (3 * f + 0)) y)), (air * (absd x (cl (3 * f + 0)) + (absd (cl (3 * f + 0)) y)) + (cl (3 * f + 1))))])) (air * (absd x (cl (3 * f + 0)) + (absd (cl (3 * f + 0)) y)) + (cl (3 * f + 1)) + 3)))] := by rw [ew]; exact hD
        exact x_vret hx hb hr hlocks dX5_traceCliff_110 (post := fun ((bt', lw') : (Nat → Nat) × (Nat → Nat)) => repW bt' lw' (L ++ wayM cl air sn x y f)) (w1 := fun ((bt', lw') : (Nat → Nat) × (Nat → Nat)) => [(w0, eWay wb wl), (wb, eRow bb (lenW (L ++ wayM cl air sn x y f))), (bb, eArr cI 9 bt'), (wl, eRow bl (lenW (L ++ wayM cl air sn x y f))), (bl, eArr cI 9 lw'), (a, eCan b1 b2 sp he air sn), (b1, eRow c1 (3 * nc)), (c1, eArr cI 12 cl)]) (upN (upN bt (lenW L) (absd x (cl (3 * f + 0)) + (absd (cl (3 * f + 0)) y))) (lenW (L ++ [((absd x (cl (3 * f + 0)) + (absd (cl (3 * f + 0)) y)), (air * (absd x (cl (3 * f + 0)) + (absd (cl (3 * f + 0)) y)) + (cl (3 * f + 1))))])) (absd x (cl (3 * f + 0)) + (absd (cl (3 * f + 0)) y) + 4), upN (upN lw (lenW L) (air * (absd x (cl (3 * f + 0)) + (absd (cl (3 * f + 0)) y)) + (cl (3 * f + 1)))) (lenW (L ++ [((absd x (cl (3 * f + 0)) + (absd (cl (3 * f + 0)) y)), (air * (absd x (cl (3 * f + 0)) + (absd (cl (3 * f + 0)) y)) + (cl (3 * f + 1))))])) (air * (absd x (cl (3 * f + 0)) + (absd (cl (3 * f + 0)) y)) + (cl (3 * f + 1)) + 3)) (by rw [ew]; first | exact repW_app hrep (by omega) (by omega) | exact repW_app (repW_app hrep (by omega) (by omega)) (by omega) (by omega)) hK (hP.sub [3, 4, 5, 6, 7, 0, 1, 2] rfl) (hD.sub [3, 4, 5, 6, 7, 0, 1, 2] rfl rfl) hS
    · refine lv_iconst (v := (nI 2)) hx hb dX5_traceCliff_72 (by decide) ?_
      refine lv_iload hx hb dX5_traceCliff_73 (lv_at hl 3 rfl) ?_
      refine x_imul hx hb dX5_traceCliff_75 ?_
      refine lv_goto (tgt := 81) hx hb dX5_traceCliff_76 (by decide) ?_
      refine x_iadd hx hb dX5_traceCliff_81 ?_
      refine lv_istore (lv' := [(10, .int (nI (air * (absd x (cl (3 * f + 0)) + (absd (cl (3 * f + 0)) y)) + (2 * (cl (3 * f + 1)))))), (9, .int (nI (absd x (cl (3 * f + 0)) + (absd (cl (3 * f + 0)) y)))), (8, .int (nI (absd x (cl (3 * f + 0)) + (absd (cl (3 * f + 0)) y)))), (7, .int (nI (cl (3 * f + 2)))), (6, .int (nI (cl (3 * f + 1)))), (5, .int (nI (cl (3 * f + 0)))), (0, .ref w0), (1, .ref a), (2, .int (nI f)), (3, .int (nI x)), (4, .int (nI y))]) hx hb dX5_traceCliff_82 hl (by decide) rfl (fun ls hl => ?_)
      refine lv_aload_n hx hb dX5_traceCliff_84 rfl (lv_at hl 6 rfl) ?_
      refine lv_iload hx hb dX5_traceCliff_85 (lv_at hl 1 rfl) ?_
      refine lv_iload hx hb dX5_traceCliff_87 (lv_at hl 0 rfl) ?_
      refine k_Vv (q := (RX5, TX5, 2)) (ci := 5) (As := [.int (nI (absd x (cl (3 * f + 0)) + (absd (cl (3 * f + 0)) y))), .int (nI (air * (absd x (cl (3 * f + 0)) + (absd (cl (3 * f + 0)) y)) + (2 * (cl (3 * f + 1)))))]) (wr := [(a, eCan b1 b2 sp he air sn), (b1, eRow c1 (3 * nc)), (c1, eArr cI 12 cl)]) ⟨hx, hb, hml, hown, hts⟩ (c_X5_addWay l D cI cC w0 wb bb wl bl bt lw L (absd x (cl (3 * f + 0)) + (absd (cl (3 * f + 0)) y)) (air * (absd x (cl (3 * f + 0)) + (absd (cl (3 * f + 0)) y)) + (2 * (cl (3 * f + 1)))) (by omega)) (cwV 2 hts gX5_traceCliff_X5_addWay rfl rfl rfl (by decide +kernel) ⟨Nat.le_of_ble_eq_true rfl, Nat.le_of_ble_eq_true rfl⟩) rfl hl.1 rfl (Nat.le_of_ble_eq_true rfl) dX5_traceCliff_89 ⟨Nat.zero_le _, Nat.zero_le _⟩ hN hK hP hD hS hA rfl (q0 := 0) rfl [0, 1, 2, 3, 4] [5, 6, 7] rfl rfl ⟨rfl, rfl, by decide⟩ (fun u H locs w19 hP hD hS => ?_)
      have f20 : lenW (L ++ [((absd x (cl (3 * f + 0)) + (absd (cl (3 * f + 0)) y)), (air * (absd x (cl (3 * f + 0)) + (absd (cl (3 * f + 0)) y)) + (2 * (cl (3 * f + 1)))))]) = lenW L + 1 := lenW_app _ _
      refine lv_iload hx hb dX5_traceCliff_92 (lv_at hl 3 rfl) ?_
      refine lv_iconst (v := (nI 3)) hx hb dX5_traceCliff_94 (by decide) ?_
      refine x_icmp_ne (tgt := 110) hx hb dX5_traceCliff_95 (by decide) (by omega) (by omega) (fun h21 => ?_) (fun h21 => False.elim (by omega))
      have ew : L ++ wayM cl air sn x y f = L ++ [((absd x (cl (3 * f + 0)) + (absd (cl (3 * f + 0)) y)), (air * (absd x (cl (3 * f + 0)) + (absd (cl (3 * f + 0)) y)) + (2 * (cl (3 * f + 1)))))] := by unfold wayM; rw [if_neg hns]; simp [h9, h11, h21]
      have hP : va_P D vwCl [(a, eCan b1 b2 sp he air sn), (b1, eRow c1 (3 * nc)), (c1, eArr cI 12 cl), (w0, eWay wb wl), (wb, eRow bb (lenW (L ++ wayM cl air sn x y f))), (bb, eArr cI 9 (upN bt (lenW L) (absd x (cl (3 * f + 0)) + (absd (cl (3 * f + 0)) y)))), (wl, eRow bl (lenW (L ++ wayM cl air sn x y f))), (bl, eArr cI 9 (upN lw (lenW L) (air * (absd x (cl (3 * f + 0)) + (absd (cl (3 * f + 0)) y)) + (2 * (cl (3 * f + 1))))))] H := by rw [ew]; exact hP
      have hD : va_D A [(a, eCan b1 b2 sp he air sn), (b1, eRow c1 (3 * nc)), (c1, eArr cI 12 cl), (w0, eWay wb wl), (wb, eRow bb (lenW (L ++ wayM cl air sn x y f))), (bb, eArr cI 9 (upN bt (lenW L) (absd x (cl (3 * f + 0)) + (absd (cl (3 * f + 0)) y)))), (wl, eRow bl (lenW (L ++ wayM cl air sn x y f))), (bl, eArr cI 9 (upN lw (lenW L) (air * (absd x (cl (3 * f + 0)) + (absd (cl (3 * f + 0)) y)) + (2 * (cl (3 * f + 1))))))] := by rw [ew]; exact hD
      exact x_vret hx hb hr hlocks dX5_traceCliff_110 (post := fun ((bt', lw') : (Nat → Nat) × (Nat → Nat)) => repW bt' lw' (L ++ wayM cl air sn x y f)) (w1 := fun ((bt', lw') : (Nat → Nat) × (Nat → Nat)) => [(w0, eWay wb wl), (wb, eRow bb (lenW (L ++ wayM cl air sn x y f))), (bb, eArr cI 9 bt'), (wl, eRow bl (lenW (L ++ wayM cl air sn x y f))), (bl, eArr cI 9 lw'), (a, eCan b1 b2 sp he air sn), (b1, eRow c1 (3 * nc)), (c1, eArr cI 12 cl)]) (upN bt (lenW L) (absd x (cl (3 * f + 0)) + (absd (cl (3 * f + 0)) y)), upN lw (lenW L) (air * (absd x (cl (3 * f + 0)) + (absd (cl (3 * f + 0)) y)) + (2 * (cl (3 * f + 1))))) (by rw [ew]; first | exact repW_app hrep (by omega) (by omega) | exact repW_app (repW_app hrep (by omega) (by omega)) (by omega) (by omega)) hK (hP.sub [3, 4, 5, 6, 7, 0, 1, 2] rfl) (hD.sub [3, 4, 5, 6, 7, 0, 1, 2] rfl rfl) hS
  · refine lv_iload hx hb dX5_traceCliff_48 (lv_at hl 0 rfl) ?_
    refine lv_iconst (v := (nI 2)) hx hb dX5_traceCliff_50 (by decide) ?_
    refine x_iadd hx hb dX5_traceCliff_51 ?_
    refine lv_goto (tgt := 57) hx hb dX5_traceCliff_52 (by decide) ?_
    refine lv_istore (lv' := [(9, .int (nI (absd x (cl (3 * f + 0)) + (absd (cl (3 * f + 0)) y) + 2))), (8, .int (nI (absd x (cl (3 * f + 0)) + (absd (cl (3 * f + 0)) y)))), (7, .int (nI (cl (3 * f + 2)))), (6, .int (nI (cl (3 * f + 1)))), (5, .int (nI (cl (3 * f + 0)))), (0, .ref w0), (1, .ref a), (2, .int (nI f)), (3, .int (nI x)), (4, .int (nI y))]) hx hb dX5_traceCliff_57 hl (by decide) rfl (fun ls hl => ?_)
    refine lv_aload_n hx hb dX5_traceCliff_59 rfl (lv_at hl 6 rfl) ?_
    refine va_getN (D := D) (ci := 0) (v := .int (nI air)) (C := RX0) (T := TX0) (N := 6) hx hb hts inX0 hown hK hP 5 rfl rfl 4 (by decide) fn39 (fun _ h9 => h9) rfl dX5_traceCliff_60 ?_
    refine lv_iload hx hb dX5_traceCliff_63 (lv_at hl 1 rfl) ?_
    refine x_imul hx hb dX5_traceCliff_65 ?_
    have f22 : air * (absd x (cl (3 * f + 0)) + absd (cl (3 * f + 0)) y) ≤ 7920 := (Nat.mul_le_mul hair (show absd x (cl (3 * f + 0)) + absd (cl (3 * f + 0)) y ≤ 80 by omega) : air * (absd x (cl (3 * f + 0)) + absd (cl (3 * f + 0)) y) ≤ 99 * 80)
    refine lv_iload hx hb dX5_traceCliff_66 (lv_at hl 2 rfl) ?_
    refine lv_iconst (v := (nI 1)) hx hb dX5_traceCliff_68 (by decide) ?_
    refine x_icmp_ne (tgt := 79) hx hb dX5_traceCliff_69 (by decide) (by omega) (by omega) (fun h23 => ?_) (fun h23 => False.elim (by omega))
    refine lv_iload hx hb dX5_traceCliff_79 (lv_at hl 3 rfl) ?_
    refine x_iadd hx hb dX5_traceCliff_81 ?_
    refine lv_istore (lv' := [(10, .int (nI (air * (absd x (cl (3 * f + 0)) + (absd (cl (3 * f + 0)) y)) + (cl (3 * f + 1))))), (9, .int (nI (absd x (cl (3 * f + 0)) + (absd (cl (3 * f + 0)) y) + 2))), (8, .int (nI (absd x (cl (3 * f + 0)) + (absd (cl (3 * f + 0)) y)))), (7, .int (nI (cl (3 * f + 2)))), (6, .int (nI (cl (3 * f + 1)))), (5, .int (nI (cl (3 * f + 0)))), (0, .ref w0), (1, .ref a), (2, .int (nI f)), (3, .int (nI x)), (4, .int (nI y))]) hx hb dX5_traceCliff_82 hl (by decide) rfl (fun ls hl => ?_)
    refine lv_aload_n hx hb dX5_traceCliff_84 rfl (lv_at hl 6 rfl) ?_
    refine lv_iload hx hb dX5_traceCliff_85 (lv_at hl 1 rfl) ?_
    refine lv_iload hx hb dX5_traceCliff_87 (lv_at hl 0 rfl) ?_
    refine k_Vv (q := (RX5, TX5, 2)) (ci := 5) (As := [.int (nI (absd x (cl (3 * f + 0)) + (absd (cl (3 * f + 0)) y) + 2)), .int (nI (air * (absd x (cl (3 * f + 0)) + (absd (cl (3 * f + 0)) y)) + (cl (3 * f + 1))))]) (wr := [(a, eCan b1 b2 sp he air sn), (b1, eRow c1 (3 * nc)), (c1, eArr cI 12 cl)]) ⟨hx, hb, hml, hown, hts⟩ (c_X5_addWay l D cI cC w0 wb bb wl bl bt lw L (absd x (cl (3 * f + 0)) + (absd (cl (3 * f + 0)) y) + 2) (air * (absd x (cl (3 * f + 0)) + (absd (cl (3 * f + 0)) y)) + (cl (3 * f + 1))) (by omega)) (cwV 2 hts gX5_traceCliff_X5_addWay rfl rfl rfl (by decide +kernel) ⟨Nat.le_of_ble_eq_true rfl, Nat.le_of_ble_eq_true rfl⟩) rfl hl.1 rfl (Nat.le_of_ble_eq_true rfl) dX5_traceCliff_89 ⟨Nat.zero_le _, Nat.zero_le _⟩ hN hK hP hD hS hA rfl (q0 := 0) rfl [0, 1, 2, 3, 4] [5, 6, 7] rfl rfl ⟨rfl, rfl, by decide⟩ (fun u H locs w25 hP hD hS => ?_)
    have f26 : lenW (L ++ [((absd x (cl (3 * f + 0)) + (absd (cl (3 * f + 0)) y) + 2), (air * (absd x (cl (3 * f + 0)) + (absd (cl (3 * f + 0)) y)) + (cl (3 * f + 1))))]) = lenW L + 1 := lenW_app _ _
    refine lv_iload hx hb dX5_traceCliff_92 (lv_at hl 3 rfl) ?_
    refine lv_iconst (v := (nI 3)) hx hb dX5_traceCliff_94 (by decide) ?_
    refine x_icmp_ne (tgt := 110) hx hb dX5_traceCliff_95 (by decide) (by omega) (by omega) (fun h27 => ?_) (fun h27 => False.elim (by omega))
    have ew : L ++ wayM cl air sn x y f = L ++ [((absd x (cl (3 * f + 0)) + (absd (cl (3 * f + 0)) y) + 2), (air * (absd x (cl (3 * f + 0)) + (absd (cl (3 * f + 0)) y)) + (cl (3 * f + 1))))] := by unfold wayM; rw [if_neg hns]; simp [h9, h23, h27]
    have hP : va_P D vwCl [(a, eCan b1 b2 sp he air sn), (b1, eRow c1 (3 * nc)), (c1, eArr cI 12 cl), (w0, eWay wb wl), (wb, eRow bb (lenW (L ++ wayM cl air sn x y f))), (bb, eArr cI 9 (upN bt (lenW L) (absd x (cl (3 * f + 0)) + (absd (cl (3 * f + 0)) y) + 2))), (wl, eRow bl (lenW (L ++ wayM cl air sn x y f))), (bl, eArr cI 9 (upN lw (lenW L) (air * (absd x (cl (3 * f + 0)) + (absd (cl (3 * f + 0)) y)) + (cl (3 * f + 1)))))] H := by rw [ew]; exact hP
    have hD : va_D A [(a, eCan b1 b2 sp he air sn), (b1, eRow c1 (3 * nc)), (c1, eArr cI 12 cl), (w0, eWay wb wl), (wb, eRow bb (lenW (L ++ wayM cl air sn x y f))), (bb, eArr cI 9 (upN bt (lenW L) (absd x (cl (3 * f + 0)) + (absd (cl (3 * f + 0)) y) + 2))), (wl, eRow bl (lenW (L ++ wayM cl air sn x y f))), (bl, eArr cI 9 (upN lw (lenW L) (air * (absd x (cl (3 * f + 0)) + (absd (cl (3 * f + 0)) y)) + (cl (3 * f + 1)))))] := by rw [ew]; exact hD
    exact x_vret hx hb hr hlocks dX5_traceCliff_110 (post := fun ((bt', lw') : (Nat → Nat) × (Nat → Nat)) => repW bt' lw' (L ++ wayM cl air sn x y f)) (w1 := fun ((bt', lw') : (Nat → Nat) × (Nat → Nat)) => [(w0, eWay wb wl), (wb, eRow bb (lenW (L ++ wayM cl air sn x y f))), (bb, eArr cI 9 bt'), (wl, eRow bl (lenW (L ++ wayM cl air sn x y f))), (bl, eArr cI 9 lw'), (a, eCan b1 b2 sp he air sn), (b1, eRow c1 (3 * nc)), (c1, eArr cI 12 cl)]) (upN bt (lenW L) (absd x (cl (3 * f + 0)) + (absd (cl (3 * f + 0)) y) + 2), upN lw (lenW L) (air * (absd x (cl (3 * f + 0)) + (absd (cl (3 * f + 0)) y)) + (cl (3 * f + 1)))) (by rw [ew]; first | exact repW_app hrep (by omega) (by omega) | exact repW_app (repW_app hrep (by omega) (by omega)) (by omega) (by omega)) hK (hP.sub [3, 4, 5, 6, 7, 0, 1, 2] rfl) (hD.sub [3, 4, 5, 6, 7, 0, 1, 2] rfl rfl) hS

set_option maxRecDepth 100000 in
set_option maxHeartbeats 4000000 in
theorem c_X5_trace (l : Launch) (D : va_G) (cI cC : ClassId) (w0 : Nat) (wb : Nat) (bb : Nat) (wl : Nat) (bl : Nat) (bt : Nat → Nat) (lw : Nat → Nat) (a : Nat) (b1 : Nat) (b2 : Nat) (sp : Nat) (he : Nat) (air : Nat) (sn : Nat) (c1 : Nat) (cl : Nat → Nat) (nc : Nat) (hnc : nc ≤ 4) (x : Nat) (y : Nat) (kb : Nat) (hok : okC cl nc) (hx40 : x ≤ 40 ∧ y ≤ 40) (hair : air ≤ 99) (hsn : sn < 2147483648) : mtV l D cI cC yX5_trace wsX5_trace ({ frames := 3, cells := 0, slots := 0, locals := 73 }) [.ref w0, .ref a, .int (nI x), .int (nI y)] [(w0, eWay wb wl), (wb, eRow bb kb), (bb, eArr cI 9 bt), (wl, eRow bl kb), (bl, eArr cI 9 lw), (a, eCan b1 b2 sp he air sn), (b1, eRow c1 (3 * nc)), (c1, eArr cI 12 cl)] (fun ((bt', lw') : (Nat → Nat) × (Nat → Nat)) => repW bt' lw' (waysM cl air sn x y nc)) (fun ((bt', lw') : (Nat → Nat) × (Nat → Nat)) => [(w0, eWay wb wl), (wb, eRow bb (lenW (waysM cl air sn x y nc))), (bb, eArr cI 9 bt'), (wl, eRow bl (lenW (waysM cl air sn x y nc))), (bl, eArr cI 9 lw'), (a, eCan b1 b2 sp he air sn), (b1, eRow c1 (3 * nc)), (c1, eArr cI 12 cl)]) := by
  refine mtV_of (cc := cX5_trace) (maxL := 6) (ret := none) (by decide) rfl rfl ?_
  intro p e s m below meth c A hx hb hml hr hts hown hlocks hN hA hK hP hD hS ls hl
  have hown : s.vm.findClass RX5 = some m.cls := hown
  have hl : lv_has ls 6 [(0, .ref w0), (1, .ref a), (2, .int (nI x)), (3, .int (nI y))] := hl
  have fl14 := hts (.fieldLink RX5 14 "EchoPaysRent$Ways" "beats" "LEchoPaysRent$Row;") (by decide +kernel)
  have inX5 : ∀ w ∈ wsX50, w ∈ wsX5_trace := by decide +kernel
  have fl20 := hts (.fieldLink RX5 20 "EchoPaysRent$Ways" "losses" "LEchoPaysRent$Row;") (by decide +kernel)
  have mab : (Cond.methodLink RX5 34 Lib.Math.abs.name).before _ s = true := hts (.methodLink RX5 34 Lib.Math.abs.name) (by decide +kernel)
  have fn39 : (Cond.fieldLinkNest RX5 39 "EchoPaysRent$Canyon" "air" "I" "EchoPaysRent").before ([.ref w0, .ref a, .int (nI x), .int (nI y)] : List Value).toArray s = true := nz_use hN (List.mem_of_getElem? (i := 3) rfl)
  have inX0 : ∀ w ∈ wsX00, w ∈ wsX5_trace := by decide +kernel
  refine lv_aload_n hx hb dX5_trace_0 rfl (lv_at hl 0 rfl) ?_
  refine va_get (D := D) (ci := 5) (v := .ref wb) (C := RX5) (T := TX5) (N := 2) hx hb hts inX5 hown hK hP 0 rfl rfl 0 (by decide) fl14 (fun _ h9 => h9) rfl dX5_trace_1 ?_
  refine k_Vv (q := (RX1, TX1, 2)) (ci := 1) (As := []) (wr := [(w0, eWay wb wl), (wl, eRow bl kb), (bl, eArr cI 9 lw), (a, eCan b1 b2 sp he air sn), (b1, eRow c1 (3 * nc)), (c1, eArr cI 12 cl)]) ⟨hx, hb, hml, hown, hts⟩ (c_X1_drop l D cI cC wb bb 9 bt kb) (cwV 0 hts gX5_trace_X1_drop rfl rfl rfl (by decide +kernel) ⟨Nat.le_of_ble_eq_true rfl, Nat.le_of_ble_eq_true rfl⟩) rfl hl.1 rfl (Nat.le_of_ble_eq_true rfl) dX5_trace_4 ⟨Nat.zero_le _, Nat.zero_le _⟩ hN hK hP hD hS hA rfl (q0 := 1) rfl [1, 2] [0, 3, 4, 5, 6, 7] rfl rfl ⟨rfl, rfl, by decide⟩ (fun u H locs w2 hP hD hS => ?_)
  refine lv_aload_n hx hb dX5_trace_7 rfl (lv_at hl 0 rfl) ?_
  refine va_get (D := D) (ci := 5) (v := .ref wl) (C := RX5) (T := TX5) (N := 2) hx hb hts inX5 hown hK hP 0 rfl rfl 1 (by decide) fl20 (fun _ h9 => h9) rfl dX5_trace_8 ?_
  refine k_Vv (q := (RX1, TX1, 2)) (ci := 1) (As := []) (wr := [(w0, eWay wb wl), (a, eCan b1 b2 sp he air sn), (b1, eRow c1 (3 * nc)), (c1, eArr cI 12 cl), (wb, eRow bb 0), (bb, eArr cI 9 bt)]) ⟨hx, hb, hml, hown, hts⟩ (c_X1_drop l D cI cC wl bl 9 lw kb) (cwV 0 hts gX5_trace_X1_drop rfl rfl rfl (by decide +kernel) ⟨Nat.le_of_ble_eq_true rfl, Nat.le_of_ble_eq_true rfl⟩) rfl hl.1 rfl (Nat.le_of_ble_eq_true rfl) dX5_trace_11 ⟨Nat.zero_le _, Nat.zero_le _⟩ hN hK hP hD hS hA rfl (q0 := 1) rfl [1, 2] [0, 3, 4, 5, 6, 7] rfl rfl ⟨rfl, rfl, by decide⟩ (fun u H locs w4 hP hD hS => ?_)
  refine lv_iload_n hx hb dX5_trace_14 rfl (lv_at hl 2 rfl) ?_
  refine lv_iload_n hx hb dX5_trace_15 rfl (lv_at hl 3 rfl) ?_
  refine x_isubZ hx hb dX5_trace_16 ?_
  refine va_mabs hx hb (by rw [hml]; exact hl.1.symm) hown mab (hts (.static Lib.Math.abs.name) (by decide +kernel)) (hts (.initialized "java/lang/Math") (by decide +kernel)) (hts (.code Lib.Math.abs.name Lib.Math.abs.code 1 (some .int)) (by decide +kernel)) (Nat.le_of_ble_eq_true rfl) (Nat.le_of_ble_eq_true rfl) (Nat.zero_le _) (Nat.zero_le _) dX5_trace_17 ?_
  refine x_top (abs_nI (by omega) (by omega)) ?_
  have f5 : absd x y ≤ 40 := absd_le (by omega) (by omega)
  refine lv_istore (lv' := [(4, .int (nI (absd x y))), (0, .ref w0), (1, .ref a), (2, .int (nI x)), (3, .int (nI y))]) hx hb dX5_trace_20 hl (by decide) rfl (fun ls hl => ?_)
  refine lv_aload_n hx hb dX5_trace_22 rfl (lv_at hl 1 rfl) ?_
  refine lv_iload hx hb dX5_trace_23 (lv_at hl 0 rfl) ?_
  refine lv_aload_n hx hb dX5_trace_25 rfl (lv_at hl 2 rfl) ?_
  refine va_getN (D := D) (ci := 0) (v := .int (nI air)) (C := RX0) (T := TX0) (N := 6) hx hb hts inX0 hown hK hP 1 rfl rfl 4 (by decide) fn39 (fun _ h9 => h9) rfl dX5_trace_26 ?_
  refine lv_iload hx hb dX5_trace_29 (lv_at hl 0 rfl) ?_
  refine x_imul hx hb dX5_trace_31 ?_
  have hP : va_P D vwCl [(w0, eWay wb wl), (a, eCan b1 b2 sp he air sn), (b1, eRow c1 (3 * nc)), (c1, eArr cI 12 cl), (wb, eRow bb (lenW [])), (bb, eArr cI 9 bt), (wl, eRow bl (lenW [])), (bl, eArr cI 9 lw)] H := hP
  have hD : va_D A [(w0, eWay wb wl), (a, eCan b1 b2 sp he air sn), (b1, eRow c1 (3 * nc)), (c1, eArr cI 12 cl), (wb, eRow bb (lenW [])), (bb, eArr cI 9 bt), (wl, eRow bl (lenW [])), (bl, eArr cI 9 lw)] := hD
  have f6 : air * absd x y ≤ 3960 := (Nat.mul_le_mul hair (show absd x y ≤ 40 by omega) : air * absd x y ≤ 99 * 40)
  refine k_Vv (q := (RX5, TX5, 2)) (ci := 5) (As := [.int (nI (absd x y)), .int (nI (air * (absd x y)))]) (wr := [(a, eCan b1 b2 sp he air sn), (b1, eRow c1 (3 * nc)), (c1, eArr cI 12 cl)]) ⟨hx, hb, hml, hown, hts⟩ (c_X5_addWay l D cI cC w0 wb bb wl bl bt lw ([]) (absd x y) (air * (absd x y)) (show 0 < 9 by omega)) (cwV 2 hts gX5_trace_X5_addWay rfl rfl rfl (by decide +kernel) ⟨Nat.le_of_ble_eq_true rfl, Nat.le_of_ble_eq_true rfl⟩) rfl hl.1 rfl (Nat.le_of_ble_eq_true rfl) dX5_trace_32 ⟨Nat.zero_le _, Nat.zero_le _⟩ hN hK hP hD hS hA rfl (q0 := 0) rfl [0, 4, 5, 6, 7] [1, 2, 3] rfl rfl ⟨rfl, rfl, by decide⟩ (fun u H locs w8 hP hD hS => ?_)
  have repE : repW (upN bt (lenW []) (absd x y)) (upN lw (lenW []) (air * absd x y)) ([] ++ [(absd x y, air * absd x y)]) := repW_app (L := []) (bt := bt) (ls := lw) (fun j hj => absurd hj (Nat.not_lt_zero j)) (by omega) (by omega)
  refine lv_iconst (v := (nI 0)) hx hb dX5_trace_35 (by decide) ?_
  refine lv_istore (lv' := [(5, .int (nI 0)), (4, .int (nI (absd x y))), (0, .ref w0), (1, .ref a), (2, .int (nI x)), (3, .int (nI y))]) hx hb dX5_trace_36 hl (by decide) rfl (fun ls hl => ?_)
  have loop38 : ∀ (nn38 : Nat) (i : Nat) (bt' : Nat → Nat) (lw' : Nat → Nat), nc - i < nn38 → i ≤ nc → repW bt' lw' (waysM cl air sn x y i) → ∀ (H : Heap) (locs : List Loc), va_P D vwCl [(w0, eWay wb wl), (wb, eRow bb (lenW (waysM cl air sn x y i))), (bb, eArr cI 9 bt'), (wl, eRow bl (lenW (waysM cl air sn x y i))), (bl, eArr cI 9 lw'), (a, eCan b1 b2 sp he air sn), (b1, eRow c1 (3 * nc)), (c1, eArr cI 12 cl)] H → va_D A [(w0, eWay wb wl), (wb, eRow bb (lenW (waysM cl air sn x y i))), (bb, eArr cI 9 bt'), (wl, eRow bl (lenW (waysM cl air sn x y i))), (bl, eArr cI 9 lw'), (a, eCan b1 b2 sp he air sn), (b1, eRow c1 (3 * nc)), (c1, eArr cI 12 cl)] → va_S A s.heap H locs → ∀ ls : Array Slot, lv_has ls 6 [(5, .int (nI i)), (0, .ref w0), (1, .ref a), (2, .int (nI x)), (3, .int (nI y))] → W p l e (headSpec wsX5_trace ({ frames := 3, cells := 0, slots := 0, locals := 73 })).room s m ([.ref w0, .ref a, .int (nI x), .int (nI y)] : List Value).toArray below meth c H locs 0 0 (MQ below (va_Qv (fun ((bt', lw') : (Nat → Nat) × (Nat → Nat)) => repW bt' lw' (waysM cl air sn x y nc)) (ctB D cI cC (fun ((bt', lw') : (Nat → Nat) × (Nat → Nat)) => [(w0, eWay wb wl), (wb, eRow bb (lenW (waysM cl air sn x y nc))), (bb, eArr cI 9 bt'), (wl, eRow bl (lenW (waysM cl air sn x y nc))), (bl, eArr cI 9 lw'), (a, eCan b1 b2 sp he air sn), (b1, eRow c1 (3 * nc)), (c1, eArr cI 12 cl)]) A) A) ([.ref w0, .ref a, .int (nI x), .int (nI y)] : List Value).toArray s 0 0 A) (F0 m 38 ls []) := by
    intro nn38
    induction nn38 with
    | zero =>
      intro i bt' lw' hm9
      exact absurd hm9 (Nat.not_lt_zero _)
    | succ nn38 ih38 =>
      intro i bt' lw' hm9 hi10 hrp H locs hP hD hS ls hl
      refine lv_iload hx hb dX5_trace_38 (lv_at hl 0 rfl) ?_
      refine lv_aload_n hx hb dX5_trace_40 rfl (lv_at hl 2 rfl) ?_
      refine k_V (q := (RX0, TX0, 6)) (ci := 0) (As := []) (wr := [(w0, eWay wb wl), (wb, eRow bb (lenW (waysM cl air sn x y i))), (bb, eArr cI 9 bt'), (wl, eRow bl (lenW (waysM cl air sn x y i))), (bl, eArr cI 9 lw')]) ⟨hx, hb, hml, hown, hts⟩ (c_X0_cliffCount l D cI cC a b1 b2 sp he air sn c1 cl nc (by omega)) (cwV 0 hts gX5_trace_X0_cliffCount rfl rfl rfl (by decide +kernel) ⟨Nat.le_of_ble_eq_true rfl, Nat.le_of_ble_eq_true rfl⟩) rfl hl.1 rfl (Nat.le_of_ble_eq_true rfl) dX5_trace_41 ⟨Nat.zero_le _, Nat.zero_le _⟩ hN hK hP hD hS hA rfl (q0 := 5) rfl [5, 6, 7] [0, 1, 2, 3, 4] rfl rfl ⟨rfl, rfl, by decide⟩ (fun r11 u H locs w12 hP hD hS => ?_)
      obtain rfl : r11 = (nI nc) := w12
      have f13 : lenW (waysM cl air sn x y i) ≤ 1 + 2 * i := waysM_lenW cl air sn x y i
      refine x_icmp_ge (tgt := 71) hx hb dX5_trace_44 (by decide) (by omega) (by omega) (fun h14 => ?_) (fun h14 => ?_)
      · have e15 : nc = i := by omega
        subst e15
        exact x_vret hx hb hr hlocks dX5_trace_71 (post := fun ((bt', lw') : (Nat → Nat) × (Nat → Nat)) => repW bt' lw' (waysM cl air sn x y nc)) (w1 := fun ((bt', lw') : (Nat → Nat) × (Nat → Nat)) => [(w0, eWay wb wl), (wb, eRow bb (lenW (waysM cl air sn x y nc))), (bb, eArr cI 9 bt'), (wl, eRow bl (lenW (waysM cl air sn x y nc))), (bl, eArr cI 9 lw'), (a, eCan b1 b2 sp he air sn), (b1, eRow c1 (3 * nc)), (c1, eArr cI 12 cl)]) (bt', lw') hrp hK hP hD hS
      · refine lv_aload_n hx hb dX5_trace_47 rfl (lv_at hl 2 rfl) ?_
        refine lv_iload hx hb dX5_trace_48 (lv_at hl 0 rfl) ?_
        refine k_V (q := (RX0, TX0, 6)) (ci := 0) (As := [.int (nI i)]) (wr := [(w0, eWay wb wl), (wb, eRow bb (lenW (waysM cl air sn x y i))), (bb, eArr cI 9 bt'), (wl, eRow bl (lenW (waysM cl air sn x y i))), (bl, eArr cI 9 lw'), (b1, eRow c1 (3 * nc)), (c1, eArr cI 12 cl)]) ⟨hx, hb, hml, hown, hts⟩ (c_X0_hasSnow l D cI cC a b1 b2 sp he air sn i (by omega) (by omega)) (cwV 1 hts gX5_trace_X0_hasSnow rfl rfl rfl (by decide +kernel) ⟨Nat.le_of_ble_eq_true rfl, Nat.le_of_ble_eq_true rfl⟩) rfl hl.1 rfl (Nat.le_of_ble_eq_true rfl) dX5_trace_50 ⟨Nat.zero_le _, Nat.zero_le _⟩ hN hK hP hD hS hA rfl (q0 := 5) rfl [5] [0, 1, 2, 3, 4, 6, 7] rfl rfl ⟨rfl, rfl, by decide⟩ (fun r16 u H locs w17 hP hD hS => ?_)
        obtain ⟨rfl, h18⟩ | ⟨rfl, h19⟩ : (r16 = (nI 1) ∧ sn / 2 ^ i % 2 = 1) ∨ (r16 = (nI 0) ∧ ¬ sn / 2 ^ i % 2 = 1) := w17
        · refine x_if_ne (tgt := 65) hx hb dX5_trace_53 (by decide) (by omega) (fun h20 => ?_) (fun h20 => False.elim (by omega))
          refine lv_iinc (v := (nI (i + 1))) (lv' := [(5, .int (nI (i + 1))), (0, .ref w0), (1, .ref a), (2, .int (nI x)), (3, .int (nI y))]) hx hb dX5_trace_65 hl (k := 0) rfl (nI_inc _ 1) (by decide) rfl (fun ls hl => ?_)
          refine lv_goto (tgt := 38) hx hb dX5_trace_68 (by decide) ?_
          have hP : va_P D vwCl [(w0, eWay wb wl), (wb, eRow bb (lenW (waysM cl air sn x y (i + 1)))), (bb, eArr cI 9 bt'), (wl, eRow bl (lenW (waysM cl air sn x y (i + 1)))), (bl, eArr cI 9 lw'), (b1, eRow c1 (3 * nc)), (c1, eArr cI 12 cl), (a, eCan b1 b2 sp he air sn)] H := by rw [waysM_snow h18]; exact hP
          have hD : va_D A [(w0, eWay wb wl), (wb, eRow bb (lenW (waysM cl air sn x y (i + 1)))), (bb, eArr cI 9 bt'), (wl, eRow bl (lenW (waysM cl air sn x y (i + 1)))), (bl, eArr cI 9 lw'), (b1, eRow c1 (3 * nc)), (c1, eArr cI 12 cl), (a, eCan b1 b2 sp he air sn)] := by rw [waysM_snow h18]; exact hD
          exact ih38 (i + 1) bt' lw' (by omega) (by omega) (by rw [waysM_snow h18]; exact hrp) _ _ (hP.sub [0, 1, 2, 3, 4, 7, 5, 6] rfl) (hD.sub [0, 1, 2, 3, 4, 7, 5, 6] rfl rfl) hS _ (lv_sub hl [0, 1, 2, 3, 4] rfl)
        · refine x_if_ne (tgt := 65) hx hb dX5_trace_53 (by decide) (by omega) (fun h21 => False.elim (by omega)) (fun h21 => ?_)
          refine lv_aload_n hx hb dX5_trace_56 rfl (lv_at hl 1 rfl) ?_
          refine lv_aload_n hx hb dX5_trace_57 rfl (lv_at hl 2 rfl) ?_
          refine lv_iload hx hb dX5_trace_58 (lv_at hl 0 rfl) ?_
          refine lv_iload_n hx hb dX5_trace_60 rfl (lv_at hl 3 rfl) ?_
          refine lv_iload_n hx hb dX5_trace_61 rfl (lv_at hl 4 rfl) ?_
          refine k_Vv (q := (RX5, TX5, 2)) (ci := 5) (As := [.ref a, .int (nI i), .int (nI x), .int (nI y)]) (wr := []) ⟨hx, hb, hml, hown, hts⟩ (c_X5_traceCliff l D cI cC w0 wb bb wl bl bt' lw' a b1 b2 sp he air sn c1 cl nc (by omega) (waysM cl air sn x y i) x y i (by omega) (by omega) hok hrp h19 (by omega) hair) (cwV 4 hts gX5_trace_X5_traceCliff rfl rfl rfl (by decide +kernel) ⟨Nat.le_of_ble_eq_true rfl, Nat.le_of_ble_eq_true rfl⟩) rfl hl.1 rfl (Nat.le_of_ble_eq_true rfl) dX5_trace_62 ⟨Nat.zero_le _, Nat.zero_le _⟩ hN hK hP hD hS hA rfl (q0 := 0) rfl [0, 1, 2, 3, 4, 7, 5, 6] [] rfl rfl ⟨rfl, rfl, by decide⟩ (fun u H locs w25 hP hD hS => ?_)
          obtain ⟨bt'23, lw'24⟩ := u
          have h26 : repW bt'23 lw'24 ((waysM cl air sn x y i) ++ wayM cl air sn x y i) := w25
          refine lv_iinc (v := (nI (i + 1))) (lv' := [(5, .int (nI (i + 1))), (0, .ref w0), (1, .ref a), (2, .int (nI x)), (3, .int (nI y))]) hx hb dX5_trace_65 hl (k := 0) rfl (nI_inc _ 1) (by decide) rfl (fun ls hl => ?_)
          refine lv_goto (tgt := 38) hx hb dX5_trace_68 (by decide) ?_
          have hP : va_P D vwCl [(w0, eWay wb wl), (wb, eRow bb (lenW (waysM cl air sn x y (i + 1)))), (bb, eArr cI 9 bt'23), (wl, eRow bl (lenW (waysM cl air sn x y (i + 1)))), (bl, eArr cI 9 lw'24), (a, eCan b1 b2 sp he air sn), (b1, eRow c1 (3 * nc)), (c1, eArr cI 12 cl)] H := by rw [waysM_s]; exact hP
          have hD : va_D A [(w0, eWay wb wl), (wb, eRow bb (lenW (waysM cl air sn x y (i + 1)))), (bb, eArr cI 9 bt'23), (wl, eRow bl (lenW (waysM cl air sn x y (i + 1)))), (bl, eArr cI 9 lw'24), (a, eCan b1 b2 sp he air sn), (b1, eRow c1 (3 * nc)), (c1, eArr cI 12 cl)] := by rw [waysM_s]; exact hD
          exact ih38 (i + 1) bt'23 lw'24 (by omega) (by omega) (by rw [waysM_s]; exact h26) _ _ (hP.sub [0, 1, 2, 3, 4, 5, 6, 7] rfl) (hD.sub [0, 1, 2, 3, 4, 5, 6, 7] rfl rfl) hS _ (lv_sub hl [0, 1, 2, 3, 4] rfl)
  have hP : va_P D vwCl [(a, eCan b1 b2 sp he air sn), (b1, eRow c1 (3 * nc)), (c1, eArr cI 12 cl), (w0, eWay wb wl), (wb, eRow bb (lenW (waysM cl air sn x y 0))), (bb, eArr cI 9 (upN bt (lenW ([])) (absd x y))), (wl, eRow bl (lenW (waysM cl air sn x y 0))), (bl, eArr cI 9 (upN lw (lenW ([])) (air * (absd x y))))] H := by rw [show waysM cl air sn x y 0 = ([]) ++ [((absd x y), (air * (absd x y)))] from rfl]; exact hP
  have hD : va_D A [(a, eCan b1 b2 sp he air sn), (b1, eRow c1 (3 * nc)), (c1, eArr cI 12 cl), (w0, eWay wb wl), (wb, eRow bb (lenW (waysM cl air sn x y 0))), (bb, eArr cI 9 (upN bt (lenW ([])) (absd x y))), (wl, eRow bl (lenW (waysM cl air sn x y 0))), (bl, eArr cI 9 (upN lw (lenW ([])) (air * (absd x y))))] := by rw [show waysM cl air sn x y 0 = ([]) ++ [((absd x y), (air * (absd x y)))] from rfl]; exact hD
  exact loop38 _ 0 (upN bt (lenW ([])) (absd x y)) (upN lw (lenW ([])) (air * (absd x y))) (Nat.lt_succ_self _) (by omega) repE _ _ (hP.sub [3, 4, 5, 6, 7, 0, 1, 2] rfl) (hD.sub [3, 4, 5, 6, 7, 0, 1, 2] rfl rfl) hS _ (lv_sub hl [0, 2, 3, 4, 5] rfl)
