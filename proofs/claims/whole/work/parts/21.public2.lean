set_option maxRecDepth 100000 in
set_option maxHeartbeats 4000000 in
theorem c_X6_talk_ok (l : Launch) (D : va_G) (cI cC : ClassId) (o : Nat) (t0 : Nat) (a2 : Nat) (w0 : Nat) (y0 : Nat) (s0 : Nat) (h0 : Nat) (g0 : Nat) (u0 : Nat) (v0 : Nat) (a : Nat) (ua : Nat) (tk : Nat → Nat) (n : Nat) (v : Nat) (hv3 : v ≤ 3) (hn6 : n < 6) : mtI l D cI cC yX6_talk wsX6_talk ({ frames := 1, cells := 0, slots := 0, locals := 22 }) [.ref o, .int (nI v)] [(o, eEPR t0 a a2 w0 y0 s0 h0 g0 u0 v0), (u0, eRow ua n), (ua, eArr cI 6 tk)] (fun (r : Int32) (_ : Unit) => r = (nI (n + 1))) (fun (_ : Unit) => [(o, eEPR t0 a a2 w0 y0 s0 h0 g0 u0 v0), (u0, eRow ua (n + 1)), (ua, eArr cI 6 (upN tk n v))]) := by
  refine mtI_of (cc := cX6_talk) (maxL := 2) (ret := (some .int)) (by decide) rfl rfl ?_
  intro p e s m below meth c A hx hb hml hr hts hown hlocks hN hA hK hP hD hS ls hl
  have hown : s.vm.findClass RX6 = some m.cls := hown
  have hl : lv_has ls 2 [(0, .ref o), (1, .int (nI v))] := hl
  obtain ⟨H, hHe⟩ : ∃ H, H = s.heap := ⟨_, rfl⟩
  rw [← hHe] at hP ⊢
  have hS : va_S A s.heap H [] := by rw [hHe]; exact va_S.rf
  have fl58 := hts (.fieldLink RX6 58 "EchoPaysRent" "wanted" "LEchoPaysRent$Row;") (by decide +kernel)
  have inX6 : ∀ w ∈ wsX60, w ∈ wsX6_talk := by decide +kernel
  refine lv_iload_n hx hb dX6_talk_0 rfl (lv_at hl 1 rfl) ?_
  refine lv_iconst (v := (nI 0)) hx hb dX6_talk_1 (by decide) ?_
  refine lv_iconst (v := (nI 3)) hx hb dX6_talk_2 (by decide) ?_
  refine k_S (As := [.int (iI (((v : Nat) : Int))), .int (iI (((0 : Nat) : Int))), .int (iI (((3 : Nat) : Int)))]) (wr := [(o, eEPR t0 a a2 w0 y0 s0 h0 g0 u0 v0), (u0, eRow ua n), (ua, eArr cI 6 tk)]) ⟨hx, hb, hml, hown, hts⟩ (c_X6_within l D cI cC (((v : Nat) : Int)) (((0 : Nat) : Int)) (((3 : Nat) : Int)) (by omega) (by omega) (by omega)) (cwS 3 hts gX6_talk_X6_within rfl rfl rfl (by decide +kernel) ⟨Nat.le_of_ble_eq_true rfl, Nat.le_of_ble_eq_true rfl⟩) rfl hl.1 (by simp only [nI_iI]; rfl) (Nat.le_of_ble_eq_true rfl) dX6_talk_3 ⟨Nat.zero_le _, Nat.zero_le _⟩ hN hK hP hD hS hA [] [0, 1, 2] rfl rfl ⟨rfl, rfl, by decide⟩ (fun r1 u H locs w2 hP hD hS => ?_)
  obtain ⟨rfl, h3, h4⟩ | ⟨rfl, h5⟩ : (r1 = (nI 1) ∧ (((0 : Nat) : Int)) ≤ (((v : Nat) : Int)) ∧ (((v : Nat) : Int)) ≤ (((3 : Nat) : Int))) ∨ (r1 = (nI 0) ∧ ((((v : Nat) : Int)) < (((0 : Nat) : Int)) ∨ (((3 : Nat) : Int)) < (((v : Nat) : Int)))) := w2
  · refine x_if_ne (tgt := 11) hx hb dX6_talk_6 (by decide) (by omega) (fun h6 => ?_) (fun h6 => False.elim (by omega))
    refine lv_aload_n hx hb dX6_talk_11 rfl (lv_at hl 0 rfl) ?_
    refine va_get (D := D) (ci := 6) (v := .ref u0) (C := RX6) (T := TX6) (N := 10) hx hb hts inX6 hown hK hP 0 rfl rfl 8 (by decide) fl58 (fun _ h9 => h9) rfl dX6_talk_12 ?_
    refine lv_iload_n hx hb dX6_talk_15 rfl (lv_at hl 1 rfl) ?_
    refine k_V (q := (RX1, TX1, 2)) (ci := 1) (As := [.int (nI v)]) (wr := [(o, eEPR t0 a a2 w0 y0 s0 h0 g0 u0 v0)]) ⟨hx, hb, hml, hown, hts⟩ (c_X1_add_lt l D cI cC u0 ua 6 tk n v (by omega) (by omega)) (cwV 1 hts gX6_talk_X1_add rfl rfl rfl (by decide +kernel) ⟨Nat.le_of_ble_eq_true rfl, Nat.le_of_ble_eq_true rfl⟩) rfl hl.1 rfl (Nat.le_of_ble_eq_true rfl) dX6_talk_16 ⟨Nat.zero_le _, Nat.zero_le _⟩ hN hK hP hD hS hA rfl (q0 := 1) rfl [1, 2] [0] rfl rfl ⟨rfl, rfl, by decide⟩ (fun r7 u H locs w8 hP hD hS => ?_)
    obtain rfl : r7 = (nI 1) := w8
    refine x_if_eq (tgt := 32) hx hb dX6_talk_19 (by decide) (by omega) (fun h9 => False.elim (by omega)) (fun h9 => ?_)
    refine lv_aload_n hx hb dX6_talk_22 rfl (lv_at hl 0 rfl) ?_
    refine va_get (D := D) (ci := 6) (v := .ref u0) (C := RX6) (T := TX6) (N := 10) hx hb hts inX6 hown hK hP 0 rfl rfl 8 (by decide) fl58 (fun _ h9 => h9) rfl dX6_talk_23 ?_
    refine k_V (q := (RX1, TX1, 2)) (ci := 1) (As := []) (wr := [(o, eEPR t0 a a2 w0 y0 s0 h0 g0 u0 v0)]) ⟨hx, hb, hml, hown, hts⟩ (c_X1_size l D cI cC u0 ua 6 (upN tk n v) (n + 1)) (cwV 0 hts gX6_talk_X1_size rfl rfl rfl (by decide +kernel) ⟨Nat.le_of_ble_eq_true rfl, Nat.le_of_ble_eq_true rfl⟩) rfl hl.1 rfl (Nat.le_of_ble_eq_true rfl) dX6_talk_26 ⟨Nat.zero_le _, Nat.zero_le _⟩ hN hK hP hD hS hA rfl (q0 := 1) rfl [1, 2] [0] rfl rfl ⟨rfl, rfl, by decide⟩ (fun r10 u H locs w11 hP hD hS => ?_)
    obtain rfl : r10 = (nI (n + 1)) := w11
    refine lv_goto (tgt := 34) hx hb dX6_talk_29 (by decide) ?_
    exact x_iret hx hb hr hlocks dX6_talk_34 rfl (post := fun (r : Int32) (_ : Unit) => r = (nI (n + 1))) (w1 := fun (_ : Unit) => [(o, eEPR t0 a a2 w0 y0 s0 h0 g0 u0 v0), (u0, eRow ua (n + 1)), (ua, eArr cI 6 (upN tk n v))]) () rfl hK hP hD hS
  · exact False.elim (by omega)

set_option maxRecDepth 100000 in
set_option maxHeartbeats 4000000 in
theorem c_X6_talk_full (l : Launch) (D : va_G) (cI cC : ClassId) (o : Nat) (t0 : Nat) (a2 : Nat) (w0 : Nat) (y0 : Nat) (s0 : Nat) (h0 : Nat) (g0 : Nat) (u0 : Nat) (v0 : Nat) (a : Nat) (ua : Nat) (tk : Nat → Nat) (n : Nat) (v : Nat) (hv3 : v ≤ 3) (hn6 : n = 6) : mtI l D cI cC yX6_talk wsX6_talk ({ frames := 1, cells := 0, slots := 0, locals := 22 }) [.ref o, .int (nI v)] [(o, eEPR t0 a a2 w0 y0 s0 h0 g0 u0 v0), (u0, eRow ua n), (ua, eArr cI 6 tk)] (fun (r : Int32) (_ : Unit) => r = (iI (-3))) (fun (_ : Unit) => [(o, eEPR t0 a a2 w0 y0 s0 h0 g0 u0 v0), (u0, eRow ua n), (ua, eArr cI 6 tk)]) := by
  refine mtI_of (cc := cX6_talk) (maxL := 2) (ret := (some .int)) (by decide) rfl rfl ?_
  intro p e s m below meth c A hx hb hml hr hts hown hlocks hN hA hK hP hD hS ls hl
  have hown : s.vm.findClass RX6 = some m.cls := hown
  have hl : lv_has ls 2 [(0, .ref o), (1, .int (nI v))] := hl
  obtain ⟨H, hHe⟩ : ∃ H, H = s.heap := ⟨_, rfl⟩
  rw [← hHe] at hP ⊢
  have hS : va_S A s.heap H [] := by rw [hHe]; exact va_S.rf
  have fl58 := hts (.fieldLink RX6 58 "EchoPaysRent" "wanted" "LEchoPaysRent$Row;") (by decide +kernel)
  have inX6 : ∀ w ∈ wsX60, w ∈ wsX6_talk := by decide +kernel
  refine lv_iload_n hx hb dX6_talk_0 rfl (lv_at hl 1 rfl) ?_
  refine lv_iconst (v := (nI 0)) hx hb dX6_talk_1 (by decide) ?_
  refine lv_iconst (v := (nI 3)) hx hb dX6_talk_2 (by decide) ?_
  refine k_S (As := [.int (iI (((v : Nat) : Int))), .int (iI (((0 : Nat) : Int))), .int (iI (((3 : Nat) : Int)))]) (wr := [(o, eEPR t0 a a2 w0 y0 s0 h0 g0 u0 v0), (u0, eRow ua n), (ua, eArr cI 6 tk)]) ⟨hx, hb, hml, hown, hts⟩ (c_X6_within l D cI cC (((v : Nat) : Int)) (((0 : Nat) : Int)) (((3 : Nat) : Int)) (by omega) (by omega) (by omega)) (cwS 3 hts gX6_talk_X6_within rfl rfl rfl (by decide +kernel) ⟨Nat.le_of_ble_eq_true rfl, Nat.le_of_ble_eq_true rfl⟩) rfl hl.1 (by simp only [nI_iI]; rfl) (Nat.le_of_ble_eq_true rfl) dX6_talk_3 ⟨Nat.zero_le _, Nat.zero_le _⟩ hN hK hP hD hS hA [] [0, 1, 2] rfl rfl ⟨rfl, rfl, by decide⟩ (fun r1 u H locs w2 hP hD hS => ?_)
  obtain ⟨rfl, h3, h4⟩ | ⟨rfl, h5⟩ : (r1 = (nI 1) ∧ (((0 : Nat) : Int)) ≤ (((v : Nat) : Int)) ∧ (((v : Nat) : Int)) ≤ (((3 : Nat) : Int))) ∨ (r1 = (nI 0) ∧ ((((v : Nat) : Int)) < (((0 : Nat) : Int)) ∨ (((3 : Nat) : Int)) < (((v : Nat) : Int)))) := w2
  · refine x_if_ne (tgt := 11) hx hb dX6_talk_6 (by decide) (by omega) (fun h6 => ?_) (fun h6 => False.elim (by omega))
    refine lv_aload_n hx hb dX6_talk_11 rfl (lv_at hl 0 rfl) ?_
    refine va_get (D := D) (ci := 6) (v := .ref u0) (C := RX6) (T := TX6) (N := 10) hx hb hts inX6 hown hK hP 0 rfl rfl 8 (by decide) fl58 (fun _ h9 => h9) rfl dX6_talk_12 ?_
    refine lv_iload_n hx hb dX6_talk_15 rfl (lv_at hl 1 rfl) ?_
    refine k_V (q := (RX1, TX1, 2)) (ci := 1) (As := [.int (nI v)]) (wr := [(o, eEPR t0 a a2 w0 y0 s0 h0 g0 u0 v0)]) ⟨hx, hb, hml, hown, hts⟩ (c_X1_add_ge l D cI cC u0 ua 6 tk n v (by omega) (by omega)) (cwV 1 hts gX6_talk_X1_add rfl rfl rfl (by decide +kernel) ⟨Nat.le_of_ble_eq_true rfl, Nat.le_of_ble_eq_true rfl⟩) rfl hl.1 rfl (Nat.le_of_ble_eq_true rfl) dX6_talk_16 ⟨Nat.zero_le _, Nat.zero_le _⟩ hN hK hP hD hS hA rfl (q0 := 1) rfl [1, 2] [0] rfl rfl ⟨rfl, rfl, by decide⟩ (fun r7 u H locs w8 hP hD hS => ?_)
    obtain rfl : r7 = (nI 0) := w8
    refine x_if_eq (tgt := 32) hx hb dX6_talk_19 (by decide) (by omega) (fun h9 => ?_) (fun h9 => False.elim (by omega))
    refine lv_bipush (v := (iI (-3))) hx hb dX6_talk_32 (by decide) ?_
    exact x_iret hx hb hr hlocks dX6_talk_34 rfl (post := fun (r : Int32) (_ : Unit) => r = (iI (-3))) (w1 := fun (_ : Unit) => [(o, eEPR t0 a a2 w0 y0 s0 h0 g0 u0 v0), (u0, eRow ua n), (ua, eArr cI 6 tk)]) () rfl hK hP hD hS
  · exact False.elim (by omega)

set_option maxRecDepth 100000 in
set_option maxHeartbeats 4000000 in
theorem c_X6_noTalk (l : Launch) (D : va_G) (cI cC : ClassId) (o : Nat) (t0 : Nat) (a2 : Nat) (w0 : Nat) (y0 : Nat) (s0 : Nat) (h0 : Nat) (g0 : Nat) (u0 : Nat) (v0 : Nat) (a : Nat) (ua : Nat) (tk : Nat → Nat) (n : Nat) : mtI l D cI cC yX6_noTalk wsX6_noTalk ({ frames := 1, cells := 0, slots := 0, locals := 20 }) [.ref o] [(o, eEPR t0 a a2 w0 y0 s0 h0 g0 u0 v0), (u0, eRow ua n), (ua, eArr cI 6 tk)] (fun (r : Int32) (_ : Unit) => r = (nI n)) (fun (_ : Unit) => [(o, eEPR t0 a a2 w0 y0 s0 h0 g0 u0 v0), (u0, eRow ua 0), (ua, eArr cI 6 tk)]) := by
  refine mtI_of (cc := cX6_noTalk) (maxL := 2) (ret := (some .int)) (by decide) rfl rfl ?_
  intro p e s m below meth c A hx hb hml hr hts hown hlocks hN hA hK hP hD hS ls hl
  have hown : s.vm.findClass RX6 = some m.cls := hown
  have hl : lv_has ls 2 [(0, .ref o)] := hl
  obtain ⟨H, hHe⟩ : ∃ H, H = s.heap := ⟨_, rfl⟩
  rw [← hHe] at hP ⊢
  have hS : va_S A s.heap H [] := by rw [hHe]; exact va_S.rf
  have fl58 := hts (.fieldLink RX6 58 "EchoPaysRent" "wanted" "LEchoPaysRent$Row;") (by decide +kernel)
  have inX6 : ∀ w ∈ wsX60, w ∈ wsX6_noTalk := by decide +kernel
  refine lv_aload_n hx hb dX6_noTalk_0 rfl (lv_at hl 0 rfl) ?_
  refine va_get (D := D) (ci := 6) (v := .ref u0) (C := RX6) (T := TX6) (N := 10) hx hb hts inX6 hown hK hP 0 rfl rfl 8 (by decide) fl58 (fun _ h9 => h9) rfl dX6_noTalk_1 ?_
  refine k_V (q := (RX1, TX1, 2)) (ci := 1) (As := []) (wr := [(o, eEPR t0 a a2 w0 y0 s0 h0 g0 u0 v0)]) ⟨hx, hb, hml, hown, hts⟩ (c_X1_size l D cI cC u0 ua 6 tk n) (cwV 0 hts gX6_noTalk_X1_size rfl rfl rfl (by decide +kernel) ⟨Nat.le_of_ble_eq_true rfl, Nat.le_of_ble_eq_true rfl⟩) rfl hl.1 rfl (Nat.le_of_ble_eq_true rfl) dX6_noTalk_4 ⟨Nat.zero_le _, Nat.zero_le _⟩ hN hK hP hD hS hA rfl (q0 := 1) rfl [1, 2] [0] rfl rfl ⟨rfl, rfl, by decide⟩ (fun r1 u H locs w2 hP hD hS => ?_)
  obtain rfl : r1 = (nI n) := w2
  refine lv_istore_n (lv' := [(1, .int (nI n)), (0, .ref o)]) hx hb dX6_noTalk_7 rfl hl (by decide) rfl (fun ls hl => ?_)
  refine lv_aload_n hx hb dX6_noTalk_8 rfl (lv_at hl 1 rfl) ?_
  refine va_get (D := D) (ci := 6) (v := .ref u0) (C := RX6) (T := TX6) (N := 10) hx hb hts inX6 hown hK hP 0 rfl rfl 8 (by decide) fl58 (fun _ h9 => h9) rfl dX6_noTalk_9 ?_
  refine k_Vv (q := (RX1, TX1, 2)) (ci := 1) (As := []) (wr := [(o, eEPR t0 a a2 w0 y0 s0 h0 g0 u0 v0)]) ⟨hx, hb, hml, hown, hts⟩ (c_X1_drop l D cI cC u0 ua 6 tk n) (cwV 0 hts gX6_noTalk_X1_drop rfl rfl rfl (by decide +kernel) ⟨Nat.le_of_ble_eq_true rfl, Nat.le_of_ble_eq_true rfl⟩) rfl hl.1 rfl (Nat.le_of_ble_eq_true rfl) dX6_noTalk_12 ⟨Nat.zero_le _, Nat.zero_le _⟩ hN hK hP hD hS hA rfl (q0 := 1) rfl [1, 2] [0] rfl rfl ⟨rfl, rfl, by decide⟩ (fun u H locs w4 hP hD hS => ?_)
  refine lv_iload_n hx hb dX6_noTalk_15 rfl (lv_at hl 0 rfl) ?_
  exact x_iret hx hb hr hlocks dX6_noTalk_16 rfl (post := fun (r : Int32) (_ : Unit) => r = (nI n)) (w1 := fun (_ : Unit) => [(o, eEPR t0 a a2 w0 y0 s0 h0 g0 u0 v0), (u0, eRow ua 0), (ua, eArr cI 6 tk)]) () rfl hK hP hD hS

set_option maxRecDepth 100000 in
set_option maxHeartbeats 4000000 in
theorem c_X6_ear_ok (l : Launch) (D : va_G) (cI cC : ClassId) (o : Nat) (t0 : Nat) (a2 : Nat) (w0 : Nat) (y0 : Nat) (s0 : Nat) (h0 : Nat) (g0 : Nat) (u0 : Nat) (v0 : Nat) (a : Nat) (ea : Nat) (eg : Nat → Nat) (ne : Nat) (x : Nat) (y : Nat) (z : Nat) (hxx : x ≤ 40 ∧ y ≤ 149 ∧ z ≤ 8) (hne : ne < 9) : mtI l D cI cC yX6_ear wsX6_ear ({ frames := 2, cells := 0, slots := 0, locals := 44 }) [.ref o, .int (nI x), .int (nI y), .int (nI z)] [(o, eEPR t0 a a2 w0 y0 s0 h0 g0 u0 v0), (v0, eRow ea (3 * ne)), (ea, eArr cI 27 eg)] (fun (r : Int32) (_ : Unit) => r = (nI (ne + 1))) (fun (_ : Unit) => [(o, eEPR t0 a a2 w0 y0 s0 h0 g0 u0 v0), (v0, eRow ea (3 * (ne + 1))), (ea, eArr cI 27 (add3 eg (3 * ne) x y z))]) := by
  refine mtI_of (cc := cX6_ear) (maxL := 4) (ret := (some .int)) (by decide) rfl rfl ?_
  intro p e s m below meth c A hx hb hml hr hts hown hlocks hN hA hK hP hD hS ls hl
  have hown : s.vm.findClass RX6 = some m.cls := hown
  have hl : lv_has ls 4 [(0, .ref o), (1, .int (nI x)), (2, .int (nI y)), (3, .int (nI z))] := hl
  obtain ⟨H, hHe⟩ : ∃ H, H = s.heap := ⟨_, rfl⟩
  rw [← hHe] at hP ⊢
  have hS : va_S A s.heap H [] := by rw [hHe]; exact va_S.rf
  have fl62 := hts (.fieldLink RX6 62 "EchoPaysRent" "ears" "LEchoPaysRent$Row;") (by decide +kernel)
  have inX6 : ∀ w ∈ wsX60, w ∈ wsX6_ear := by decide +kernel
  refine lv_iload_n hx hb dX6_ear_0 rfl (lv_at hl 1 rfl) ?_
  refine k_S (As := [.int (iI (((x : Nat) : Int)))]) (wr := [(o, eEPR t0 a a2 w0 y0 s0 h0 g0 u0 v0), (v0, eRow ea (3 * ne)), (ea, eArr cI 27 eg)]) ⟨hx, hb, hml, hown, hts⟩ (c_X6_isYard l D cI cC (((x : Nat) : Int)) (by omega)) (cwS 1 hts gX6_ear_X6_isYard rfl rfl rfl (by decide +kernel) ⟨Nat.le_of_ble_eq_true rfl, Nat.le_of_ble_eq_true rfl⟩) rfl hl.1 (by simp only [nI_iI]; rfl) (Nat.le_of_ble_eq_true rfl) dX6_ear_1 ⟨Nat.zero_le _, Nat.zero_le _⟩ hN hK hP hD hS hA [] [0, 1, 2] rfl rfl ⟨rfl, rfl, by decide⟩ (fun r1 u H locs w2 hP hD hS => ?_)
  obtain ⟨rfl, h3, h4⟩ | ⟨rfl, h5⟩ : (r1 = (nI 1) ∧ 0 ≤ (((x : Nat) : Int)) ∧ (((x : Nat) : Int)) ≤ 40) ∨ (r1 = (nI 0) ∧ ((((x : Nat) : Int)) < 0 ∨ 40 < (((x : Nat) : Int)))) := w2
  · refine x_if_eq (tgt := 24) hx hb dX6_ear_4 (by decide) (by omega) (fun h6 => False.elim (by omega)) (fun h6 => ?_)
    refine lv_iload_n hx hb dX6_ear_7 rfl (lv_at hl 2 rfl) ?_
    refine k_S (As := [.int (iI (((y : Nat) : Int)))]) (wr := [(o, eEPR t0 a a2 w0 y0 s0 h0 g0 u0 v0), (v0, eRow ea (3 * ne)), (ea, eArr cI 27 eg)]) ⟨hx, hb, hml, hown, hts⟩ (c_X6_isBeat l D cI cC (((y : Nat) : Int)) (by omega)) (cwS 1 hts gX6_ear_X6_isBeat rfl rfl rfl (by decide +kernel) ⟨Nat.le_of_ble_eq_true rfl, Nat.le_of_ble_eq_true rfl⟩) rfl hl.1 (by simp only [nI_iI]; rfl) (Nat.le_of_ble_eq_true rfl) dX6_ear_8 ⟨Nat.zero_le _, Nat.zero_le _⟩ hN hK hP hD hS hA [] [0, 1, 2] rfl rfl ⟨rfl, rfl, by decide⟩ (fun r7 u H locs w8 hP hD hS => ?_)
    obtain ⟨rfl, h9, h10⟩ | ⟨rfl, h11⟩ : (r7 = (nI 1) ∧ 0 ≤ (((y : Nat) : Int)) ∧ (((y : Nat) : Int)) ≤ 149) ∨ (r7 = (nI 0) ∧ ((((y : Nat) : Int)) < 0 ∨ 149 < (((y : Nat) : Int)))) := w8
    · refine x_if_eq (tgt := 24) hx hb dX6_ear_11 (by decide) (by omega) (fun h12 => False.elim (by omega)) (fun h12 => ?_)
      refine lv_iload_n hx hb dX6_ear_14 rfl (lv_at hl 3 rfl) ?_
      refine lv_iconst (v := (nI 0)) hx hb dX6_ear_15 (by decide) ?_
      refine lv_bipush (v := (nI 8)) hx hb dX6_ear_16 (by decide) ?_
      refine k_S (As := [.int (iI (((z : Nat) : Int))), .int (iI (((0 : Nat) : Int))), .int (iI (((8 : Nat) : Int)))]) (wr := [(o, eEPR t0 a a2 w0 y0 s0 h0 g0 u0 v0), (v0, eRow ea (3 * ne)), (ea, eArr cI 27 eg)]) ⟨hx, hb, hml, hown, hts⟩ (c_X6_within l D cI cC (((z : Nat) : Int)) (((0 : Nat) : Int)) (((8 : Nat) : Int)) (by omega) (by omega) (by omega)) (cwS 3 hts gX6_ear_X6_within rfl rfl rfl (by decide +kernel) ⟨Nat.le_of_ble_eq_true rfl, Nat.le_of_ble_eq_true rfl⟩) rfl hl.1 (by simp only [nI_iI]; rfl) (Nat.le_of_ble_eq_true rfl) dX6_ear_18 ⟨Nat.zero_le _, Nat.zero_le _⟩ hN hK hP hD hS hA [] [0, 1, 2] rfl rfl ⟨rfl, rfl, by decide⟩ (fun r13 u H locs w14 hP hD hS => ?_)
      obtain ⟨rfl, h15, h16⟩ | ⟨rfl, h17⟩ : (r13 = (nI 1) ∧ (((0 : Nat) : Int)) ≤ (((z : Nat) : Int)) ∧ (((z : Nat) : Int)) ≤ (((8 : Nat) : Int))) ∨ (r13 = (nI 0) ∧ ((((z : Nat) : Int)) < (((0 : Nat) : Int)) ∨ (((8 : Nat) : Int)) < (((z : Nat) : Int)))) := w14
      · refine x_if_ne (tgt := 26) hx hb dX6_ear_21 (by decide) (by omega) (fun h18 => ?_) (fun h18 => False.elim (by omega))
        refine lv_aload_n hx hb dX6_ear_26 rfl (lv_at hl 0 rfl) ?_
        refine va_get (D := D) (ci := 6) (v := .ref v0) (C := RX6) (T := TX6) (N := 10) hx hb hts inX6 hown hK hP 0 rfl rfl 9 (by decide) fl62 (fun _ h9 => h9) rfl dX6_ear_27 ?_
        refine lv_iload_n hx hb dX6_ear_30 rfl (lv_at hl 1 rfl) ?_
        refine lv_iload_n hx hb dX6_ear_31 rfl (lv_at hl 2 rfl) ?_
        refine lv_iload_n hx hb dX6_ear_32 rfl (lv_at hl 3 rfl) ?_
        refine k_V (q := (RX1, TX1, 2)) (ci := 1) (As := [.int (nI x), .int (nI y), .int (nI z)]) (wr := [(o, eEPR t0 a a2 w0 y0 s0 h0 g0 u0 v0)]) ⟨hx, hb, hml, hown, hts⟩ (c_X1_addThree_lt l D cI cC v0 ea 27 eg (3 * ne) x y z (by omega) (by omega)) (cwV 3 hts gX6_ear_X1_addThree rfl rfl rfl (by decide +kernel) ⟨Nat.le_of_ble_eq_true rfl, Nat.le_of_ble_eq_true rfl⟩) rfl hl.1 rfl (Nat.le_of_ble_eq_true rfl) dX6_ear_33 ⟨Nat.zero_le _, Nat.zero_le _⟩ hN hK hP hD hS hA rfl (q0 := 1) rfl [1, 2] [0] rfl rfl ⟨rfl, rfl, by decide⟩ (fun r19 u H locs w20 hP hD hS => ?_)
        obtain rfl : r19 = (nI 1) := w20
        have hP : va_P D vwCl [(o, eEPR t0 a a2 w0 y0 s0 h0 g0 u0 v0), (v0, eRow ea (3 * (ne + 1))), (ea, eArr cI 27 (add3 eg (3 * ne) x y z))] H := by rw [show 3 * (ne + 1) = 3 * ne + 1 + 1 + 1 from by omega]; exact hP
        have hD : va_D A [(o, eEPR t0 a a2 w0 y0 s0 h0 g0 u0 v0), (v0, eRow ea (3 * (ne + 1))), (ea, eArr cI 27 (add3 eg (3 * ne) x y z))] := by rw [show 3 * (ne + 1) = 3 * ne + 1 + 1 + 1 from by omega]; exact hD
        refine x_if_eq (tgt := 51) hx hb dX6_ear_36 (by decide) (by omega) (fun h21 => False.elim (by omega)) (fun h21 => ?_)
        refine lv_aload_n hx hb dX6_ear_39 rfl (lv_at hl 0 rfl) ?_
        refine va_get (D := D) (ci := 6) (v := .ref v0) (C := RX6) (T := TX6) (N := 10) hx hb hts inX6 hown hK hP 0 rfl rfl 9 (by decide) fl62 (fun _ h9 => h9) rfl dX6_ear_40 ?_
        refine k_V (q := (RX1, TX1, 2)) (ci := 1) (As := []) (wr := [(o, eEPR t0 a a2 w0 y0 s0 h0 g0 u0 v0)]) ⟨hx, hb, hml, hown, hts⟩ (c_X1_size l D cI cC v0 ea 27 (add3 eg (3 * ne) x y z) (3 * (ne + 1))) (cwV 0 hts gX6_ear_X1_size rfl rfl rfl (by decide +kernel) ⟨Nat.le_of_ble_eq_true rfl, Nat.le_of_ble_eq_true rfl⟩) rfl hl.1 rfl (Nat.le_of_ble_eq_true rfl) dX6_ear_43 ⟨Nat.zero_le _, Nat.zero_le _⟩ hN hK hP hD hS hA rfl (q0 := 1) rfl [1, 2] [0] rfl rfl ⟨rfl, rfl, by decide⟩ (fun r22 u H locs w23 hP hD hS => ?_)
        obtain rfl : r22 = (nI (3 * (ne + 1))) := w23
        refine lv_iconst (v := (nI 3)) hx hb dX6_ear_46 (by decide) ?_
        refine x_idiv hx hb dX6_ear_47 (by omega) (by omega) (by omega) ?_
        refine lv_goto (tgt := 53) hx hb dX6_ear_48 (by decide) ?_
        exact x_iret hx hb hr hlocks dX6_ear_53 rfl (post := fun (r : Int32) (_ : Unit) => r = (nI (ne + 1))) (w1 := fun (_ : Unit) => [(o, eEPR t0 a a2 w0 y0 s0 h0 g0 u0 v0), (v0, eRow ea (3 * (ne + 1))), (ea, eArr cI 27 (add3 eg (3 * ne) x y z))]) () (congrArg nI (by omega)) hK hP hD hS
      · exact False.elim (by omega)
    · exact False.elim (by omega)
  · exact False.elim (by omega)

set_option maxRecDepth 100000 in
set_option maxHeartbeats 4000000 in
theorem c_X6_ear_full (l : Launch) (D : va_G) (cI cC : ClassId) (o : Nat) (t0 : Nat) (a2 : Nat) (w0 : Nat) (y0 : Nat) (s0 : Nat) (h0 : Nat) (g0 : Nat) (u0 : Nat) (v0 : Nat) (a : Nat) (ea : Nat) (eg : Nat → Nat) (ne : Nat) (x : Nat) (y : Nat) (z : Nat) (hxx : x ≤ 40 ∧ y ≤ 149 ∧ z ≤ 8) (hne : ne = 9) : mtI l D cI cC yX6_ear wsX6_ear ({ frames := 2, cells := 0, slots := 0, locals := 42 }) [.ref o, .int (nI x), .int (nI y), .int (nI z)] [(o, eEPR t0 a a2 w0 y0 s0 h0 g0 u0 v0), (v0, eRow ea (3 * ne)), (ea, eArr cI 27 eg)] (fun (r : Int32) (_ : Unit) => r = (iI (-3))) (fun (_ : Unit) => [(o, eEPR t0 a a2 w0 y0 s0 h0 g0 u0 v0), (v0, eRow ea (3 * ne)), (ea, eArr cI 27 eg)]) := by
  refine mtI_of (cc := cX6_ear) (maxL := 4) (ret := (some .int)) (by decide) rfl rfl ?_
  intro p e s m below meth c A hx hb hml hr hts hown hlocks hN hA hK hP hD hS ls hl
  have hown : s.vm.findClass RX6 = some m.cls := hown
  have hl : lv_has ls 4 [(0, .ref o), (1, .int (nI x)), (2, .int (nI y)), (3, .int (nI z))] := hl
  obtain ⟨H, hHe⟩ : ∃ H, H = s.heap := ⟨_, rfl⟩
  rw [← hHe] at hP ⊢
  have hS : va_S A s.heap H [] := by rw [hHe]; exact va_S.rf
  have fl62 := hts (.fieldLink RX6 62 "EchoPaysRent" "ears" "LEchoPaysRent$Row;") (by decide +kernel)
  have inX6 : ∀ w ∈ wsX60, w ∈ wsX6_ear := by decide +kernel
  refine lv_iload_n hx hb dX6_ear_0 rfl (lv_at hl 1 rfl) ?_
  refine k_S (As := [.int (iI (((x : Nat) : Int)))]) (wr := [(o, eEPR t0 a a2 w0 y0 s0 h0 g0 u0 v0), (v0, eRow ea (3 * ne)), (ea, eArr cI 27 eg)]) ⟨hx, hb, hml, hown, hts⟩ (c_X6_isYard l D cI cC (((x : Nat) : Int)) (by omega)) (cwS 1 hts gX6_ear_X6_isYard rfl rfl rfl (by decide +kernel) ⟨Nat.le_of_ble_eq_true rfl, Nat.le_of_ble_eq_true rfl⟩) rfl hl.1 (by simp only [nI_iI]; rfl) (Nat.le_of_ble_eq_true rfl) dX6_ear_1 ⟨Nat.zero_le _, Nat.zero_le _⟩ hN hK hP hD hS hA [] [0, 1, 2] rfl rfl ⟨rfl, rfl, by decide⟩ (fun r1 u H locs w2 hP hD hS => ?_)
  obtain ⟨rfl, h3, h4⟩ | ⟨rfl, h5⟩ : (r1 = (nI 1) ∧ 0 ≤ (((x : Nat) : Int)) ∧ (((x : Nat) : Int)) ≤ 40) ∨ (r1 = (nI 0) ∧ ((((x : Nat) : Int)) < 0 ∨ 40 < (((x : Nat) : Int)))) := w2
  · refine x_if_eq (tgt := 24) hx hb dX6_ear_4 (by decide) (by omega) (fun h6 => False.elim (by omega)) (fun h6 => ?_)
    refine lv_iload_n hx hb dX6_ear_7 rfl (lv_at hl 2 rfl) ?_
    refine k_S (As := [.int (iI (((y : Nat) : Int)))]) (wr := [(o, eEPR t0 a a2 w0 y0 s0 h0 g0 u0 v0), (v0, eRow ea (3 * ne)), (ea, eArr cI 27 eg)]) ⟨hx, hb, hml, hown, hts⟩ (c_X6_isBeat l D cI cC (((y : Nat) : Int)) (by omega)) (cwS 1 hts gX6_ear_X6_isBeat rfl rfl rfl (by decide +kernel) ⟨Nat.le_of_ble_eq_true rfl, Nat.le_of_ble_eq_true rfl⟩) rfl hl.1 (by simp only [nI_iI]; rfl) (Nat.le_of_ble_eq_true rfl) dX6_ear_8 ⟨Nat.zero_le _, Nat.zero_le _⟩ hN hK hP hD hS hA [] [0, 1, 2] rfl rfl ⟨rfl, rfl, by decide⟩ (fun r7 u H locs w8 hP hD hS => ?_)
    obtain ⟨rfl, h9, h10⟩ | ⟨rfl, h11⟩ : (r7 = (nI 1) ∧ 0 ≤ (((y : Nat) : Int)) ∧ (((y : Nat) : Int)) ≤ 149) ∨ (r7 = (nI 0) ∧ ((((y : Nat) : Int)) < 0 ∨ 149 < (((y : Nat) : Int)))) := w8
    · refine x_if_eq (tgt := 24) hx hb dX6_ear_11 (by decide) (by omega) (fun h12 => False.elim (by omega)) (fun h12 => ?_)
      refine lv_iload_n hx hb dX6_ear_14 rfl (lv_at hl 3 rfl) ?_
      refine lv_iconst (v := (nI 0)) hx hb dX6_ear_15 (by decide) ?_
      refine lv_bipush (v := (nI 8)) hx hb dX6_ear_16 (by decide) ?_
      refine k_S (As := [.int (iI (((z : Nat) : Int))), .int (iI (((0 : Nat) : Int))), .int (iI (((8 : Nat) : Int)))]) (wr := [(o, eEPR t0 a a2 w0 y0 s0 h0 g0 u0 v0), (v0, eRow ea (3 * ne)), (ea, eArr cI 27 eg)]) ⟨hx, hb, hml, hown, hts⟩ (c_X6_within l D cI cC (((z : Nat) : Int)) (((0 : Nat) : Int)) (((8 : Nat) : Int)) (by omega) (by omega) (by omega)) (cwS 3 hts gX6_ear_X6_within rfl rfl rfl (by decide +kernel) ⟨Nat.le_of_ble_eq_true rfl, Nat.le_of_ble_eq_true rfl⟩) rfl hl.1 (by simp only [nI_iI]; rfl) (Nat.le_of_ble_eq_true rfl) dX6_ear_18 ⟨Nat.zero_le _, Nat.zero_le _⟩ hN hK hP hD hS hA [] [0, 1, 2] rfl rfl ⟨rfl, rfl, by decide⟩ (fun r13 u H locs w14 hP hD hS => ?_)
      obtain ⟨rfl, h15, h16⟩ | ⟨rfl, h17⟩ : (r13 = (nI 1) ∧ (((0 : Nat) : Int)) ≤ (((z : Nat) : Int)) ∧ (((z : Nat) : Int)) ≤ (((8 : Nat) : Int))) ∨ (r13 = (nI 0) ∧ ((((z : Nat) : Int)) < (((0 : Nat) : Int)) ∨ (((8 : Nat) : Int)) < (((z : Nat) : Int)))) := w14
      · refine x_if_ne (tgt := 26) hx hb dX6_ear_21 (by decide) (by omega) (fun h18 => ?_) (fun h18 => False.elim (by omega))
        refine lv_aload_n hx hb dX6_ear_26 rfl (lv_at hl 0 rfl) ?_
        refine va_get (D := D) (ci := 6) (v := .ref v0) (C := RX6) (T := TX6) (N := 10) hx hb hts inX6 hown hK hP 0 rfl rfl 9 (by decide) fl62 (fun _ h9 => h9) rfl dX6_ear_27 ?_
        refine lv_iload_n hx hb dX6_ear_30 rfl (lv_at hl 1 rfl) ?_
        refine lv_iload_n hx hb dX6_ear_31 rfl (lv_at hl 2 rfl) ?_
        refine lv_iload_n hx hb dX6_ear_32 rfl (lv_at hl 3 rfl) ?_
        refine k_V (q := (RX1, TX1, 2)) (ci := 1) (As := [.int (nI x), .int (nI y), .int (nI z)]) (wr := [(o, eEPR t0 a a2 w0 y0 s0 h0 g0 u0 v0)]) ⟨hx, hb, hml, hown, hts⟩ (c_X1_addThree_ge l D cI cC v0 ea 27 eg (3 * ne) x y z (by omega) (by omega) (by omega)) (cwV 3 hts gX6_ear_X1_addThree rfl rfl rfl (by decide +kernel) ⟨Nat.le_of_ble_eq_true rfl, Nat.le_of_ble_eq_true rfl⟩) rfl hl.1 rfl (Nat.le_of_ble_eq_true rfl) dX6_ear_33 ⟨Nat.zero_le _, Nat.zero_le _⟩ hN hK hP hD hS hA rfl (q0 := 1) rfl [1, 2] [0] rfl rfl ⟨rfl, rfl, by decide⟩ (fun r19 u H locs w20 hP hD hS => ?_)
        obtain rfl : r19 = (nI 0) := w20
        refine x_if_eq (tgt := 51) hx hb dX6_ear_36 (by decide) (by omega) (fun h21 => ?_) (fun h21 => False.elim (by omega))
        refine lv_bipush (v := (iI (-3))) hx hb dX6_ear_51 (by decide) ?_
        exact x_iret hx hb hr hlocks dX6_ear_53 rfl (post := fun (r : Int32) (_ : Unit) => r = (iI (-3))) (w1 := fun (_ : Unit) => [(o, eEPR t0 a a2 w0 y0 s0 h0 g0 u0 v0), (v0, eRow ea (3 * ne)), (ea, eArr cI 27 eg)]) () rfl hK hP hD hS
      · exact False.elim (by omega)
    · exact False.elim (by omega)
  · exact False.elim (by omega)

set_option maxRecDepth 100000 in
set_option maxHeartbeats 4000000 in
theorem c_X6_noEars (l : Launch) (D : va_G) (cI cC : ClassId) (o : Nat) (t0 : Nat) (a2 : Nat) (w0 : Nat) (y0 : Nat) (s0 : Nat) (h0 : Nat) (g0 : Nat) (u0 : Nat) (v0 : Nat) (a : Nat) (ea : Nat) (eg : Nat → Nat) (ne : Nat) (hne : ne ≤ 9) : mtI l D cI cC yX6_noEars wsX6_noEars ({ frames := 1, cells := 0, slots := 0, locals := 20 }) [.ref o] [(o, eEPR t0 a a2 w0 y0 s0 h0 g0 u0 v0), (v0, eRow ea (3 * ne)), (ea, eArr cI 27 eg)] (fun (r : Int32) (_ : Unit) => r = (nI ne)) (fun (_ : Unit) => [(o, eEPR t0 a a2 w0 y0 s0 h0 g0 u0 v0), (v0, eRow ea 0), (ea, eArr cI 27 eg)]) := by
  refine mtI_of (cc := cX6_noEars) (maxL := 2) (ret := (some .int)) (by decide) rfl rfl ?_
  intro p e s m below meth c A hx hb hml hr hts hown hlocks hN hA hK hP hD hS ls hl
  have hown : s.vm.findClass RX6 = some m.cls := hown
  have hl : lv_has ls 2 [(0, .ref o)] := hl
  obtain ⟨H, hHe⟩ : ∃ H, H = s.heap := ⟨_, rfl⟩
  rw [← hHe] at hP ⊢
  have hS : va_S A s.heap H [] := by rw [hHe]; exact va_S.rf
  have fl62 := hts (.fieldLink RX6 62 "EchoPaysRent" "ears" "LEchoPaysRent$Row;") (by decide +kernel)
  have inX6 : ∀ w ∈ wsX60, w ∈ wsX6_noEars := by decide +kernel
  refine lv_aload_n hx hb dX6_noEars_0 rfl (lv_at hl 0 rfl) ?_
  refine va_get (D := D) (ci := 6) (v := .ref v0) (C := RX6) (T := TX6) (N := 10) hx hb hts inX6 hown hK hP 0 rfl rfl 9 (by decide) fl62 (fun _ h9 => h9) rfl dX6_noEars_1 ?_
  refine k_V (q := (RX1, TX1, 2)) (ci := 1) (As := []) (wr := [(o, eEPR t0 a a2 w0 y0 s0 h0 g0 u0 v0)]) ⟨hx, hb, hml, hown, hts⟩ (c_X1_size l D cI cC v0 ea 27 eg (3 * ne)) (cwV 0 hts gX6_noEars_X1_size rfl rfl rfl (by decide +kernel) ⟨Nat.le_of_ble_eq_true rfl, Nat.le_of_ble_eq_true rfl⟩) rfl hl.1 rfl (Nat.le_of_ble_eq_true rfl) dX6_noEars_4 ⟨Nat.zero_le _, Nat.zero_le _⟩ hN hK hP hD hS hA rfl (q0 := 1) rfl [1, 2] [0] rfl rfl ⟨rfl, rfl, by decide⟩ (fun r1 u H locs w2 hP hD hS => ?_)
  obtain rfl : r1 = (nI (3 * ne)) := w2
  refine lv_iconst (v := (nI 3)) hx hb dX6_noEars_7 (by decide) ?_
  refine x_idiv hx hb dX6_noEars_8 (by omega) (by omega) (by omega) ?_
  refine lv_istore_n (lv' := [(1, .int (nI ((3 * ne) / 3))), (0, .ref o)]) hx hb dX6_noEars_9 rfl hl (by decide) rfl (fun ls hl => ?_)
  refine lv_aload_n hx hb dX6_noEars_10 rfl (lv_at hl 1 rfl) ?_
  refine va_get (D := D) (ci := 6) (v := .ref v0) (C := RX6) (T := TX6) (N := 10) hx hb hts inX6 hown hK hP 0 rfl rfl 9 (by decide) fl62 (fun _ h9 => h9) rfl dX6_noEars_11 ?_
  refine k_Vv (q := (RX1, TX1, 2)) (ci := 1) (As := []) (wr := [(o, eEPR t0 a a2 w0 y0 s0 h0 g0 u0 v0)]) ⟨hx, hb, hml, hown, hts⟩ (c_X1_drop l D cI cC v0 ea 27 eg (3 * ne)) (cwV 0 hts gX6_noEars_X1_drop rfl rfl rfl (by decide +kernel) ⟨Nat.le_of_ble_eq_true rfl, Nat.le_of_ble_eq_true rfl⟩) rfl hl.1 rfl (Nat.le_of_ble_eq_true rfl) dX6_noEars_14 ⟨Nat.zero_le _, Nat.zero_le _⟩ hN hK hP hD hS hA rfl (q0 := 1) rfl [1, 2] [0] rfl rfl ⟨rfl, rfl, by decide⟩ (fun u H locs w4 hP hD hS => ?_)
  refine lv_iload_n hx hb dX6_noEars_17 rfl (lv_at hl 0 rfl) ?_
  exact x_iret hx hb hr hlocks dX6_noEars_18 rfl (post := fun (r : Int32) (_ : Unit) => r = (nI ne)) (w1 := fun (_ : Unit) => [(o, eEPR t0 a a2 w0 y0 s0 h0 g0 u0 v0), (v0, eRow ea 0), (ea, eArr cI 27 eg)]) () (congrArg nI (by omega)) hK hP hD hS

set_option maxRecDepth 100000 in
set_option maxHeartbeats 4000000 in
theorem c_X6_keep_ok (l : Launch) (D : va_G) (cI cC : ClassId) (o : Nat) (t0 : Nat) (a2 : Nat) (w0 : Nat) (y0 : Nat) (s0 : Nat) (h0 : Nat) (g0 : Nat) (u0 : Nat) (v0 : Nat) (gq : Nat) (qa : Nat → Nat) (qb : Nat → Nat) (qc : Nat → Nat) (qd : Nat → Nat) (qe : Nat → Nat) (xl : Nat → Nat → Nat) (xn : Nat → Nat) (yl : Nat → Nat → Nat) (yn : Nat → Nat) (xs : Nat → Nat) (xh : Nat → Nat) (xa : Nat → Nat) (xo : Nat → Nat) (k : Nat) (a : Nat) (b1 : Nat) (c1 : Nat) (b2 : Nat) (c2 : Nat) (cl : Nat → Nat) (nc : Nat) (wd : Nat → Nat) (nw : Nat) (sp : Nat) (he : Nat) (air : Nat) (sn : Nat) (hk : k < 2) (hnn : nc ≤ 4 ∧ nw ≤ 8) (hall : ∀ j, j < 2 → xn j ≤ 4 ∧ yn j ≤ 8) : mtI l D cI cC yX6_keep wsX6_keep ({ frames := 4, cells := 0, slots := 0, locals := 86 }) [.ref o] [(o, eEPR t0 a a2 w0 y0 s0 h0 g0 u0 v0), (g0, eShe gq k), (gq, eArC cC 2 (fun j => some (qa j))), (qa 0, eCan (qb 0) (qd 0) (xs 0) (xh 0) (xa 0) (xo 0)), (qb 0, eRow (qc 0) (3 * (xn 0))), (qc 0, eArr cI 12 (xl 0)), (qd 0, eRow (qe 0) (3 * (yn 0))), (qe 0, eArr cI 24 (yl 0)), (qa 1, eCan (qb 1) (qd 1) (xs 1) (xh 1) (xa 1) (xo 1)), (qb 1, eRow (qc 1) (3 * (xn 1))), (qc 1, eArr cI 12 (xl 1)), (qd 1, eRow (qe 1) (3 * (yn 1))), (qe 1, eArr cI 24 (yl 1)), (a, eCan b1 b2 sp he air sn), (b1, eRow c1 (3 * nc)), (c1, eArr cI 12 cl), (b2, eRow c2 (3 * nw)), (c2, eArr cI 24 wd)] (fun (r : Int32) (_ : Unit) => r = (nI (k + 1))) (fun (_ : Unit) => [(o, eEPR t0 a a2 w0 y0 s0 h0 g0 u0 v0), (g0, eShe gq (k + 1)), (gq, eArC cC 2 (fun j => some (qa j))), (qa 0, eCan (qb 0) (qd 0) (va_up xs k sp 0) (va_up xh k he 0) (va_up xa k air 0) (va_up xo k sn 0)), (qb 0, eRow (qc 0) (3 * (va_up xn k nc 0))), (qc 0, eArr cI 12 (va_up xl k (cpN (xl k) cl (3 * nc)) 0)), (qd 0, eRow (qe 0) (3 * (va_up yn k nw 0))), (qe 0, eArr cI 24 (va_up yl k (cpN (yl k) wd (3 * nw)) 0)), (qa 1, eCan (qb 1) (qd 1) (va_up xs k sp 1) (va_up xh k he 1) (va_up xa k air 1) (va_up xo k sn 1)), (qb 1, eRow (qc 1) (3 * (va_up xn k nc 1))), (qc 1, eArr cI 12 (va_up xl k (cpN (xl k) cl (3 * nc)) 1)), (qd 1, eRow (qe 1) (3 * (va_up yn k nw 1))), (qe 1, eArr cI 24 (va_up yl k (cpN (yl k) wd (3 * nw)) 1)), (a, eCan b1 b2 sp he air sn), (b1, eRow c1 (3 * nc)), (c1, eArr cI 12 cl), (b2, eRow c2 (3 * nw)), (c2, eArr cI 24 wd)]) := by
  refine mtI_of (cc := cX6_keep) (maxL := 1) (ret := (some .int)) (by decide) rfl rfl ?_
  intro p e s m below meth c A hx hb hml hr hts hown hlocks hN hA hK hP hD hS ls hl
  have hown : s.vm.findClass RX6 = some m.cls := hown
  have hl : lv_has ls 1 [(0, .ref o)] := hl
  obtain ⟨H, hHe⟩ : ∃ H, H = s.heap := ⟨_, rfl⟩
  rw [← hHe] at hP ⊢
  have hS : va_S A s.heap H [] := by rw [hHe]; exact va_S.rf
  have fl52 := hts (.fieldLink RX6 52 "EchoPaysRent" "kept" "LEchoPaysRent$Shelf;") (by decide +kernel)
  have inX6 : ∀ w ∈ wsX60, w ∈ wsX6_keep := by decide +kernel
  have fl19 := hts (.fieldLink RX6 19 "EchoPaysRent" "canyon" "LEchoPaysRent$Canyon;") (by decide +kernel)
  refine lv_aload_n hx hb dX6_keep_0 rfl (lv_at hl 0 rfl) ?_
  refine va_get (D := D) (ci := 6) (v := .ref g0) (C := RX6) (T := TX6) (N := 10) hx hb hts inX6 hown hK hP 0 rfl rfl 7 (by decide) fl52 (fun _ h9 => h9) rfl dX6_keep_1 ?_
  refine k_V (q := (RX2, TX2, 2)) (ci := 2) (As := []) (wr := [(o, eEPR t0 a a2 w0 y0 s0 h0 g0 u0 v0), (gq, eArC cC 2 (fun j => some (qa j))), (qa 0, eCan (qb 0) (qd 0) (xs 0) (xh 0) (xa 0) (xo 0)), (qb 0, eRow (qc 0) (3 * (xn 0))), (qc 0, eArr cI 12 (xl 0)), (qd 0, eRow (qe 0) (3 * (yn 0))), (qe 0, eArr cI 24 (yl 0)), (qa 1, eCan (qb 1) (qd 1) (xs 1) (xh 1) (xa 1) (xo 1)), (qb 1, eRow (qc 1) (3 * (xn 1))), (qc 1, eArr cI 12 (xl 1)), (qd 1, eRow (qe 1) (3 * (yn 1))), (qe 1, eArr cI 24 (yl 1)), (a, eCan b1 b2 sp he air sn), (b1, eRow c1 (3 * nc)), (c1, eArr cI 12 cl), (b2, eRow c2 (3 * nw)), (c2, eArr cI 24 wd)]) ⟨hx, hb, hml, hown, hts⟩ (c_X2_size l D cI cC g0 gq k) (cwV 0 hts gX6_keep_X2_size rfl rfl rfl (by decide +kernel) ⟨Nat.le_of_ble_eq_true rfl, Nat.le_of_ble_eq_true rfl⟩) rfl hl.1 rfl (Nat.le_of_ble_eq_true rfl) dX6_keep_4 ⟨Nat.zero_le _, Nat.zero_le _⟩ hN hK hP hD hS hA rfl (q0 := 1) rfl [1] [0, 2, 3, 4, 5, 6, 7, 8, 9, 10, 11, 12, 13, 14, 15, 16, 17] rfl rfl ⟨rfl, rfl, by decide⟩ (fun r1 u H locs w2 hP hD hS => ?_)
  obtain rfl : r1 = (nI k) := w2
  refine lv_iconst (v := (nI 2)) hx hb dX6_keep_7 (by decide) ?_
  refine x_icmp_lt (tgt := 14) hx hb dX6_keep_8 (by decide) (by omega) (by omega) (fun h3 => ?_) (fun h3 => False.elim (by omega))
  refine lv_aload_n hx hb dX6_keep_14 rfl (lv_at hl 0 rfl) ?_
  refine va_get (D := D) (ci := 6) (v := .ref g0) (C := RX6) (T := TX6) (N := 10) hx hb hts inX6 hown hK hP 0 rfl rfl 7 (by decide) fl52 (fun _ h9 => h9) rfl dX6_keep_15 ?_
  refine lv_aload_n hx hb dX6_keep_18 rfl (lv_at hl 0 rfl) ?_
  refine va_get (D := D) (ci := 6) (v := .ref a) (C := RX6) (T := TX6) (N := 10) hx hb hts inX6 hown hK hP 0 rfl rfl 1 (by decide) fl19 (fun _ h9 => h9) rfl dX6_keep_19 ?_
  refine k_Vv (q := (RX2, TX2, 2)) (ci := 2) (As := [.ref a]) (wr := [(o, eEPR t0 a a2 w0 y0 s0 h0 g0 u0 v0)]) ⟨hx, hb, hml, hown, hts⟩ (c_X2_put_lt2 l D cI cC g0 gq qa qb qc qd qe xl xn yl yn xs xh xa xo k a b1 c1 b2 c2 cl nc wd nw sp he air sn (by omega) (by omega) (by omega) (by omega)) (cwV 1 hts gX6_keep_X2_put rfl rfl rfl (by decide +kernel) ⟨Nat.le_of_ble_eq_true rfl, Nat.le_of_ble_eq_true rfl⟩) rfl hl.1 rfl (Nat.le_of_ble_eq_true rfl) dX6_keep_22 ⟨Nat.zero_le _, Nat.zero_le _⟩ hN hK hP hD hS hA rfl (q0 := 17) rfl [17, 1, 2, 3, 4, 5, 6, 7, 8, 9, 10, 11, 12, 13, 14, 15, 16] [0] rfl rfl ⟨rfl, rfl, by decide⟩ (fun u H locs w5 hP hD hS => ?_)
  refine lv_aload_n hx hb dX6_keep_25 rfl (lv_at hl 0 rfl) ?_
  refine va_get (D := D) (ci := 6) (v := .ref g0) (C := RX6) (T := TX6) (N := 10) hx hb hts inX6 hown hK hP 0 rfl rfl 7 (by decide) fl52 (fun _ h9 => h9) rfl dX6_keep_26 ?_
  refine k_V (q := (RX2, TX2, 2)) (ci := 2) (As := []) (wr := [(o, eEPR t0 a a2 w0 y0 s0 h0 g0 u0 v0), (gq, eArC cC 2 (fun j => some (qa j))), (qa 0, eCan (qb 0) (qd 0) (va_up xs k sp 0) (va_up xh k he 0) (va_up xa k air 0) (va_up xo k sn 0)), (qb 0, eRow (qc 0) (3 * (va_up xn k nc 0))), (qc 0, eArr cI 12 (va_up xl k (cpN (xl k) cl (3 * nc)) 0)), (qd 0, eRow (qe 0) (3 * (va_up yn k nw 0))), (qe 0, eArr cI 24 (va_up yl k (cpN (yl k) wd (3 * nw)) 0)), (qa 1, eCan (qb 1) (qd 1) (va_up xs k sp 1) (va_up xh k he 1) (va_up xa k air 1) (va_up xo k sn 1)), (qb 1, eRow (qc 1) (3 * (va_up xn k nc 1))), (qc 1, eArr cI 12 (va_up xl k (cpN (xl k) cl (3 * nc)) 1)), (qd 1, eRow (qe 1) (3 * (va_up yn k nw 1))), (qe 1, eArr cI 24 (va_up yl k (cpN (yl k) wd (3 * nw)) 1)), (a, eCan b1 b2 sp he air sn), (b1, eRow c1 (3 * nc)), (c1, eArr cI 12 cl), (b2, eRow c2 (3 * nw)), (c2, eArr cI 24 wd)]) ⟨hx, hb, hml, hown, hts⟩ (c_X2_size l D cI cC g0 gq (k + 1)) (cwV 0 hts gX6_keep_X2_size rfl rfl rfl (by decide +kernel) ⟨Nat.le_of_ble_eq_true rfl, Nat.le_of_ble_eq_true rfl⟩) rfl hl.1 rfl (Nat.le_of_ble_eq_true rfl) dX6_keep_29 ⟨Nat.zero_le _, Nat.zero_le _⟩ hN hK hP hD hS hA rfl (q0 := 1) rfl [1] [0, 2, 3, 4, 5, 6, 7, 8, 9, 10, 11, 12, 13, 14, 15, 16, 17] rfl rfl ⟨rfl, rfl, by decide⟩ (fun r6 u H locs w7 hP hD hS => ?_)
  obtain rfl : r6 = (nI (k + 1)) := w7
  exact x_iret hx hb hr hlocks dX6_keep_32 rfl (post := fun (r : Int32) (_ : Unit) => r = (nI (k + 1))) (w1 := fun (_ : Unit) => [(o, eEPR t0 a a2 w0 y0 s0 h0 g0 u0 v0), (g0, eShe gq (k + 1)), (gq, eArC cC 2 (fun j => some (qa j))), (qa 0, eCan (qb 0) (qd 0) (va_up xs k sp 0) (va_up xh k he 0) (va_up xa k air 0) (va_up xo k sn 0)), (qb 0, eRow (qc 0) (3 * (va_up xn k nc 0))), (qc 0, eArr cI 12 (va_up xl k (cpN (xl k) cl (3 * nc)) 0)), (qd 0, eRow (qe 0) (3 * (va_up yn k nw 0))), (qe 0, eArr cI 24 (va_up yl k (cpN (yl k) wd (3 * nw)) 0)), (qa 1, eCan (qb 1) (qd 1) (va_up xs k sp 1) (va_up xh k he 1) (va_up xa k air 1) (va_up xo k sn 1)), (qb 1, eRow (qc 1) (3 * (va_up xn k nc 1))), (qc 1, eArr cI 12 (va_up xl k (cpN (xl k) cl (3 * nc)) 1)), (qd 1, eRow (qe 1) (3 * (va_up yn k nw 1))), (qe 1, eArr cI 24 (va_up yl k (cpN (yl k) wd (3 * nw)) 1)), (a, eCan b1 b2 sp he air sn), (b1, eRow c1 (3 * nc)), (c1, eArr cI 12 cl), (b2, eRow c2 (3 * nw)), (c2, eArr cI 24 wd)]) () rfl hK (hP.sub [0, 17, 1, 2, 3, 4, 5, 6, 7, 8, 9, 10, 11, 12, 13, 14, 15, 16] rfl) (hD.sub [0, 17, 1, 2, 3, 4, 5, 6, 7, 8, 9, 10, 11, 12, 13, 14, 15, 16] rfl rfl) hS

set_option maxRecDepth 100000 in
set_option maxHeartbeats 4000000 in
theorem c_X6_keep_full (l : Launch) (D : va_G) (cI cC : ClassId) (o : Nat) (t0 : Nat) (a2 : Nat) (w0 : Nat) (y0 : Nat) (s0 : Nat) (h0 : Nat) (g0 : Nat) (u0 : Nat) (v0 : Nat) (a : Nat) (gq : Nat) (k : Nat) (hk : k = 2) : mtI l D cI cC yX6_keep wsX6_keep ({ frames := 1, cells := 0, slots := 0, locals := 20 }) [.ref o] [(o, eEPR t0 a a2 w0 y0 s0 h0 g0 u0 v0), (g0, eShe gq k)] (fun (r : Int32) (_ : Unit) => r = (iI (-3))) (fun (_ : Unit) => [(o, eEPR t0 a a2 w0 y0 s0 h0 g0 u0 v0), (g0, eShe gq k)]) := by
  refine mtI_of (cc := cX6_keep) (maxL := 1) (ret := (some .int)) (by decide) rfl rfl ?_
  intro p e s m below meth c A hx hb hml hr hts hown hlocks hN hA hK hP hD hS ls hl
  have hown : s.vm.findClass RX6 = some m.cls := hown
  have hl : lv_has ls 1 [(0, .ref o)] := hl
  obtain ⟨H, hHe⟩ : ∃ H, H = s.heap := ⟨_, rfl⟩
  rw [← hHe] at hP ⊢
  have hS : va_S A s.heap H [] := by rw [hHe]; exact va_S.rf
  have fl52 := hts (.fieldLink RX6 52 "EchoPaysRent" "kept" "LEchoPaysRent$Shelf;") (by decide +kernel)
  have inX6 : ∀ w ∈ wsX60, w ∈ wsX6_keep := by decide +kernel
  refine lv_aload_n hx hb dX6_keep_0 rfl (lv_at hl 0 rfl) ?_
  refine va_get (D := D) (ci := 6) (v := .ref g0) (C := RX6) (T := TX6) (N := 10) hx hb hts inX6 hown hK hP 0 rfl rfl 7 (by decide) fl52 (fun _ h9 => h9) rfl dX6_keep_1 ?_
  refine k_V (q := (RX2, TX2, 2)) (ci := 2) (As := []) (wr := [(o, eEPR t0 a a2 w0 y0 s0 h0 g0 u0 v0)]) ⟨hx, hb, hml, hown, hts⟩ (c_X2_size l D cI cC g0 gq k) (cwV 0 hts gX6_keep_X2_size rfl rfl rfl (by decide +kernel) ⟨Nat.le_of_ble_eq_true rfl, Nat.le_of_ble_eq_true rfl⟩) rfl hl.1 rfl (Nat.le_of_ble_eq_true rfl) dX6_keep_4 ⟨Nat.zero_le _, Nat.zero_le _⟩ hN hK hP hD hS hA rfl (q0 := 1) rfl [1] [0] rfl rfl ⟨rfl, rfl, by decide⟩ (fun r1 u H locs w2 hP hD hS => ?_)
  obtain rfl : r1 = (nI k) := w2
  refine lv_iconst (v := (nI 2)) hx hb dX6_keep_7 (by decide) ?_
  refine x_icmp_lt (tgt := 14) hx hb dX6_keep_8 (by decide) (by omega) (by omega) (fun h3 => False.elim (by omega)) (fun h3 => ?_)
  refine lv_bipush (v := (iI (-3))) hx hb dX6_keep_11 (by decide) ?_
  exact x_iret hx hb hr hlocks dX6_keep_13 rfl (post := fun (r : Int32) (_ : Unit) => r = (iI (-3))) (w1 := fun (_ : Unit) => [(o, eEPR t0 a a2 w0 y0 s0 h0 g0 u0 v0), (g0, eShe gq k)]) () rfl hK hP hD hS

set_option maxRecDepth 100000 in
set_option maxHeartbeats 4000000 in
theorem c_X6_back_yes (l : Launch) (D : va_G) (cI cC : ClassId) (o : Nat) (t0 : Nat) (a2 : Nat) (w0 : Nat) (y0 : Nat) (s0 : Nat) (h0 : Nat) (g0 : Nat) (u0 : Nat) (v0 : Nat) (gq : Nat) (qa : Nat → Nat) (qb : Nat → Nat) (qc : Nat → Nat) (qd : Nat → Nat) (qe : Nat → Nat) (xl : Nat → Nat → Nat) (xn : Nat → Nat) (yl : Nat → Nat → Nat) (yn : Nat → Nat) (xs : Nat → Nat) (xh : Nat → Nat) (xa : Nat → Nat) (xo : Nat → Nat) (k : Nat) (a : Nat) (b1 : Nat) (c1 : Nat) (b2 : Nat) (c2 : Nat) (cl : Nat → Nat) (nc : Nat) (wd : Nat → Nat) (nw : Nat) (sp : Nat) (he : Nat) (air : Nat) (sn : Nat) (hq : Nat) (kp : Nat) (hk : 1 ≤ k ∧ k ≤ 2) (hnn : nc ≤ 4 ∧ nw ≤ 8) (hall : ∀ j, j < 2 → xn j ≤ 4 ∧ yn j ≤ 8) : mtI l D cI cC yX6_back wsX6_back ({ frames := 4, cells := 0, slots := 0, locals := 86 }) [.ref o] [(o, eEPR t0 a a2 w0 y0 s0 h0 g0 u0 v0), (g0, eShe gq k), (gq, eArC cC 2 (fun j => some (qa j))), (qa 0, eCan (qb 0) (qd 0) (xs 0) (xh 0) (xa 0) (xo 0)), (qb 0, eRow (qc 0) (3 * (xn 0))), (qc 0, eArr cI 12 (xl 0)), (qd 0, eRow (qe 0) (3 * (yn 0))), (qe 0, eArr cI 24 (yl 0)), (qa 1, eCan (qb 1) (qd 1) (xs 1) (xh 1) (xa 1) (xo 1)), (qb 1, eRow (qc 1) (3 * (xn 1))), (qc 1, eArr cI 12 (xl 1)), (qd 1, eRow (qe 1) (3 * (yn 1))), (qe 1, eArr cI 24 (yl 1)), (a, eCan b1 b2 sp he air sn), (b1, eRow c1 (3 * nc)), (c1, eArr cI 12 cl), (b2, eRow c2 (3 * nw)), (c2, eArr cI 24 wd), (h0, eShe hq kp)] (fun (r : Int32) (_ : Unit) => r = (nI (k - 1))) (fun (_ : Unit) => [(o, eEPR t0 a a2 w0 y0 s0 h0 g0 u0 v0), (g0, eShe gq (k - 1)), (gq, eArC cC 2 (fun j => some (qa j))), (qa 0, eCan (qb 0) (qd 0) (xs 0) (xh 0) (xa 0) (xo 0)), (qb 0, eRow (qc 0) (3 * (xn 0))), (qc 0, eArr cI 12 (xl 0)), (qd 0, eRow (qe 0) (3 * (yn 0))), (qe 0, eArr cI 24 (yl 0)), (qa 1, eCan (qb 1) (qd 1) (xs 1) (xh 1) (xa 1) (xo 1)), (qb 1, eRow (qc 1) (3 * (xn 1))), (qc 1, eArr cI 12 (xl 1)), (qd 1, eRow (qe 1) (3 * (yn 1))), (qe 1, eArr cI 24 (yl 1)), (a, eCan b1 b2 (xs (k - 1)) (xh (k - 1)) (xa (k - 1)) (xo (k - 1))), (b1, eRow c1 (3 * (xn (k - 1)))), (c1, eArr cI 12 (cpN cl (xl (k - 1)) (3 * xn (k - 1)))), (b2, eRow c2 (3 * (yn (k - 1)))), (c2, eArr cI 24 (cpN wd (yl (k - 1)) (3 * yn (k - 1)))), (h0, eShe hq 0)]) := by
  refine mtI_of (cc := cX6_back) (maxL := 1) (ret := (some .int)) (by decide) rfl rfl ?_
  intro p e s m below meth c A hx hb hml hr hts hown hlocks hN hA hK hP hD hS ls hl
  have hown : s.vm.findClass RX6 = some m.cls := hown
  have hl : lv_has ls 1 [(0, .ref o)] := hl
  obtain ⟨H, hHe⟩ : ∃ H, H = s.heap := ⟨_, rfl⟩
  rw [← hHe] at hP ⊢
  have hS : va_S A s.heap H [] := by rw [hHe]; exact va_S.rf
  have fl52 := hts (.fieldLink RX6 52 "EchoPaysRent" "kept" "LEchoPaysRent$Shelf;") (by decide +kernel)
  have inX6 : ∀ w ∈ wsX60, w ∈ wsX6_back := by decide +kernel
  have fl19 := hts (.fieldLink RX6 19 "EchoPaysRent" "canyon" "LEchoPaysRent$Canyon;") (by decide +kernel)
  have fl48 := hts (.fieldLink RX6 48 "EchoPaysRent" "past" "LEchoPaysRent$Shelf;") (by decide +kernel)
  refine lv_aload_n hx hb dX6_back_0 rfl (lv_at hl 0 rfl) ?_
  refine va_get (D := D) (ci := 6) (v := .ref g0) (C := RX6) (T := TX6) (N := 10) hx hb hts inX6 hown hK hP 0 rfl rfl 7 (by decide) fl52 (fun _ h9 => h9) rfl dX6_back_1 ?_
  refine lv_aload_n hx hb dX6_back_4 rfl (lv_at hl 0 rfl) ?_
  refine va_get (D := D) (ci := 6) (v := .ref a) (C := RX6) (T := TX6) (N := 10) hx hb hts inX6 hown hK hP 0 rfl rfl 1 (by decide) fl19 (fun _ h9 => h9) rfl dX6_back_5 ?_
  refine k_V (q := (RX2, TX2, 2)) (ci := 2) (As := [.ref a]) (wr := [(o, eEPR t0 a a2 w0 y0 s0 h0 g0 u0 v0), (h0, eShe hq kp)]) ⟨hx, hb, hml, hown, hts⟩ (c_X2_take_yes2 l D cI cC g0 gq qa qb qc qd qe xl xn yl yn xs xh xa xo k a b1 c1 b2 c2 cl nc wd nw sp he air sn (by omega) (by omega) (by omega) (by omega)) (cwV 1 hts gX6_back_X2_take rfl rfl rfl (by decide +kernel) ⟨Nat.le_of_ble_eq_true rfl, Nat.le_of_ble_eq_true rfl⟩) rfl hl.1 rfl (Nat.le_of_ble_eq_true rfl) dX6_back_8 ⟨Nat.zero_le _, Nat.zero_le _⟩ hN hK hP hD hS hA rfl (q0 := 1) rfl [1, 2, 3, 4, 5, 6, 7, 8, 9, 10, 11, 12, 13, 14, 15, 16, 17] [0, 18] rfl rfl ⟨rfl, rfl, by decide⟩ (fun r1 u H locs w2 hP hD hS => ?_)
  obtain rfl : r1 = (nI 1) := w2
  refine x_if_ne (tgt := 17) hx hb dX6_back_11 (by decide) (by omega) (fun h3 => ?_) (fun h3 => False.elim (by omega))
  refine lv_aload_n hx hb dX6_back_17 rfl (lv_at hl 0 rfl) ?_
  refine va_get (D := D) (ci := 6) (v := .ref h0) (C := RX6) (T := TX6) (N := 10) hx hb hts inX6 hown hK hP 0 rfl rfl 6 (by decide) fl48 (fun _ h9 => h9) rfl dX6_back_18 ?_
  refine k_Vv (q := (RX2, TX2, 2)) (ci := 2) (As := []) (wr := [(o, eEPR t0 a a2 w0 y0 s0 h0 g0 u0 v0), (g0, eShe gq (k - 1)), (gq, eArC cC 2 (fun j => some (qa j))), (qa 0, eCan (qb 0) (qd 0) (xs 0) (xh 0) (xa 0) (xo 0)), (qb 0, eRow (qc 0) (3 * (xn 0))), (qc 0, eArr cI 12 (xl 0)), (qd 0, eRow (qe 0) (3 * (yn 0))), (qe 0, eArr cI 24 (yl 0)), (qa 1, eCan (qb 1) (qd 1) (xs 1) (xh 1) (xa 1) (xo 1)), (qb 1, eRow (qc 1) (3 * (xn 1))), (qc 1, eArr cI 12 (xl 1)), (qd 1, eRow (qe 1) (3 * (yn 1))), (qe 1, eArr cI 24 (yl 1)), (a, eCan b1 b2 (xs (k - 1)) (xh (k - 1)) (xa (k - 1)) (xo (k - 1))), (b1, eRow c1 (3 * (xn (k - 1)))), (c1, eArr cI 12 (cpN cl (xl (k - 1)) (3 * xn (k - 1)))), (b2, eRow c2 (3 * (yn (k - 1)))), (c2, eArr cI 24 (cpN wd (yl (k - 1)) (3 * yn (k - 1))))]) ⟨hx, hb, hml, hown, hts⟩ (c_X2_drop l D cI cC h0 hq kp) (cwV 0 hts gX6_back_X2_drop rfl rfl rfl (by decide +kernel) ⟨Nat.le_of_ble_eq_true rfl, Nat.le_of_ble_eq_true rfl⟩) rfl hl.1 rfl (Nat.le_of_ble_eq_true rfl) dX6_back_21 ⟨Nat.zero_le _, Nat.zero_le _⟩ hN hK hP hD hS hA rfl (q0 := 1) rfl [1] [0, 2, 3, 4, 5, 6, 7, 8, 9, 10, 11, 12, 13, 14, 15, 16, 17, 18] rfl rfl ⟨rfl, rfl, by decide⟩ (fun u H locs w5 hP hD hS => ?_)
  refine lv_aload_n hx hb dX6_back_24 rfl (lv_at hl 0 rfl) ?_
  refine va_get (D := D) (ci := 6) (v := .ref g0) (C := RX6) (T := TX6) (N := 10) hx hb hts inX6 hown hK hP 0 rfl rfl 7 (by decide) fl52 (fun _ h9 => h9) rfl dX6_back_25 ?_
  refine k_V (q := (RX2, TX2, 2)) (ci := 2) (As := []) (wr := [(o, eEPR t0 a a2 w0 y0 s0 h0 g0 u0 v0), (gq, eArC cC 2 (fun j => some (qa j))), (qa 0, eCan (qb 0) (qd 0) (xs 0) (xh 0) (xa 0) (xo 0)), (qb 0, eRow (qc 0) (3 * (xn 0))), (qc 0, eArr cI 12 (xl 0)), (qd 0, eRow (qe 0) (3 * (yn 0))), (qe 0, eArr cI 24 (yl 0)), (qa 1, eCan (qb 1) (qd 1) (xs 1) (xh 1) (xa 1) (xo 1)), (qb 1, eRow (qc 1) (3 * (xn 1))), (qc 1, eArr cI 12 (xl 1)), (qd 1, eRow (qe 1) (3 * (yn 1))), (qe 1, eArr cI 24 (yl 1)), (a, eCan b1 b2 (xs (k - 1)) (xh (k - 1)) (xa (k - 1)) (xo (k - 1))), (b1, eRow c1 (3 * (xn (k - 1)))), (c1, eArr cI 12 (cpN cl (xl (k - 1)) (3 * xn (k - 1)))), (b2, eRow c2 (3 * (yn (k - 1)))), (c2, eArr cI 24 (cpN wd (yl (k - 1)) (3 * yn (k - 1)))), (h0, eShe hq 0)]) ⟨hx, hb, hml, hown, hts⟩ (c_X2_size l D cI cC g0 gq (k - 1)) (cwV 0 hts gX6_back_X2_size rfl rfl rfl (by decide +kernel) ⟨Nat.le_of_ble_eq_true rfl, Nat.le_of_ble_eq_true rfl⟩) rfl hl.1 rfl (Nat.le_of_ble_eq_true rfl) dX6_back_28 ⟨Nat.zero_le _, Nat.zero_le _⟩ hN hK hP hD hS hA rfl (q0 := 1) rfl [1] [0, 2, 3, 4, 5, 6, 7, 8, 9, 10, 11, 12, 13, 14, 15, 16, 17, 18] rfl rfl ⟨rfl, rfl, by decide⟩ (fun r6 u H locs w7 hP hD hS => ?_)
  obtain rfl : r6 = (nI (k - 1)) := w7
  exact x_iret hx hb hr hlocks dX6_back_31 rfl (post := fun (r : Int32) (_ : Unit) => r = (nI (k - 1))) (w1 := fun (_ : Unit) => [(o, eEPR t0 a a2 w0 y0 s0 h0 g0 u0 v0), (g0, eShe gq (k - 1)), (gq, eArC cC 2 (fun j => some (qa j))), (qa 0, eCan (qb 0) (qd 0) (xs 0) (xh 0) (xa 0) (xo 0)), (qb 0, eRow (qc 0) (3 * (xn 0))), (qc 0, eArr cI 12 (xl 0)), (qd 0, eRow (qe 0) (3 * (yn 0))), (qe 0, eArr cI 24 (yl 0)), (qa 1, eCan (qb 1) (qd 1) (xs 1) (xh 1) (xa 1) (xo 1)), (qb 1, eRow (qc 1) (3 * (xn 1))), (qc 1, eArr cI 12 (xl 1)), (qd 1, eRow (qe 1) (3 * (yn 1))), (qe 1, eArr cI 24 (yl 1)), (a, eCan b1 b2 (xs (k - 1)) (xh (k - 1)) (xa (k - 1)) (xo (k - 1))), (b1, eRow c1 (3 * (xn (k - 1)))), (c1, eArr cI 12 (cpN cl (xl (k - 1)) (3 * xn (k - 1)))), (b2, eRow c2 (3 * (yn (k - 1)))), (c2, eArr cI 24 (cpN wd (yl (k - 1)) (3 * yn (k - 1)))), (h0, eShe hq 0)]) () rfl hK (hP.sub [0, 18, 1, 2, 3, 4, 5, 6, 7, 8, 9, 10, 11, 12, 13, 14, 15, 16, 17] rfl) (hD.sub [0, 18, 1, 2, 3, 4, 5, 6, 7, 8, 9, 10, 11, 12, 13, 14, 15, 16, 17] rfl rfl) hS

set_option maxRecDepth 100000 in
set_option maxHeartbeats 4000000 in
theorem c_X6_back_no (l : Launch) (D : va_G) (cI cC : ClassId) (o : Nat) (t0 : Nat) (a2 : Nat) (w0 : Nat) (y0 : Nat) (s0 : Nat) (h0 : Nat) (g0 : Nat) (u0 : Nat) (v0 : Nat) (a : Nat) (gq : Nat) (qa : Nat → Nat) (k : Nat) (hk : k = 0) : mtI l D cI cC yX6_back wsX6_back ({ frames := 2, cells := 0, slots := 0, locals := 43 }) [.ref o] [(o, eEPR t0 a a2 w0 y0 s0 h0 g0 u0 v0), (g0, eShe gq k), (gq, eArC cC 2 (fun j => some (qa j)))] (fun (r : Int32) (_ : Unit) => r = (iI (-2))) (fun (_ : Unit) => [(o, eEPR t0 a a2 w0 y0 s0 h0 g0 u0 v0), (g0, eShe gq k), (gq, eArC cC 2 (fun j => some (qa j)))]) := by
  refine mtI_of (cc := cX6_back) (maxL := 1) (ret := (some .int)) (by decide) rfl rfl ?_
  intro p e s m below meth c A hx hb hml hr hts hown hlocks hN hA hK hP hD hS ls hl
  have hown : s.vm.findClass RX6 = some m.cls := hown
  have hl : lv_has ls 1 [(0, .ref o)] := hl
  obtain ⟨H, hHe⟩ : ∃ H, H = s.heap := ⟨_, rfl⟩
  rw [← hHe] at hP ⊢
  have hS : va_S A s.heap H [] := by rw [hHe]; exact va_S.rf
  have fl52 := hts (.fieldLink RX6 52 "EchoPaysRent" "kept" "LEchoPaysRent$Shelf;") (by decide +kernel)
  have inX6 : ∀ w ∈ wsX60, w ∈ wsX6_back := by decide +kernel
  have fl19 := hts (.fieldLink RX6 19 "EchoPaysRent" "canyon" "LEchoPaysRent$Canyon;") (by decide +kernel)
  refine lv_aload_n hx hb dX6_back_0 rfl (lv_at hl 0 rfl) ?_
  refine va_get (D := D) (ci := 6) (v := .ref g0) (C := RX6) (T := TX6) (N := 10) hx hb hts inX6 hown hK hP 0 rfl rfl 7 (by decide) fl52 (fun _ h9 => h9) rfl dX6_back_1 ?_
  refine lv_aload_n hx hb dX6_back_4 rfl (lv_at hl 0 rfl) ?_
  refine va_get (D := D) (ci := 6) (v := .ref a) (C := RX6) (T := TX6) (N := 10) hx hb hts inX6 hown hK hP 0 rfl rfl 1 (by decide) fl19 (fun _ h9 => h9) rfl dX6_back_5 ?_
  refine k_V (q := (RX2, TX2, 2)) (ci := 2) (As := [.ref a]) (wr := [(o, eEPR t0 a a2 w0 y0 s0 h0 g0 u0 v0)]) ⟨hx, hb, hml, hown, hts⟩ (c_X2_take_no l D cI cC g0 gq k 2 qa a (by omega)) (cwV 1 hts gX6_back_X2_take rfl rfl rfl (by decide +kernel) ⟨Nat.le_of_ble_eq_true rfl, Nat.le_of_ble_eq_true rfl⟩) rfl hl.1 rfl (Nat.le_of_ble_eq_true rfl) dX6_back_8 ⟨Nat.zero_le _, Nat.zero_le _⟩ hN hK hP hD hS hA rfl (q0 := 1) rfl [1, 2] [0] rfl rfl ⟨rfl, rfl, by decide⟩ (fun r1 u H locs w2 hP hD hS => ?_)
  obtain rfl : r1 = (nI 0) := w2
  refine x_if_ne (tgt := 17) hx hb dX6_back_11 (by decide) (by omega) (fun h3 => False.elim (by omega)) (fun h3 => ?_)
  refine lv_bipush (v := (iI (-2))) hx hb dX6_back_14 (by decide) ?_
  exact x_iret hx hb hr hlocks dX6_back_16 rfl (post := fun (r : Int32) (_ : Unit) => r = (iI (-2))) (w1 := fun (_ : Unit) => [(o, eEPR t0 a a2 w0 y0 s0 h0 g0 u0 v0), (g0, eShe gq k), (gq, eArC cC 2 (fun j => some (qa j)))]) () rfl hK hP hD hS

set_option maxRecDepth 100000 in
set_option maxHeartbeats 4000000 in
theorem c_X6_count_bad (l : Launch) (D : va_G) (cI cC : ClassId) (o : Nat) (t0 : Nat) (a2 : Nat) (w0 : Nat) (y0 : Nat) (s0 : Nat) (h0 : Nat) (g0 : Nat) (u0 : Nat) (v0 : Nat) (a : Nat) (z : Int) (hz : -2147483648 ≤ z ∧ z < 2147483648) (hbad : z < 0 ∨ 9 < z) : mtI l D cI cC yX6_count wsX6_count ({ frames := 0, cells := 0, slots := 0, locals := 0 }) [.ref o, .int (iI z)] [(o, eEPR t0 a a2 w0 y0 s0 h0 g0 u0 v0)] (fun (r : Int32) (_ : Unit) => r = (iI (-1))) (fun (_ : Unit) => [(o, eEPR t0 a a2 w0 y0 s0 h0 g0 u0 v0)]) := by
  refine mtI_of (cc := cX6_count) (maxL := 2) (ret := (some .int)) (by decide) rfl rfl ?_
  intro p e s m below meth c A hx hb hml hr hts hown hlocks hN hA hK hP hD hS ls hl
  have hown : s.vm.findClass RX6 = some m.cls := hown
  have hl : lv_has ls 2 [(0, .ref o), (1, .int (iI z))] := hl
  obtain ⟨H, hHe⟩ : ∃ H, H = s.heap := ⟨_, rfl⟩
  rw [← hHe] at hP ⊢
  have hS : va_S A s.heap H [] := by rw [hHe]; exact va_S.rf
  refine lv_iload_n hx hb dX6_count_0 rfl (lv_at hl 1 rfl) ?_
  refine lv_tableOut (tgt := 138) hx hb dX6_count_1 (by rw [iI_toInt (by omega) (by omega)]; omega) (by decide) ?_
  refine lv_iconst (v := (iI (-1))) hx hb dX6_count_138 (by decide) ?_
  exact x_iret hx hb hr hlocks dX6_count_139 rfl (post := fun (r : Int32) (_ : Unit) => r = (iI (-1))) (w1 := fun (_ : Unit) => [(o, eEPR t0 a a2 w0 y0 s0 h0 g0 u0 v0)]) () rfl hK hP hD hS

set_option maxRecDepth 100000 in
set_option maxHeartbeats 4000000 in
theorem c_X6_count_0 (l : Launch) (D : va_G) (cI cC : ClassId) (o : Nat) (t0 : Nat) (a2 : Nat) (w0 : Nat) (y0 : Nat) (s0 : Nat) (h0 : Nat) (g0 : Nat) (u0 : Nat) (v0 : Nat) (a : Nat) (b1 : Nat) (b2 : Nat) (sp : Nat) (he : Nat) (air : Nat) (sn : Nat) (c1 : Nat) (cl : Nat → Nat) (nc : Nat) (hnc : nc ≤ 4) : mtI l D cI cC yX6_count wsX6_count ({ frames := 2, cells := 0, slots := 0, locals := 40 }) [.ref o, .int (nI 0)] [(o, eEPR t0 a a2 w0 y0 s0 h0 g0 u0 v0), (a, eCan b1 b2 sp he air sn), (b1, eRow c1 (3 * nc)), (c1, eArr cI 12 cl)] (fun (r : Int32) (_ : Unit) => r = (nI nc)) (fun (_ : Unit) => [(o, eEPR t0 a a2 w0 y0 s0 h0 g0 u0 v0), (a, eCan b1 b2 sp he air sn), (b1, eRow c1 (3 * nc)), (c1, eArr cI 12 cl)]) := by
  refine mtI_of (cc := cX6_count) (maxL := 2) (ret := (some .int)) (by decide) rfl rfl ?_
  intro p e s m below meth c A hx hb hml hr hts hown hlocks hN hA hK hP hD hS ls hl
  have hown : s.vm.findClass RX6 = some m.cls := hown
  have hl : lv_has ls 2 [(0, .ref o), (1, .int (nI 0))] := hl
  obtain ⟨H, hHe⟩ : ∃ H, H = s.heap := ⟨_, rfl⟩
  rw [← hHe] at hP ⊢
  have hS : va_S A s.heap H [] := by rw [hHe]; exact va_S.rf
  have fl19 := hts (.fieldLink RX6 19 "EchoPaysRent" "canyon" "LEchoPaysRent$Canyon;") (by decide +kernel)
  have inX6 : ∀ w ∈ wsX60, w ∈ wsX6_count := by decide +kernel
  refine lv_iload_n hx hb dX6_count_0 rfl (lv_at hl 1 rfl) ?_
  refine lv_tableIn (tgt := 56) hx hb dX6_count_1 (by decide) (by decide) rfl (by decide) ?_
  refine lv_aload_n hx hb dX6_count_56 rfl (lv_at hl 0 rfl) ?_
  refine va_get (D := D) (ci := 6) (v := .ref a) (C := RX6) (T := TX6) (N := 10) hx hb hts inX6 hown hK hP 0 rfl rfl 1 (by decide) fl19 (fun _ h9 => h9) rfl dX6_count_57 ?_
  refine k_V (q := (RX0, TX0, 6)) (ci := 0) (As := []) (wr := [(o, eEPR t0 a a2 w0 y0 s0 h0 g0 u0 v0)]) ⟨hx, hb, hml, hown, hts⟩ (c_X0_cliffCount l D cI cC a b1 b2 sp he air sn c1 cl nc (by omega)) (cwV 0 hts gX6_count_X0_cliffCount rfl rfl rfl (by decide +kernel) ⟨Nat.le_of_ble_eq_true rfl, Nat.le_of_ble_eq_true rfl⟩) rfl hl.1 rfl (Nat.le_of_ble_eq_true rfl) dX6_count_60 ⟨Nat.zero_le _, Nat.zero_le _⟩ hN hK hP hD hS hA rfl (q0 := 1) rfl [1, 2, 3] [0] rfl rfl ⟨rfl, rfl, by decide⟩ (fun r1 u H locs w2 hP hD hS => ?_)
  obtain rfl : r1 = (nI nc) := w2
  exact x_iret hx hb hr hlocks dX6_count_63 rfl (post := fun (r : Int32) (_ : Unit) => r = (nI nc)) (w1 := fun (_ : Unit) => [(o, eEPR t0 a a2 w0 y0 s0 h0 g0 u0 v0), (a, eCan b1 b2 sp he air sn), (b1, eRow c1 (3 * nc)), (c1, eArr cI 12 cl)]) () rfl hK hP hD hS

set_option maxRecDepth 100000 in
set_option maxHeartbeats 4000000 in
theorem c_X6_count_1 (l : Launch) (D : va_G) (cI cC : ClassId) (o : Nat) (t0 : Nat) (a2 : Nat) (w0 : Nat) (y0 : Nat) (s0 : Nat) (h0 : Nat) (g0 : Nat) (u0 : Nat) (v0 : Nat) (a : Nat) (b1 : Nat) (b2 : Nat) (sp : Nat) (he : Nat) (air : Nat) (sn : Nat) (c2 : Nat) (wd : Nat → Nat) (nw : Nat) (hnw : nw ≤ 8) : mtI l D cI cC yX6_count wsX6_count ({ frames := 2, cells := 0, slots := 0, locals := 40 }) [.ref o, .int (nI 1)] [(o, eEPR t0 a a2 w0 y0 s0 h0 g0 u0 v0), (a, eCan b1 b2 sp he air sn), (b2, eRow c2 (3 * nw)), (c2, eArr cI 24 wd)] (fun (r : Int32) (_ : Unit) => r = (nI nw)) (fun (_ : Unit) => [(o, eEPR t0 a a2 w0 y0 s0 h0 g0 u0 v0), (a, eCan b1 b2 sp he air sn), (b2, eRow c2 (3 * nw)), (c2, eArr cI 24 wd)]) := by
  refine mtI_of (cc := cX6_count) (maxL := 2) (ret := (some .int)) (by decide) rfl rfl ?_
  intro p e s m below meth c A hx hb hml hr hts hown hlocks hN hA hK hP hD hS ls hl
  have hown : s.vm.findClass RX6 = some m.cls := hown
  have hl : lv_has ls 2 [(0, .ref o), (1, .int (nI 1))] := hl
  obtain ⟨H, hHe⟩ : ∃ H, H = s.heap := ⟨_, rfl⟩
  rw [← hHe] at hP ⊢
  have hS : va_S A s.heap H [] := by rw [hHe]; exact va_S.rf
  have fl19 := hts (.fieldLink RX6 19 "EchoPaysRent" "canyon" "LEchoPaysRent$Canyon;") (by decide +kernel)
  have inX6 : ∀ w ∈ wsX60, w ∈ wsX6_count := by decide +kernel
  refine lv_iload_n hx hb dX6_count_0 rfl (lv_at hl 1 rfl) ?_
  refine lv_tableIn (tgt := 64) hx hb dX6_count_1 (by decide) (by decide) rfl (by decide) ?_
  refine lv_aload_n hx hb dX6_count_64 rfl (lv_at hl 0 rfl) ?_
  refine va_get (D := D) (ci := 6) (v := .ref a) (C := RX6) (T := TX6) (N := 10) hx hb hts inX6 hown hK hP 0 rfl rfl 1 (by decide) fl19 (fun _ h9 => h9) rfl dX6_count_65 ?_
  refine k_V (q := (RX0, TX0, 6)) (ci := 0) (As := []) (wr := [(o, eEPR t0 a a2 w0 y0 s0 h0 g0 u0 v0)]) ⟨hx, hb, hml, hown, hts⟩ (c_X0_wordCount l D cI cC a b1 b2 sp he air sn c2 wd nw (by omega)) (cwV 0 hts gX6_count_X0_wordCount rfl rfl rfl (by decide +kernel) ⟨Nat.le_of_ble_eq_true rfl, Nat.le_of_ble_eq_true rfl⟩) rfl hl.1 rfl (Nat.le_of_ble_eq_true rfl) dX6_count_68 ⟨Nat.zero_le _, Nat.zero_le _⟩ hN hK hP hD hS hA rfl (q0 := 1) rfl [1, 2, 3] [0] rfl rfl ⟨rfl, rfl, by decide⟩ (fun r1 u H locs w2 hP hD hS => ?_)
  obtain rfl : r1 = (nI nw) := w2
  exact x_iret hx hb hr hlocks dX6_count_71 rfl (post := fun (r : Int32) (_ : Unit) => r = (nI nw)) (w1 := fun (_ : Unit) => [(o, eEPR t0 a a2 w0 y0 s0 h0 g0 u0 v0), (a, eCan b1 b2 sp he air sn), (b2, eRow c2 (3 * nw)), (c2, eArr cI 24 wd)]) () rfl hK hP hD hS

set_option maxRecDepth 100000 in
set_option maxHeartbeats 4000000 in
theorem c_X6_count_2 (l : Launch) (D : va_G) (cI cC : ClassId) (o : Nat) (t0 : Nat) (a2 : Nat) (w0 : Nat) (y0 : Nat) (s0 : Nat) (h0 : Nat) (g0 : Nat) (u0 : Nat) (v0 : Nat) (a : Nat) (b1 : Nat) (b2 : Nat) (sp : Nat) (he : Nat) (air : Nat) (sn : Nat) : mtI l D cI cC yX6_count wsX6_count ({ frames := 0, cells := 0, slots := 0, locals := 0 }) [.ref o, .int (nI 2)] [(o, eEPR t0 a a2 w0 y0 s0 h0 g0 u0 v0), (a, eCan b1 b2 sp he air sn)] (fun (r : Int32) (_ : Unit) => r = (nI sp)) (fun (_ : Unit) => [(o, eEPR t0 a a2 w0 y0 s0 h0 g0 u0 v0), (a, eCan b1 b2 sp he air sn)]) := by
  refine mtI_of (cc := cX6_count) (maxL := 2) (ret := (some .int)) (by decide) rfl rfl ?_
  intro p e s m below meth c A hx hb hml hr hts hown hlocks hN hA hK hP hD hS ls hl
  have hown : s.vm.findClass RX6 = some m.cls := hown
  have hl : lv_has ls 2 [(0, .ref o), (1, .int (nI 2))] := hl
  obtain ⟨H, hHe⟩ : ∃ H, H = s.heap := ⟨_, rfl⟩
  rw [← hHe] at hP ⊢
  have hS : va_S A s.heap H [] := by rw [hHe]; exact va_S.rf
  have fl19 := hts (.fieldLink RX6 19 "EchoPaysRent" "canyon" "LEchoPaysRent$Canyon;") (by decide +kernel)
  have inX6 : ∀ w ∈ wsX60, w ∈ wsX6_count := by decide +kernel
  have fn151 : (Cond.fieldLinkNest RX6 151 "EchoPaysRent$Canyon" "speaker" "I" "EchoPaysRent").before ([.ref o, .int (nI 2)] : List Value).toArray s = true := nz_use hN (List.mem_of_getElem? (i := 1) rfl)
  have inX0 : ∀ w ∈ wsX00, w ∈ wsX6_count := by decide +kernel
  refine lv_iload_n hx hb dX6_count_0 rfl (lv_at hl 1 rfl) ?_
  refine lv_tableIn (tgt := 72) hx hb dX6_count_1 (by decide) (by decide) rfl (by decide) ?_
  refine lv_aload_n hx hb dX6_count_72 rfl (lv_at hl 0 rfl) ?_
  refine va_get (D := D) (ci := 6) (v := .ref a) (C := RX6) (T := TX6) (N := 10) hx hb hts inX6 hown hK hP 0 rfl rfl 1 (by decide) fl19 (fun _ h9 => h9) rfl dX6_count_73 ?_
  refine va_getN (D := D) (ci := 0) (v := .int (nI sp)) (C := RX0) (T := TX0) (N := 6) hx hb hts inX0 hown hK hP 1 rfl rfl 2 (by decide) fn151 (fun _ h9 => h9) rfl dX6_count_76 ?_
  exact x_iret hx hb hr hlocks dX6_count_79 rfl (post := fun (r : Int32) (_ : Unit) => r = (nI sp)) (w1 := fun (_ : Unit) => [(o, eEPR t0 a a2 w0 y0 s0 h0 g0 u0 v0), (a, eCan b1 b2 sp he air sn)]) () rfl hK hP hD hS

set_option maxRecDepth 100000 in
set_option maxHeartbeats 4000000 in
theorem c_X6_count_3 (l : Launch) (D : va_G) (cI cC : ClassId) (o : Nat) (t0 : Nat) (a2 : Nat) (w0 : Nat) (y0 : Nat) (s0 : Nat) (h0 : Nat) (g0 : Nat) (u0 : Nat) (v0 : Nat) (a : Nat) (b1 : Nat) (b2 : Nat) (sp : Nat) (he : Nat) (air : Nat) (sn : Nat) : mtI l D cI cC yX6_count wsX6_count ({ frames := 0, cells := 0, slots := 0, locals := 0 }) [.ref o, .int (nI 3)] [(o, eEPR t0 a a2 w0 y0 s0 h0 g0 u0 v0), (a, eCan b1 b2 sp he air sn)] (fun (r : Int32) (_ : Unit) => r = (nI he)) (fun (_ : Unit) => [(o, eEPR t0 a a2 w0 y0 s0 h0 g0 u0 v0), (a, eCan b1 b2 sp he air sn)]) := by
  refine mtI_of (cc := cX6_count) (maxL := 2) (ret := (some .int)) (by decide) rfl rfl ?_
  intro p e s m below meth c A hx hb hml hr hts hown hlocks hN hA hK hP hD hS ls hl
  have hown : s.vm.findClass RX6 = some m.cls := hown
  have hl : lv_has ls 2 [(0, .ref o), (1, .int (nI 3))] := hl
  obtain ⟨H, hHe⟩ : ∃ H, H = s.heap := ⟨_, rfl⟩
  rw [← hHe] at hP ⊢
  have hS : va_S A s.heap H [] := by rw [hHe]; exact va_S.rf
  have fl19 := hts (.fieldLink RX6 19 "EchoPaysRent" "canyon" "LEchoPaysRent$Canyon;") (by decide +kernel)
  have inX6 : ∀ w ∈ wsX60, w ∈ wsX6_count := by decide +kernel
  have fn110 : (Cond.fieldLinkNest RX6 110 "EchoPaysRent$Canyon" "hearer" "I" "EchoPaysRent").before ([.ref o, .int (nI 3)] : List Value).toArray s = true := nz_use hN (List.mem_of_getElem? (i := 2) rfl)
  have inX0 : ∀ w ∈ wsX00, w ∈ wsX6_count := by decide +kernel
  refine lv_iload_n hx hb dX6_count_0 rfl (lv_at hl 1 rfl) ?_
  refine lv_tableIn (tgt := 80) hx hb dX6_count_1 (by decide) (by decide) rfl (by decide) ?_
  refine lv_aload_n hx hb dX6_count_80 rfl (lv_at hl 0 rfl) ?_
  refine va_get (D := D) (ci := 6) (v := .ref a) (C := RX6) (T := TX6) (N := 10) hx hb hts inX6 hown hK hP 0 rfl rfl 1 (by decide) fl19 (fun _ h9 => h9) rfl dX6_count_81 ?_
  refine va_getN (D := D) (ci := 0) (v := .int (nI he)) (C := RX0) (T := TX0) (N := 6) hx hb hts inX0 hown hK hP 1 rfl rfl 3 (by decide) fn110 (fun _ h9 => h9) rfl dX6_count_84 ?_
  exact x_iret hx hb hr hlocks dX6_count_87 rfl (post := fun (r : Int32) (_ : Unit) => r = (nI he)) (w1 := fun (_ : Unit) => [(o, eEPR t0 a a2 w0 y0 s0 h0 g0 u0 v0), (a, eCan b1 b2 sp he air sn)]) () rfl hK hP hD hS

set_option maxRecDepth 100000 in
set_option maxHeartbeats 4000000 in
theorem c_X6_count_4 (l : Launch) (D : va_G) (cI cC : ClassId) (o : Nat) (t0 : Nat) (a2 : Nat) (w0 : Nat) (y0 : Nat) (s0 : Nat) (h0 : Nat) (g0 : Nat) (u0 : Nat) (v0 : Nat) (a : Nat) (b1 : Nat) (b2 : Nat) (sp : Nat) (he : Nat) (air : Nat) (sn : Nat) : mtI l D cI cC yX6_count wsX6_count ({ frames := 0, cells := 0, slots := 0, locals := 0 }) [.ref o, .int (nI 4)] [(o, eEPR t0 a a2 w0 y0 s0 h0 g0 u0 v0), (a, eCan b1 b2 sp he air sn)] (fun (r : Int32) (_ : Unit) => r = (nI air)) (fun (_ : Unit) => [(o, eEPR t0 a a2 w0 y0 s0 h0 g0 u0 v0), (a, eCan b1 b2 sp he air sn)]) := by
  refine mtI_of (cc := cX6_count) (maxL := 2) (ret := (some .int)) (by decide) rfl rfl ?_
  intro p e s m below meth c A hx hb hml hr hts hown hlocks hN hA hK hP hD hS ls hl
  have hown : s.vm.findClass RX6 = some m.cls := hown
  have hl : lv_has ls 2 [(0, .ref o), (1, .int (nI 4))] := hl
  obtain ⟨H, hHe⟩ : ∃ H, H = s.heap := ⟨_, rfl⟩
  rw [← hHe] at hP ⊢
  have hS : va_S A s.heap H [] := by rw [hHe]; exact va_S.rf
  have fl19 := hts (.fieldLink RX6 19 "EchoPaysRent" "canyon" "LEchoPaysRent$Canyon;") (by decide +kernel)
  have inX6 : ∀ w ∈ wsX60, w ∈ wsX6_count := by decide +kernel
  have fn197 : (Cond.fieldLinkNest RX6 197 "EchoPaysRent$Canyon" "air" "I" "EchoPaysRent").before ([.ref o, .int (nI 4)] : List Value).toArray s = true := nz_use hN (List.mem_of_getElem? (i := 4) rfl)
  have inX0 : ∀ w ∈ wsX00, w ∈ wsX6_count := by decide +kernel
  refine lv_iload_n hx hb dX6_count_0 rfl (lv_at hl 1 rfl) ?_
  refine lv_tableIn (tgt := 88) hx hb dX6_count_1 (by decide) (by decide) rfl (by decide) ?_
  refine lv_aload_n hx hb dX6_count_88 rfl (lv_at hl 0 rfl) ?_
  refine va_get (D := D) (ci := 6) (v := .ref a) (C := RX6) (T := TX6) (N := 10) hx hb hts inX6 hown hK hP 0 rfl rfl 1 (by decide) fl19 (fun _ h9 => h9) rfl dX6_count_89 ?_
  refine va_getN (D := D) (ci := 0) (v := .int (nI air)) (C := RX0) (T := TX0) (N := 6) hx hb hts inX0 hown hK hP 1 rfl rfl 4 (by decide) fn197 (fun _ h9 => h9) rfl dX6_count_92 ?_
  exact x_iret hx hb hr hlocks dX6_count_95 rfl (post := fun (r : Int32) (_ : Unit) => r = (nI air)) (w1 := fun (_ : Unit) => [(o, eEPR t0 a a2 w0 y0 s0 h0 g0 u0 v0), (a, eCan b1 b2 sp he air sn)]) () rfl hK hP hD hS

set_option maxRecDepth 100000 in
set_option maxHeartbeats 4000000 in
theorem c_X6_count_5 (l : Launch) (D : va_G) (cI cC : ClassId) (o : Nat) (t0 : Nat) (a2 : Nat) (w0 : Nat) (y0 : Nat) (s0 : Nat) (h0 : Nat) (g0 : Nat) (u0 : Nat) (v0 : Nat) (a : Nat) (ua : Nat) (tk : Nat → Nat) (n : Nat) : mtI l D cI cC yX6_count wsX6_count ({ frames := 1, cells := 0, slots := 0, locals := 20 }) [.ref o, .int (nI 5)] [(o, eEPR t0 a a2 w0 y0 s0 h0 g0 u0 v0), (u0, eRow ua n), (ua, eArr cI 6 tk)] (fun (r : Int32) (_ : Unit) => r = (nI n)) (fun (_ : Unit) => [(o, eEPR t0 a a2 w0 y0 s0 h0 g0 u0 v0), (u0, eRow ua n), (ua, eArr cI 6 tk)]) := by
  refine mtI_of (cc := cX6_count) (maxL := 2) (ret := (some .int)) (by decide) rfl rfl ?_
  intro p e s m below meth c A hx hb hml hr hts hown hlocks hN hA hK hP hD hS ls hl
  have hown : s.vm.findClass RX6 = some m.cls := hown
  have hl : lv_has ls 2 [(0, .ref o), (1, .int (nI 5))] := hl
  obtain ⟨H, hHe⟩ : ∃ H, H = s.heap := ⟨_, rfl⟩
  rw [← hHe] at hP ⊢
  have hS : va_S A s.heap H [] := by rw [hHe]; exact va_S.rf
  have fl58 := hts (.fieldLink RX6 58 "EchoPaysRent" "wanted" "LEchoPaysRent$Row;") (by decide +kernel)
  have inX6 : ∀ w ∈ wsX60, w ∈ wsX6_count := by decide +kernel
  refine lv_iload_n hx hb dX6_count_0 rfl (lv_at hl 1 rfl) ?_
  refine lv_tableIn (tgt := 96) hx hb dX6_count_1 (by decide) (by decide) rfl (by decide) ?_
  refine lv_aload_n hx hb dX6_count_96 rfl (lv_at hl 0 rfl) ?_
  refine va_get (D := D) (ci := 6) (v := .ref u0) (C := RX6) (T := TX6) (N := 10) hx hb hts inX6 hown hK hP 0 rfl rfl 8 (by decide) fl58 (fun _ h9 => h9) rfl dX6_count_97 ?_
  refine k_V (q := (RX1, TX1, 2)) (ci := 1) (As := []) (wr := [(o, eEPR t0 a a2 w0 y0 s0 h0 g0 u0 v0)]) ⟨hx, hb, hml, hown, hts⟩ (c_X1_size l D cI cC u0 ua 6 tk n) (cwV 0 hts gX6_count_X1_size rfl rfl rfl (by decide +kernel) ⟨Nat.le_of_ble_eq_true rfl, Nat.le_of_ble_eq_true rfl⟩) rfl hl.1 rfl (Nat.le_of_ble_eq_true rfl) dX6_count_100 ⟨Nat.zero_le _, Nat.zero_le _⟩ hN hK hP hD hS hA rfl (q0 := 1) rfl [1, 2] [0] rfl rfl ⟨rfl, rfl, by decide⟩ (fun r1 u H locs w2 hP hD hS => ?_)
  obtain rfl : r1 = (nI n) := w2
  exact x_iret hx hb hr hlocks dX6_count_103 rfl (post := fun (r : Int32) (_ : Unit) => r = (nI n)) (w1 := fun (_ : Unit) => [(o, eEPR t0 a a2 w0 y0 s0 h0 g0 u0 v0), (u0, eRow ua n), (ua, eArr cI 6 tk)]) () rfl hK hP hD hS

set_option maxRecDepth 100000 in
set_option maxHeartbeats 4000000 in
theorem c_X6_count_6 (l : Launch) (D : va_G) (cI cC : ClassId) (o : Nat) (t0 : Nat) (a2 : Nat) (w0 : Nat) (y0 : Nat) (s0 : Nat) (h0 : Nat) (g0 : Nat) (u0 : Nat) (v0 : Nat) (a : Nat) (ea : Nat) (eg : Nat → Nat) (ne : Nat) (hne : ne ≤ 9) : mtI l D cI cC yX6_count wsX6_count ({ frames := 1, cells := 0, slots := 0, locals := 20 }) [.ref o, .int (nI 6)] [(o, eEPR t0 a a2 w0 y0 s0 h0 g0 u0 v0), (v0, eRow ea (3 * ne)), (ea, eArr cI 27 eg)] (fun (r : Int32) (_ : Unit) => r = (nI ne)) (fun (_ : Unit) => [(o, eEPR t0 a a2 w0 y0 s0 h0 g0 u0 v0), (v0, eRow ea (3 * ne)), (ea, eArr cI 27 eg)]) := by
  refine mtI_of (cc := cX6_count) (maxL := 2) (ret := (some .int)) (by decide) rfl rfl ?_
  intro p e s m below meth c A hx hb hml hr hts hown hlocks hN hA hK hP hD hS ls hl
  have hown : s.vm.findClass RX6 = some m.cls := hown
  have hl : lv_has ls 2 [(0, .ref o), (1, .int (nI 6))] := hl
  obtain ⟨H, hHe⟩ : ∃ H, H = s.heap := ⟨_, rfl⟩
  rw [← hHe] at hP ⊢
  have hS : va_S A s.heap H [] := by rw [hHe]; exact va_S.rf
  have fl62 := hts (.fieldLink RX6 62 "EchoPaysRent" "ears" "LEchoPaysRent$Row;") (by decide +kernel)
  have inX6 : ∀ w ∈ wsX60, w ∈ wsX6_count := by decide +kernel
  refine lv_iload_n hx hb dX6_count_0 rfl (lv_at hl 1 rfl) ?_
  refine lv_tableIn (tgt := 104) hx hb dX6_count_1 (by decide) (by decide) rfl (by decide) ?_
  refine lv_aload_n hx hb dX6_count_104 rfl (lv_at hl 0 rfl) ?_
  refine va_get (D := D) (ci := 6) (v := .ref v0) (C := RX6) (T := TX6) (N := 10) hx hb hts inX6 hown hK hP 0 rfl rfl 9 (by decide) fl62 (fun _ h9 => h9) rfl dX6_count_105 ?_
  refine k_V (q := (RX1, TX1, 2)) (ci := 1) (As := []) (wr := [(o, eEPR t0 a a2 w0 y0 s0 h0 g0 u0 v0)]) ⟨hx, hb, hml, hown, hts⟩ (c_X1_size l D cI cC v0 ea 27 eg (3 * ne)) (cwV 0 hts gX6_count_X1_size rfl rfl rfl (by decide +kernel) ⟨Nat.le_of_ble_eq_true rfl, Nat.le_of_ble_eq_true rfl⟩) rfl hl.1 rfl (Nat.le_of_ble_eq_true rfl) dX6_count_108 ⟨Nat.zero_le _, Nat.zero_le _⟩ hN hK hP hD hS hA rfl (q0 := 1) rfl [1, 2] [0] rfl rfl ⟨rfl, rfl, by decide⟩ (fun r1 u H locs w2 hP hD hS => ?_)
  obtain rfl : r1 = (nI (3 * ne)) := w2
  refine lv_iconst (v := (nI 3)) hx hb dX6_count_111 (by decide) ?_
  refine x_idiv hx hb dX6_count_112 (by omega) (by omega) (by omega) ?_
  exact x_iret hx hb hr hlocks dX6_count_113 rfl (post := fun (r : Int32) (_ : Unit) => r = (nI ne)) (w1 := fun (_ : Unit) => [(o, eEPR t0 a a2 w0 y0 s0 h0 g0 u0 v0), (v0, eRow ea (3 * ne)), (ea, eArr cI 27 eg)]) () (congrArg nI (by omega)) hK hP hD hS

set_option maxRecDepth 100000 in
set_option maxHeartbeats 4000000 in
theorem c_X6_count_7 (l : Launch) (D : va_G) (cI cC : ClassId) (o : Nat) (t0 : Nat) (a2 : Nat) (w0 : Nat) (y0 : Nat) (s0 : Nat) (h0 : Nat) (g0 : Nat) (u0 : Nat) (v0 : Nat) (a : Nat) (hq : Nat) (k : Nat) : mtI l D cI cC yX6_count wsX6_count ({ frames := 1, cells := 0, slots := 0, locals := 20 }) [.ref o, .int (nI 7)] [(o, eEPR t0 a a2 w0 y0 s0 h0 g0 u0 v0), (h0, eShe hq k)] (fun (r : Int32) (_ : Unit) => r = (nI k)) (fun (_ : Unit) => [(o, eEPR t0 a a2 w0 y0 s0 h0 g0 u0 v0), (h0, eShe hq k)]) := by
  refine mtI_of (cc := cX6_count) (maxL := 2) (ret := (some .int)) (by decide) rfl rfl ?_
  intro p e s m below meth c A hx hb hml hr hts hown hlocks hN hA hK hP hD hS ls hl
  have hown : s.vm.findClass RX6 = some m.cls := hown
  have hl : lv_has ls 2 [(0, .ref o), (1, .int (nI 7))] := hl
  obtain ⟨H, hHe⟩ : ∃ H, H = s.heap := ⟨_, rfl⟩
  rw [← hHe] at hP ⊢
  have hS : va_S A s.heap H [] := by rw [hHe]; exact va_S.rf
  have fl48 := hts (.fieldLink RX6 48 "EchoPaysRent" "past" "LEchoPaysRent$Shelf;") (by decide +kernel)
  have inX6 : ∀ w ∈ wsX60, w ∈ wsX6_count := by decide +kernel
  refine lv_iload_n hx hb dX6_count_0 rfl (lv_at hl 1 rfl) ?_
  refine lv_tableIn (tgt := 114) hx hb dX6_count_1 (by decide) (by decide) rfl (by decide) ?_
  refine lv_aload_n hx hb dX6_count_114 rfl (lv_at hl 0 rfl) ?_
  refine va_get (D := D) (ci := 6) (v := .ref h0) (C := RX6) (T := TX6) (N := 10) hx hb hts inX6 hown hK hP 0 rfl rfl 6 (by decide) fl48 (fun _ h9 => h9) rfl dX6_count_115 ?_
  refine k_V (q := (RX2, TX2, 2)) (ci := 2) (As := []) (wr := [(o, eEPR t0 a a2 w0 y0 s0 h0 g0 u0 v0)]) ⟨hx, hb, hml, hown, hts⟩ (c_X2_size l D cI cC h0 hq k) (cwV 0 hts gX6_count_X2_size rfl rfl rfl (by decide +kernel) ⟨Nat.le_of_ble_eq_true rfl, Nat.le_of_ble_eq_true rfl⟩) rfl hl.1 rfl (Nat.le_of_ble_eq_true rfl) dX6_count_118 ⟨Nat.zero_le _, Nat.zero_le _⟩ hN hK hP hD hS hA rfl (q0 := 1) rfl [1] [0] rfl rfl ⟨rfl, rfl, by decide⟩ (fun r1 u H locs w2 hP hD hS => ?_)
  obtain rfl : r1 = (nI k) := w2
  exact x_iret hx hb hr hlocks dX6_count_121 rfl (post := fun (r : Int32) (_ : Unit) => r = (nI k)) (w1 := fun (_ : Unit) => [(o, eEPR t0 a a2 w0 y0 s0 h0 g0 u0 v0), (h0, eShe hq k)]) () rfl hK hP hD hS

set_option maxRecDepth 100000 in
set_option maxHeartbeats 4000000 in
theorem c_X6_count_8 (l : Launch) (D : va_G) (cI cC : ClassId) (o : Nat) (t0 : Nat) (a2 : Nat) (w0 : Nat) (y0 : Nat) (s0 : Nat) (h0 : Nat) (g0 : Nat) (u0 : Nat) (v0 : Nat) (a : Nat) (gq : Nat) (k : Nat) : mtI l D cI cC yX6_count wsX6_count ({ frames := 1, cells := 0, slots := 0, locals := 20 }) [.ref o, .int (nI 8)] [(o, eEPR t0 a a2 w0 y0 s0 h0 g0 u0 v0), (g0, eShe gq k)] (fun (r : Int32) (_ : Unit) => r = (nI k)) (fun (_ : Unit) => [(o, eEPR t0 a a2 w0 y0 s0 h0 g0 u0 v0), (g0, eShe gq k)]) := by
  refine mtI_of (cc := cX6_count) (maxL := 2) (ret := (some .int)) (by decide) rfl rfl ?_
  intro p e s m below meth c A hx hb hml hr hts hown hlocks hN hA hK hP hD hS ls hl
  have hown : s.vm.findClass RX6 = some m.cls := hown
  have hl : lv_has ls 2 [(0, .ref o), (1, .int (nI 8))] := hl
  obtain ⟨H, hHe⟩ : ∃ H, H = s.heap := ⟨_, rfl⟩
  rw [← hHe] at hP ⊢
  have hS : va_S A s.heap H [] := by rw [hHe]; exact va_S.rf
  have fl52 := hts (.fieldLink RX6 52 "EchoPaysRent" "kept" "LEchoPaysRent$Shelf;") (by decide +kernel)
  have inX6 : ∀ w ∈ wsX60, w ∈ wsX6_count := by decide +kernel
  refine lv_iload_n hx hb dX6_count_0 rfl (lv_at hl 1 rfl) ?_
  refine lv_tableIn (tgt := 122) hx hb dX6_count_1 (by decide) (by decide) rfl (by decide) ?_
  refine lv_aload_n hx hb dX6_count_122 rfl (lv_at hl 0 rfl) ?_
  refine va_get (D := D) (ci := 6) (v := .ref g0) (C := RX6) (T := TX6) (N := 10) hx hb hts inX6 hown hK hP 0 rfl rfl 7 (by decide) fl52 (fun _ h9 => h9) rfl dX6_count_123 ?_
  refine k_V (q := (RX2, TX2, 2)) (ci := 2) (As := []) (wr := [(o, eEPR t0 a a2 w0 y0 s0 h0 g0 u0 v0)]) ⟨hx, hb, hml, hown, hts⟩ (c_X2_size l D cI cC g0 gq k) (cwV 0 hts gX6_count_X2_size rfl rfl rfl (by decide +kernel) ⟨Nat.le_of_ble_eq_true rfl, Nat.le_of_ble_eq_true rfl⟩) rfl hl.1 rfl (Nat.le_of_ble_eq_true rfl) dX6_count_126 ⟨Nat.zero_le _, Nat.zero_le _⟩ hN hK hP hD hS hA rfl (q0 := 1) rfl [1] [0] rfl rfl ⟨rfl, rfl, by decide⟩ (fun r1 u H locs w2 hP hD hS => ?_)
  obtain rfl : r1 = (nI k) := w2
  exact x_iret hx hb hr hlocks dX6_count_129 rfl (post := fun (r : Int32) (_ : Unit) => r = (nI k)) (w1 := fun (_ : Unit) => [(o, eEPR t0 a a2 w0 y0 s0 h0 g0 u0 v0), (g0, eShe gq k)]) () rfl hK hP hD hS

set_option maxRecDepth 100000 in
set_option maxHeartbeats 4000000 in
theorem c_X6_count_9 (l : Launch) (D : va_G) (cI cC : ClassId) (o : Nat) (t0 : Nat) (a2 : Nat) (w0 : Nat) (y0 : Nat) (s0 : Nat) (h0 : Nat) (g0 : Nat) (u0 : Nat) (v0 : Nat) (a : Nat) (tb : Nat) (tba : Nat) (tn : Nat) (tx : Nat → Nat) (len : Nat) : mtI l D cI cC yX6_count wsX6_count ({ frames := 2, cells := 0, slots := 0, locals := 40 }) [.ref o, .int (nI 9)] [(o, eEPR t0 a a2 w0 y0 s0 h0 g0 u0 v0), (t0, eTxt tb tn), (tb, eRow tba len), (tba, eArr cI 300 tx)] (fun (r : Int32) (_ : Unit) => r = (nI len)) (fun (_ : Unit) => [(o, eEPR t0 a a2 w0 y0 s0 h0 g0 u0 v0), (t0, eTxt tb tn), (tb, eRow tba len), (tba, eArr cI 300 tx)]) := by
  refine mtI_of (cc := cX6_count) (maxL := 2) (ret := (some .int)) (by decide) rfl rfl ?_
  intro p e s m below meth c A hx hb hml hr hts hown hlocks hN hA hK hP hD hS ls hl
  have hown : s.vm.findClass RX6 = some m.cls := hown
  have hl : lv_has ls 2 [(0, .ref o), (1, .int (nI 9))] := hl
  obtain ⟨H, hHe⟩ : ∃ H, H = s.heap := ⟨_, rfl⟩
  rw [← hHe] at hP ⊢
  have hS : va_S A s.heap H [] := by rw [hHe]; exact va_S.rf
  have fl12 := hts (.fieldLink RX6 12 "EchoPaysRent" "text" "LEchoPaysRent$Text;") (by decide +kernel)
  have inX6 : ∀ w ∈ wsX60, w ∈ wsX6_count := by decide +kernel
  refine lv_iload_n hx hb dX6_count_0 rfl (lv_at hl 1 rfl) ?_
  refine lv_tableIn (tgt := 130) hx hb dX6_count_1 (by decide) (by decide) rfl (by decide) ?_
  refine lv_aload_n hx hb dX6_count_130 rfl (lv_at hl 0 rfl) ?_
  refine va_get (D := D) (ci := 6) (v := .ref t0) (C := RX6) (T := TX6) (N := 10) hx hb hts inX6 hown hK hP 0 rfl rfl 0 (by decide) fl12 (fun _ h9 => h9) rfl dX6_count_131 ?_
  refine k_V (q := (RX4, TX4, 2)) (ci := 4) (As := []) (wr := [(o, eEPR t0 a a2 w0 y0 s0 h0 g0 u0 v0)]) ⟨hx, hb, hml, hown, hts⟩ (c_X4_length l D cI cC t0 tb tba tn tx len) (cwV 0 hts gX6_count_X4_length rfl rfl rfl (by decide +kernel) ⟨Nat.le_of_ble_eq_true rfl, Nat.le_of_ble_eq_true rfl⟩) rfl hl.1 rfl (Nat.le_of_ble_eq_true rfl) dX6_count_134 ⟨Nat.zero_le _, Nat.zero_le _⟩ hN hK hP hD hS hA rfl (q0 := 1) rfl [1, 2, 3] [0] rfl rfl ⟨rfl, rfl, by decide⟩ (fun r1 u H locs w2 hP hD hS => ?_)
  obtain rfl : r1 = (nI len) := w2
  exact x_iret hx hb hr hlocks dX6_count_137 rfl (post := fun (r : Int32) (_ : Unit) => r = (nI len)) (w1 := fun (_ : Unit) => [(o, eEPR t0 a a2 w0 y0 s0 h0 g0 u0 v0), (t0, eTxt tb tn), (tb, eRow tba len), (tba, eArr cI 300 tx)]) () rfl hK hP hD hS

set_option maxRecDepth 100000 in
set_option maxHeartbeats 4000000 in
theorem c_X6_fault_l (l : Launch) (D : va_G) (cI cC : ClassId) (o : Nat) (t0 : Nat) (a2 : Nat) (w0 : Nat) (y0 : Nat) (s0 : Nat) (h0 : Nat) (g0 : Nat) (u0 : Nat) (v0 : Nat) (a : Nat) (tb : Nat) (tba : Nat) (tn : Nat) (tx : Nat → Nat) (len : Nat) (hlen : len ≤ 300) (tna : Nat) (g : Nat → Nat) (kn : Nat) (a2 : Nat) (b3 : Nat) (c3 : Nat) (b4 : Nat) (c4 : Nat) (clt : Nat → Nat) (nct : Nat) (wdt : Nat → Nat) (nwt : Nat) (spt : Nat) (het : Nat) (airt : Nat) (snt : Nat) (hB : okB tx len) (hg0 : ∀ j, g j < 1000) (hk3 : kn ≤ 3) (pf : Nat) (hr0 : readM (byM tx len) len 300 0 (dr0 clt wdt) = .inl pf) : mtI l D cI cC yX6_fault wsX6_fault ({ frames := 7, cells := 0, slots := 0, locals := 160 }) [.ref o] [(o, eEPR t0 a a2 w0 y0 s0 h0 g0 u0 v0), (t0, eTxt tb tn), (tb, eRow tba len), (tba, eArr cI 300 tx), (tn, eRow tna kn), (tna, eArr cI 3 g), (a2, eCan b3 b4 spt het airt snt), (b3, eRow c3 (3 * nct)), (c3, eArr cI 12 clt), (b4, eRow c4 (3 * nwt)), (c4, eArr cI 24 wdt)] (fun (r : Int32) ((cl', nc', wd', nw', sp', he', air', g', kn') : (Nat → Nat) × Nat × (Nat → Nat) × Nat × Nat × Nat × Nat × (Nat → Nat) × Nat) => r = (nI pf) ∧ nc' ≤ 4 ∧ nw' ≤ 8 ∧ (∀ j, g' j < 1000) ∧ kn' ≤ 3) (fun ((cl', nc', wd', nw', sp', he', air', g', kn') : (Nat → Nat) × Nat × (Nat → Nat) × Nat × Nat × Nat × Nat × (Nat → Nat) × Nat) => [(o, eEPR t0 a a2 w0 y0 s0 h0 g0 u0 v0), (t0, eTxt tb tn), (tb, eRow tba len), (tba, eArr cI 300 tx), (tn, eRow tna kn'), (tna, eArr cI 3 g'), (a2, eCan b3 b4 sp' he' air' 0), (b3, eRow c3 (3 * nc')), (c3, eArr cI 12 cl'), (b4, eRow c4 (3 * nw')), (c4, eArr cI 24 wd')]) := by
  refine mtI_of (cc := cX6_fault) (maxL := 1) (ret := (some .int)) (by decide) rfl rfl ?_
  intro p e s m below meth c A hx hb hml hr hts hown hlocks hN hA hK hP hD hS ls hl
  have hown : s.vm.findClass RX6 = some m.cls := hown
  have hl : lv_has ls 1 [(0, .ref o)] := hl
  obtain ⟨H, hHe⟩ : ∃ H, H = s.heap := ⟨_, rfl⟩
  rw [← hHe] at hP ⊢
  have hS : va_S A s.heap H [] := by rw [hHe]; exact va_S.rf
  have fl12 := hts (.fieldLink RX6 12 "EchoPaysRent" "text" "LEchoPaysRent$Text;") (by decide +kernel)
  have inX6 : ∀ w ∈ wsX60, w ∈ wsX6_fault := by decide +kernel
  have fl23 := hts (.fieldLink RX6 23 "EchoPaysRent" "trial" "LEchoPaysRent$Canyon;") (by decide +kernel)
  refine lv_aload_n hx hb dX6_fault_0 rfl (lv_at hl 0 rfl) ?_
  refine va_get (D := D) (ci := 6) (v := .ref t0) (C := RX6) (T := TX6) (N := 10) hx hb hts inX6 hown hK hP 0 rfl rfl 0 (by decide) fl12 (fun _ h9 => h9) rfl dX6_fault_1 ?_
  refine lv_aload_n hx hb dX6_fault_4 rfl (lv_at hl 0 rfl) ?_
  refine va_get (D := D) (ci := 6) (v := .ref a2) (C := RX6) (T := TX6) (N := 10) hx hb hts inX6 hown hK hP 0 rfl rfl 2 (by decide) fl23 (fun _ h9 => h9) rfl dX6_fault_5 ?_
  refine k_V (q := (RX4, TX4, 2)) (ci := 4) (As := [.ref a2]) (wr := [(o, eEPR t0 a a2 w0 y0 s0 h0 g0 u0 v0)]) ⟨hx, hb, hml, hown, hts⟩ (c_X4_readInto l D cI cC t0 tb tba tn tx len (by omega) tna g kn a2 b3 c3 b4 c4 clt nct wdt nwt spt het airt snt hB (by omega) (by omega)) (cwV 1 hts gX6_fault_X4_readInto rfl rfl rfl (by decide +kernel) ⟨Nat.le_of_ble_eq_true rfl, Nat.le_of_ble_eq_true rfl⟩) rfl hl.1 rfl (Nat.le_of_ble_eq_true rfl) dX6_fault_8 ⟨Nat.zero_le _, Nat.zero_le _⟩ hN hK hP hD hS hA rfl (q0 := 1) rfl [1, 2, 3, 4, 5, 6, 7, 8, 9, 10] [0] rfl rfl ⟨rfl, rfl, by decide⟩ (fun r1 u H locs w12 hP hD hS => ?_)
  obtain ⟨cl'2, nc'3, wd'4, nw'5, sp'6, he'7, air'8, pf9, g'10, kn'11⟩ := u
  obtain ⟨rfl, h13, h14, h15, h16, h17, h18⟩ | ⟨rfl, h19, h20, h21, h22, h23⟩ : (r1 = (nI pf9) ∧ readM (byM tx len) len 300 0 (dr0 clt wdt) = .inl pf9 ∧ nc'3 ≤ 4 ∧ nw'5 ≤ 8 ∧ (∀ j, g'10 j < 1000) ∧ kn'11 ≤ 3 ∧ pf9 < 300) ∨ (r1 = (iI (-4)) ∧ readM (byM tx len) len 300 0 (dr0 clt wdt) = .inr (cl'2, nc'3, wd'4, nw'5, sp'6, he'7, air'8) ∧ nc'3 ≤ 4 ∧ nw'5 ≤ 8 ∧ (∀ j, g'10 j < 1000) ∧ kn'11 ≤ 3) := w12
  · have hpf : pf9 = pf := by have hh := h13.symm.trans hr0; exact Sum.inl.inj hh
    exact x_iret hx hb hr hlocks dX6_fault_11 rfl (post := fun (r : Int32) ((cl', nc', wd', nw', sp', he', air', g', kn') : (Nat → Nat) × Nat × (Nat → Nat) × Nat × Nat × Nat × Nat × (Nat → Nat) × Nat) => r = (nI pf) ∧ nc' ≤ 4 ∧ nw' ≤ 8 ∧ (∀ j, g' j < 1000) ∧ kn' ≤ 3) (w1 := fun ((cl', nc', wd', nw', sp', he', air', g', kn') : (Nat → Nat) × Nat × (Nat → Nat) × Nat × Nat × Nat × Nat × (Nat → Nat) × Nat) => [(o, eEPR t0 a a2 w0 y0 s0 h0 g0 u0 v0), (t0, eTxt tb tn), (tb, eRow tba len), (tba, eArr cI 300 tx), (tn, eRow tna kn'), (tna, eArr cI 3 g'), (a2, eCan b3 b4 sp' he' air' 0), (b3, eRow c3 (3 * nc')), (c3, eArr cI 12 cl'), (b4, eRow c4 (3 * nw')), (c4, eArr cI 24 wd')]) (cl'2, nc'3, wd'4, nw'5, sp'6, he'7, air'8, g'10, kn'11) ⟨congrArg nI hpf, by omega, by omega, by assumption, by omega⟩ hK hP hD hS
  · exact absurd (h19.symm.trans hr0) (by intro hh; cases hh)

set_option maxRecDepth 100000 in
set_option maxHeartbeats 4000000 in
theorem c_X6_fault_r (l : Launch) (D : va_G) (cI cC : ClassId) (o : Nat) (t0 : Nat) (a2 : Nat) (w0 : Nat) (y0 : Nat) (s0 : Nat) (h0 : Nat) (g0 : Nat) (u0 : Nat) (v0 : Nat) (a : Nat) (tb : Nat) (tba : Nat) (tn : Nat) (tx : Nat → Nat) (len : Nat) (hlen : len ≤ 300) (tna : Nat) (g : Nat → Nat) (kn : Nat) (a2 : Nat) (b3 : Nat) (c3 : Nat) (b4 : Nat) (c4 : Nat) (clt : Nat → Nat) (nct : Nat) (wdt : Nat → Nat) (nwt : Nat) (spt : Nat) (het : Nat) (airt : Nat) (snt : Nat) (hB : okB tx len) (hg0 : ∀ j, g j < 1000) (hk3 : kn ≤ 3) (dd : Dr) (hr0 : readM (byM tx len) len 300 0 (dr0 clt wdt) = .inr dd) : mtI l D cI cC yX6_fault wsX6_fault ({ frames := 7, cells := 0, slots := 0, locals := 160 }) [.ref o] [(o, eEPR t0 a a2 w0 y0 s0 h0 g0 u0 v0), (t0, eTxt tb tn), (tb, eRow tba len), (tba, eArr cI 300 tx), (tn, eRow tna kn), (tna, eArr cI 3 g), (a2, eCan b3 b4 spt het airt snt), (b3, eRow c3 (3 * nct)), (c3, eArr cI 12 clt), (b4, eRow c4 (3 * nwt)), (c4, eArr cI 24 wdt)] (fun (r : Int32) ((cl', nc', wd', nw', sp', he', air', g', kn') : (Nat → Nat) × Nat × (Nat → Nat) × Nat × Nat × Nat × Nat × (Nat → Nat) × Nat) => r = (iI (-4)) ∧ nc' ≤ 4 ∧ nw' ≤ 8 ∧ (∀ j, g' j < 1000) ∧ kn' ≤ 3) (fun ((cl', nc', wd', nw', sp', he', air', g', kn') : (Nat → Nat) × Nat × (Nat → Nat) × Nat × Nat × Nat × Nat × (Nat → Nat) × Nat) => [(o, eEPR t0 a a2 w0 y0 s0 h0 g0 u0 v0), (t0, eTxt tb tn), (tb, eRow tba len), (tba, eArr cI 300 tx), (tn, eRow tna kn'), (tna, eArr cI 3 g'), (a2, eCan b3 b4 sp' he' air' 0), (b3, eRow c3 (3 * nc')), (c3, eArr cI 12 cl'), (b4, eRow c4 (3 * nw')), (c4, eArr cI 24 wd')]) := by
  refine mtI_of (cc := cX6_fault) (maxL := 1) (ret := (some .int)) (by decide) rfl rfl ?_
  intro p e s m below meth c A hx hb hml hr hts hown hlocks hN hA hK hP hD hS ls hl
  have hown : s.vm.findClass RX6 = some m.cls := hown
  have hl : lv_has ls 1 [(0, .ref o)] := hl
  obtain ⟨H, hHe⟩ : ∃ H, H = s.heap := ⟨_, rfl⟩
  rw [← hHe] at hP ⊢
  have hS : va_S A s.heap H [] := by rw [hHe]; exact va_S.rf
  have fl12 := hts (.fieldLink RX6 12 "EchoPaysRent" "text" "LEchoPaysRent$Text;") (by decide +kernel)
  have inX6 : ∀ w ∈ wsX60, w ∈ wsX6_fault := by decide +kernel
  have fl23 := hts (.fieldLink RX6 23 "EchoPaysRent" "trial" "LEchoPaysRent$Canyon;") (by decide +kernel)
  refine lv_aload_n hx hb dX6_fault_0 rfl (lv_at hl 0 rfl) ?_
  refine va_get (D := D) (ci := 6) (v := .ref t0) (C := RX6) (T := TX6) (N := 10) hx hb hts inX6 hown hK hP 0 rfl rfl 0 (by decide) fl12 (fun _ h9 => h9) rfl dX6_fault_1 ?_
  refine lv_aload_n hx hb dX6_fault_4 rfl (lv_at hl 0 rfl) ?_
  refine va_get (D := D) (ci := 6) (v := .ref a2) (C := RX6) (T := TX6) (N := 10) hx hb hts inX6 hown hK hP 0 rfl rfl 2 (by decide) fl23 (fun _ h9 => h9) rfl dX6_fault_5 ?_
  refine k_V (q := (RX4, TX4, 2)) (ci := 4) (As := [.ref a2]) (wr := [(o, eEPR t0 a a2 w0 y0 s0 h0 g0 u0 v0)]) ⟨hx, hb, hml, hown, hts⟩ (c_X4_readInto l D cI cC t0 tb tba tn tx len (by omega) tna g kn a2 b3 c3 b4 c4 clt nct wdt nwt spt het airt snt hB (by omega) (by omega)) (cwV 1 hts gX6_fault_X4_readInto rfl rfl rfl (by decide +kernel) ⟨Nat.le_of_ble_eq_true rfl, Nat.le_of_ble_eq_true rfl⟩) rfl hl.1 rfl (Nat.le_of_ble_eq_true rfl) dX6_fault_8 ⟨Nat.zero_le _, Nat.zero_le _⟩ hN hK hP hD hS hA rfl (q0 := 1) rfl [1, 2, 3, 4, 5, 6, 7, 8, 9, 10] [0] rfl rfl ⟨rfl, rfl, by decide⟩ (fun r1 u H locs w12 hP hD hS => ?_)
  obtain ⟨cl'2, nc'3, wd'4, nw'5, sp'6, he'7, air'8, pf9, g'10, kn'11⟩ := u
  obtain ⟨rfl, h13, h14, h15, h16, h17, h18⟩ | ⟨rfl, h19, h20, h21, h22, h23⟩ : (r1 = (nI pf9) ∧ readM (byM tx len) len 300 0 (dr0 clt wdt) = .inl pf9 ∧ nc'3 ≤ 4 ∧ nw'5 ≤ 8 ∧ (∀ j, g'10 j < 1000) ∧ kn'11 ≤ 3 ∧ pf9 < 300) ∨ (r1 = (iI (-4)) ∧ readM (byM tx len) len 300 0 (dr0 clt wdt) = .inr (cl'2, nc'3, wd'4, nw'5, sp'6, he'7, air'8) ∧ nc'3 ≤ 4 ∧ nw'5 ≤ 8 ∧ (∀ j, g'10 j < 1000) ∧ kn'11 ≤ 3) := w12
  · exact absurd (h13.symm.trans hr0) (by intro hh; cases hh)
  · exact x_iret hx hb hr hlocks dX6_fault_11 rfl (post := fun (r : Int32) ((cl', nc', wd', nw', sp', he', air', g', kn') : (Nat → Nat) × Nat × (Nat → Nat) × Nat × Nat × Nat × Nat × (Nat → Nat) × Nat) => r = (iI (-4)) ∧ nc' ≤ 4 ∧ nw' ≤ 8 ∧ (∀ j, g' j < 1000) ∧ kn' ≤ 3) (w1 := fun ((cl', nc', wd', nw', sp', he', air', g', kn') : (Nat → Nat) × Nat × (Nat → Nat) × Nat × Nat × Nat × Nat × (Nat → Nat) × Nat) => [(o, eEPR t0 a a2 w0 y0 s0 h0 g0 u0 v0), (t0, eTxt tb tn), (tb, eRow tba len), (tba, eArr cI 300 tx), (tn, eRow tna kn'), (tna, eArr cI 3 g'), (a2, eCan b3 b4 sp' he' air' 0), (b3, eRow c3 (3 * nc')), (c3, eArr cI 12 cl'), (b4, eRow c4 (3 * nw')), (c4, eArr cI 24 wd')]) (cl'2, nc'3, wd'4, nw'5, sp'6, he'7, air'8, g'10, kn'11) ⟨rfl, by omega, by omega, by assumption, by omega⟩ hK hP hD hS
