set_option maxRecDepth 100000 in
set_option maxHeartbeats 4000000 in
theorem c_X7_say_lt (l : Launch) (D : va_G) (cI cC : ClassId) (rr : Nat) (ad : Nat → Nat) (len : Nat) (kp : Nat) (uo : Nat) (tm : Nat) (em : Nat) (pc0 : Nat) (un : Nat → Nat) (spa : Nat → Nat) (hea : Nat → Nat) (sna : Nat → Nat) (wma : Nat → Nat) (be : Nat → Nat) (va : Nat → Nat) (lo : Nat → Nat) (x : Nat) (y : Nat) (z : Nat) (hu : uo < 8) (hxx : x ≤ 30 ∧ 1 ≤ y ∧ y ≤ 7 ∧ 1 ≤ z ∧ z ≤ 60 ∧ wma 0 < 8) : mtI l D cI cC yX7_say wsX7_say ({ frames := 2, cells := 0, slots := 0, locals := 47 }) [.ref rr, .int (nI x), .int (nI y), .int (nI z)] [(rr, eMod ad len kp uo tm em pc0), (ad 14, eArr cI 32 un), (ad 11, eArr cI 4 spa), (ad 12, eArr cI 4 hea), (ad 13, eArr cI 4 sna), (ad 7, eArr cI 4 wma), (ad 8, eArr cI 32 be), (ad 9, eArr cI 32 va), (ad 10, eArr cI 32 lo)] (fun (r : Int32) (_ : Unit) => r = (nI (wma 0 + 1))) (fun (_ : Unit) => [(rr, eMod ad len kp (uo + 1) tm em pc0), (ad 14, eArr cI 32 (upN (upN (upN (upN un (4 * uo) (spa 0)) (4 * uo + 1) (hea 0)) (4 * uo + 2) (sna 0)) (4 * uo + 3) (wma 0))), (ad 11, eArr cI 4 spa), (ad 12, eArr cI 4 hea), (ad 13, eArr cI 4 sna), (ad 7, eArr cI 4 (upN wma 0 (wma 0 + 1))), (ad 8, eArr cI 32 (upN be (8 * 0 + wma 0) x)), (ad 9, eArr cI 32 (upN va (8 * 0 + wma 0) y)), (ad 10, eArr cI 32 (upN lo (8 * 0 + wma 0) z))]) := by
  refine mtI_of (cc := cX7_say) (maxL := 4) (ret := (some .int)) (by decide) rfl rfl ?_
  intro p e s m below meth c A hx hb hml hr hts hown hlocks hN hA hK hP hD hS ls hl
  have hown : s.vm.findClass RX7 = some m.cls := hown
  have hl : lv_has ls 4 [(0, .ref rr), (1, .int (nI x)), (2, .int (nI y)), (3, .int (nI z))] := hl
  obtain ⟨H, hHe⟩ : ∃ H, H = s.heap := ⟨_, rfl⟩
  rw [← hHe] at hP ⊢
  have hS : va_S A s.heap H [] := by rw [hHe]; exact va_S.rf
  have fl28 := hts (.fieldLink RX7 28 "EchoPaysRentModel" "wordMany" "[I") (by decide +kernel)
  have inX7 : ∀ w ∈ wsX70, w ∈ wsX7_say := by decide +kernel
  refine lv_iload_n hx hb dX7_say_0 rfl (lv_at hl 1 rfl) ?_
  refine lv_iload_n hx hb dX7_say_1 rfl (lv_at hl 2 rfl) ?_
  refine lv_iload_n hx hb dX7_say_2 rfl (lv_at hl 3 rfl) ?_
  refine k_S (As := [.int (iI (((x : Nat) : Int))), .int (iI (((y : Nat) : Int))), .int (iI (((z : Nat) : Int)))]) (wr := [(rr, eMod ad len kp uo tm em pc0), (ad 14, eArr cI 32 un), (ad 11, eArr cI 4 spa), (ad 12, eArr cI 4 hea), (ad 13, eArr cI 4 sna), (ad 7, eArr cI 4 wma), (ad 8, eArr cI 32 be), (ad 9, eArr cI 32 va), (ad 10, eArr cI 32 lo)]) ⟨hx, hb, hml, hown, hts⟩ (c_X7_isWord l D cI cC (((x : Nat) : Int)) (((y : Nat) : Int)) (((z : Nat) : Int)) (by omega) (by omega) (by omega)) (cwS 3 hts gX7_say_X7_isWord rfl rfl rfl (by decide +kernel) ⟨Nat.le_of_ble_eq_true rfl, Nat.le_of_ble_eq_true rfl⟩) rfl hl.1 (by simp only [nI_iI]; rfl) (Nat.le_of_ble_eq_true rfl) dX7_say_3 ⟨Nat.zero_le _, Nat.zero_le _⟩ hN hK hP hD hS hA [] [0, 1, 2, 3, 4, 5, 6, 7, 8] rfl rfl ⟨rfl, rfl, by decide⟩ (fun r1 u H locs w2 hP hD hS => ?_)
  obtain ⟨rfl, h3, h4, h5, h6, h7, h8⟩ | ⟨rfl, h9⟩ : (r1 = (nI 1) ∧ 0 ≤ (((x : Nat) : Int)) ∧ (((x : Nat) : Int)) ≤ 30 ∧ 1 ≤ (((y : Nat) : Int)) ∧ (((y : Nat) : Int)) ≤ 7 ∧ 1 ≤ (((z : Nat) : Int)) ∧ (((z : Nat) : Int)) ≤ 60) ∨ (r1 = (nI 0) ∧ ((((x : Nat) : Int)) < 0 ∨ 30 < (((x : Nat) : Int)) ∨ (((y : Nat) : Int)) < 1 ∨ 7 < (((y : Nat) : Int)) ∨ (((z : Nat) : Int)) < 1 ∨ 60 < (((z : Nat) : Int)))) := w2
  · refine x_if_ne (tgt := 11) hx hb dX7_say_6 (by decide) (by omega) (fun h10 => ?_) (fun h10 => False.elim (by omega))
    refine lv_aload_n hx hb dX7_say_11 rfl (lv_at hl 0 rfl) ?_
    refine va_get (D := D) (ci := 7) (v := .ref (ad 7)) (C := RX7) (T := TX7) (N := 28) hx hb hts inX7 hown hK hP 0 rfl rfl 7 (by decide) fl28 (fun _ h9 => h9) rfl dX7_say_12 ?_
    refine lv_iconst (v := (nI 0)) hx hb dX7_say_15 (by decide) ?_
    refine x_iald (A := A) hx hb hK hP 5 0 rfl rfl dX7_say_16 (by omega) (by omega) ?_
    refine lv_bipush (v := (nI 8)) hx hb dX7_say_17 (by decide) ?_
    refine x_icmp_ne (tgt := 25) hx hb dX7_say_19 (by decide) (by omega) (by omega) (fun h11 => ?_) (fun h11 => False.elim (by omega))
    refine lv_aload_n hx hb dX7_say_25 rfl (lv_at hl 0 rfl) ?_
    refine k_Vv (q := (RX7, TX7, 28)) (ci := 7) (As := []) (wr := [(ad 8, eArr cI 32 be), (ad 9, eArr cI 32 va), (ad 10, eArr cI 32 lo)]) ⟨hx, hb, hml, hown, hts⟩ (c_X7_note_lt l D cI cC rr ad len kp uo tm em pc0 un spa hea sna wma (by omega)) (cwV 0 hts gX7_say_X7_note rfl rfl rfl (by decide +kernel) ⟨Nat.le_of_ble_eq_true rfl, Nat.le_of_ble_eq_true rfl⟩) rfl hl.1 rfl (Nat.le_of_ble_eq_true rfl) dX7_say_26 ⟨Nat.zero_le _, Nat.zero_le _⟩ hN hK hP hD hS hA rfl (q0 := 0) rfl [0, 1, 2, 3, 4, 5] [6, 7, 8] rfl rfl ⟨rfl, rfl, by decide⟩ (fun u H locs w13 hP hD hS => ?_)
    refine lv_aload_n hx hb dX7_say_29 rfl (lv_at hl 0 rfl) ?_
    refine lv_iconst (v := (nI 0)) hx hb dX7_say_30 (by decide) ?_
    refine lv_iload_n hx hb dX7_say_31 rfl (lv_at hl 1 rfl) ?_
    refine lv_iload_n hx hb dX7_say_32 rfl (lv_at hl 2 rfl) ?_
    refine lv_iload_n hx hb dX7_say_33 rfl (lv_at hl 3 rfl) ?_
    refine k_Vv (q := (RX7, TX7, 28)) (ci := 7) (As := [.int (nI 0), .int (nI x), .int (nI y), .int (nI z)]) (wr := [(ad 14, eArr cI 32 (upN (upN (upN (upN un (4 * uo) (spa 0)) (4 * uo + 1) (hea 0)) (4 * uo + 2) (sna 0)) (4 * uo + 3) (wma 0))), (ad 11, eArr cI 4 spa), (ad 12, eArr cI 4 hea), (ad 13, eArr cI 4 sna)]) ⟨hx, hb, hml, hown, hts⟩ (c_X7_addWord l D cI cC rr ad len kp (uo + 1) tm em pc0 wma be va lo 0 x y z (by omega)) (cwV 4 hts gX7_say_X7_addWord rfl rfl rfl (by decide +kernel) ⟨Nat.le_of_ble_eq_true rfl, Nat.le_of_ble_eq_true rfl⟩) rfl hl.1 rfl (Nat.le_of_ble_eq_true rfl) dX7_say_34 ⟨Nat.zero_le _, Nat.zero_le _⟩ hN hK hP hD hS hA rfl (q0 := 3) rfl [3, 8, 0, 1, 2] [4, 5, 6, 7] rfl rfl ⟨rfl, rfl, by decide⟩ (fun u H locs w15 hP hD hS => ?_)
    refine lv_aload_n hx hb dX7_say_37 rfl (lv_at hl 0 rfl) ?_
    refine va_get (D := D) (ci := 7) (v := .ref (ad 7)) (C := RX7) (T := TX7) (N := 28) hx hb hts inX7 hown hK hP 4 rfl rfl 7 (by decide) fl28 (fun _ h9 => h9) rfl dX7_say_38 ?_
    refine lv_iconst (v := (nI 0)) hx hb dX7_say_41 (by decide) ?_
    refine x_iald (A := A) hx hb hK hP 5 0 rfl rfl dX7_say_42 (by omega) (by omega) ?_
    exact x_iret hx hb hr hlocks dX7_say_43 rfl (post := fun (r : Int32) (_ : Unit) => r = (nI (wma 0 + 1))) (w1 := fun (_ : Unit) => [(rr, eMod ad len kp (uo + 1) tm em pc0), (ad 14, eArr cI 32 (upN (upN (upN (upN un (4 * uo) (spa 0)) (4 * uo + 1) (hea 0)) (4 * uo + 2) (sna 0)) (4 * uo + 3) (wma 0))), (ad 11, eArr cI 4 spa), (ad 12, eArr cI 4 hea), (ad 13, eArr cI 4 sna), (ad 7, eArr cI 4 (upN wma 0 (wma 0 + 1))), (ad 8, eArr cI 32 (upN be (8 * 0 + wma 0) x)), (ad 9, eArr cI 32 (upN va (8 * 0 + wma 0) y)), (ad 10, eArr cI 32 (upN lo (8 * 0 + wma 0) z))]) () (congrArg nI (upN_s _ _ _)) hK (hP.sub [4, 0, 1, 2, 3, 5, 6, 7, 8] rfl) (hD.sub [4, 0, 1, 2, 3, 5, 6, 7, 8] rfl rfl) hS
  · exact False.elim (by omega)

set_option maxRecDepth 100000 in
set_option maxHeartbeats 4000000 in
theorem c_X7_say_full (l : Launch) (D : va_G) (cI cC : ClassId) (rr : Nat) (ad : Nat → Nat) (len : Nat) (kp : Nat) (uo : Nat) (tm : Nat) (em : Nat) (pc0 : Nat) (un : Nat → Nat) (spa : Nat → Nat) (hea : Nat → Nat) (sna : Nat → Nat) (wma : Nat → Nat) (be : Nat → Nat) (va : Nat → Nat) (lo : Nat → Nat) (x : Nat) (y : Nat) (z : Nat) (hu : uo = 8) (hxx : x ≤ 30 ∧ 1 ≤ y ∧ y ≤ 7 ∧ 1 ≤ z ∧ z ≤ 60 ∧ wma 0 < 8) : mtI l D cI cC yX7_say wsX7_say ({ frames := 2, cells := 0, slots := 0, locals := 47 }) [.ref rr, .int (nI x), .int (nI y), .int (nI z)] [(rr, eMod ad len kp uo tm em pc0), (ad 14, eArr cI 32 un), (ad 11, eArr cI 4 spa), (ad 12, eArr cI 4 hea), (ad 13, eArr cI 4 sna), (ad 7, eArr cI 4 wma), (ad 8, eArr cI 32 be), (ad 9, eArr cI 32 va), (ad 10, eArr cI 32 lo)] (fun (r : Int32) (_ : Unit) => r = (nI (wma 0 + 1))) (fun (_ : Unit) => [(rr, eMod ad len kp (uo - 1 + 1) tm em pc0), (ad 14, eArr cI 32 (upN (upN (upN (upN (shf un 28) (4 * ((uo - 1))) (spa 0)) (4 * ((uo - 1)) + 1) (hea 0)) (4 * ((uo - 1)) + 2) (sna 0)) (4 * ((uo - 1)) + 3) (wma 0))), (ad 11, eArr cI 4 spa), (ad 12, eArr cI 4 hea), (ad 13, eArr cI 4 sna), (ad 7, eArr cI 4 (upN wma 0 (wma 0 + 1))), (ad 8, eArr cI 32 (upN be (8 * 0 + wma 0) x)), (ad 9, eArr cI 32 (upN va (8 * 0 + wma 0) y)), (ad 10, eArr cI 32 (upN lo (8 * 0 + wma 0) z))]) := by
  refine mtI_of (cc := cX7_say) (maxL := 4) (ret := (some .int)) (by decide) rfl rfl ?_
  intro p e s m below meth c A hx hb hml hr hts hown hlocks hN hA hK hP hD hS ls hl
  have hown : s.vm.findClass RX7 = some m.cls := hown
  have hl : lv_has ls 4 [(0, .ref rr), (1, .int (nI x)), (2, .int (nI y)), (3, .int (nI z))] := hl
  obtain ⟨H, hHe⟩ : ∃ H, H = s.heap := ⟨_, rfl⟩
  rw [← hHe] at hP ⊢
  have hS : va_S A s.heap H [] := by rw [hHe]; exact va_S.rf
  have fl28 := hts (.fieldLink RX7 28 "EchoPaysRentModel" "wordMany" "[I") (by decide +kernel)
  have inX7 : ∀ w ∈ wsX70, w ∈ wsX7_say := by decide +kernel
  refine lv_iload_n hx hb dX7_say_0 rfl (lv_at hl 1 rfl) ?_
  refine lv_iload_n hx hb dX7_say_1 rfl (lv_at hl 2 rfl) ?_
  refine lv_iload_n hx hb dX7_say_2 rfl (lv_at hl 3 rfl) ?_
  refine k_S (As := [.int (iI (((x : Nat) : Int))), .int (iI (((y : Nat) : Int))), .int (iI (((z : Nat) : Int)))]) (wr := [(rr, eMod ad len kp uo tm em pc0), (ad 14, eArr cI 32 un), (ad 11, eArr cI 4 spa), (ad 12, eArr cI 4 hea), (ad 13, eArr cI 4 sna), (ad 7, eArr cI 4 wma), (ad 8, eArr cI 32 be), (ad 9, eArr cI 32 va), (ad 10, eArr cI 32 lo)]) ⟨hx, hb, hml, hown, hts⟩ (c_X7_isWord l D cI cC (((x : Nat) : Int)) (((y : Nat) : Int)) (((z : Nat) : Int)) (by omega) (by omega) (by omega)) (cwS 3 hts gX7_say_X7_isWord rfl rfl rfl (by decide +kernel) ⟨Nat.le_of_ble_eq_true rfl, Nat.le_of_ble_eq_true rfl⟩) rfl hl.1 (by simp only [nI_iI]; rfl) (Nat.le_of_ble_eq_true rfl) dX7_say_3 ⟨Nat.zero_le _, Nat.zero_le _⟩ hN hK hP hD hS hA [] [0, 1, 2, 3, 4, 5, 6, 7, 8] rfl rfl ⟨rfl, rfl, by decide⟩ (fun r1 u H locs w2 hP hD hS => ?_)
  obtain ⟨rfl, h3, h4, h5, h6, h7, h8⟩ | ⟨rfl, h9⟩ : (r1 = (nI 1) ∧ 0 ≤ (((x : Nat) : Int)) ∧ (((x : Nat) : Int)) ≤ 30 ∧ 1 ≤ (((y : Nat) : Int)) ∧ (((y : Nat) : Int)) ≤ 7 ∧ 1 ≤ (((z : Nat) : Int)) ∧ (((z : Nat) : Int)) ≤ 60) ∨ (r1 = (nI 0) ∧ ((((x : Nat) : Int)) < 0 ∨ 30 < (((x : Nat) : Int)) ∨ (((y : Nat) : Int)) < 1 ∨ 7 < (((y : Nat) : Int)) ∨ (((z : Nat) : Int)) < 1 ∨ 60 < (((z : Nat) : Int)))) := w2
  · refine x_if_ne (tgt := 11) hx hb dX7_say_6 (by decide) (by omega) (fun h10 => ?_) (fun h10 => False.elim (by omega))
    refine lv_aload_n hx hb dX7_say_11 rfl (lv_at hl 0 rfl) ?_
    refine va_get (D := D) (ci := 7) (v := .ref (ad 7)) (C := RX7) (T := TX7) (N := 28) hx hb hts inX7 hown hK hP 0 rfl rfl 7 (by decide) fl28 (fun _ h9 => h9) rfl dX7_say_12 ?_
    refine lv_iconst (v := (nI 0)) hx hb dX7_say_15 (by decide) ?_
    refine x_iald (A := A) hx hb hK hP 5 0 rfl rfl dX7_say_16 (by omega) (by omega) ?_
    refine lv_bipush (v := (nI 8)) hx hb dX7_say_17 (by decide) ?_
    refine x_icmp_ne (tgt := 25) hx hb dX7_say_19 (by decide) (by omega) (by omega) (fun h11 => ?_) (fun h11 => False.elim (by omega))
    refine lv_aload_n hx hb dX7_say_25 rfl (lv_at hl 0 rfl) ?_
    refine k_Vv (q := (RX7, TX7, 28)) (ci := 7) (As := []) (wr := [(ad 8, eArr cI 32 be), (ad 9, eArr cI 32 va), (ad 10, eArr cI 32 lo)]) ⟨hx, hb, hml, hown, hts⟩ (c_X7_note_full l D cI cC rr ad len kp uo tm em pc0 un spa hea sna wma (by omega)) (cwV 0 hts gX7_say_X7_note rfl rfl rfl (by decide +kernel) ⟨Nat.le_of_ble_eq_true rfl, Nat.le_of_ble_eq_true rfl⟩) rfl hl.1 rfl (Nat.le_of_ble_eq_true rfl) dX7_say_26 ⟨Nat.zero_le _, Nat.zero_le _⟩ hN hK hP hD hS hA rfl (q0 := 0) rfl [0, 1, 2, 3, 4, 5] [6, 7, 8] rfl rfl ⟨rfl, rfl, by decide⟩ (fun u H locs w13 hP hD hS => ?_)
    refine lv_aload_n hx hb dX7_say_29 rfl (lv_at hl 0 rfl) ?_
    refine lv_iconst (v := (nI 0)) hx hb dX7_say_30 (by decide) ?_
    refine lv_iload_n hx hb dX7_say_31 rfl (lv_at hl 1 rfl) ?_
    refine lv_iload_n hx hb dX7_say_32 rfl (lv_at hl 2 rfl) ?_
    refine lv_iload_n hx hb dX7_say_33 rfl (lv_at hl 3 rfl) ?_
    refine k_Vv (q := (RX7, TX7, 28)) (ci := 7) (As := [.int (nI 0), .int (nI x), .int (nI y), .int (nI z)]) (wr := [(ad 14, eArr cI 32 (upN (upN (upN (upN (shf un 28) (4 * ((uo - 1))) (spa 0)) (4 * ((uo - 1)) + 1) (hea 0)) (4 * ((uo - 1)) + 2) (sna 0)) (4 * ((uo - 1)) + 3) (wma 0))), (ad 11, eArr cI 4 spa), (ad 12, eArr cI 4 hea), (ad 13, eArr cI 4 sna)]) ⟨hx, hb, hml, hown, hts⟩ (c_X7_addWord l D cI cC rr ad len kp (uo - 1 + 1) tm em pc0 wma be va lo 0 x y z (by omega)) (cwV 4 hts gX7_say_X7_addWord rfl rfl rfl (by decide +kernel) ⟨Nat.le_of_ble_eq_true rfl, Nat.le_of_ble_eq_true rfl⟩) rfl hl.1 rfl (Nat.le_of_ble_eq_true rfl) dX7_say_34 ⟨Nat.zero_le _, Nat.zero_le _⟩ hN hK hP hD hS hA rfl (q0 := 3) rfl [3, 8, 0, 1, 2] [4, 5, 6, 7] rfl rfl ⟨rfl, rfl, by decide⟩ (fun u H locs w15 hP hD hS => ?_)
    refine lv_aload_n hx hb dX7_say_37 rfl (lv_at hl 0 rfl) ?_
    refine va_get (D := D) (ci := 7) (v := .ref (ad 7)) (C := RX7) (T := TX7) (N := 28) hx hb hts inX7 hown hK hP 4 rfl rfl 7 (by decide) fl28 (fun _ h9 => h9) rfl dX7_say_38 ?_
    refine lv_iconst (v := (nI 0)) hx hb dX7_say_41 (by decide) ?_
    refine x_iald (A := A) hx hb hK hP 5 0 rfl rfl dX7_say_42 (by omega) (by omega) ?_
    exact x_iret hx hb hr hlocks dX7_say_43 rfl (post := fun (r : Int32) (_ : Unit) => r = (nI (wma 0 + 1))) (w1 := fun (_ : Unit) => [(rr, eMod ad len kp (uo - 1 + 1) tm em pc0), (ad 14, eArr cI 32 (upN (upN (upN (upN (shf un 28) (4 * ((uo - 1))) (spa 0)) (4 * ((uo - 1)) + 1) (hea 0)) (4 * ((uo - 1)) + 2) (sna 0)) (4 * ((uo - 1)) + 3) (wma 0))), (ad 11, eArr cI 4 spa), (ad 12, eArr cI 4 hea), (ad 13, eArr cI 4 sna), (ad 7, eArr cI 4 (upN wma 0 (wma 0 + 1))), (ad 8, eArr cI 32 (upN be (8 * 0 + wma 0) x)), (ad 9, eArr cI 32 (upN va (8 * 0 + wma 0) y)), (ad 10, eArr cI 32 (upN lo (8 * 0 + wma 0) z))]) () (congrArg nI (upN_s _ _ _)) hK (hP.sub [4, 0, 1, 2, 3, 5, 6, 7, 8] rfl) (hD.sub [4, 0, 1, 2, 3, 5, 6, 7, 8] rfl rfl) hS
  · exact False.elim (by omega)

set_option maxRecDepth 100000 in
set_option maxHeartbeats 4000000 in
theorem c_X7_snow_lt (l : Launch) (D : va_G) (cI cC : ClassId) (rr : Nat) (ad : Nat → Nat) (len : Nat) (kp : Nat) (uo : Nat) (tm : Nat) (em : Nat) (pc0 : Nat) (un : Nat → Nat) (spa : Nat → Nat) (hea : Nat → Nat) (sna : Nat → Nat) (wma : Nat → Nat) (fm : Nat → Nat) (x : Nat) (hu : uo < 8) (hf4 : fm 0 ≤ 4) (hxx : x ≤ 2 ^ (fm 0) - 1) : mtI l D cI cC yX7_snow wsX7_snow ({ frames := 1, cells := 0, slots := 0, locals := 25 }) [.ref rr, .int (nI x)] [(rr, eMod ad len kp uo tm em pc0), (ad 14, eArr cI 32 un), (ad 11, eArr cI 4 spa), (ad 12, eArr cI 4 hea), (ad 13, eArr cI 4 sna), (ad 7, eArr cI 4 wma), (ad 2, eArr cI 2 fm)] (fun (r : Int32) (_ : Unit) => r = (nI (sna 0))) (fun (_ : Unit) => [(rr, eMod ad len kp (uo + 1) tm em pc0), (ad 14, eArr cI 32 (upN (upN (upN (upN un (4 * uo) (spa 0)) (4 * uo + 1) (hea 0)) (4 * uo + 2) (sna 0)) (4 * uo + 3) (wma 0))), (ad 11, eArr cI 4 spa), (ad 12, eArr cI 4 hea), (ad 13, eArr cI 4 (upN sna 0 x)), (ad 7, eArr cI 4 wma), (ad 2, eArr cI 2 fm)]) := by
  refine mtI_of (cc := cX7_snow) (maxL := 3) (ret := (some .int)) (by decide) rfl rfl ?_
  intro p e s m below meth c A hx hb hml hr hts hown hlocks hN hA hK hP hD hS ls hl
  have hown : s.vm.findClass RX7 = some m.cls := hown
  have hl : lv_has ls 3 [(0, .ref rr), (1, .int (nI x))] := hl
  obtain ⟨H, hHe⟩ : ∃ H, H = s.heap := ⟨_, rfl⟩
  rw [← hHe] at hP ⊢
  have hS : va_S A s.heap H [] := by rw [hHe]; exact va_S.rf
  have fl13 := hts (.fieldLink RX7 13 "EchoPaysRentModel" "faceMany" "[I") (by decide +kernel)
  have inX7 : ∀ w ∈ wsX70, w ∈ wsX7_snow := by decide +kernel
  have fl46 := hts (.fieldLink RX7 46 "EchoPaysRentModel" "snow" "[I") (by decide +kernel)
  have f1 : 2 ^ (fm 0) ≤ 256 := pow8 (by omega)
  have f2 : 1 ≤ 2 ^ (fm 0) := Nat.one_le_two_pow
  refine lv_iload_n hx hb dX7_snow_0 rfl (lv_at hl 1 rfl) ?_
  refine n_i2l hx hb dX7_snow_1 (by omega) ?_
  refine lv_lconst (v := lN 0) hx hb dX7_snow_2 rfl ?_
  refine lv_iconst (v := (nI 1)) hx hb dX7_snow_3 (by decide) ?_
  refine lv_aload_n hx hb dX7_snow_4 rfl (lv_at hl 0 rfl) ?_
  refine va_get (D := D) (ci := 7) (v := .ref (ad 2)) (C := RX7) (T := TX7) (N := 28) hx hb hts inX7 hown hK hP 0 rfl rfl 2 (by decide) fl13 (fun _ h9 => h9) rfl dX7_snow_5 ?_
  refine lv_iconst (v := (nI 0)) hx hb dX7_snow_8 (by decide) ?_
  refine x_iald (A := A) hx hb hK hP 6 0 rfl rfl dX7_snow_9 (by omega) (by omega) ?_
  refine x_shl1 hx hb dX7_snow_10 (by omega) ?_
  refine lv_iconst (v := (nI 1)) hx hb dX7_snow_11 (by decide) ?_
  refine x_isub hx hb dX7_snow_12 (by omega) ?_
  refine n_i2l hx hb dX7_snow_13 (by omega) ?_
  refine k_S (As := [.long (lI (((x : Nat) : Int))), .long (lI (((0 : Nat) : Int))), .long (lI ((((2 ^ (fm 0)) - 1 : Nat) : Int)))]) (wr := [(rr, eMod ad len kp uo tm em pc0), (ad 14, eArr cI 32 un), (ad 11, eArr cI 4 spa), (ad 12, eArr cI 4 hea), (ad 13, eArr cI 4 sna), (ad 7, eArr cI 4 wma), (ad 2, eArr cI 2 fm)]) ⟨hx, hb, hml, hown, hts⟩ (c_X7_in l D cI cC (((x : Nat) : Int)) (((0 : Nat) : Int)) ((((2 ^ (fm 0)) - 1 : Nat) : Int)) (by omega) (by omega) (by omega)) (cwS 3 hts gX7_snow_X7_in rfl rfl rfl (by decide +kernel) ⟨Nat.le_of_ble_eq_true rfl, Nat.le_of_ble_eq_true rfl⟩) rfl hl.1 (by simp only [nI_iI, lN_lI]; rfl) (Nat.le_of_ble_eq_true rfl) dX7_snow_14 ⟨Nat.zero_le _, Nat.zero_le _⟩ hN hK hP hD hS hA [] [0, 1, 2, 3, 4, 5, 6] rfl rfl ⟨rfl, rfl, by decide⟩ (fun r3 u H locs w4 hP hD hS => ?_)
  obtain ⟨rfl, h5, h6⟩ | ⟨rfl, h7⟩ : (r3 = (nI 1) ∧ (((0 : Nat) : Int)) ≤ (((x : Nat) : Int)) ∧ (((x : Nat) : Int)) ≤ ((((2 ^ (fm 0)) - 1 : Nat) : Int))) ∨ (r3 = (nI 0) ∧ ((((x : Nat) : Int)) < (((0 : Nat) : Int)) ∨ ((((2 ^ (fm 0)) - 1 : Nat) : Int)) < (((x : Nat) : Int)))) := w4
  · refine x_if_ne (tgt := 22) hx hb dX7_snow_17 (by decide) (by omega) (fun h8 => ?_) (fun h8 => False.elim (by omega))
    refine lv_aload_n hx hb dX7_snow_22 rfl (lv_at hl 0 rfl) ?_
    refine k_Vv (q := (RX7, TX7, 28)) (ci := 7) (As := []) (wr := [(ad 2, eArr cI 2 fm)]) ⟨hx, hb, hml, hown, hts⟩ (c_X7_note_lt l D cI cC rr ad len kp uo tm em pc0 un spa hea sna wma (by omega)) (cwV 0 hts gX7_snow_X7_note rfl rfl rfl (by decide +kernel) ⟨Nat.le_of_ble_eq_true rfl, Nat.le_of_ble_eq_true rfl⟩) rfl hl.1 rfl (Nat.le_of_ble_eq_true rfl) dX7_snow_23 ⟨Nat.zero_le _, Nat.zero_le _⟩ hN hK hP hD hS hA rfl (q0 := 0) rfl [0, 1, 2, 3, 4, 5] [6] rfl rfl ⟨rfl, rfl, by decide⟩ (fun u H locs w10 hP hD hS => ?_)
    refine lv_aload_n hx hb dX7_snow_26 rfl (lv_at hl 0 rfl) ?_
    refine va_get (D := D) (ci := 7) (v := .ref (ad 13)) (C := RX7) (T := TX7) (N := 28) hx hb hts inX7 hown hK hP 1 rfl rfl 13 (by decide) fl46 (fun _ h9 => h9) rfl dX7_snow_27 ?_
    refine lv_iconst (v := (nI 0)) hx hb dX7_snow_30 (by decide) ?_
    refine x_iald (A := A) hx hb hK hP 5 0 rfl rfl dX7_snow_31 (by omega) (by omega) ?_
    refine lv_istore_n (lv' := [(2, .int (nI (sna 0))), (0, .ref rr), (1, .int (nI x))]) hx hb dX7_snow_32 rfl hl (by decide) rfl (fun ls hl => ?_)
    refine lv_aload_n hx hb dX7_snow_33 rfl (lv_at hl 1 rfl) ?_
    refine va_get (D := D) (ci := 7) (v := .ref (ad 13)) (C := RX7) (T := TX7) (N := 28) hx hb hts inX7 hown hK hP 1 rfl rfl 13 (by decide) fl46 (fun _ h9 => h9) rfl dX7_snow_34 ?_
    refine lv_iconst (v := (nI 0)) hx hb dX7_snow_37 (by decide) ?_
    refine lv_iload_n hx hb dX7_snow_38 rfl (lv_at hl 2 rfl) ?_
    refine x_iast (A := A) hx hb hK hP hD hS 5 0 rfl rfl dX7_snow_39 (by omega) (by omega) (fun H locs hP hD hS => ?_)
    have hP : va_P D vwCl [(ad 2, eArr cI 2 fm), (rr, eMod ad len kp (uo + 1) tm em pc0), (ad 14, eArr cI 32 (upN (upN (upN (upN un (4 * uo) (spa 0)) (4 * uo + 1) (hea 0)) (4 * uo + 2) (sna 0)) (4 * uo + 3) (wma 0))), (ad 11, eArr cI 4 spa), (ad 12, eArr cI 4 hea), (ad 13, eArr cI 4 (upN sna 0 x)), (ad 7, eArr cI 4 wma)] H := by have h := hP; rw [upd_nI] at h; exact h
    have hD : va_D A [(ad 2, eArr cI 2 fm), (rr, eMod ad len kp (uo + 1) tm em pc0), (ad 14, eArr cI 32 (upN (upN (upN (upN un (4 * uo) (spa 0)) (4 * uo + 1) (hea 0)) (4 * uo + 2) (sna 0)) (4 * uo + 3) (wma 0))), (ad 11, eArr cI 4 spa), (ad 12, eArr cI 4 hea), (ad 13, eArr cI 4 (upN sna 0 x)), (ad 7, eArr cI 4 wma)] := by have h := hD; rw [upd_nI] at h; exact h
    refine lv_iload_n hx hb dX7_snow_40 rfl (lv_at hl 0 rfl) ?_
    exact x_iret hx hb hr hlocks dX7_snow_41 rfl (post := fun (r : Int32) (_ : Unit) => r = (nI (sna 0))) (w1 := fun (_ : Unit) => [(rr, eMod ad len kp (uo + 1) tm em pc0), (ad 14, eArr cI 32 (upN (upN (upN (upN un (4 * uo) (spa 0)) (4 * uo + 1) (hea 0)) (4 * uo + 2) (sna 0)) (4 * uo + 3) (wma 0))), (ad 11, eArr cI 4 spa), (ad 12, eArr cI 4 hea), (ad 13, eArr cI 4 (upN sna 0 x)), (ad 7, eArr cI 4 wma), (ad 2, eArr cI 2 fm)]) () rfl hK (hP.sub [1, 2, 3, 4, 5, 6, 0] rfl) (hD.sub [1, 2, 3, 4, 5, 6, 0] rfl rfl) hS
  · exact False.elim (by omega)

set_option maxRecDepth 100000 in
set_option maxHeartbeats 4000000 in
theorem c_X7_snow_full (l : Launch) (D : va_G) (cI cC : ClassId) (rr : Nat) (ad : Nat → Nat) (len : Nat) (kp : Nat) (uo : Nat) (tm : Nat) (em : Nat) (pc0 : Nat) (un : Nat → Nat) (spa : Nat → Nat) (hea : Nat → Nat) (sna : Nat → Nat) (wma : Nat → Nat) (fm : Nat → Nat) (x : Nat) (hu : uo = 8) (hf4 : fm 0 ≤ 4) (hxx : x ≤ 2 ^ (fm 0) - 1) : mtI l D cI cC yX7_snow wsX7_snow ({ frames := 1, cells := 0, slots := 0, locals := 25 }) [.ref rr, .int (nI x)] [(rr, eMod ad len kp uo tm em pc0), (ad 14, eArr cI 32 un), (ad 11, eArr cI 4 spa), (ad 12, eArr cI 4 hea), (ad 13, eArr cI 4 sna), (ad 7, eArr cI 4 wma), (ad 2, eArr cI 2 fm)] (fun (r : Int32) (_ : Unit) => r = (nI (sna 0))) (fun (_ : Unit) => [(rr, eMod ad len kp (uo - 1 + 1) tm em pc0), (ad 14, eArr cI 32 (upN (upN (upN (upN (shf un 28) (4 * ((uo - 1))) (spa 0)) (4 * ((uo - 1)) + 1) (hea 0)) (4 * ((uo - 1)) + 2) (sna 0)) (4 * ((uo - 1)) + 3) (wma 0))), (ad 11, eArr cI 4 spa), (ad 12, eArr cI 4 hea), (ad 13, eArr cI 4 (upN sna 0 x)), (ad 7, eArr cI 4 wma), (ad 2, eArr cI 2 fm)]) := by
  refine mtI_of (cc := cX7_snow) (maxL := 3) (ret := (some .int)) (by decide) rfl rfl ?_
  intro p e s m below meth c A hx hb hml hr hts hown hlocks hN hA hK hP hD hS ls hl
  have hown : s.vm.findClass RX7 = some m.cls := hown
  have hl : lv_has ls 3 [(0, .ref rr), (1, .int (nI x))] := hl
  obtain ⟨H, hHe⟩ : ∃ H, H = s.heap := ⟨_, rfl⟩
  rw [← hHe] at hP ⊢
  have hS : va_S A s.heap H [] := by rw [hHe]; exact va_S.rf
  have fl13 := hts (.fieldLink RX7 13 "EchoPaysRentModel" "faceMany" "[I") (by decide +kernel)
  have inX7 : ∀ w ∈ wsX70, w ∈ wsX7_snow := by decide +kernel
  have fl46 := hts (.fieldLink RX7 46 "EchoPaysRentModel" "snow" "[I") (by decide +kernel)
  have f1 : 2 ^ (fm 0) ≤ 256 := pow8 (by omega)
  have f2 : 1 ≤ 2 ^ (fm 0) := Nat.one_le_two_pow
  refine lv_iload_n hx hb dX7_snow_0 rfl (lv_at hl 1 rfl) ?_
  refine n_i2l hx hb dX7_snow_1 (by omega) ?_
  refine lv_lconst (v := lN 0) hx hb dX7_snow_2 rfl ?_
  refine lv_iconst (v := (nI 1)) hx hb dX7_snow_3 (by decide) ?_
  refine lv_aload_n hx hb dX7_snow_4 rfl (lv_at hl 0 rfl) ?_
  refine va_get (D := D) (ci := 7) (v := .ref (ad 2)) (C := RX7) (T := TX7) (N := 28) hx hb hts inX7 hown hK hP 0 rfl rfl 2 (by decide) fl13 (fun _ h9 => h9) rfl dX7_snow_5 ?_
  refine lv_iconst (v := (nI 0)) hx hb dX7_snow_8 (by decide) ?_
  refine x_iald (A := A) hx hb hK hP 6 0 rfl rfl dX7_snow_9 (by omega) (by omega) ?_
  refine x_shl1 hx hb dX7_snow_10 (by omega) ?_
  refine lv_iconst (v := (nI 1)) hx hb dX7_snow_11 (by decide) ?_
  refine x_isub hx hb dX7_snow_12 (by omega) ?_
  refine n_i2l hx hb dX7_snow_13 (by omega) ?_
  refine k_S (As := [.long (lI (((x : Nat) : Int))), .long (lI (((0 : Nat) : Int))), .long (lI ((((2 ^ (fm 0)) - 1 : Nat) : Int)))]) (wr := [(rr, eMod ad len kp uo tm em pc0), (ad 14, eArr cI 32 un), (ad 11, eArr cI 4 spa), (ad 12, eArr cI 4 hea), (ad 13, eArr cI 4 sna), (ad 7, eArr cI 4 wma), (ad 2, eArr cI 2 fm)]) ⟨hx, hb, hml, hown, hts⟩ (c_X7_in l D cI cC (((x : Nat) : Int)) (((0 : Nat) : Int)) ((((2 ^ (fm 0)) - 1 : Nat) : Int)) (by omega) (by omega) (by omega)) (cwS 3 hts gX7_snow_X7_in rfl rfl rfl (by decide +kernel) ⟨Nat.le_of_ble_eq_true rfl, Nat.le_of_ble_eq_true rfl⟩) rfl hl.1 (by simp only [nI_iI, lN_lI]; rfl) (Nat.le_of_ble_eq_true rfl) dX7_snow_14 ⟨Nat.zero_le _, Nat.zero_le _⟩ hN hK hP hD hS hA [] [0, 1, 2, 3, 4, 5, 6] rfl rfl ⟨rfl, rfl, by decide⟩ (fun r3 u H locs w4 hP hD hS => ?_)
  obtain ⟨rfl, h5, h6⟩ | ⟨rfl, h7⟩ : (r3 = (nI 1) ∧ (((0 : Nat) : Int)) ≤ (((x : Nat) : Int)) ∧ (((x : Nat) : Int)) ≤ ((((2 ^ (fm 0)) - 1 : Nat) : Int))) ∨ (r3 = (nI 0) ∧ ((((x : Nat) : Int)) < (((0 : Nat) : Int)) ∨ ((((2 ^ (fm 0)) - 1 : Nat) : Int)) < (((x : Nat) : Int)))) := w4
  · refine x_if_ne (tgt := 22) hx hb dX7_snow_17 (by decide) (by omega) (fun h8 => ?_) (fun h8 => False.elim (by omega))
    refine lv_aload_n hx hb dX7_snow_22 rfl (lv_at hl 0 rfl) ?_
    refine k_Vv (q := (RX7, TX7, 28)) (ci := 7) (As := []) (wr := [(ad 2, eArr cI 2 fm)]) ⟨hx, hb, hml, hown, hts⟩ (c_X7_note_full l D cI cC rr ad len kp uo tm em pc0 un spa hea sna wma (by omega)) (cwV 0 hts gX7_snow_X7_note rfl rfl rfl (by decide +kernel) ⟨Nat.le_of_ble_eq_true rfl, Nat.le_of_ble_eq_true rfl⟩) rfl hl.1 rfl (Nat.le_of_ble_eq_true rfl) dX7_snow_23 ⟨Nat.zero_le _, Nat.zero_le _⟩ hN hK hP hD hS hA rfl (q0 := 0) rfl [0, 1, 2, 3, 4, 5] [6] rfl rfl ⟨rfl, rfl, by decide⟩ (fun u H locs w10 hP hD hS => ?_)
    refine lv_aload_n hx hb dX7_snow_26 rfl (lv_at hl 0 rfl) ?_
    refine va_get (D := D) (ci := 7) (v := .ref (ad 13)) (C := RX7) (T := TX7) (N := 28) hx hb hts inX7 hown hK hP 1 rfl rfl 13 (by decide) fl46 (fun _ h9 => h9) rfl dX7_snow_27 ?_
    refine lv_iconst (v := (nI 0)) hx hb dX7_snow_30 (by decide) ?_
    refine x_iald (A := A) hx hb hK hP 5 0 rfl rfl dX7_snow_31 (by omega) (by omega) ?_
    refine lv_istore_n (lv' := [(2, .int (nI (sna 0))), (0, .ref rr), (1, .int (nI x))]) hx hb dX7_snow_32 rfl hl (by decide) rfl (fun ls hl => ?_)
    refine lv_aload_n hx hb dX7_snow_33 rfl (lv_at hl 1 rfl) ?_
    refine va_get (D := D) (ci := 7) (v := .ref (ad 13)) (C := RX7) (T := TX7) (N := 28) hx hb hts inX7 hown hK hP 1 rfl rfl 13 (by decide) fl46 (fun _ h9 => h9) rfl dX7_snow_34 ?_
    refine lv_iconst (v := (nI 0)) hx hb dX7_snow_37 (by decide) ?_
    refine lv_iload_n hx hb dX7_snow_38 rfl (lv_at hl 2 rfl) ?_
    refine x_iast (A := A) hx hb hK hP hD hS 5 0 rfl rfl dX7_snow_39 (by omega) (by omega) (fun H locs hP hD hS => ?_)
    have hP : va_P D vwCl [(ad 2, eArr cI 2 fm), (rr, eMod ad len kp (uo - 1 + 1) tm em pc0), (ad 14, eArr cI 32 (upN (upN (upN (upN (shf un 28) (4 * ((uo - 1))) (spa 0)) (4 * ((uo - 1)) + 1) (hea 0)) (4 * ((uo - 1)) + 2) (sna 0)) (4 * ((uo - 1)) + 3) (wma 0))), (ad 11, eArr cI 4 spa), (ad 12, eArr cI 4 hea), (ad 13, eArr cI 4 (upN sna 0 x)), (ad 7, eArr cI 4 wma)] H := by have h := hP; rw [upd_nI] at h; exact h
    have hD : va_D A [(ad 2, eArr cI 2 fm), (rr, eMod ad len kp (uo - 1 + 1) tm em pc0), (ad 14, eArr cI 32 (upN (upN (upN (upN (shf un 28) (4 * ((uo - 1))) (spa 0)) (4 * ((uo - 1)) + 1) (hea 0)) (4 * ((uo - 1)) + 2) (sna 0)) (4 * ((uo - 1)) + 3) (wma 0))), (ad 11, eArr cI 4 spa), (ad 12, eArr cI 4 hea), (ad 13, eArr cI 4 (upN sna 0 x)), (ad 7, eArr cI 4 wma)] := by have h := hD; rw [upd_nI] at h; exact h
    refine lv_iload_n hx hb dX7_snow_40 rfl (lv_at hl 0 rfl) ?_
    exact x_iret hx hb hr hlocks dX7_snow_41 rfl (post := fun (r : Int32) (_ : Unit) => r = (nI (sna 0))) (w1 := fun (_ : Unit) => [(rr, eMod ad len kp (uo - 1 + 1) tm em pc0), (ad 14, eArr cI 32 (upN (upN (upN (upN (shf un 28) (4 * ((uo - 1))) (spa 0)) (4 * ((uo - 1)) + 1) (hea 0)) (4 * ((uo - 1)) + 2) (sna 0)) (4 * ((uo - 1)) + 3) (wma 0))), (ad 11, eArr cI 4 spa), (ad 12, eArr cI 4 hea), (ad 13, eArr cI 4 (upN sna 0 x)), (ad 7, eArr cI 4 wma), (ad 2, eArr cI 2 fm)]) () rfl hK (hP.sub [1, 2, 3, 4, 5, 6, 0] rfl) (hD.sub [1, 2, 3, 4, 5, 6, 0] rfl rfl) hS
  · exact False.elim (by omega)

set_option maxRecDepth 100000 in
set_option maxHeartbeats 4000000 in
theorem c_X7_snow_bad (l : Launch) (D : va_G) (cI cC : ClassId) (rr : Nat) (ad : Nat → Nat) (len : Nat) (kp : Nat) (uo : Nat) (tm : Nat) (em : Nat) (pc0 : Nat) (z : Int) (hz : -2147483648 ≤ z ∧ z < 2147483648) (fm : Nat → Nat) (hf4 : fm 0 ≤ 4) (hbad : z < 0 ∨ ((2 ^ (fm 0) - 1 : Nat) : Int) < z) : mtI l D cI cC yX7_snow wsX7_snow ({ frames := 1, cells := 0, slots := 0, locals := 25 }) [.ref rr, .int (iI z)] [(rr, eMod ad len kp uo tm em pc0), (ad 2, eArr cI 2 fm)] (fun (r : Int32) (_ : Unit) => r = (iI (-1))) (fun (_ : Unit) => [(rr, eMod ad len kp uo tm em pc0), (ad 2, eArr cI 2 fm)]) := by
  refine mtI_of (cc := cX7_snow) (maxL := 3) (ret := (some .int)) (by decide) rfl rfl ?_
  intro p e s m below meth c A hx hb hml hr hts hown hlocks hN hA hK hP hD hS ls hl
  have hown : s.vm.findClass RX7 = some m.cls := hown
  have hl : lv_has ls 3 [(0, .ref rr), (1, .int (iI z))] := hl
  obtain ⟨H, hHe⟩ : ∃ H, H = s.heap := ⟨_, rfl⟩
  rw [← hHe] at hP ⊢
  have hS : va_S A s.heap H [] := by rw [hHe]; exact va_S.rf
  have fl13 := hts (.fieldLink RX7 13 "EchoPaysRentModel" "faceMany" "[I") (by decide +kernel)
  have inX7 : ∀ w ∈ wsX70, w ∈ wsX7_snow := by decide +kernel
  have f1 : 2 ^ (fm 0) ≤ 256 := pow8 (by omega)
  have f2 : 1 ≤ 2 ^ (fm 0) := Nat.one_le_two_pow
  refine lv_iload_n hx hb dX7_snow_0 rfl (lv_at hl 1 rfl) ?_
  refine z_i2l hx hb dX7_snow_1 (by omega) ?_
  refine lv_lconst (v := lN 0) hx hb dX7_snow_2 rfl ?_
  refine lv_iconst (v := (nI 1)) hx hb dX7_snow_3 (by decide) ?_
  refine lv_aload_n hx hb dX7_snow_4 rfl (lv_at hl 0 rfl) ?_
  refine va_get (D := D) (ci := 7) (v := .ref (ad 2)) (C := RX7) (T := TX7) (N := 28) hx hb hts inX7 hown hK hP 0 rfl rfl 2 (by decide) fl13 (fun _ h9 => h9) rfl dX7_snow_5 ?_
  refine lv_iconst (v := (nI 0)) hx hb dX7_snow_8 (by decide) ?_
  refine x_iald (A := A) hx hb hK hP 1 0 rfl rfl dX7_snow_9 (by omega) (by omega) ?_
  refine x_shl1 hx hb dX7_snow_10 (by omega) ?_
  refine lv_iconst (v := (nI 1)) hx hb dX7_snow_11 (by decide) ?_
  refine x_isub hx hb dX7_snow_12 (by omega) ?_
  refine n_i2l hx hb dX7_snow_13 (by omega) ?_
  refine k_S (As := [.long (lI z), .long (lI (((0 : Nat) : Int))), .long (lI ((((2 ^ (fm 0)) - 1 : Nat) : Int)))]) (wr := [(rr, eMod ad len kp uo tm em pc0), (ad 2, eArr cI 2 fm)]) ⟨hx, hb, hml, hown, hts⟩ (c_X7_in l D cI cC z (((0 : Nat) : Int)) ((((2 ^ (fm 0)) - 1 : Nat) : Int)) (by omega) (by omega) (by omega)) (cwS 3 hts gX7_snow_X7_in rfl rfl rfl (by decide +kernel) ⟨Nat.le_of_ble_eq_true rfl, Nat.le_of_ble_eq_true rfl⟩) rfl hl.1 (by simp only [nI_iI, lN_lI]; rfl) (Nat.le_of_ble_eq_true rfl) dX7_snow_14 ⟨Nat.zero_le _, Nat.zero_le _⟩ hN hK hP hD hS hA [] [0, 1] rfl rfl ⟨rfl, rfl, by decide⟩ (fun r3 u H locs w4 hP hD hS => ?_)
  obtain ⟨rfl, h5, h6⟩ | ⟨rfl, h7⟩ : (r3 = (nI 1) ∧ (((0 : Nat) : Int)) ≤ z ∧ z ≤ ((((2 ^ (fm 0)) - 1 : Nat) : Int))) ∨ (r3 = (nI 0) ∧ (z < (((0 : Nat) : Int)) ∨ ((((2 ^ (fm 0)) - 1 : Nat) : Int)) < z)) := w4
  · refine x_if_ne (tgt := 22) hx hb dX7_snow_17 (by decide) (by omega) (fun h8 => ?_) (fun h8 => False.elim (by omega))
    exact False.elim (by omega)
  · refine x_if_ne (tgt := 22) hx hb dX7_snow_17 (by decide) (by omega) (fun h9 => False.elim (by omega)) (fun h9 => ?_)
    refine lv_iconst (v := (iI (-1))) hx hb dX7_snow_20 (by decide) ?_
    exact x_iret hx hb hr hlocks dX7_snow_21 rfl (post := fun (r : Int32) (_ : Unit) => r = (iI (-1))) (w1 := fun (_ : Unit) => [(rr, eMod ad len kp uo tm em pc0), (ad 2, eArr cI 2 fm)]) () rfl hK hP hD hS

set_option maxRecDepth 100000 in
set_option maxHeartbeats 4000000 in
theorem c_X7_undo_no (l : Launch) (D : va_G) (cI cC : ClassId) (rr : Nat) (ad : Nat → Nat) (len : Nat) (kp : Nat) (uo : Nat) (tm : Nat) (em : Nat) (pc0 : Nat) (hu : uo = 0) : mtI l D cI cC yX7_undo wsX7_undo ({ frames := 0, cells := 0, slots := 0, locals := 0 }) [.ref rr] [(rr, eMod ad len kp uo tm em pc0)] (fun (r : Int32) (_ : Unit) => r = (iI (-2))) (fun (_ : Unit) => [(rr, eMod ad len kp uo tm em pc0)]) := by
  refine mtI_of (cc := cX7_undo) (maxL := 1) (ret := (some .int)) (by decide) rfl rfl ?_
  intro p e s m below meth c A hx hb hml hr hts hown hlocks hN hA hK hP hD hS ls hl
  have hown : s.vm.findClass RX7 = some m.cls := hown
  have hl : lv_has ls 1 [(0, .ref rr)] := hl
  obtain ⟨H, hHe⟩ : ∃ H, H = s.heap := ⟨_, rfl⟩
  rw [← hHe] at hP ⊢
  have hS : va_S A s.heap H [] := by rw [hHe]; exact va_S.rf
  have fl145 := hts (.fieldLink RX7 145 "EchoPaysRentModel" "undoMany" "I") (by decide +kernel)
  have inX7 : ∀ w ∈ wsX70, w ∈ wsX7_undo := by decide +kernel
  refine lv_aload_n hx hb dX7_undo_0 rfl (lv_at hl 0 rfl) ?_
  refine va_get (D := D) (ci := 7) (v := .int (nI uo)) (C := RX7) (T := TX7) (N := 28) hx hb hts inX7 hown hK hP 0 rfl rfl 15 (by decide) fl145 (fun _ h9 => h9) rfl dX7_undo_1 ?_
  refine x_if_ne (tgt := 10) hx hb dX7_undo_4 (by decide) (by omega) (fun h1 => False.elim (by omega)) (fun h1 => ?_)
  refine lv_bipush (v := (iI (-2))) hx hb dX7_undo_7 (by decide) ?_
  exact x_iret hx hb hr hlocks dX7_undo_9 rfl (post := fun (r : Int32) (_ : Unit) => r = (iI (-2))) (w1 := fun (_ : Unit) => [(rr, eMod ad len kp uo tm em pc0)]) () rfl hK hP hD hS

set_option maxRecDepth 100000 in
set_option maxHeartbeats 4000000 in
theorem c_X7_undo_yes (l : Launch) (D : va_G) (cI cC : ClassId) (rr : Nat) (ad : Nat → Nat) (len : Nat) (kp : Nat) (uo : Nat) (tm : Nat) (em : Nat) (pc0 : Nat) (un : Nat → Nat) (spa : Nat → Nat) (hea : Nat → Nat) (sna : Nat → Nat) (wma : Nat → Nat) (hu : 1 ≤ uo ∧ uo ≤ 8) : mtI l D cI cC yX7_undo wsX7_undo ({ frames := 0, cells := 0, slots := 0, locals := 0 }) [.ref rr] [(rr, eMod ad len kp uo tm em pc0), (ad 14, eArr cI 32 un), (ad 11, eArr cI 4 spa), (ad 12, eArr cI 4 hea), (ad 13, eArr cI 4 sna), (ad 7, eArr cI 4 wma)] (fun (r : Int32) (_ : Unit) => r = (nI (uo - 1))) (fun (_ : Unit) => [(rr, eMod ad len kp (uo - 1) tm em pc0), (ad 14, eArr cI 32 un), (ad 11, eArr cI 4 (upN spa 0 (un (4 * (uo - 1))))), (ad 12, eArr cI 4 (upN hea 0 (un (4 * (uo - 1) + 1)))), (ad 13, eArr cI 4 (upN sna 0 (un (4 * (uo - 1) + 2)))), (ad 7, eArr cI 4 (upN wma 0 (un (4 * (uo - 1) + 3))))]) := by
  refine mtI_of (cc := cX7_undo) (maxL := 1) (ret := (some .int)) (by decide) rfl rfl ?_
  intro p e s m below meth c A hx hb hml hr hts hown hlocks hN hA hK hP hD hS ls hl
  have hown : s.vm.findClass RX7 = some m.cls := hown
  have hl : lv_has ls 1 [(0, .ref rr)] := hl
  obtain ⟨H, hHe⟩ : ∃ H, H = s.heap := ⟨_, rfl⟩
  rw [← hHe] at hP ⊢
  have hS : va_S A s.heap H [] := by rw [hHe]; exact va_S.rf
  have fl145 := hts (.fieldLink RX7 145 "EchoPaysRentModel" "undoMany" "I") (by decide +kernel)
  have inX7 : ∀ w ∈ wsX70, w ∈ wsX7_undo := by decide +kernel
  have fl40 := hts (.fieldLink RX7 40 "EchoPaysRentModel" "speaker" "[I") (by decide +kernel)
  have fl49 := hts (.fieldLink RX7 49 "EchoPaysRentModel" "undos" "[I") (by decide +kernel)
  have fl43 := hts (.fieldLink RX7 43 "EchoPaysRentModel" "hearer" "[I") (by decide +kernel)
  have fl46 := hts (.fieldLink RX7 46 "EchoPaysRentModel" "snow" "[I") (by decide +kernel)
  have fl28 := hts (.fieldLink RX7 28 "EchoPaysRentModel" "wordMany" "[I") (by decide +kernel)
  refine lv_aload_n hx hb dX7_undo_0 rfl (lv_at hl 0 rfl) ?_
  refine va_get (D := D) (ci := 7) (v := .int (nI uo)) (C := RX7) (T := TX7) (N := 28) hx hb hts inX7 hown hK hP 0 rfl rfl 15 (by decide) fl145 (fun _ h9 => h9) rfl dX7_undo_1 ?_
  refine x_if_ne (tgt := 10) hx hb dX7_undo_4 (by decide) (by omega) (fun h1 => ?_) (fun h1 => False.elim (by omega))
  refine lv_aload_n hx hb dX7_undo_10 rfl (lv_at hl 0 rfl) ?_
  refine lv_dup hx hb dX7_undo_11 rfl ?_
  refine va_get (D := D) (ci := 7) (v := .int (nI uo)) (C := RX7) (T := TX7) (N := 28) hx hb hts inX7 hown hK hP 0 rfl rfl 15 (by decide) fl145 (fun _ h9 => h9) rfl dX7_undo_12 ?_
  refine lv_iconst (v := (nI 1)) hx hb dX7_undo_15 (by decide) ?_
  refine x_isub hx hb dX7_undo_16 (by omega) ?_
  refine va_put (D := D) (ci := 7) (v := .int (nI (uo - 1))) (ty := .int) (C := RX7) (T := TX7) (N := 28) hx hb hts inX7 tyX7 tyX7_ok nmX7 hown hK hP hD hS 0 rfl rfl 15 (by decide) fl145 (fun _ h9 => h9) rfl (by decide +kernel) rfl rfl (Nat.le_of_ble_eq_true rfl) dX7_undo_17 (fun H locs hP hD hS => ?_)
  have hP : va_P D vwCl [(rr, eMod ad len kp (uo - 1) tm em pc0), (ad 14, eArr cI 32 un), (ad 11, eArr cI 4 spa), (ad 12, eArr cI 4 hea), (ad 13, eArr cI 4 sna), (ad 7, eArr cI 4 wma)] H := hP
  have hD : va_D A [(rr, eMod ad len kp (uo - 1) tm em pc0), (ad 14, eArr cI 32 un), (ad 11, eArr cI 4 spa), (ad 12, eArr cI 4 hea), (ad 13, eArr cI 4 sna), (ad 7, eArr cI 4 wma)] := hD
  refine lv_aload_n hx hb dX7_undo_20 rfl (lv_at hl 0 rfl) ?_
  refine va_get (D := D) (ci := 7) (v := .ref (ad 11)) (C := RX7) (T := TX7) (N := 28) hx hb hts inX7 hown hK hP 0 rfl rfl 11 (by decide) fl40 (fun _ h9 => h9) rfl dX7_undo_21 ?_
  refine lv_iconst (v := (nI 0)) hx hb dX7_undo_24 (by decide) ?_
  refine lv_aload_n hx hb dX7_undo_25 rfl (lv_at hl 0 rfl) ?_
  refine va_get (D := D) (ci := 7) (v := .ref (ad 14)) (C := RX7) (T := TX7) (N := 28) hx hb hts inX7 hown hK hP 0 rfl rfl 16 (by decide) fl49 (fun _ h9 => h9) rfl dX7_undo_26 ?_
  refine lv_iconst (v := (nI 4)) hx hb dX7_undo_29 (by decide) ?_
  refine lv_aload_n hx hb dX7_undo_30 rfl (lv_at hl 0 rfl) ?_
  refine va_get (D := D) (ci := 7) (v := .int (nI (uo - 1))) (C := RX7) (T := TX7) (N := 28) hx hb hts inX7 hown hK hP 0 rfl rfl 15 (by decide) fl145 (fun _ h9 => h9) rfl dX7_undo_31 ?_
  refine x_imul hx hb dX7_undo_34 ?_
  refine x_iald (A := A) hx hb hK hP 1 0 rfl rfl dX7_undo_35 (by omega) (by omega) ?_
  refine x_iast (A := A) hx hb hK hP hD hS 2 0 rfl rfl dX7_undo_36 (by omega) (by omega) (fun H locs hP hD hS => ?_)
  have hP : va_P D vwCl [(rr, eMod ad len kp (uo - 1) tm em pc0), (ad 14, eArr cI 32 un), (ad 11, eArr cI 4 (upN spa 0 (un (4 * (uo - 1))))), (ad 12, eArr cI 4 hea), (ad 13, eArr cI 4 sna), (ad 7, eArr cI 4 wma)] H := by have h := hP; rw [upd_nI] at h; exact h
  have hD : va_D A [(rr, eMod ad len kp (uo - 1) tm em pc0), (ad 14, eArr cI 32 un), (ad 11, eArr cI 4 (upN spa 0 (un (4 * (uo - 1))))), (ad 12, eArr cI 4 hea), (ad 13, eArr cI 4 sna), (ad 7, eArr cI 4 wma)] := by have h := hD; rw [upd_nI] at h; exact h
  refine lv_aload_n hx hb dX7_undo_37 rfl (lv_at hl 0 rfl) ?_
  refine va_get (D := D) (ci := 7) (v := .ref (ad 12)) (C := RX7) (T := TX7) (N := 28) hx hb hts inX7 hown hK hP 0 rfl rfl 12 (by decide) fl43 (fun _ h9 => h9) rfl dX7_undo_38 ?_
  refine lv_iconst (v := (nI 0)) hx hb dX7_undo_41 (by decide) ?_
  refine lv_aload_n hx hb dX7_undo_42 rfl (lv_at hl 0 rfl) ?_
  refine va_get (D := D) (ci := 7) (v := .ref (ad 14)) (C := RX7) (T := TX7) (N := 28) hx hb hts inX7 hown hK hP 0 rfl rfl 16 (by decide) fl49 (fun _ h9 => h9) rfl dX7_undo_43 ?_
  refine lv_iconst (v := (nI 4)) hx hb dX7_undo_46 (by decide) ?_
  refine lv_aload_n hx hb dX7_undo_47 rfl (lv_at hl 0 rfl) ?_
  refine va_get (D := D) (ci := 7) (v := .int (nI (uo - 1))) (C := RX7) (T := TX7) (N := 28) hx hb hts inX7 hown hK hP 0 rfl rfl 15 (by decide) fl145 (fun _ h9 => h9) rfl dX7_undo_48 ?_
  refine x_imul hx hb dX7_undo_51 ?_
  refine lv_iconst (v := (nI 1)) hx hb dX7_undo_52 (by decide) ?_
  refine x_iadd hx hb dX7_undo_53 ?_
  refine x_iald (A := A) hx hb hK hP 1 0 rfl rfl dX7_undo_54 (by omega) (by omega) ?_
  refine x_iast (A := A) hx hb hK hP hD hS 3 0 rfl rfl dX7_undo_55 (by omega) (by omega) (fun H locs hP hD hS => ?_)
  have hP : va_P D vwCl [(rr, eMod ad len kp (uo - 1) tm em pc0), (ad 14, eArr cI 32 un), (ad 11, eArr cI 4 (upN spa 0 (un (4 * (uo - 1))))), (ad 12, eArr cI 4 (upN hea 0 (un (4 * (uo - 1) + 1)))), (ad 13, eArr cI 4 sna), (ad 7, eArr cI 4 wma)] H := by have h := hP; rw [upd_nI] at h; exact h
  have hD : va_D A [(rr, eMod ad len kp (uo - 1) tm em pc0), (ad 14, eArr cI 32 un), (ad 11, eArr cI 4 (upN spa 0 (un (4 * (uo - 1))))), (ad 12, eArr cI 4 (upN hea 0 (un (4 * (uo - 1) + 1)))), (ad 13, eArr cI 4 sna), (ad 7, eArr cI 4 wma)] := by have h := hD; rw [upd_nI] at h; exact h
  refine lv_aload_n hx hb dX7_undo_56 rfl (lv_at hl 0 rfl) ?_
  refine va_get (D := D) (ci := 7) (v := .ref (ad 13)) (C := RX7) (T := TX7) (N := 28) hx hb hts inX7 hown hK hP 0 rfl rfl 13 (by decide) fl46 (fun _ h9 => h9) rfl dX7_undo_57 ?_
  refine lv_iconst (v := (nI 0)) hx hb dX7_undo_60 (by decide) ?_
  refine lv_aload_n hx hb dX7_undo_61 rfl (lv_at hl 0 rfl) ?_
  refine va_get (D := D) (ci := 7) (v := .ref (ad 14)) (C := RX7) (T := TX7) (N := 28) hx hb hts inX7 hown hK hP 0 rfl rfl 16 (by decide) fl49 (fun _ h9 => h9) rfl dX7_undo_62 ?_
  refine lv_iconst (v := (nI 4)) hx hb dX7_undo_65 (by decide) ?_
  refine lv_aload_n hx hb dX7_undo_66 rfl (lv_at hl 0 rfl) ?_
  refine va_get (D := D) (ci := 7) (v := .int (nI (uo - 1))) (C := RX7) (T := TX7) (N := 28) hx hb hts inX7 hown hK hP 0 rfl rfl 15 (by decide) fl145 (fun _ h9 => h9) rfl dX7_undo_67 ?_
  refine x_imul hx hb dX7_undo_70 ?_
  refine lv_iconst (v := (nI 2)) hx hb dX7_undo_71 (by decide) ?_
  refine x_iadd hx hb dX7_undo_72 ?_
  refine x_iald (A := A) hx hb hK hP 1 0 rfl rfl dX7_undo_73 (by omega) (by omega) ?_
  refine x_iast (A := A) hx hb hK hP hD hS 4 0 rfl rfl dX7_undo_74 (by omega) (by omega) (fun H locs hP hD hS => ?_)
  have hP : va_P D vwCl [(rr, eMod ad len kp (uo - 1) tm em pc0), (ad 14, eArr cI 32 un), (ad 11, eArr cI 4 (upN spa 0 (un (4 * (uo - 1))))), (ad 12, eArr cI 4 (upN hea 0 (un (4 * (uo - 1) + 1)))), (ad 13, eArr cI 4 (upN sna 0 (un (4 * (uo - 1) + 2)))), (ad 7, eArr cI 4 wma)] H := by have h := hP; rw [upd_nI] at h; exact h
  have hD : va_D A [(rr, eMod ad len kp (uo - 1) tm em pc0), (ad 14, eArr cI 32 un), (ad 11, eArr cI 4 (upN spa 0 (un (4 * (uo - 1))))), (ad 12, eArr cI 4 (upN hea 0 (un (4 * (uo - 1) + 1)))), (ad 13, eArr cI 4 (upN sna 0 (un (4 * (uo - 1) + 2)))), (ad 7, eArr cI 4 wma)] := by have h := hD; rw [upd_nI] at h; exact h
  refine lv_aload_n hx hb dX7_undo_75 rfl (lv_at hl 0 rfl) ?_
  refine va_get (D := D) (ci := 7) (v := .ref (ad 7)) (C := RX7) (T := TX7) (N := 28) hx hb hts inX7 hown hK hP 0 rfl rfl 7 (by decide) fl28 (fun _ h9 => h9) rfl dX7_undo_76 ?_
  refine lv_iconst (v := (nI 0)) hx hb dX7_undo_79 (by decide) ?_
  refine lv_aload_n hx hb dX7_undo_80 rfl (lv_at hl 0 rfl) ?_
  refine va_get (D := D) (ci := 7) (v := .ref (ad 14)) (C := RX7) (T := TX7) (N := 28) hx hb hts inX7 hown hK hP 0 rfl rfl 16 (by decide) fl49 (fun _ h9 => h9) rfl dX7_undo_81 ?_
  refine lv_iconst (v := (nI 4)) hx hb dX7_undo_84 (by decide) ?_
  refine lv_aload_n hx hb dX7_undo_85 rfl (lv_at hl 0 rfl) ?_
  refine va_get (D := D) (ci := 7) (v := .int (nI (uo - 1))) (C := RX7) (T := TX7) (N := 28) hx hb hts inX7 hown hK hP 0 rfl rfl 15 (by decide) fl145 (fun _ h9 => h9) rfl dX7_undo_86 ?_
  refine x_imul hx hb dX7_undo_89 ?_
  refine lv_iconst (v := (nI 3)) hx hb dX7_undo_90 (by decide) ?_
  refine x_iadd hx hb dX7_undo_91 ?_
  refine x_iald (A := A) hx hb hK hP 1 0 rfl rfl dX7_undo_92 (by omega) (by omega) ?_
  refine x_iast (A := A) hx hb hK hP hD hS 5 0 rfl rfl dX7_undo_93 (by omega) (by omega) (fun H locs hP hD hS => ?_)
  have hP : va_P D vwCl [(rr, eMod ad len kp (uo - 1) tm em pc0), (ad 14, eArr cI 32 un), (ad 11, eArr cI 4 (upN spa 0 (un (4 * (uo - 1))))), (ad 12, eArr cI 4 (upN hea 0 (un (4 * (uo - 1) + 1)))), (ad 13, eArr cI 4 (upN sna 0 (un (4 * (uo - 1) + 2)))), (ad 7, eArr cI 4 (upN wma 0 (un (4 * (uo - 1) + 3))))] H := by have h := hP; rw [upd_nI] at h; exact h
  have hD : va_D A [(rr, eMod ad len kp (uo - 1) tm em pc0), (ad 14, eArr cI 32 un), (ad 11, eArr cI 4 (upN spa 0 (un (4 * (uo - 1))))), (ad 12, eArr cI 4 (upN hea 0 (un (4 * (uo - 1) + 1)))), (ad 13, eArr cI 4 (upN sna 0 (un (4 * (uo - 1) + 2)))), (ad 7, eArr cI 4 (upN wma 0 (un (4 * (uo - 1) + 3))))] := by have h := hD; rw [upd_nI] at h; exact h
  refine lv_aload_n hx hb dX7_undo_94 rfl (lv_at hl 0 rfl) ?_
  refine va_get (D := D) (ci := 7) (v := .int (nI (uo - 1))) (C := RX7) (T := TX7) (N := 28) hx hb hts inX7 hown hK hP 0 rfl rfl 15 (by decide) fl145 (fun _ h9 => h9) rfl dX7_undo_95 ?_
  exact x_iret hx hb hr hlocks dX7_undo_98 rfl (post := fun (r : Int32) (_ : Unit) => r = (nI (uo - 1))) (w1 := fun (_ : Unit) => [(rr, eMod ad len kp (uo - 1) tm em pc0), (ad 14, eArr cI 32 un), (ad 11, eArr cI 4 (upN spa 0 (un (4 * (uo - 1))))), (ad 12, eArr cI 4 (upN hea 0 (un (4 * (uo - 1) + 1)))), (ad 13, eArr cI 4 (upN sna 0 (un (4 * (uo - 1) + 2)))), (ad 7, eArr cI 4 (upN wma 0 (un (4 * (uo - 1) + 3))))]) () rfl hK hP hD hS

set_option maxRecDepth 100000 in
set_option maxHeartbeats 4000000 in
theorem c_X7_keep_ok (l : Launch) (D : va_G) (cI cC : ClassId) (rr : Nat) (ad : Nat → Nat) (len : Nat) (kp : Nat) (uo : Nat) (tm : Nat) (em : Nat) (pc0 : Nat) (wma : Nat → Nat) (be : Nat → Nat) (va : Nat → Nat) (lo : Nat → Nat) (spa : Nat → Nat) (hea : Nat → Nat) (sna : Nat → Nat) (hk : kp < 2) : mtI l D cI cC yX7_keep wsX7_keep ({ frames := 1, cells := 0, slots := 0, locals := 23 }) [.ref rr] [(rr, eMod ad len kp uo tm em pc0), (ad 7, eArr cI 4 wma), (ad 8, eArr cI 32 be), (ad 9, eArr cI 32 va), (ad 10, eArr cI 32 lo), (ad 11, eArr cI 4 spa), (ad 12, eArr cI 4 hea), (ad 13, eArr cI 4 sna)] (fun (r : Int32) (_ : Unit) => r = (nI (kp + 1))) (fun (_ : Unit) => [(rr, eMod ad len (kp + 1) uo tm em pc0), (ad 7, eArr cI 4 (upN wma (1 + (kp + 1)) (wma 0))), (ad 8, eArr cI 32 (cp8 be 0 (1 + (kp + 1)) 8)), (ad 9, eArr cI 32 (cp8 va 0 (1 + (kp + 1)) 8)), (ad 10, eArr cI 32 (cp8 lo 0 (1 + (kp + 1)) 8)), (ad 11, eArr cI 4 (upN spa (1 + (kp + 1)) (spa 0))), (ad 12, eArr cI 4 (upN hea (1 + (kp + 1)) (hea 0))), (ad 13, eArr cI 4 (upN sna (1 + (kp + 1)) (sna 0)))]) := by
  refine mtI_of (cc := cX7_keep) (maxL := 1) (ret := (some .int)) (by decide) rfl rfl ?_
  intro p e s m below meth c A hx hb hml hr hts hown hlocks hN hA hK hP hD hS ls hl
  have hown : s.vm.findClass RX7 = some m.cls := hown
  have hl : lv_has ls 1 [(0, .ref rr)] := hl
  obtain ⟨H, hHe⟩ : ∃ H, H = s.heap := ⟨_, rfl⟩
  rw [← hHe] at hP ⊢
  have hS : va_S A s.heap H [] := by rw [hHe]; exact va_S.rf
  have fl142 := hts (.fieldLink RX7 142 "EchoPaysRentModel" "keptMany" "I") (by decide +kernel)
  have inX7 : ∀ w ∈ wsX70, w ∈ wsX7_keep := by decide +kernel
  refine lv_aload_n hx hb dX7_keep_0 rfl (lv_at hl 0 rfl) ?_
  refine va_get (D := D) (ci := 7) (v := .int (nI kp)) (C := RX7) (T := TX7) (N := 28) hx hb hts inX7 hown hK hP 0 rfl rfl 14 (by decide) fl142 (fun _ h9 => h9) rfl dX7_keep_1 ?_
  refine lv_iconst (v := (nI 2)) hx hb dX7_keep_4 (by decide) ?_
  refine x_icmp_ne (tgt := 11) hx hb dX7_keep_5 (by decide) (by omega) (by omega) (fun h1 => ?_) (fun h1 => False.elim (by omega))
  refine lv_aload_n hx hb dX7_keep_11 rfl (lv_at hl 0 rfl) ?_
  refine lv_dup hx hb dX7_keep_12 rfl ?_
  refine va_get (D := D) (ci := 7) (v := .int (nI kp)) (C := RX7) (T := TX7) (N := 28) hx hb hts inX7 hown hK hP 0 rfl rfl 14 (by decide) fl142 (fun _ h9 => h9) rfl dX7_keep_13 ?_
  refine lv_iconst (v := (nI 1)) hx hb dX7_keep_16 (by decide) ?_
  refine x_iadd hx hb dX7_keep_17 ?_
  refine va_put (D := D) (ci := 7) (v := .int (nI (kp + 1))) (ty := .int) (C := RX7) (T := TX7) (N := 28) hx hb hts inX7 tyX7 tyX7_ok nmX7 hown hK hP hD hS 0 rfl rfl 14 (by decide) fl142 (fun _ h9 => h9) rfl (by decide +kernel) rfl rfl (Nat.le_of_ble_eq_true rfl) dX7_keep_18 (fun H locs hP hD hS => ?_)
  have hP : va_P D vwCl [(rr, eMod ad len (kp + 1) uo tm em pc0), (ad 7, eArr cI 4 wma), (ad 8, eArr cI 32 be), (ad 9, eArr cI 32 va), (ad 10, eArr cI 32 lo), (ad 11, eArr cI 4 spa), (ad 12, eArr cI 4 hea), (ad 13, eArr cI 4 sna)] H := hP
  have hD : va_D A [(rr, eMod ad len (kp + 1) uo tm em pc0), (ad 7, eArr cI 4 wma), (ad 8, eArr cI 32 be), (ad 9, eArr cI 32 va), (ad 10, eArr cI 32 lo), (ad 11, eArr cI 4 spa), (ad 12, eArr cI 4 hea), (ad 13, eArr cI 4 sna)] := hD
  refine lv_aload_n hx hb dX7_keep_21 rfl (lv_at hl 0 rfl) ?_
  refine lv_iconst (v := (nI 0)) hx hb dX7_keep_22 (by decide) ?_
  refine lv_iconst (v := (nI 1)) hx hb dX7_keep_23 (by decide) ?_
  refine lv_aload_n hx hb dX7_keep_24 rfl (lv_at hl 0 rfl) ?_
  refine va_get (D := D) (ci := 7) (v := .int (nI (kp + 1))) (C := RX7) (T := TX7) (N := 28) hx hb hts inX7 hown hK hP 0 rfl rfl 14 (by decide) fl142 (fun _ h9 => h9) rfl dX7_keep_25 ?_
  refine x_iadd hx hb dX7_keep_28 ?_
  refine k_Vv (q := (RX7, TX7, 28)) (ci := 7) (As := [.int (nI 0), .int (nI (1 + (kp + 1)))]) (wr := []) ⟨hx, hb, hml, hown, hts⟩ (c_X7_copy l D cI cC rr ad len (kp + 1) uo tm em pc0 wma be va lo spa hea sna 0 (1 + (kp + 1)) (by omega)) (cwV 2 hts gX7_keep_X7_copy rfl rfl rfl (by decide +kernel) ⟨Nat.le_of_ble_eq_true rfl, Nat.le_of_ble_eq_true rfl⟩) rfl hl.1 rfl (Nat.le_of_ble_eq_true rfl) dX7_keep_29 ⟨Nat.zero_le _, Nat.zero_le _⟩ hN hK hP hD hS hA rfl (q0 := 0) rfl [0, 1, 2, 3, 4, 5, 6, 7] [] rfl rfl ⟨rfl, rfl, by decide⟩ (fun u H locs w3 hP hD hS => ?_)
  refine lv_aload_n hx hb dX7_keep_32 rfl (lv_at hl 0 rfl) ?_
  refine va_get (D := D) (ci := 7) (v := .int (nI (kp + 1))) (C := RX7) (T := TX7) (N := 28) hx hb hts inX7 hown hK hP 0 rfl rfl 14 (by decide) fl142 (fun _ h9 => h9) rfl dX7_keep_33 ?_
  exact x_iret hx hb hr hlocks dX7_keep_36 rfl (post := fun (r : Int32) (_ : Unit) => r = (nI (kp + 1))) (w1 := fun (_ : Unit) => [(rr, eMod ad len (kp + 1) uo tm em pc0), (ad 7, eArr cI 4 (upN wma (1 + (kp + 1)) (wma 0))), (ad 8, eArr cI 32 (cp8 be 0 (1 + (kp + 1)) 8)), (ad 9, eArr cI 32 (cp8 va 0 (1 + (kp + 1)) 8)), (ad 10, eArr cI 32 (cp8 lo 0 (1 + (kp + 1)) 8)), (ad 11, eArr cI 4 (upN spa (1 + (kp + 1)) (spa 0))), (ad 12, eArr cI 4 (upN hea (1 + (kp + 1)) (hea 0))), (ad 13, eArr cI 4 (upN sna (1 + (kp + 1)) (sna 0)))]) () rfl hK hP hD hS

set_option maxRecDepth 100000 in
set_option maxHeartbeats 4000000 in
theorem c_X7_keep_full (l : Launch) (D : va_G) (cI cC : ClassId) (rr : Nat) (ad : Nat → Nat) (len : Nat) (kp : Nat) (uo : Nat) (tm : Nat) (em : Nat) (pc0 : Nat) (hk : kp = 2) : mtI l D cI cC yX7_keep wsX7_keep ({ frames := 0, cells := 0, slots := 0, locals := 0 }) [.ref rr] [(rr, eMod ad len kp uo tm em pc0)] (fun (r : Int32) (_ : Unit) => r = (iI (-3))) (fun (_ : Unit) => [(rr, eMod ad len kp uo tm em pc0)]) := by
  refine mtI_of (cc := cX7_keep) (maxL := 1) (ret := (some .int)) (by decide) rfl rfl ?_
  intro p e s m below meth c A hx hb hml hr hts hown hlocks hN hA hK hP hD hS ls hl
  have hown : s.vm.findClass RX7 = some m.cls := hown
  have hl : lv_has ls 1 [(0, .ref rr)] := hl
  obtain ⟨H, hHe⟩ : ∃ H, H = s.heap := ⟨_, rfl⟩
  rw [← hHe] at hP ⊢
  have hS : va_S A s.heap H [] := by rw [hHe]; exact va_S.rf
  have fl142 := hts (.fieldLink RX7 142 "EchoPaysRentModel" "keptMany" "I") (by decide +kernel)
  have inX7 : ∀ w ∈ wsX70, w ∈ wsX7_keep := by decide +kernel
  refine lv_aload_n hx hb dX7_keep_0 rfl (lv_at hl 0 rfl) ?_
  refine va_get (D := D) (ci := 7) (v := .int (nI kp)) (C := RX7) (T := TX7) (N := 28) hx hb hts inX7 hown hK hP 0 rfl rfl 14 (by decide) fl142 (fun _ h9 => h9) rfl dX7_keep_1 ?_
  refine lv_iconst (v := (nI 2)) hx hb dX7_keep_4 (by decide) ?_
  refine x_icmp_ne (tgt := 11) hx hb dX7_keep_5 (by decide) (by omega) (by omega) (fun h1 => False.elim (by omega)) (fun h1 => ?_)
  refine lv_bipush (v := (iI (-3))) hx hb dX7_keep_8 (by decide) ?_
  exact x_iret hx hb hr hlocks dX7_keep_10 rfl (post := fun (r : Int32) (_ : Unit) => r = (iI (-3))) (w1 := fun (_ : Unit) => [(rr, eMod ad len kp uo tm em pc0)]) () rfl hK hP hD hS

set_option maxRecDepth 100000 in
set_option maxHeartbeats 4000000 in
theorem c_X7_back_yes (l : Launch) (D : va_G) (cI cC : ClassId) (rr : Nat) (ad : Nat → Nat) (len : Nat) (kp : Nat) (uo : Nat) (tm : Nat) (em : Nat) (pc0 : Nat) (wma : Nat → Nat) (be : Nat → Nat) (va : Nat → Nat) (lo : Nat → Nat) (spa : Nat → Nat) (hea : Nat → Nat) (sna : Nat → Nat) (hk : 1 ≤ kp ∧ kp ≤ 2) : mtI l D cI cC yX7_back wsX7_back ({ frames := 1, cells := 0, slots := 0, locals := 23 }) [.ref rr] [(rr, eMod ad len kp uo tm em pc0), (ad 7, eArr cI 4 wma), (ad 8, eArr cI 32 be), (ad 9, eArr cI 32 va), (ad 10, eArr cI 32 lo), (ad 11, eArr cI 4 spa), (ad 12, eArr cI 4 hea), (ad 13, eArr cI 4 sna)] (fun (r : Int32) (_ : Unit) => r = (nI (kp - 1))) (fun (_ : Unit) => [(rr, eMod ad len (kp - 1) 0 tm em pc0), (ad 7, eArr cI 4 (upN wma 0 (wma (1 + kp)))), (ad 8, eArr cI 32 (cp8 be (1 + kp) 0 8)), (ad 9, eArr cI 32 (cp8 va (1 + kp) 0 8)), (ad 10, eArr cI 32 (cp8 lo (1 + kp) 0 8)), (ad 11, eArr cI 4 (upN spa 0 (spa (1 + kp)))), (ad 12, eArr cI 4 (upN hea 0 (hea (1 + kp)))), (ad 13, eArr cI 4 (upN sna 0 (sna (1 + kp))))]) := by
  refine mtI_of (cc := cX7_back) (maxL := 1) (ret := (some .int)) (by decide) rfl rfl ?_
  intro p e s m below meth c A hx hb hml hr hts hown hlocks hN hA hK hP hD hS ls hl
  have hown : s.vm.findClass RX7 = some m.cls := hown
  have hl : lv_has ls 1 [(0, .ref rr)] := hl
  obtain ⟨H, hHe⟩ : ∃ H, H = s.heap := ⟨_, rfl⟩
  rw [← hHe] at hP ⊢
  have hS : va_S A s.heap H [] := by rw [hHe]; exact va_S.rf
  have fl142 := hts (.fieldLink RX7 142 "EchoPaysRentModel" "keptMany" "I") (by decide +kernel)
  have inX7 : ∀ w ∈ wsX70, w ∈ wsX7_back := by decide +kernel
  have fl145 := hts (.fieldLink RX7 145 "EchoPaysRentModel" "undoMany" "I") (by decide +kernel)
  refine lv_aload_n hx hb dX7_back_0 rfl (lv_at hl 0 rfl) ?_
  refine va_get (D := D) (ci := 7) (v := .int (nI kp)) (C := RX7) (T := TX7) (N := 28) hx hb hts inX7 hown hK hP 0 rfl rfl 14 (by decide) fl142 (fun _ h9 => h9) rfl dX7_back_1 ?_
  refine x_if_ne (tgt := 10) hx hb dX7_back_4 (by decide) (by omega) (fun h1 => ?_) (fun h1 => False.elim (by omega))
  refine lv_aload_n hx hb dX7_back_10 rfl (lv_at hl 0 rfl) ?_
  refine lv_iconst (v := (nI 1)) hx hb dX7_back_11 (by decide) ?_
  refine lv_aload_n hx hb dX7_back_12 rfl (lv_at hl 0 rfl) ?_
  refine va_get (D := D) (ci := 7) (v := .int (nI kp)) (C := RX7) (T := TX7) (N := 28) hx hb hts inX7 hown hK hP 0 rfl rfl 14 (by decide) fl142 (fun _ h9 => h9) rfl dX7_back_13 ?_
  refine x_iadd hx hb dX7_back_16 ?_
  refine lv_iconst (v := (nI 0)) hx hb dX7_back_17 (by decide) ?_
  refine k_Vv (q := (RX7, TX7, 28)) (ci := 7) (As := [.int (nI (1 + kp)), .int (nI 0)]) (wr := []) ⟨hx, hb, hml, hown, hts⟩ (c_X7_copy l D cI cC rr ad len kp uo tm em pc0 wma be va lo spa hea sna (1 + kp) 0 (by omega)) (cwV 2 hts gX7_back_X7_copy rfl rfl rfl (by decide +kernel) ⟨Nat.le_of_ble_eq_true rfl, Nat.le_of_ble_eq_true rfl⟩) rfl hl.1 rfl (Nat.le_of_ble_eq_true rfl) dX7_back_18 ⟨Nat.zero_le _, Nat.zero_le _⟩ hN hK hP hD hS hA rfl (q0 := 0) rfl [0, 1, 2, 3, 4, 5, 6, 7] [] rfl rfl ⟨rfl, rfl, by decide⟩ (fun u H locs w3 hP hD hS => ?_)
  refine lv_aload_n hx hb dX7_back_21 rfl (lv_at hl 0 rfl) ?_
  refine lv_dup hx hb dX7_back_22 rfl ?_
  refine va_get (D := D) (ci := 7) (v := .int (nI kp)) (C := RX7) (T := TX7) (N := 28) hx hb hts inX7 hown hK hP 0 rfl rfl 14 (by decide) fl142 (fun _ h9 => h9) rfl dX7_back_23 ?_
  refine lv_iconst (v := (nI 1)) hx hb dX7_back_26 (by decide) ?_
  refine x_isub hx hb dX7_back_27 (by omega) ?_
  refine va_put (D := D) (ci := 7) (v := .int (nI (kp - 1))) (ty := .int) (C := RX7) (T := TX7) (N := 28) hx hb hts inX7 tyX7 tyX7_ok nmX7 hown hK hP hD hS 0 rfl rfl 14 (by decide) fl142 (fun _ h9 => h9) rfl (by decide +kernel) rfl rfl (Nat.le_of_ble_eq_true rfl) dX7_back_28 (fun H locs hP hD hS => ?_)
  have hP : va_P D vwCl [(rr, eMod ad len (kp - 1) uo tm em pc0), (ad 7, eArr cI 4 (upN wma 0 (wma (1 + kp)))), (ad 8, eArr cI 32 (cp8 be (1 + kp) 0 8)), (ad 9, eArr cI 32 (cp8 va (1 + kp) 0 8)), (ad 10, eArr cI 32 (cp8 lo (1 + kp) 0 8)), (ad 11, eArr cI 4 (upN spa 0 (spa (1 + kp)))), (ad 12, eArr cI 4 (upN hea 0 (hea (1 + kp)))), (ad 13, eArr cI 4 (upN sna 0 (sna (1 + kp))))] H := hP
  have hD : va_D A [(rr, eMod ad len (kp - 1) uo tm em pc0), (ad 7, eArr cI 4 (upN wma 0 (wma (1 + kp)))), (ad 8, eArr cI 32 (cp8 be (1 + kp) 0 8)), (ad 9, eArr cI 32 (cp8 va (1 + kp) 0 8)), (ad 10, eArr cI 32 (cp8 lo (1 + kp) 0 8)), (ad 11, eArr cI 4 (upN spa 0 (spa (1 + kp)))), (ad 12, eArr cI 4 (upN hea 0 (hea (1 + kp)))), (ad 13, eArr cI 4 (upN sna 0 (sna (1 + kp))))] := hD
  refine lv_aload_n hx hb dX7_back_31 rfl (lv_at hl 0 rfl) ?_
  refine lv_iconst (v := (nI 0)) hx hb dX7_back_32 (by decide) ?_
  refine va_put (D := D) (ci := 7) (v := .int (nI 0)) (ty := .int) (C := RX7) (T := TX7) (N := 28) hx hb hts inX7 tyX7 tyX7_ok nmX7 hown hK hP hD hS 0 rfl rfl 15 (by decide) fl145 (fun _ h9 => h9) rfl (by decide +kernel) rfl rfl (Nat.le_of_ble_eq_true rfl) dX7_back_33 (fun H locs hP hD hS => ?_)
  have hP : va_P D vwCl [(rr, eMod ad len (kp - 1) 0 tm em pc0), (ad 7, eArr cI 4 (upN wma 0 (wma (1 + kp)))), (ad 8, eArr cI 32 (cp8 be (1 + kp) 0 8)), (ad 9, eArr cI 32 (cp8 va (1 + kp) 0 8)), (ad 10, eArr cI 32 (cp8 lo (1 + kp) 0 8)), (ad 11, eArr cI 4 (upN spa 0 (spa (1 + kp)))), (ad 12, eArr cI 4 (upN hea 0 (hea (1 + kp)))), (ad 13, eArr cI 4 (upN sna 0 (sna (1 + kp))))] H := hP
  have hD : va_D A [(rr, eMod ad len (kp - 1) 0 tm em pc0), (ad 7, eArr cI 4 (upN wma 0 (wma (1 + kp)))), (ad 8, eArr cI 32 (cp8 be (1 + kp) 0 8)), (ad 9, eArr cI 32 (cp8 va (1 + kp) 0 8)), (ad 10, eArr cI 32 (cp8 lo (1 + kp) 0 8)), (ad 11, eArr cI 4 (upN spa 0 (spa (1 + kp)))), (ad 12, eArr cI 4 (upN hea 0 (hea (1 + kp)))), (ad 13, eArr cI 4 (upN sna 0 (sna (1 + kp))))] := hD
  refine lv_aload_n hx hb dX7_back_36 rfl (lv_at hl 0 rfl) ?_
  refine va_get (D := D) (ci := 7) (v := .int (nI (kp - 1))) (C := RX7) (T := TX7) (N := 28) hx hb hts inX7 hown hK hP 0 rfl rfl 14 (by decide) fl142 (fun _ h9 => h9) rfl dX7_back_37 ?_
  exact x_iret hx hb hr hlocks dX7_back_40 rfl (post := fun (r : Int32) (_ : Unit) => r = (nI (kp - 1))) (w1 := fun (_ : Unit) => [(rr, eMod ad len (kp - 1) 0 tm em pc0), (ad 7, eArr cI 4 (upN wma 0 (wma (1 + kp)))), (ad 8, eArr cI 32 (cp8 be (1 + kp) 0 8)), (ad 9, eArr cI 32 (cp8 va (1 + kp) 0 8)), (ad 10, eArr cI 32 (cp8 lo (1 + kp) 0 8)), (ad 11, eArr cI 4 (upN spa 0 (spa (1 + kp)))), (ad 12, eArr cI 4 (upN hea 0 (hea (1 + kp)))), (ad 13, eArr cI 4 (upN sna 0 (sna (1 + kp))))]) () rfl hK hP hD hS

set_option maxRecDepth 100000 in
set_option maxHeartbeats 4000000 in
theorem c_X7_back_no (l : Launch) (D : va_G) (cI cC : ClassId) (rr : Nat) (ad : Nat → Nat) (len : Nat) (kp : Nat) (uo : Nat) (tm : Nat) (em : Nat) (pc0 : Nat) (hk : kp = 0) : mtI l D cI cC yX7_back wsX7_back ({ frames := 0, cells := 0, slots := 0, locals := 0 }) [.ref rr] [(rr, eMod ad len kp uo tm em pc0)] (fun (r : Int32) (_ : Unit) => r = (iI (-2))) (fun (_ : Unit) => [(rr, eMod ad len kp uo tm em pc0)]) := by
  refine mtI_of (cc := cX7_back) (maxL := 1) (ret := (some .int)) (by decide) rfl rfl ?_
  intro p e s m below meth c A hx hb hml hr hts hown hlocks hN hA hK hP hD hS ls hl
  have hown : s.vm.findClass RX7 = some m.cls := hown
  have hl : lv_has ls 1 [(0, .ref rr)] := hl
  obtain ⟨H, hHe⟩ : ∃ H, H = s.heap := ⟨_, rfl⟩
  rw [← hHe] at hP ⊢
  have hS : va_S A s.heap H [] := by rw [hHe]; exact va_S.rf
  have fl142 := hts (.fieldLink RX7 142 "EchoPaysRentModel" "keptMany" "I") (by decide +kernel)
  have inX7 : ∀ w ∈ wsX70, w ∈ wsX7_back := by decide +kernel
  refine lv_aload_n hx hb dX7_back_0 rfl (lv_at hl 0 rfl) ?_
  refine va_get (D := D) (ci := 7) (v := .int (nI kp)) (C := RX7) (T := TX7) (N := 28) hx hb hts inX7 hown hK hP 0 rfl rfl 14 (by decide) fl142 (fun _ h9 => h9) rfl dX7_back_1 ?_
  refine x_if_ne (tgt := 10) hx hb dX7_back_4 (by decide) (by omega) (fun h1 => False.elim (by omega)) (fun h1 => ?_)
  refine lv_bipush (v := (iI (-2))) hx hb dX7_back_7 (by decide) ?_
  exact x_iret hx hb hr hlocks dX7_back_9 rfl (post := fun (r : Int32) (_ : Unit) => r = (iI (-2))) (w1 := fun (_ : Unit) => [(rr, eMod ad len kp uo tm em pc0)]) () rfl hK hP hD hS

set_option maxRecDepth 100000 in
set_option maxHeartbeats 4000000 in
theorem c_X7_write_ok (l : Launch) (D : va_G) (cI cC : ClassId) (rr : Nat) (ad : Nat → Nat) (len : Nat) (kp : Nat) (uo : Nat) (tm : Nat) (em : Nat) (pc0 : Nat) (tx : Nat → Nat) (n : Nat) (xv : Int64) (hn8 : 1 ≤ n ∧ n ≤ 8) (hlen : len + n ≤ 300) : mtI l D cI cC yX7_write wsX7_write ({ frames := 1, cells := 0, slots := 0, locals := 25 }) [.ref rr, .int (nI n), .long xv] [(rr, eMod ad len kp uo tm em pc0), (ad 1, eArr cI 300 tx)] (fun (r : Int32) (_ : Unit) => r = (nI (len + n))) (fun (_ : Unit) => [(rr, eMod ad (len + n) kp uo tm em pc0), (ad 1, eArr cI 300 (appM tx len n xv n))]) := by
  refine mtI_of (cc := cX7_write) (maxL := 5) (ret := (some .int)) (by decide) rfl rfl ?_
  intro p e s m below meth c A hx hb hml hr hts hown hlocks hN hA hK hP hD hS ls hl
  have hown : s.vm.findClass RX7 = some m.cls := hown
  have hl : lv_has ls 5 [(0, .ref rr), (1, .int (nI n)), (2, .long xv)] := hl
  obtain ⟨H, hHe⟩ : ∃ H, H = s.heap := ⟨_, rfl⟩
  rw [← hHe] at hP ⊢
  have hS : va_S A s.heap H [] := by rw [hHe]; exact va_S.rf
  have fl86 := hts (.fieldLink RX7 86 "EchoPaysRentModel" "length" "I") (by decide +kernel)
  have inX7 : ∀ w ∈ wsX70, w ∈ wsX7_write := by decide +kernel
  have fl7 := hts (.fieldLink RX7 7 "EchoPaysRentModel" "text" "[I") (by decide +kernel)
  refine lv_iload_n hx hb dX7_write_0 rfl (lv_at hl 1 rfl) ?_
  refine n_i2l hx hb dX7_write_1 (by omega) ?_
  refine lv_lconst (v := lN 1) hx hb dX7_write_2 rfl ?_
  refine lv_ldc2 (v := lN 8) hx hb hown (hts (.constantLong RX7 80 8) (by decide +kernel)) dX7_write_3 ?_
  refine k_S (As := [.long (lI (((n : Nat) : Int))), .long (lI (((1 : Nat) : Int))), .long (lI (((8 : Nat) : Int)))]) (wr := [(rr, eMod ad len kp uo tm em pc0), (ad 1, eArr cI 300 tx)]) ⟨hx, hb, hml, hown, hts⟩ (c_X7_in l D cI cC (((n : Nat) : Int)) (((1 : Nat) : Int)) (((8 : Nat) : Int)) (by omega) (by omega) (by omega)) (cwS 3 hts gX7_write_X7_in rfl rfl rfl (by decide +kernel) ⟨Nat.le_of_ble_eq_true rfl, Nat.le_of_ble_eq_true rfl⟩) rfl hl.1 (by simp only [nI_iI, lN_lI]; rfl) (Nat.le_of_ble_eq_true rfl) dX7_write_6 ⟨Nat.zero_le _, Nat.zero_le _⟩ hN hK hP hD hS hA [] [0, 1] rfl rfl ⟨rfl, rfl, by decide⟩ (fun r1 u H locs w2 hP hD hS => ?_)
  obtain ⟨rfl, h3, h4⟩ | ⟨rfl, h5⟩ : (r1 = (nI 1) ∧ (((1 : Nat) : Int)) ≤ (((n : Nat) : Int)) ∧ (((n : Nat) : Int)) ≤ (((8 : Nat) : Int))) ∨ (r1 = (nI 0) ∧ ((((n : Nat) : Int)) < (((1 : Nat) : Int)) ∨ (((8 : Nat) : Int)) < (((n : Nat) : Int)))) := w2
  · refine x_if_ne (tgt := 14) hx hb dX7_write_9 (by decide) (by omega) (fun h6 => ?_) (fun h6 => False.elim (by omega))
    refine lv_aload_n hx hb dX7_write_14 rfl (lv_at hl 0 rfl) ?_
    refine va_get (D := D) (ci := 7) (v := .int (nI len)) (C := RX7) (T := TX7) (N := 28) hx hb hts inX7 hown hK hP 0 rfl rfl 0 (by decide) fl86 (fun _ h9 => h9) rfl dX7_write_15 ?_
    refine lv_iload_n hx hb dX7_write_18 rfl (lv_at hl 1 rfl) ?_
    refine x_iadd hx hb dX7_write_19 ?_
    refine lv_sipush (v := (nI 300)) hx hb dX7_write_20 (by decide) ?_
    refine x_icmp_le (tgt := 29) hx hb dX7_write_23 (by decide) (by omega) (by omega) (fun h7 => ?_) (fun h7 => False.elim (by omega))
    refine lv_iload_n hx hb dX7_write_29 rfl (lv_at hl 1 rfl) ?_
    refine lv_iconst (v := (nI 1)) hx hb dX7_write_30 (by decide) ?_
    refine x_isub hx hb dX7_write_31 (by omega) ?_
    refine lv_istore (lv' := [(4, .int (nI (n - 1))), (0, .ref rr), (1, .int (nI n)), (2, .long xv)]) hx hb dX7_write_32 hl (by decide) rfl (fun ls hl => ?_)
    have loop34 : ∀ (nn34 : Nat) (mm : Nat), n - mm < nn34 → (mm ≤ n) → ∀ (H : Heap) (locs : List Loc), va_P D vwCl [(rr, eMod ad (len + mm) kp uo tm em pc0), (ad 1, eArr cI 300 (appM tx len n xv mm))] H → va_D A [(rr, eMod ad (len + mm) kp uo tm em pc0), (ad 1, eArr cI 300 (appM tx len n xv mm))] → va_S A s.heap H locs → ∀ ls : Array Slot, lv_has ls 5 [(4, .int (iI ((n : Int) - 1 - ((mm : Nat) : Int)))), (0, .ref rr), (1, .int (nI n)), (2, .long xv)] → W p l e (headSpec wsX7_write ({ frames := 1, cells := 0, slots := 0, locals := 25 })).room s m ([.ref rr, .int (nI n), .long xv] : List Value).toArray below meth c H locs 0 0 (MQ below (va_Qi (fun (r : Int32) (_ : Unit) => r = (nI (len + n))) (ctB D cI cC (fun (_ : Unit) => [(rr, eMod ad (len + n) kp uo tm em pc0), (ad 1, eArr cI 300 (appM tx len n xv n))]) A) A) ([.ref rr, .int (nI n), .long xv] : List Value).toArray s 0 0 A) (F0 m 34 ls []) := by
      intro nn34
      induction nn34 with
      | zero =>
        intro mm hm8
        exact absurd hm8 (Nat.not_lt_zero _)
      | succ nn34 ih34 =>
        intro mm hm8 hi9 H locs hP hD hS ls hl
        refine lv_iload hx hb dX7_write_34 (lv_at hl 0 rfl) ?_
        refine z_if_lt (tgt := 76) hx hb dX7_write_36 (by decide) (by omega) (fun h10 => ?_) (fun h10 => ?_)
        · have e11 : n = mm := by omega
          subst e11
          refine lv_aload_n hx hb dX7_write_76 rfl (lv_at hl 1 rfl) ?_
          refine va_get (D := D) (ci := 7) (v := .int (nI (len + n))) (C := RX7) (T := TX7) (N := 28) hx hb hts inX7 hown hK hP 0 rfl rfl 0 (by decide) fl86 (fun _ h9 => h9) rfl dX7_write_77 ?_
          exact x_iret hx hb hr hlocks dX7_write_80 rfl (post := fun (r : Int32) (_ : Unit) => r = (nI (len + n))) (w1 := fun (_ : Unit) => [(rr, eMod ad (len + n) kp uo tm em pc0), (ad 1, eArr cI 300 (appM tx len n xv n))]) () rfl hK hP hD hS
        · rw [show (iI ((n : Int) - 1 - ((mm : Nat) : Int))) = (nI (n - 1 - mm)) from by rw [nI_iI]; exact congrArg iI (by omega)] at hl
          refine lv_aload_n hx hb dX7_write_39 rfl (lv_at hl 1 rfl) ?_
          refine va_get (D := D) (ci := 7) (v := .ref (ad 1)) (C := RX7) (T := TX7) (N := 28) hx hb hts inX7 hown hK hP 0 rfl rfl 1 (by decide) fl7 (fun _ h9 => h9) rfl dX7_write_40 ?_
          refine lv_aload_n hx hb dX7_write_43 rfl (lv_at hl 1 rfl) ?_
          refine va_get (D := D) (ci := 7) (v := .int (nI (len + mm))) (C := RX7) (T := TX7) (N := 28) hx hb hts inX7 hown hK hP 0 rfl rfl 0 (by decide) fl86 (fun _ h9 => h9) rfl dX7_write_44 ?_
          refine lv_lload_n hx hb dX7_write_47 rfl (lv_at hl 3 rfl) ?_
          refine lv_bipush (v := (nI 8)) hx hb dX7_write_48 (by decide) ?_
          refine lv_iload hx hb dX7_write_50 (lv_at hl 0 rfl) ?_
          refine x_imul hx hb dX7_write_52 ?_
          refine lv_lshr hx hb dX7_write_53 (v := (xv >>> ((nI (8 * (n - 1 - mm))).toInt64 &&& 63))) rfl ?_
          refine lv_ldc2 (v := lN 255) hx hb hown (hts (.constantLong RX7 90 255) (by decide +kernel)) dX7_write_54 ?_
          refine lv_land hx hb dX7_write_57 ?_
          refine lv_l2i hx hb dX7_write_58 (v := ((xv >>> ((nI (8 * (n - 1 - mm))).toInt64 &&& 63)) &&& lN 255).toInt32) rfl ?_
          refine x_top (byte_s (by omega)) ?_
          refine x_iast (A := A) hx hb hK hP hD hS 1 0 rfl rfl dX7_write_59 (by omega) (by omega) (fun H locs hP hD hS => ?_)
          have hP : va_P D vwCl [(rr, eMod ad (len + mm) kp uo tm em pc0), (ad 1, eArr cI 300 (upN (appM tx len n xv mm) (len + mm) (bytM xv (n - 1 - mm))))] H := by have h := hP; rw [upd_nI] at h; exact h
          have hD : va_D A [(rr, eMod ad (len + mm) kp uo tm em pc0), (ad 1, eArr cI 300 (upN (appM tx len n xv mm) (len + mm) (bytM xv (n - 1 - mm))))] := by have h := hD; rw [upd_nI] at h; exact h
          refine lv_aload_n hx hb dX7_write_60 rfl (lv_at hl 1 rfl) ?_
          refine lv_dup hx hb dX7_write_61 rfl ?_
          refine va_get (D := D) (ci := 7) (v := .int (nI (len + mm))) (C := RX7) (T := TX7) (N := 28) hx hb hts inX7 hown hK hP 0 rfl rfl 0 (by decide) fl86 (fun _ h9 => h9) rfl dX7_write_62 ?_
          refine lv_iconst (v := (nI 1)) hx hb dX7_write_65 (by decide) ?_
          refine x_iadd hx hb dX7_write_66 ?_
          refine va_put (D := D) (ci := 7) (v := .int (nI (len + mm + 1))) (ty := .int) (C := RX7) (T := TX7) (N := 28) hx hb hts inX7 tyX7 tyX7_ok nmX7 hown hK hP hD hS 0 rfl rfl 0 (by decide) fl86 (fun _ h9 => h9) rfl (by decide +kernel) rfl rfl (Nat.le_of_ble_eq_true rfl) dX7_write_67 (fun H locs hP hD hS => ?_)
          have hP : va_P D vwCl [(rr, eMod ad (len + mm + 1) kp uo tm em pc0), (ad 1, eArr cI 300 (upN (appM tx len n xv mm) (len + mm) (bytM xv (n - 1 - mm))))] H := hP
          have hD : va_D A [(rr, eMod ad (len + mm + 1) kp uo tm em pc0), (ad 1, eArr cI 300 (upN (appM tx len n xv mm) (len + mm) (bytM xv (n - 1 - mm))))] := hD
          rw [show (nI (n - 1 - mm)) = (iI ((n : Int) - 1 - ((mm : Nat) : Int))) from by rw [nI_iI]; exact congrArg iI (by omega)] at hl
          refine lv_iinc (v := (iI ((n : Int) - 1 - ((mm : Nat) : Int) + (-1)))) (lv' := [(4, .int (iI ((n : Int) - 1 - ((mm : Nat) : Int) + (-1)))), (0, .ref rr), (1, .int (nI n)), (2, .long xv)]) hx hb dX7_write_70 hl (k := 0) rfl (iI_add _ (-1)) (by decide) rfl (fun ls hl => ?_)
          refine lv_goto (tgt := 34) hx hb dX7_write_73 (by decide) ?_
          have hP : va_P D vwCl [(rr, eMod ad (len + mm + 1) kp uo tm em pc0), (ad 1, eArr cI 300 (appM tx len n xv (mm + 1)))] H := by rw [appM_s]; exact hP
          have hD : va_D A [(rr, eMod ad (len + mm + 1) kp uo tm em pc0), (ad 1, eArr cI 300 (appM tx len n xv (mm + 1)))] := by rw [appM_s]; exact hD
          rw [show (iI ((n : Int) - 1 - ((mm : Nat) : Int) + (-1))) = (iI ((n : Int) - 1 - ((mm + 1 : Nat) : Int))) from congrArg iI (by omega)] at hl
          exact ih34 (mm + 1) (by omega) (by omega) _ _ (hP.sub [0, 1] rfl) (hD.sub [0, 1] rfl rfl) hS _ (lv_sub hl [0, 1, 2, 3] rfl)
    have hP : va_P D vwCl [(rr, eMod ad len kp uo tm em pc0), (ad 1, eArr cI 300 (appM tx len n xv 0))] H := by rw [appM_0]; exact hP
    have hD : va_D A [(rr, eMod ad len kp uo tm em pc0), (ad 1, eArr cI 300 (appM tx len n xv 0))] := by rw [appM_0]; exact hD
    rw [show (nI (n - 1)) = (iI ((n : Int) - 1 - ((0 : Nat) : Int))) from by rw [nI_iI]; exact congrArg iI (by omega)] at hl
    exact loop34 _ 0 (Nat.lt_succ_self _) (by omega) _ _ (hP.sub [0, 1] rfl) (hD.sub [0, 1] rfl rfl) hS _ (lv_sub hl [0, 1, 2, 3] rfl)
  · exact False.elim (by omega)

set_option maxRecDepth 100000 in
set_option maxHeartbeats 4000000 in
theorem c_X7_write_full (l : Launch) (D : va_G) (cI cC : ClassId) (rr : Nat) (ad : Nat → Nat) (len : Nat) (kp : Nat) (uo : Nat) (tm : Nat) (em : Nat) (pc0 : Nat) (tx : Nat → Nat) (n : Nat) (xv : Int64) (hn8 : 1 ≤ n ∧ n ≤ 8) (hlen : 300 < len + n ∧ len ≤ 300) : mtI l D cI cC yX7_write wsX7_write ({ frames := 1, cells := 0, slots := 0, locals := 25 }) [.ref rr, .int (nI n), .long xv] [(rr, eMod ad len kp uo tm em pc0), (ad 1, eArr cI 300 tx)] (fun (r : Int32) (_ : Unit) => r = (iI (-3))) (fun (_ : Unit) => [(rr, eMod ad len kp uo tm em pc0), (ad 1, eArr cI 300 tx)]) := by
  refine mtI_of (cc := cX7_write) (maxL := 5) (ret := (some .int)) (by decide) rfl rfl ?_
  intro p e s m below meth c A hx hb hml hr hts hown hlocks hN hA hK hP hD hS ls hl
  have hown : s.vm.findClass RX7 = some m.cls := hown
  have hl : lv_has ls 5 [(0, .ref rr), (1, .int (nI n)), (2, .long xv)] := hl
  obtain ⟨H, hHe⟩ : ∃ H, H = s.heap := ⟨_, rfl⟩
  rw [← hHe] at hP ⊢
  have hS : va_S A s.heap H [] := by rw [hHe]; exact va_S.rf
  have fl86 := hts (.fieldLink RX7 86 "EchoPaysRentModel" "length" "I") (by decide +kernel)
  have inX7 : ∀ w ∈ wsX70, w ∈ wsX7_write := by decide +kernel
  refine lv_iload_n hx hb dX7_write_0 rfl (lv_at hl 1 rfl) ?_
  refine n_i2l hx hb dX7_write_1 (by omega) ?_
  refine lv_lconst (v := lN 1) hx hb dX7_write_2 rfl ?_
  refine lv_ldc2 (v := lN 8) hx hb hown (hts (.constantLong RX7 80 8) (by decide +kernel)) dX7_write_3 ?_
  refine k_S (As := [.long (lI (((n : Nat) : Int))), .long (lI (((1 : Nat) : Int))), .long (lI (((8 : Nat) : Int)))]) (wr := [(rr, eMod ad len kp uo tm em pc0), (ad 1, eArr cI 300 tx)]) ⟨hx, hb, hml, hown, hts⟩ (c_X7_in l D cI cC (((n : Nat) : Int)) (((1 : Nat) : Int)) (((8 : Nat) : Int)) (by omega) (by omega) (by omega)) (cwS 3 hts gX7_write_X7_in rfl rfl rfl (by decide +kernel) ⟨Nat.le_of_ble_eq_true rfl, Nat.le_of_ble_eq_true rfl⟩) rfl hl.1 (by simp only [nI_iI, lN_lI]; rfl) (Nat.le_of_ble_eq_true rfl) dX7_write_6 ⟨Nat.zero_le _, Nat.zero_le _⟩ hN hK hP hD hS hA [] [0, 1] rfl rfl ⟨rfl, rfl, by decide⟩ (fun r1 u H locs w2 hP hD hS => ?_)
  obtain ⟨rfl, h3, h4⟩ | ⟨rfl, h5⟩ : (r1 = (nI 1) ∧ (((1 : Nat) : Int)) ≤ (((n : Nat) : Int)) ∧ (((n : Nat) : Int)) ≤ (((8 : Nat) : Int))) ∨ (r1 = (nI 0) ∧ ((((n : Nat) : Int)) < (((1 : Nat) : Int)) ∨ (((8 : Nat) : Int)) < (((n : Nat) : Int)))) := w2
  · refine x_if_ne (tgt := 14) hx hb dX7_write_9 (by decide) (by omega) (fun h6 => ?_) (fun h6 => False.elim (by omega))
    refine lv_aload_n hx hb dX7_write_14 rfl (lv_at hl 0 rfl) ?_
    refine va_get (D := D) (ci := 7) (v := .int (nI len)) (C := RX7) (T := TX7) (N := 28) hx hb hts inX7 hown hK hP 0 rfl rfl 0 (by decide) fl86 (fun _ h9 => h9) rfl dX7_write_15 ?_
    refine lv_iload_n hx hb dX7_write_18 rfl (lv_at hl 1 rfl) ?_
    refine x_iadd hx hb dX7_write_19 ?_
    refine lv_sipush (v := (nI 300)) hx hb dX7_write_20 (by decide) ?_
    refine x_icmp_le (tgt := 29) hx hb dX7_write_23 (by decide) (by omega) (by omega) (fun h7 => False.elim (by omega)) (fun h7 => ?_)
    refine lv_bipush (v := (iI (-3))) hx hb dX7_write_26 (by decide) ?_
    exact x_iret hx hb hr hlocks dX7_write_28 rfl (post := fun (r : Int32) (_ : Unit) => r = (iI (-3))) (w1 := fun (_ : Unit) => [(rr, eMod ad len kp uo tm em pc0), (ad 1, eArr cI 300 tx)]) () rfl hK hP hD hS
  · exact False.elim (by omega)

set_option maxRecDepth 100000 in
set_option maxHeartbeats 4000000 in
theorem c_X7_write_bad (l : Launch) (D : va_G) (cI cC : ClassId) (rr : Nat) (ad : Nat → Nat) (len : Nat) (kp : Nat) (uo : Nat) (tm : Nat) (em : Nat) (pc0 : Nat) (z : Int) (hz : -2147483648 ≤ z ∧ z < 2147483648) (xv : Int64) (hbad : (z < 1 ∨ 8 < z)) : mtI l D cI cC yX7_write wsX7_write ({ frames := 1, cells := 0, slots := 0, locals := 25 }) [.ref rr, .int (iI z), .long xv] [(rr, eMod ad len kp uo tm em pc0)] (fun (r : Int32) (_ : Unit) => r = (iI (-1))) (fun (_ : Unit) => [(rr, eMod ad len kp uo tm em pc0)]) := by
  refine mtI_of (cc := cX7_write) (maxL := 5) (ret := (some .int)) (by decide) rfl rfl ?_
  intro p e s m below meth c A hx hb hml hr hts hown hlocks hN hA hK hP hD hS ls hl
  have hown : s.vm.findClass RX7 = some m.cls := hown
  have hl : lv_has ls 5 [(0, .ref rr), (1, .int (iI z)), (2, .long xv)] := hl
  obtain ⟨H, hHe⟩ : ∃ H, H = s.heap := ⟨_, rfl⟩
  rw [← hHe] at hP ⊢
  have hS : va_S A s.heap H [] := by rw [hHe]; exact va_S.rf
  refine lv_iload_n hx hb dX7_write_0 rfl (lv_at hl 1 rfl) ?_
  refine z_i2l hx hb dX7_write_1 (by omega) ?_
  refine lv_lconst (v := lN 1) hx hb dX7_write_2 rfl ?_
  refine lv_ldc2 (v := lN 8) hx hb hown (hts (.constantLong RX7 80 8) (by decide +kernel)) dX7_write_3 ?_
  refine k_S (As := [.long (lI z), .long (lI (((1 : Nat) : Int))), .long (lI (((8 : Nat) : Int)))]) (wr := [(rr, eMod ad len kp uo tm em pc0)]) ⟨hx, hb, hml, hown, hts⟩ (c_X7_in l D cI cC z (((1 : Nat) : Int)) (((8 : Nat) : Int)) (by omega) (by omega) (by omega)) (cwS 3 hts gX7_write_X7_in rfl rfl rfl (by decide +kernel) ⟨Nat.le_of_ble_eq_true rfl, Nat.le_of_ble_eq_true rfl⟩) rfl hl.1 (by simp only [nI_iI, lN_lI]; rfl) (Nat.le_of_ble_eq_true rfl) dX7_write_6 ⟨Nat.zero_le _, Nat.zero_le _⟩ hN hK hP hD hS hA [] [0] rfl rfl ⟨rfl, rfl, by decide⟩ (fun r1 u H locs w2 hP hD hS => ?_)
  obtain ⟨rfl, h3, h4⟩ | ⟨rfl, h5⟩ : (r1 = (nI 1) ∧ (((1 : Nat) : Int)) ≤ z ∧ z ≤ (((8 : Nat) : Int))) ∨ (r1 = (nI 0) ∧ (z < (((1 : Nat) : Int)) ∨ (((8 : Nat) : Int)) < z)) := w2
  · refine x_if_ne (tgt := 14) hx hb dX7_write_9 (by decide) (by omega) (fun h6 => ?_) (fun h6 => False.elim (by omega))
    exact False.elim (by omega)
  · refine x_if_ne (tgt := 14) hx hb dX7_write_9 (by decide) (by omega) (fun h7 => False.elim (by omega)) (fun h7 => ?_)
    refine lv_iconst (v := (iI (-1))) hx hb dX7_write_12 (by decide) ?_
    exact x_iret hx hb hr hlocks dX7_write_13 rfl (post := fun (r : Int32) (_ : Unit) => r = (iI (-1))) (w1 := fun (_ : Unit) => [(rr, eMod ad len kp uo tm em pc0)]) () rfl hK hP hD hS

/-- what the reference's EARS hold -/
def relE (ea eb eh eg : Nat → Nat) (ne : Nat) : Prop := ∀ i, i < ne → ea i = eg (3 * i + 0) ∧ eb i = eg (3 * i + 1) ∧ eh i = eg (3 * i + 2)

set_option maxRecDepth 100000 in
set_option maxHeartbeats 4000000 in
theorem c_X7_isHeardSo (l : Launch) (D : va_G) (cI cC : ClassId) (rr : Nat) (ad : Nat → Nat) (len : Nat) (kp : Nat) (uo : Nat) (tm : Nat) (em : Nat) (pc0 : Nat) (fm : Nat → Nat) (pq : Nat → Nat) (dq : Nat → Nat) (kq : Nat → Nat) (ai : Nat → Nat) (sna : Nat → Nat) (wma : Nat → Nat) (be : Nat → Nat) (va : Nat → Nat) (lo : Nat → Nat) (ea : Nat → Nat) (eb : Nat → Nat) (eh : Nat → Nat) (lg : Nat → Nat) (vg : Nat → Nat) (cl : Nat → Nat) (hrc : relC pq dq kq cl (fm 0)) (hok : okC cl (fm 0)) (hfm : fm 0 ≤ 4 ∧ ai 0 ≤ 99 ∧ sna 0 < 2147483648) (wd : Nat → Nat) (hrd : relD be va lo wd (wma 0)) (hokd : okD wd (wma 0)) (hnw : wma 0 ≤ 8) (eg : Nat → Nat) (hre : relE ea eb eh eg em) (hem : em ≤ 9) (hoe : ∀ i, i < em → eg (3 * i + 0) ≤ 40 ∧ eg (3 * i + 1) ≤ 149 ∧ eg (3 * i + 2) ≤ 8) (x : Nat) (hx4 : x ≤ 40) : mtI l D cI cC yX7_isHeardSo wsX7_isHeardSo ({ frames := 4, cells := 0, slots := 0, locals := 98 }) [.ref rr, .int (nI x)] [(rr, eMod ad len kp uo tm em pc0), (ad 2, eArr cI 2 fm), (ad 3, eArr cI 8 pq), (ad 4, eArr cI 8 dq), (ad 5, eArr cI 8 kq), (ad 6, eArr cI 2 ai), (ad 13, eArr cI 4 sna), (ad 7, eArr cI 4 wma), (ad 8, eArr cI 32 be), (ad 9, eArr cI 32 va), (ad 10, eArr cI 32 lo), (ad 16, eArr cI 9 ea), (ad 17, eArr cI 9 eb), (ad 18, eArr cI 9 eh), (ad 20, eArr cI 150 lg), (ad 21, eArr cI 150 vg)] (fun (r : Int32) ((lg', vg') : (Nat → Nat) × (Nat → Nat)) => (r = (nI 1) ∧ asM cl (fm 0) (ai 0) (sna 0) wd (wma 0) eg em x = true) ∨ (r = (nI 0) ∧ asM cl (fm 0) (ai 0) (sna 0) wd (wma 0) eg em x = false)) (fun ((lg', vg') : (Nat → Nat) × (Nat → Nat)) => [(rr, eMod ad len kp uo tm em pc0), (ad 2, eArr cI 2 fm), (ad 3, eArr cI 8 pq), (ad 4, eArr cI 8 dq), (ad 5, eArr cI 8 kq), (ad 6, eArr cI 2 ai), (ad 13, eArr cI 4 sna), (ad 7, eArr cI 4 wma), (ad 8, eArr cI 32 be), (ad 9, eArr cI 32 va), (ad 10, eArr cI 32 lo), (ad 16, eArr cI 9 ea), (ad 17, eArr cI 9 eb), (ad 18, eArr cI 9 eh), (ad 20, eArr cI 150 lg'), (ad 21, eArr cI 150 vg')]) := by
  refine mtI_of (cc := cX7_isHeardSo) (maxL := 3) (ret := (some .boolean)) (by decide) rfl rfl ?_
  intro p e s m below meth c A hx hb hml hr hts hown hlocks hN hA hK hP hD hS ls hl
  have hown : s.vm.findClass RX7 = some m.cls := hown
  have hl : lv_has ls 3 [(0, .ref rr), (1, .int (nI x))] := hl
  obtain ⟨H, hHe⟩ : ∃ H, H = s.heap := ⟨_, rfl⟩
  rw [← hHe] at hP ⊢
  have hS : va_S A s.heap H [] := by rw [hHe]; exact va_S.rf
  have fl151 := hts (.fieldLink RX7 151 "EchoPaysRentModel" "earMany" "I") (by decide +kernel)
  have inX7 : ∀ w ∈ wsX70, w ∈ wsX7_isHeardSo := by decide +kernel
  have fl55 := hts (.fieldLink RX7 55 "EchoPaysRentModel" "earAt" "[I") (by decide +kernel)
  have fl70 := hts (.fieldLink RX7 70 "EchoPaysRentModel" "what" "[I") (by decide +kernel)
  have fl58 := hts (.fieldLink RX7 58 "EchoPaysRentModel" "earBeat" "[I") (by decide +kernel)
  have fl61 := hts (.fieldLink RX7 61 "EchoPaysRentModel" "earHeard" "[I") (by decide +kernel)
  refine lv_iconst (v := (nI 0)) hx hb dX7_isHeardSo_0 (by decide) ?_
  refine lv_istore_n (lv' := [(2, .int (nI 0)), (0, .ref rr), (1, .int (nI x))]) hx hb dX7_isHeardSo_1 rfl hl (by decide) rfl (fun ls hl => ?_)
  have loop2 : ∀ (nn2 : Nat) (i : Nat) (lg' : Nat → Nat) (vg' : Nat → Nat), em - i < nn2 → (i ≤ em) → (allB (earB cl (fm 0) (ai 0) (sna 0) wd (wma 0) eg x) i = true) → ∀ (H : Heap) (locs : List Loc), va_P D vwCl [(rr, eMod ad len kp uo tm em pc0), (ad 2, eArr cI 2 fm), (ad 3, eArr cI 8 pq), (ad 4, eArr cI 8 dq), (ad 5, eArr cI 8 kq), (ad 6, eArr cI 2 ai), (ad 13, eArr cI 4 sna), (ad 7, eArr cI 4 wma), (ad 8, eArr cI 32 be), (ad 9, eArr cI 32 va), (ad 10, eArr cI 32 lo), (ad 16, eArr cI 9 ea), (ad 17, eArr cI 9 eb), (ad 18, eArr cI 9 eh), (ad 20, eArr cI 150 lg'), (ad 21, eArr cI 150 vg')] H → va_D A [(rr, eMod ad len kp uo tm em pc0), (ad 2, eArr cI 2 fm), (ad 3, eArr cI 8 pq), (ad 4, eArr cI 8 dq), (ad 5, eArr cI 8 kq), (ad 6, eArr cI 2 ai), (ad 13, eArr cI 4 sna), (ad 7, eArr cI 4 wma), (ad 8, eArr cI 32 be), (ad 9, eArr cI 32 va), (ad 10, eArr cI 32 lo), (ad 16, eArr cI 9 ea), (ad 17, eArr cI 9 eb), (ad 18, eArr cI 9 eh), (ad 20, eArr cI 150 lg'), (ad 21, eArr cI 150 vg')] → va_S A s.heap H locs → ∀ ls : Array Slot, lv_has ls 3 [(2, .int (nI i)), (0, .ref rr), (1, .int (nI x))] → W p l e (headSpec wsX7_isHeardSo ({ frames := 4, cells := 0, slots := 0, locals := 98 })).room s m ([.ref rr, .int (nI x)] : List Value).toArray below meth c H locs 0 0 (MQ below (va_Qi (fun (r : Int32) ((lg', vg') : (Nat → Nat) × (Nat → Nat)) => (r = (nI 1) ∧ asM cl (fm 0) (ai 0) (sna 0) wd (wma 0) eg em x = true) ∨ (r = (nI 0) ∧ asM cl (fm 0) (ai 0) (sna 0) wd (wma 0) eg em x = false)) (ctB D cI cC (fun ((lg', vg') : (Nat → Nat) × (Nat → Nat)) => [(rr, eMod ad len kp uo tm em pc0), (ad 2, eArr cI 2 fm), (ad 3, eArr cI 8 pq), (ad 4, eArr cI 8 dq), (ad 5, eArr cI 8 kq), (ad 6, eArr cI 2 ai), (ad 13, eArr cI 4 sna), (ad 7, eArr cI 4 wma), (ad 8, eArr cI 32 be), (ad 9, eArr cI 32 va), (ad 10, eArr cI 32 lo), (ad 16, eArr cI 9 ea), (ad 17, eArr cI 9 eb), (ad 18, eArr cI 9 eh), (ad 20, eArr cI 150 lg'), (ad 21, eArr cI 150 vg')]) A) A) ([.ref rr, .int (nI x)] : List Value).toArray s 0 0 A) (F0 m 2 ls []) := by
    intro nn2
    induction nn2 with
    | zero =>
      intro i lg' vg' hm1
      exact absurd hm1 (Nat.not_lt_zero _)
    | succ nn2 ih2 =>
      intro i lg' vg' hm1 hi2 hal H locs hP hD hS ls hl
      refine lv_iload_n hx hb dX7_isHeardSo_2 rfl (lv_at hl 0 rfl) ?_
      refine lv_aload_n hx hb dX7_isHeardSo_3 rfl (lv_at hl 1 rfl) ?_
      refine va_get (D := D) (ci := 7) (v := .int (nI em)) (C := RX7) (T := TX7) (N := 28) hx hb hts inX7 hown hK hP 0 rfl rfl 19 (by decide) fl151 (fun _ h9 => h9) rfl dX7_isHeardSo_4 ?_
      refine x_icmp_ge (tgt := 50) hx hb dX7_isHeardSo_7 (by decide) (by omega) (by omega) (fun h3 => ?_) (fun h3 => ?_)
      · refine lv_iconst (v := (nI 1)) hx hb dX7_isHeardSo_50 (by decide) ?_
        exact x_iret hx hb hr hlocks dX7_isHeardSo_51 rfl (post := fun (r : Int32) ((lg', vg') : (Nat → Nat) × (Nat → Nat)) => (r = (nI 1) ∧ asM cl (fm 0) (ai 0) (sna 0) wd (wma 0) eg em x = true) ∨ (r = (nI 0) ∧ asM cl (fm 0) (ai 0) (sna 0) wd (wma 0) eg em x = false)) (w1 := fun ((lg', vg') : (Nat → Nat) × (Nat → Nat)) => [(rr, eMod ad len kp uo tm em pc0), (ad 2, eArr cI 2 fm), (ad 3, eArr cI 8 pq), (ad 4, eArr cI 8 dq), (ad 5, eArr cI 8 kq), (ad 6, eArr cI 2 ai), (ad 13, eArr cI 4 sna), (ad 7, eArr cI 4 wma), (ad 8, eArr cI 32 be), (ad 9, eArr cI 32 va), (ad 10, eArr cI 32 lo), (ad 16, eArr cI 9 ea), (ad 17, eArr cI 9 eb), (ad 18, eArr cI 9 eh), (ad 20, eArr cI 150 lg'), (ad 21, eArr cI 150 vg')]) (lg', vg') (Or.inl ⟨rfl, by unfold asM; rw [show em = i from by omega]; exact hal⟩) hK hP hD hS
      · obtain ⟨he1, he2, he3⟩ := hre i (by omega)
        obtain ⟨hq1, hq2, hq3⟩ := hoe i (by omega)
        have f4 : ea i ≤ 40 := by omega
        have f5 : eb i ≤ 149 := by omega
        have f6 : eh i ≤ 8 := by omega
        refine lv_aload_n hx hb dX7_isHeardSo_10 rfl (lv_at hl 1 rfl) ?_
        refine lv_iload_n hx hb dX7_isHeardSo_11 rfl (lv_at hl 2 rfl) ?_
        refine lv_aload_n hx hb dX7_isHeardSo_12 rfl (lv_at hl 1 rfl) ?_
        refine va_get (D := D) (ci := 7) (v := .ref (ad 16)) (C := RX7) (T := TX7) (N := 28) hx hb hts inX7 hown hK hP 0 rfl rfl 20 (by decide) fl55 (fun _ h9 => h9) rfl dX7_isHeardSo_13 ?_
        refine lv_iload_n hx hb dX7_isHeardSo_16 rfl (lv_at hl 0 rfl) ?_
        refine x_iald (A := A) hx hb hK hP 11 0 rfl rfl dX7_isHeardSo_17 (by omega) (by omega) ?_
        refine lv_iconst (v := (nI 0)) hx hb dX7_isHeardSo_18 (by decide) ?_
        refine k_Vv (q := (RX7, TX7, 28)) (ci := 7) (As := [.int (nI x), .int (nI (ea i)), .int (nI 0)]) (wr := [(ad 16, eArr cI 9 ea), (ad 17, eArr cI 9 eb), (ad 18, eArr cI 9 eh)]) ⟨hx, hb, hml, hown, hts⟩ (c_X7_sayAll l D cI cC rr ad len kp uo tm em pc0 fm pq dq kq ai sna wma be va lo cl hrc hok (by omega) wd hrd hokd (by omega) x (ea i) (by omega) 0 (Nat.two_pow_pos _) lg' vg') (cwV 3 hts gX7_isHeardSo_X7_sayAll rfl rfl rfl (by decide +kernel) ⟨Nat.le_of_ble_eq_true rfl, Nat.le_of_ble_eq_true rfl⟩) rfl hl.1 rfl (Nat.le_of_ble_eq_true rfl) dX7_isHeardSo_19 ⟨Nat.zero_le _, Nat.zero_le _⟩ hN hK hP hD hS hA rfl (q0 := 0) rfl [0, 1, 2, 3, 4, 5, 6, 7, 8, 9, 10, 14, 15] [11, 12, 13] rfl rfl ⟨rfl, rfl, by decide⟩ (fun u H locs w8 hP hD hS => ?_)
        have hP : va_P D vwCl [(ad 16, eArr cI 9 ea), (ad 17, eArr cI 9 eb), (ad 18, eArr cI 9 eh), (rr, eMod ad len kp uo tm em pc0), (ad 2, eArr cI 2 fm), (ad 3, eArr cI 8 pq), (ad 4, eArr cI 8 dq), (ad 5, eArr cI 8 kq), (ad 6, eArr cI 2 ai), (ad 13, eArr cI 4 sna), (ad 7, eArr cI 4 wma), (ad 8, eArr cI 32 be), (ad 9, eArr cI 32 va), (ad 10, eArr cI 32 lo), (ad 20, eArr cI 150 ((hearM cl (fm 0) (ai 0) (sna 0) wd (wma 0) x (ea i) (2 ^ (wma 0) - 1)).1)), (ad 21, eArr cI 150 ((hearM cl (fm 0) (ai 0) (sna 0) wd (wma 0) x (ea i) (2 ^ (wma 0) - 1)).2))] H := by rw [show 2 ^ (wma 0) - 1 = 2 ^ (wma 0) - 1 - 0 from rfl]; exact hP
        have hD : va_D A [(ad 16, eArr cI 9 ea), (ad 17, eArr cI 9 eb), (ad 18, eArr cI 9 eh), (rr, eMod ad len kp uo tm em pc0), (ad 2, eArr cI 2 fm), (ad 3, eArr cI 8 pq), (ad 4, eArr cI 8 dq), (ad 5, eArr cI 8 kq), (ad 6, eArr cI 2 ai), (ad 13, eArr cI 4 sna), (ad 7, eArr cI 4 wma), (ad 8, eArr cI 32 be), (ad 9, eArr cI 32 va), (ad 10, eArr cI 32 lo), (ad 20, eArr cI 150 ((hearM cl (fm 0) (ai 0) (sna 0) wd (wma 0) x (ea i) (2 ^ (wma 0) - 1)).1)), (ad 21, eArr cI 150 ((hearM cl (fm 0) (ai 0) (sna 0) wd (wma 0) x (ea i) (2 ^ (wma 0) - 1)).2))] := by rw [show 2 ^ (wma 0) - 1 = 2 ^ (wma 0) - 1 - 0 from rfl]; exact hD
        have hsb := (okS_play okS_quiet hokd (wma 0) (Nat.le_refl _) (on := onS (2 ^ (wma 0) - 1)) (L := waysM cl (ai 0) (sna 0) x (ea i) (fm 0)) (d := 0) (eb i)).2
        have hsb2 : (hearM cl (fm 0) (ai 0) (sna 0) wd (wma 0) x (ea i) (2 ^ (wma 0) - 1)).2 (eb i) < 2147483648 := hsb
        refine lv_aload_n hx hb dX7_isHeardSo_22 rfl (lv_at hl 1 rfl) ?_
        refine va_get (D := D) (ci := 7) (v := .ref (ad 21)) (C := RX7) (T := TX7) (N := 28) hx hb hts inX7 hown hK hP 3 rfl rfl 26 (by decide) fl70 (fun _ h9 => h9) rfl dX7_isHeardSo_23 ?_
        refine lv_aload_n hx hb dX7_isHeardSo_26 rfl (lv_at hl 1 rfl) ?_
        refine va_get (D := D) (ci := 7) (v := .ref (ad 17)) (C := RX7) (T := TX7) (N := 28) hx hb hts inX7 hown hK hP 3 rfl rfl 21 (by decide) fl58 (fun _ h9 => h9) rfl dX7_isHeardSo_27 ?_
        refine lv_iload_n hx hb dX7_isHeardSo_30 rfl (lv_at hl 0 rfl) ?_
        refine x_iald (A := A) hx hb hK hP 1 0 rfl rfl dX7_isHeardSo_31 (by omega) (by omega) ?_
        refine x_iald (A := A) hx hb hK hP 15 0 rfl rfl dX7_isHeardSo_32 (by omega) (by omega) ?_
        refine lv_aload_n hx hb dX7_isHeardSo_33 rfl (lv_at hl 1 rfl) ?_
        refine va_get (D := D) (ci := 7) (v := .ref (ad 18)) (C := RX7) (T := TX7) (N := 28) hx hb hts inX7 hown hK hP 3 rfl rfl 22 (by decide) fl61 (fun _ h9 => h9) rfl dX7_isHeardSo_34 ?_
        refine lv_iload_n hx hb dX7_isHeardSo_37 rfl (lv_at hl 0 rfl) ?_
        refine x_iald (A := A) hx hb hK hP 2 0 rfl rfl dX7_isHeardSo_38 (by omega) (by omega) ?_
        refine x_icmp_eq (tgt := 44) hx hb dX7_isHeardSo_39 (by decide) (by omega) (by omega) (fun h9 => ?_) (fun h9 => ?_)
        · refine lv_iinc (v := (nI (i + 1))) (lv' := [(2, .int (nI (i + 1))), (0, .ref rr), (1, .int (nI x))]) hx hb dX7_isHeardSo_44 hl (k := 0) rfl (nI_inc _ 1) (by decide) rfl (fun ls hl => ?_)
          refine lv_goto (tgt := 2) hx hb dX7_isHeardSo_47 (by decide) ?_
          exact ih2 (i + 1) ((hearM cl (fm 0) (ai 0) (sna 0) wd (wma 0) x (ea i) (2 ^ (wma 0) - 1)).1) ((hearM cl (fm 0) (ai 0) (sna 0) wd (wma 0) x (ea i) (2 ^ (wma 0) - 1)).2) (by omega) (by omega) (allB_s hal (decide_eq_true (by rw [← he1, ← he2, ← he3]; assumption))) _ _ (hP.sub [3, 4, 5, 6, 7, 8, 9, 10, 11, 12, 13, 0, 1, 2, 14, 15] rfl) (hD.sub [3, 4, 5, 6, 7, 8, 9, 10, 11, 12, 13, 0, 1, 2, 14, 15] rfl rfl) hS _ (lv_sub hl [0, 1, 2] rfl)
        · refine lv_iconst (v := (nI 0)) hx hb dX7_isHeardSo_42 (by decide) ?_
          exact x_iret hx hb hr hlocks dX7_isHeardSo_43 rfl (post := fun (r : Int32) ((lg', vg') : (Nat → Nat) × (Nat → Nat)) => (r = (nI 1) ∧ asM cl (fm 0) (ai 0) (sna 0) wd (wma 0) eg em x = true) ∨ (r = (nI 0) ∧ asM cl (fm 0) (ai 0) (sna 0) wd (wma 0) eg em x = false)) (w1 := fun ((lg', vg') : (Nat → Nat) × (Nat → Nat)) => [(rr, eMod ad len kp uo tm em pc0), (ad 2, eArr cI 2 fm), (ad 3, eArr cI 8 pq), (ad 4, eArr cI 8 dq), (ad 5, eArr cI 8 kq), (ad 6, eArr cI 2 ai), (ad 13, eArr cI 4 sna), (ad 7, eArr cI 4 wma), (ad 8, eArr cI 32 be), (ad 9, eArr cI 32 va), (ad 10, eArr cI 32 lo), (ad 16, eArr cI 9 ea), (ad 17, eArr cI 9 eb), (ad 18, eArr cI 9 eh), (ad 20, eArr cI 150 lg'), (ad 21, eArr cI 150 vg')]) ((hearM cl (fm 0) (ai 0) (sna 0) wd (wma 0) x (ea i) (2 ^ (wma 0) - 1)).1, (hearM cl (fm 0) (ai 0) (sna 0) wd (wma 0) x (ea i) (2 ^ (wma 0) - 1)).2) (Or.inr ⟨rfl, allB_f (p := earB cl (fm 0) (ai 0) (sna 0) wd (wma 0) eg x) (i := i) (decide_eq_false (by rw [← he1, ← he2, ← he3]; assumption)) (by omega)⟩) hK (hP.sub [3, 4, 5, 6, 7, 8, 9, 10, 11, 12, 13, 0, 1, 2, 14, 15] rfl) (hD.sub [3, 4, 5, 6, 7, 8, 9, 10, 11, 12, 13, 0, 1, 2, 14, 15] rfl rfl) hS
  exact loop2 _ 0 lg vg (Nat.lt_succ_self _) (by omega) rfl _ _ (hP.sub [0, 1, 2, 3, 4, 5, 6, 7, 8, 9, 10, 11, 12, 13, 14, 15] rfl) (hD.sub [0, 1, 2, 3, 4, 5, 6, 7, 8, 9, 10, 11, 12, 13, 14, 15] rfl rfl) hS _ (lv_sub hl [0, 1, 2] rfl)
