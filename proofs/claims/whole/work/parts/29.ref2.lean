set_option maxRecDepth 100000 in
set_option maxHeartbeats 4000000 in
theorem c_X7_faceFar (l : Launch) (D : va_G) (cI cC : ClassId) (rr : Nat) (ad : Nat → Nat) (len : Nat) (kp : Nat) (uo : Nat) (tm : Nat) (em : Nat) (pc0 : Nat) (pq : Nat → Nat) (f : Nat) (x : Nat) (y : Nat) (hf8 : f < 8) (hxy : x < 2147483648 ∧ y < 2147483648 ∧ pq f < 2147483648) : mtI l D cI cC yX7_faceFar wsX7_faceFar ({ frames := 1, cells := 0, slots := 0, locals := 21 }) [.ref rr, .int (nI f), .int (nI x), .int (nI y)] [(rr, eMod ad len kp uo tm em pc0), (ad 3, eArr cI 8 pq)] (fun (r : Int32) (_ : Unit) => r = (nI (absd x (pq f) + absd (pq f) y))) (fun (_ : Unit) => [(rr, eMod ad len kp uo tm em pc0), (ad 3, eArr cI 8 pq)]) := by
  refine mtI_of (cc := cX7_faceFar) (maxL := 4) (ret := (some .int)) (by decide) rfl rfl ?_
  intro p e s m below meth c A hx hb hml hr hts hown hlocks hN hA hK hP hD hS ls hl
  have hown : s.vm.findClass RX7 = some m.cls := hown
  have hl : lv_has ls 4 [(0, .ref rr), (1, .int (nI f)), (2, .int (nI x)), (3, .int (nI y))] := hl
  obtain ⟨H, hHe⟩ : ∃ H, H = s.heap := ⟨_, rfl⟩
  rw [← hHe] at hP ⊢
  have hS : va_S A s.heap H [] := by rw [hHe]; exact va_S.rf
  have fl16 := hts (.fieldLink RX7 16 "EchoPaysRentModel" "places" "[I") (by decide +kernel)
  have inX7 : ∀ w ∈ wsX70, w ∈ wsX7_faceFar := by decide +kernel
  refine lv_iload_n hx hb dX7_faceFar_0 rfl (lv_at hl 2 rfl) ?_
  refine lv_aload_n hx hb dX7_faceFar_1 rfl (lv_at hl 0 rfl) ?_
  refine va_get (D := D) (ci := 7) (v := .ref (ad 3)) (C := RX7) (T := TX7) (N := 28) hx hb hts inX7 hown hK hP 0 rfl rfl 3 (by decide) fl16 (fun _ h9 => h9) rfl dX7_faceFar_2 ?_
  refine lv_iload_n hx hb dX7_faceFar_5 rfl (lv_at hl 1 rfl) ?_
  refine x_iald (A := A) hx hb hK hP 1 0 rfl rfl dX7_faceFar_6 (by omega) (by omega) ?_
  refine k_S (As := [.int (nI x), .int (nI (pq f))]) (wr := [(rr, eMod ad len kp uo tm em pc0), (ad 3, eArr cI 8 pq)]) ⟨hx, hb, hml, hown, hts⟩ (c_X7_away l D cI cC x (pq f) (by omega)) (cwS 2 hts gX7_faceFar_X7_away rfl rfl rfl (by decide +kernel) ⟨Nat.le_of_ble_eq_true rfl, Nat.le_of_ble_eq_true rfl⟩) rfl hl.1 rfl (Nat.le_of_ble_eq_true rfl) dX7_faceFar_7 ⟨Nat.zero_le _, Nat.zero_le _⟩ hN hK hP hD hS hA [] [0, 1] rfl rfl ⟨rfl, rfl, by decide⟩ (fun r1 u H locs w2 hP hD hS => ?_)
  obtain rfl : r1 = (nI (absd x (pq f))) := w2
  refine lv_aload_n hx hb dX7_faceFar_10 rfl (lv_at hl 0 rfl) ?_
  refine va_get (D := D) (ci := 7) (v := .ref (ad 3)) (C := RX7) (T := TX7) (N := 28) hx hb hts inX7 hown hK hP 0 rfl rfl 3 (by decide) fl16 (fun _ h9 => h9) rfl dX7_faceFar_11 ?_
  refine lv_iload_n hx hb dX7_faceFar_14 rfl (lv_at hl 1 rfl) ?_
  refine x_iald (A := A) hx hb hK hP 1 0 rfl rfl dX7_faceFar_15 (by omega) (by omega) ?_
  refine lv_iload_n hx hb dX7_faceFar_16 rfl (lv_at hl 3 rfl) ?_
  refine k_S (As := [.int (nI (pq f)), .int (nI y)]) (wr := [(rr, eMod ad len kp uo tm em pc0), (ad 3, eArr cI 8 pq)]) ⟨hx, hb, hml, hown, hts⟩ (c_X7_away l D cI cC (pq f) y (by omega)) (cwS 2 hts gX7_faceFar_X7_away rfl rfl rfl (by decide +kernel) ⟨Nat.le_of_ble_eq_true rfl, Nat.le_of_ble_eq_true rfl⟩) rfl hl.1 rfl (Nat.le_of_ble_eq_true rfl) dX7_faceFar_17 ⟨Nat.zero_le _, Nat.zero_le _⟩ hN hK hP hD hS hA [] [0, 1] rfl rfl ⟨rfl, rfl, by decide⟩ (fun r3 u H locs w4 hP hD hS => ?_)
  obtain rfl : r3 = (nI (absd (pq f) y)) := w4
  refine x_iadd hx hb dX7_faceFar_20 ?_
  exact x_iret hx hb hr hlocks dX7_faceFar_21 rfl (post := fun (r : Int32) (_ : Unit) => r = (nI (absd x (pq f) + absd (pq f) y))) (w1 := fun (_ : Unit) => [(rr, eMod ad len kp uo tm em pc0), (ad 3, eArr cI 8 pq)]) () rfl hK hP hD hS

set_option maxRecDepth 100000 in
set_option maxHeartbeats 4000000 in
theorem c_X7_faceLoud (l : Launch) (D : va_G) (cI cC : ClassId) (rr : Nat) (ad : Nat → Nat) (len : Nat) (kp : Nat) (uo : Nat) (tm : Nat) (em : Nat) (pc0 : Nat) (dq : Nat → Nat) (kq : Nat → Nat) (ai : Nat → Nat) (f : Nat) (far : Nat) (lv : Nat) (hf8 : f < 8) (hkq : kq f < 2147483648) : mtI l D cI cC yX7_faceLoud wsX7_faceLoud ({ frames := 0, cells := 0, slots := 0, locals := 0 }) [.ref rr, .int (nI f), .int (nI far), .int (nI lv)] [(rr, eMod ad len kp uo tm em pc0), (ad 4, eArr cI 8 dq), (ad 5, eArr cI 8 kq), (ad 6, eArr cI 2 ai)] (fun (r : Int32) (_ : Unit) => r = (iI (((lv : Nat) : Int) - ((ai 0 * far : Nat) : Int) - (((if kq f = 1 then 2 else 1) * dq f : Nat) : Int)))) (fun (_ : Unit) => [(rr, eMod ad len kp uo tm em pc0), (ad 4, eArr cI 8 dq), (ad 5, eArr cI 8 kq), (ad 6, eArr cI 2 ai)]) := by
  refine mtI_of (cc := cX7_faceLoud) (maxL := 4) (ret := (some .int)) (by decide) rfl rfl ?_
  intro p e s m below meth c A hx hb hml hr hts hown hlocks hN hA hK hP hD hS ls hl
  have hown : s.vm.findClass RX7 = some m.cls := hown
  have hl : lv_has ls 4 [(0, .ref rr), (1, .int (nI f)), (2, .int (nI far)), (3, .int (nI lv))] := hl
  obtain ⟨H, hHe⟩ : ∃ H, H = s.heap := ⟨_, rfl⟩
  rw [← hHe] at hP ⊢
  have hS : va_S A s.heap H [] := by rw [hHe]; exact va_S.rf
  have fl25 := hts (.fieldLink RX7 25 "EchoPaysRentModel" "air" "[I") (by decide +kernel)
  have inX7 : ∀ w ∈ wsX70, w ∈ wsX7_faceLoud := by decide +kernel
  have fl22 := hts (.fieldLink RX7 22 "EchoPaysRentModel" "kinds" "[I") (by decide +kernel)
  have fl19 := hts (.fieldLink RX7 19 "EchoPaysRentModel" "dulls" "[I") (by decide +kernel)
  refine lv_iload_n hx hb dX7_faceLoud_0 rfl (lv_at hl 3 rfl) ?_
  refine lv_aload_n hx hb dX7_faceLoud_1 rfl (lv_at hl 0 rfl) ?_
  refine va_get (D := D) (ci := 7) (v := .ref (ad 6)) (C := RX7) (T := TX7) (N := 28) hx hb hts inX7 hown hK hP 0 rfl rfl 6 (by decide) fl25 (fun _ h9 => h9) rfl dX7_faceLoud_2 ?_
  refine lv_iconst (v := (nI 0)) hx hb dX7_faceLoud_5 (by decide) ?_
  refine x_iald (A := A) hx hb hK hP 3 0 rfl rfl dX7_faceLoud_6 (by omega) (by omega) ?_
  refine lv_iload_n hx hb dX7_faceLoud_7 rfl (lv_at hl 2 rfl) ?_
  refine x_imul hx hb dX7_faceLoud_8 ?_
  refine x_isubZ hx hb dX7_faceLoud_9 ?_
  refine lv_aload_n hx hb dX7_faceLoud_10 rfl (lv_at hl 0 rfl) ?_
  refine va_get (D := D) (ci := 7) (v := .ref (ad 5)) (C := RX7) (T := TX7) (N := 28) hx hb hts inX7 hown hK hP 0 rfl rfl 5 (by decide) fl22 (fun _ h9 => h9) rfl dX7_faceLoud_11 ?_
  refine lv_iload_n hx hb dX7_faceLoud_14 rfl (lv_at hl 1 rfl) ?_
  refine x_iald (A := A) hx hb hK hP 2 0 rfl rfl dX7_faceLoud_15 (by omega) (by omega) ?_
  refine lv_iconst (v := (nI 1)) hx hb dX7_faceLoud_16 (by decide) ?_
  refine x_icmp_ne (tgt := 24) hx hb dX7_faceLoud_17 (by decide) (by omega) (by omega) (fun h1 => ?_) (fun h1 => ?_)
  · refine lv_iconst (v := (nI 1)) hx hb dX7_faceLoud_24 (by decide) ?_
    refine lv_aload_n hx hb dX7_faceLoud_25 rfl (lv_at hl 0 rfl) ?_
    refine va_get (D := D) (ci := 7) (v := .ref (ad 4)) (C := RX7) (T := TX7) (N := 28) hx hb hts inX7 hown hK hP 0 rfl rfl 4 (by decide) fl19 (fun _ h9 => h9) rfl dX7_faceLoud_26 ?_
    refine lv_iload_n hx hb dX7_faceLoud_29 rfl (lv_at hl 1 rfl) ?_
    refine x_iald (A := A) hx hb hK hP 1 0 rfl rfl dX7_faceLoud_30 (by omega) (by omega) ?_
    refine x_imul hx hb dX7_faceLoud_31 ?_
    refine x_isubZN hx hb dX7_faceLoud_32 ?_
    exact x_iret hx hb hr hlocks dX7_faceLoud_33 rfl (post := fun (r : Int32) (_ : Unit) => r = (iI (((lv : Nat) : Int) - ((ai 0 * far : Nat) : Int) - (((if kq f = 1 then 2 else 1) * dq f : Nat) : Int)))) (w1 := fun (_ : Unit) => [(rr, eMod ad len kp uo tm em pc0), (ad 4, eArr cI 8 dq), (ad 5, eArr cI 8 kq), (ad 6, eArr cI 2 ai)]) () (congrArg iI (by first | rw [if_pos (by assumption)] | rw [if_neg (by assumption)])) hK hP hD hS
  · refine lv_iconst (v := (nI 2)) hx hb dX7_faceLoud_20 (by decide) ?_
    refine lv_goto (tgt := 25) hx hb dX7_faceLoud_21 (by decide) ?_
    refine lv_aload_n hx hb dX7_faceLoud_25 rfl (lv_at hl 0 rfl) ?_
    refine va_get (D := D) (ci := 7) (v := .ref (ad 4)) (C := RX7) (T := TX7) (N := 28) hx hb hts inX7 hown hK hP 0 rfl rfl 4 (by decide) fl19 (fun _ h9 => h9) rfl dX7_faceLoud_26 ?_
    refine lv_iload_n hx hb dX7_faceLoud_29 rfl (lv_at hl 1 rfl) ?_
    refine x_iald (A := A) hx hb hK hP 1 0 rfl rfl dX7_faceLoud_30 (by omega) (by omega) ?_
    refine x_imul hx hb dX7_faceLoud_31 ?_
    refine x_isubZN hx hb dX7_faceLoud_32 ?_
    exact x_iret hx hb hr hlocks dX7_faceLoud_33 rfl (post := fun (r : Int32) (_ : Unit) => r = (iI (((lv : Nat) : Int) - ((ai 0 * far : Nat) : Int) - (((if kq f = 1 then 2 else 1) * dq f : Nat) : Int)))) (w1 := fun (_ : Unit) => [(rr, eMod ad len kp uo tm em pc0), (ad 4, eArr cI 8 dq), (ad 5, eArr cI 8 kq), (ad 6, eArr cI 2 ai)]) () (congrArg iI (by first | rw [if_pos (by assumption)] | rw [if_neg (by assumption)])) hK hP hD hS

set_option maxRecDepth 100000 in
set_option maxHeartbeats 4000000 in
theorem c_X7_say1 (l : Launch) (D : va_G) (cI cC : ClassId) (rr : Nat) (ad : Nat → Nat) (len : Nat) (kp : Nat) (uo : Nat) (tm : Nat) (em : Nat) (pc0 : Nat) (fm : Nat → Nat) (pq : Nat → Nat) (dq : Nat → Nat) (kq : Nat → Nat) (ai : Nat → Nat) (sna : Nat → Nat) (S : Snd) (cl : Nat → Nat) (hrc : relC pq dq kq cl (fm 0)) (hok : okC cl (fm 0)) (hfm : fm 0 ≤ 4 ∧ ai 0 ≤ 99 ∧ sna 0 < 2147483648) (x : Nat) (t : Nat) (v : Nat) (lv : Nat) (y : Nat) (hxy : x ≤ 40 ∧ y ≤ 40) (htv : t ≤ 1000 ∧ v < 1000 ∧ lv ≤ 1000) (hS0 : okS S) : mtV l D cI cC yX7_say1 wsX7_say1 ({ frames := 2, cells := 0, slots := 0, locals := 44 }) [.ref rr, .int (nI x), .int (nI t), .int (nI v), .int (nI lv), .int (nI y)] [(rr, eMod ad len kp uo tm em pc0), (ad 2, eArr cI 2 fm), (ad 3, eArr cI 8 pq), (ad 4, eArr cI 8 dq), (ad 5, eArr cI 8 kq), (ad 6, eArr cI 2 ai), (ad 13, eArr cI 4 sna), (ad 20, eArr cI 150 S.1), (ad 21, eArr cI 150 S.2)] (fun (_ : Unit) => True) (fun (_ : Unit) => [(rr, eMod ad len kp uo tm em pc0), (ad 2, eArr cI 2 fm), (ad 3, eArr cI 8 pq), (ad 4, eArr cI 8 dq), (ad 5, eArr cI 8 kq), (ad 6, eArr cI 2 ai), (ad 13, eArr cI 4 sna), (ad 20, eArr cI 150 ((carryM S t v lv (waysM cl (ai 0) (sna 0) x y (fm 0))).1)), (ad 21, eArr cI 150 ((carryM S t v lv (waysM cl (ai 0) (sna 0) x y (fm 0))).2))]) := by
  refine mtV_of (cc := cX7_say1) (maxL := 11) (ret := none) (by decide) rfl rfl ?_
  intro p e s m below meth c A hx hb hml hr hts hown hlocks hN hA hK hP hD hS ls hl
  have hown : s.vm.findClass RX7 = some m.cls := hown
  have hl : lv_has ls 11 [(0, .ref rr), (1, .int (nI x)), (2, .int (nI t)), (3, .int (nI v)), (4, .int (nI lv)), (5, .int (nI y))] := hl
  obtain ⟨H, hHe⟩ : ∃ H, H = s.heap := ⟨_, rfl⟩
  rw [← hHe] at hP ⊢
  have hS : va_S A s.heap H [] := by rw [hHe]; exact va_S.rf
  have fl25 := hts (.fieldLink RX7 25 "EchoPaysRentModel" "air" "[I") (by decide +kernel)
  have inX7 : ∀ w ∈ wsX70, w ∈ wsX7_say1 := by decide +kernel
  have fl13 := hts (.fieldLink RX7 13 "EchoPaysRentModel" "faceMany" "[I") (by decide +kernel)
  have fl46 := hts (.fieldLink RX7 46 "EchoPaysRentModel" "snow" "[I") (by decide +kernel)
  have fl22 := hts (.fieldLink RX7 22 "EchoPaysRentModel" "kinds" "[I") (by decide +kernel)
  refine lv_iload_n hx hb dX7_say1_0 rfl (lv_at hl 1 rfl) ?_
  refine lv_iload hx hb dX7_say1_1 (lv_at hl 5 rfl) ?_
  refine k_S (As := [.int (nI x), .int (nI y)]) (wr := [(rr, eMod ad len kp uo tm em pc0), (ad 2, eArr cI 2 fm), (ad 3, eArr cI 8 pq), (ad 4, eArr cI 8 dq), (ad 5, eArr cI 8 kq), (ad 6, eArr cI 2 ai), (ad 13, eArr cI 4 sna), (ad 20, eArr cI 150 S.1), (ad 21, eArr cI 150 S.2)]) ⟨hx, hb, hml, hown, hts⟩ (c_X7_away l D cI cC x y (by omega)) (cwS 2 hts gX7_say1_X7_away rfl rfl rfl (by decide +kernel) ⟨Nat.le_of_ble_eq_true rfl, Nat.le_of_ble_eq_true rfl⟩) rfl hl.1 rfl (Nat.le_of_ble_eq_true rfl) dX7_say1_3 ⟨Nat.zero_le _, Nat.zero_le _⟩ hN hK hP hD hS hA [] [0, 1, 2, 3, 4, 5, 6, 7, 8] rfl rfl ⟨rfl, rfl, by decide⟩ (fun r1 u H locs w2 hP hD hS => ?_)
  obtain rfl : r1 = (nI (absd x y)) := w2
  have f3 : absd x y ≤ 40 := absd_le (by omega) (by omega)
  have f4 : ai 0 * absd x y ≤ 3960 := (Nat.mul_le_mul hfm.2.1 (show absd x y ≤ 40 by omega) : ai 0 * absd x y ≤ 99 * 40)
  refine lv_istore (lv' := [(6, .int (nI (absd x y))), (0, .ref rr), (1, .int (nI x)), (2, .int (nI t)), (3, .int (nI v)), (4, .int (nI lv)), (5, .int (nI y))]) hx hb dX7_say1_6 hl (by decide) rfl (fun ls hl => ?_)
  refine lv_aload_n hx hb dX7_say1_8 rfl (lv_at hl 1 rfl) ?_
  refine lv_iload_n hx hb dX7_say1_9 rfl (lv_at hl 3 rfl) ?_
  refine lv_iload hx hb dX7_say1_10 (lv_at hl 0 rfl) ?_
  refine x_iadd hx hb dX7_say1_12 ?_
  refine lv_iload_n hx hb dX7_say1_13 rfl (lv_at hl 4 rfl) ?_
  refine lv_iload hx hb dX7_say1_14 (lv_at hl 5 rfl) ?_
  refine lv_aload_n hx hb dX7_say1_16 rfl (lv_at hl 1 rfl) ?_
  refine va_get (D := D) (ci := 7) (v := .ref (ad 6)) (C := RX7) (T := TX7) (N := 28) hx hb hts inX7 hown hK hP 0 rfl rfl 6 (by decide) fl25 (fun _ h9 => h9) rfl dX7_say1_17 ?_
  refine lv_iconst (v := (nI 0)) hx hb dX7_say1_20 (by decide) ?_
  refine x_iald (A := A) hx hb hK hP 5 0 rfl rfl dX7_say1_21 (by omega) (by omega) ?_
  refine lv_iload hx hb dX7_say1_22 (lv_at hl 0 rfl) ?_
  refine x_imul hx hb dX7_say1_24 ?_
  refine x_isubZ hx hb dX7_say1_25 ?_
  refine k_Vv (q := (RX7, TX7, 28)) (ci := 7) (As := [.int (nI (t + absd x y)), .int (nI v), .int (iI (((lv : Nat) : Int) - (((ai 0) * (absd x y) : Nat) : Int)))]) (wr := [(ad 2, eArr cI 2 fm), (ad 3, eArr cI 8 pq), (ad 4, eArr cI 8 dq), (ad 5, eArr cI 8 kq), (ad 6, eArr cI 2 ai), (ad 13, eArr cI 4 sna)]) ⟨hx, hb, hml, hown, hts⟩ (c_X7_comes l D cI cC rr ad len kp uo tm em pc0 S (t + absd x y) (((lv : Nat) : Int) - (((ai 0) * (absd x y) : Nat) : Int)) v (by omega) (by omega) (by omega) hS0) (cwV 3 hts gX7_say1_X7_comes rfl rfl rfl (by decide +kernel) ⟨Nat.le_of_ble_eq_true rfl, Nat.le_of_ble_eq_true rfl⟩) rfl hl.1 rfl (Nat.le_of_ble_eq_true rfl) dX7_say1_26 ⟨Nat.zero_le _, Nat.zero_le _⟩ hN hK hP hD hS hA rfl (q0 := 0) rfl [0, 7, 8] [1, 2, 3, 4, 5, 6] rfl rfl ⟨rfl, rfl, by decide⟩ (fun u H locs w6 hP hD hS => ?_)
  refine lv_iconst (v := (nI 0)) hx hb dX7_say1_29 (by decide) ?_
  refine lv_istore (lv' := [(7, .int (nI 0)), (6, .int (nI (absd x y))), (0, .ref rr), (1, .int (nI x)), (2, .int (nI t)), (3, .int (nI v)), (4, .int (nI lv)), (5, .int (nI y))]) hx hb dX7_say1_30 hl (by decide) rfl (fun ls hl => ?_)
  have loop32 : ∀ (nn32 : Nat) (f : Nat), fm 0 - f < nn32 → (f ≤ fm 0) → ∀ (H : Heap) (locs : List Loc), va_P D vwCl [(rr, eMod ad len kp uo tm em pc0), (ad 2, eArr cI 2 fm), (ad 3, eArr cI 8 pq), (ad 4, eArr cI 8 dq), (ad 5, eArr cI 8 kq), (ad 6, eArr cI 2 ai), (ad 13, eArr cI 4 sna), (ad 20, eArr cI 150 ((carryM S t v lv (waysM cl (ai 0) (sna 0) x y f)).1)), (ad 21, eArr cI 150 ((carryM S t v lv (waysM cl (ai 0) (sna 0) x y f)).2))] H → va_D A [(rr, eMod ad len kp uo tm em pc0), (ad 2, eArr cI 2 fm), (ad 3, eArr cI 8 pq), (ad 4, eArr cI 8 dq), (ad 5, eArr cI 8 kq), (ad 6, eArr cI 2 ai), (ad 13, eArr cI 4 sna), (ad 20, eArr cI 150 ((carryM S t v lv (waysM cl (ai 0) (sna 0) x y f)).1)), (ad 21, eArr cI 150 ((carryM S t v lv (waysM cl (ai 0) (sna 0) x y f)).2))] → va_S A s.heap H locs → ∀ ls : Array Slot, lv_has ls 11 [(7, .int (nI f)), (0, .ref rr), (1, .int (nI x)), (2, .int (nI t)), (3, .int (nI v)), (4, .int (nI lv)), (5, .int (nI y))] → W p l e (headSpec wsX7_say1 ({ frames := 2, cells := 0, slots := 0, locals := 44 })).room s m ([.ref rr, .int (nI x), .int (nI t), .int (nI v), .int (nI lv), .int (nI y)] : List Value).toArray below meth c H locs 0 0 (MQ below (va_Qv (fun (_ : Unit) => True) (ctB D cI cC (fun (_ : Unit) => [(rr, eMod ad len kp uo tm em pc0), (ad 2, eArr cI 2 fm), (ad 3, eArr cI 8 pq), (ad 4, eArr cI 8 dq), (ad 5, eArr cI 8 kq), (ad 6, eArr cI 2 ai), (ad 13, eArr cI 4 sna), (ad 20, eArr cI 150 ((carryM S t v lv (waysM cl (ai 0) (sna 0) x y (fm 0))).1)), (ad 21, eArr cI 150 ((carryM S t v lv (waysM cl (ai 0) (sna 0) x y (fm 0))).2))]) A) A) ([.ref rr, .int (nI x), .int (nI t), .int (nI v), .int (nI lv), .int (nI y)] : List Value).toArray s 0 0 A) (F0 m 32 ls []) := by
    intro nn32
    induction nn32 with
    | zero =>
      intro f hm7
      exact absurd hm7 (Nat.not_lt_zero _)
    | succ nn32 ih32 =>
      intro f hm7 hi8 H locs hP hD hS ls hl
      refine lv_iload hx hb dX7_say1_32 (lv_at hl 0 rfl) ?_
      refine lv_aload_n hx hb dX7_say1_34 rfl (lv_at hl 1 rfl) ?_
      refine va_get (D := D) (ci := 7) (v := .ref (ad 2)) (C := RX7) (T := TX7) (N := 28) hx hb hts inX7 hown hK hP 0 rfl rfl 2 (by decide) fl13 (fun _ h9 => h9) rfl dX7_say1_35 ?_
      refine lv_iconst (v := (nI 0)) hx hb dX7_say1_38 (by decide) ?_
      refine x_iald (A := A) hx hb hK hP 1 0 rfl rfl dX7_say1_39 (by omega) (by omega) ?_
      refine x_icmp_ge (tgt := 142) hx hb dX7_say1_40 (by decide) (by omega) (by omega) (fun h9 => ?_) (fun h9 => ?_)
      · have ef : f = fm 0 := by omega
        have hP : va_P D vwCl [(rr, eMod ad len kp uo tm em pc0), (ad 2, eArr cI 2 fm), (ad 3, eArr cI 8 pq), (ad 4, eArr cI 8 dq), (ad 5, eArr cI 8 kq), (ad 6, eArr cI 2 ai), (ad 13, eArr cI 4 sna), (ad 20, eArr cI 150 ((carryM S t v lv (waysM cl (ai 0) (sna 0) x y (fm 0))).1)), (ad 21, eArr cI 150 ((carryM S t v lv (waysM cl (ai 0) (sna 0) x y (fm 0))).2))] H := by rw [← ef]; exact hP
        have hD : va_D A [(rr, eMod ad len kp uo tm em pc0), (ad 2, eArr cI 2 fm), (ad 3, eArr cI 8 pq), (ad 4, eArr cI 8 dq), (ad 5, eArr cI 8 kq), (ad 6, eArr cI 2 ai), (ad 13, eArr cI 4 sna), (ad 20, eArr cI 150 ((carryM S t v lv (waysM cl (ai 0) (sna 0) x y (fm 0))).1)), (ad 21, eArr cI 150 ((carryM S t v lv (waysM cl (ai 0) (sna 0) x y (fm 0))).2))] := by rw [← ef]; exact hD
        exact x_vret hx hb hr hlocks dX7_say1_142 (post := fun (_ : Unit) => True) (w1 := fun (_ : Unit) => [(rr, eMod ad len kp uo tm em pc0), (ad 2, eArr cI 2 fm), (ad 3, eArr cI 8 pq), (ad 4, eArr cI 8 dq), (ad 5, eArr cI 8 kq), (ad 6, eArr cI 2 ai), (ad 13, eArr cI 4 sna), (ad 20, eArr cI 150 ((carryM S t v lv (waysM cl (ai 0) (sna 0) x y (fm 0))).1)), (ad 21, eArr cI 150 ((carryM S t v lv (waysM cl (ai 0) (sna 0) x y (fm 0))).2))]) () trivial hK hP hD hS
      · refine lv_aload_n hx hb dX7_say1_43 rfl (lv_at hl 1 rfl) ?_
        refine va_get (D := D) (ci := 7) (v := .ref (ad 13)) (C := RX7) (T := TX7) (N := 28) hx hb hts inX7 hown hK hP 0 rfl rfl 13 (by decide) fl46 (fun _ h9 => h9) rfl dX7_say1_44 ?_
        refine lv_iconst (v := (nI 0)) hx hb dX7_say1_47 (by decide) ?_
        refine x_iald (A := A) hx hb hK hP 6 0 rfl rfl dX7_say1_48 (by omega) (by omega) ?_
        refine lv_iload hx hb dX7_say1_49 (lv_at hl 0 rfl) ?_
        refine k_S (As := [.int (nI (sna 0)), .int (nI f)]) (wr := [(rr, eMod ad len kp uo tm em pc0), (ad 2, eArr cI 2 fm), (ad 3, eArr cI 8 pq), (ad 4, eArr cI 8 dq), (ad 5, eArr cI 8 kq), (ad 6, eArr cI 2 ai), (ad 13, eArr cI 4 sna), (ad 20, eArr cI 150 ((carryM S t v lv (waysM cl (ai 0) (sna 0) x y f)).1)), (ad 21, eArr cI 150 ((carryM S t v lv (waysM cl (ai 0) (sna 0) x y f)).2))]) ⟨hx, hb, hml, hown, hts⟩ (c_X7_has l D cI cC (sna 0) f (by omega) (by omega)) (cwS 2 hts gX7_say1_X7_has rfl rfl rfl (by decide +kernel) ⟨Nat.le_of_ble_eq_true rfl, Nat.le_of_ble_eq_true rfl⟩) rfl hl.1 rfl (Nat.le_of_ble_eq_true rfl) dX7_say1_51 ⟨Nat.zero_le _, Nat.zero_le _⟩ hN hK hP hD hS hA [] [0, 1, 2, 3, 4, 5, 6, 7, 8] rfl rfl ⟨rfl, rfl, by decide⟩ (fun r10 u H locs w11 hP hD hS => ?_)
        obtain ⟨rfl, h12⟩ | ⟨rfl, h13⟩ : (r10 = (nI 1) ∧ (sna 0) / 2 ^ f % 2 = 1) ∨ (r10 = (nI 0) ∧ ¬ (sna 0) / 2 ^ f % 2 = 1) := w11
        · refine x_if_ne (tgt := 136) hx hb dX7_say1_54 (by decide) (by omega) (fun h14 => ?_) (fun h14 => False.elim (by omega))
          refine lv_iinc (v := (nI (f + 1))) (lv' := [(7, .int (nI (f + 1))), (0, .ref rr), (1, .int (nI x)), (2, .int (nI t)), (3, .int (nI v)), (4, .int (nI lv)), (5, .int (nI y))]) hx hb dX7_say1_136 hl (k := 0) rfl (nI_inc _ 1) (by decide) rfl (fun ls hl => ?_)
          refine lv_goto (tgt := 32) hx hb dX7_say1_139 (by decide) ?_
          have hP : va_P D vwCl [(rr, eMod ad len kp uo tm em pc0), (ad 2, eArr cI 2 fm), (ad 3, eArr cI 8 pq), (ad 4, eArr cI 8 dq), (ad 5, eArr cI 8 kq), (ad 6, eArr cI 2 ai), (ad 13, eArr cI 4 sna), (ad 20, eArr cI 150 ((carryM S t v lv (waysM cl (ai 0) (sna 0) x y (f + 1))).1)), (ad 21, eArr cI 150 ((carryM S t v lv (waysM cl (ai 0) (sna 0) x y (f + 1))).2))] H := by rw [waysM_snow h12]; exact hP
          have hD : va_D A [(rr, eMod ad len kp uo tm em pc0), (ad 2, eArr cI 2 fm), (ad 3, eArr cI 8 pq), (ad 4, eArr cI 8 dq), (ad 5, eArr cI 8 kq), (ad 6, eArr cI 2 ai), (ad 13, eArr cI 4 sna), (ad 20, eArr cI 150 ((carryM S t v lv (waysM cl (ai 0) (sna 0) x y (f + 1))).1)), (ad 21, eArr cI 150 ((carryM S t v lv (waysM cl (ai 0) (sna 0) x y (f + 1))).2))] := by rw [waysM_snow h12]; exact hD
          exact ih32 (f + 1) (by omega) (by omega) _ _ (hP.sub [0, 1, 2, 3, 4, 5, 6, 7, 8] rfl) (hD.sub [0, 1, 2, 3, 4, 5, 6, 7, 8] rfl rfl) hS _ (lv_sub hl [0, 1, 2, 3, 4, 5, 6] rfl)
        · refine x_if_ne (tgt := 136) hx hb dX7_say1_54 (by decide) (by omega) (fun h15 => False.elim (by omega)) (fun h15 => ?_)
          obtain ⟨hr1, hr2, hr3⟩ := hrc f (by omega)
          obtain ⟨ho1, ho2, ho3⟩ := hok f (by omega)
          have f16 : pq f ≤ 40 := by omega
          have f17 : dq f ≤ 9 := by omega
          have f18 : kq f ≤ 3 := by omega
          have hd1 : absd x (pq f) ≤ 40 := absd_le (by omega) (by omega)
          have hd2 : absd (pq f) y ≤ 40 := absd_le (by omega) (by omega)
          have f19 : ai 0 * (absd x (pq f) + absd (pq f) y) ≤ 7920 := (Nat.mul_le_mul hfm.2.1 (show absd x (pq f) + absd (pq f) y ≤ 80 by omega) : ai 0 * (absd x (pq f) + absd (pq f) y) ≤ 99 * 80)
          have hif : (if kq f = 1 then 2 else 1) * dq f ≤ 18 := by split <;> omega
          have hif2 : ((if kq f = 1 then 2 else 1) * dq f : Nat) = if kq f = 1 then 2 * dq f else dq f := by split <;> omega
          refine lv_aload_n hx hb dX7_say1_57 rfl (lv_at hl 1 rfl) ?_
          refine lv_iload hx hb dX7_say1_58 (lv_at hl 0 rfl) ?_
          refine lv_iload_n hx hb dX7_say1_60 rfl (lv_at hl 2 rfl) ?_
          refine lv_iload hx hb dX7_say1_61 (lv_at hl 6 rfl) ?_
          refine k_V (q := (RX7, TX7, 28)) (ci := 7) (As := [.int (nI f), .int (nI x), .int (nI y)]) (wr := [(ad 2, eArr cI 2 fm), (ad 4, eArr cI 8 dq), (ad 5, eArr cI 8 kq), (ad 6, eArr cI 2 ai), (ad 13, eArr cI 4 sna), (ad 20, eArr cI 150 ((carryM S t v lv (waysM cl (ai 0) (sna 0) x y f)).1)), (ad 21, eArr cI 150 ((carryM S t v lv (waysM cl (ai 0) (sna 0) x y f)).2))]) ⟨hx, hb, hml, hown, hts⟩ (c_X7_faceFar l D cI cC rr ad len kp uo tm em pc0 pq f x y (by omega) (by omega)) (cwV 3 hts gX7_say1_X7_faceFar rfl rfl rfl (by decide +kernel) ⟨Nat.le_of_ble_eq_true rfl, Nat.le_of_ble_eq_true rfl⟩) rfl hl.1 rfl (Nat.le_of_ble_eq_true rfl) dX7_say1_63 ⟨Nat.zero_le _, Nat.zero_le _⟩ hN hK hP hD hS hA rfl (q0 := 0) rfl [0, 2] [1, 3, 4, 5, 6, 7, 8] rfl rfl ⟨rfl, rfl, by decide⟩ (fun r20 u H locs w21 hP hD hS => ?_)
          obtain rfl : r20 = (nI (absd x (pq f) + absd (pq f) y)) := w21
          refine lv_istore (lv' := [(8, .int (nI (absd x (pq f) + absd (pq f) y))), (7, .int (nI f)), (0, .ref rr), (1, .int (nI x)), (2, .int (nI t)), (3, .int (nI v)), (4, .int (nI lv)), (5, .int (nI y))]) hx hb dX7_say1_66 hl (by decide) rfl (fun ls hl => ?_)
          refine lv_aload_n hx hb dX7_say1_68 rfl (lv_at hl 2 rfl) ?_
          refine lv_iload hx hb dX7_say1_69 (lv_at hl 1 rfl) ?_
          refine lv_iload hx hb dX7_say1_71 (lv_at hl 0 rfl) ?_
          refine lv_iload hx hb dX7_say1_73 (lv_at hl 6 rfl) ?_
          refine k_V (q := (RX7, TX7, 28)) (ci := 7) (As := [.int (nI f), .int (nI (absd x (pq f) + absd (pq f) y)), .int (nI lv)]) (wr := [(ad 2, eArr cI 2 fm), (ad 13, eArr cI 4 sna), (ad 20, eArr cI 150 ((carryM S t v lv (waysM cl (ai 0) (sna 0) x y f)).1)), (ad 21, eArr cI 150 ((carryM S t v lv (waysM cl (ai 0) (sna 0) x y f)).2)), (ad 3, eArr cI 8 pq)]) ⟨hx, hb, hml, hown, hts⟩ (c_X7_faceLoud l D cI cC rr ad len kp uo tm em pc0 dq kq ai f (absd x (pq f) + absd (pq f) y) lv (by omega) (by omega)) (cwV 3 hts gX7_say1_X7_faceLoud rfl rfl rfl (by decide +kernel) ⟨Nat.le_of_ble_eq_true rfl, Nat.le_of_ble_eq_true rfl⟩) rfl hl.1 rfl (Nat.le_of_ble_eq_true rfl) dX7_say1_75 ⟨Nat.zero_le _, Nat.zero_le _⟩ hN hK hP hD hS hA rfl (q0 := 7) rfl [7, 1, 2, 3] [0, 4, 5, 6, 8] rfl rfl ⟨rfl, rfl, by decide⟩ (fun r22 u H locs w23 hP hD hS => ?_)
          obtain rfl : r22 = (iI (((lv : Nat) : Int) - ((ai 0 * (absd x (pq f) + absd (pq f) y) : Nat) : Int) - (((if kq f = 1 then 2 else 1) * dq f : Nat) : Int))) := w23
          refine lv_istore (lv' := [(9, .int (iI (((lv : Nat) : Int) - ((ai 0 * (absd x (pq f) + absd (pq f) y) : Nat) : Int) - (((if kq f = 1 then 2 else 1) * dq f : Nat) : Int)))), (8, .int (nI (absd x (pq f) + absd (pq f) y))), (7, .int (nI f)), (0, .ref rr), (1, .int (nI x)), (2, .int (nI t)), (3, .int (nI v)), (4, .int (nI lv)), (5, .int (nI y))]) hx hb dX7_say1_78 hl (by decide) rfl (fun ls hl => ?_)
          refine lv_iload_n hx hb dX7_say1_80 rfl (lv_at hl 5 rfl) ?_
          refine lv_iload hx hb dX7_say1_81 (lv_at hl 1 rfl) ?_
          refine x_iadd hx hb dX7_say1_83 ?_
          refine lv_aload_n hx hb dX7_say1_84 rfl (lv_at hl 3 rfl) ?_
          refine va_get (D := D) (ci := 7) (v := .ref (ad 5)) (C := RX7) (T := TX7) (N := 28) hx hb hts inX7 hown hK hP 5 rfl rfl 5 (by decide) fl22 (fun _ h9 => h9) rfl dX7_say1_85 ?_
          refine lv_iload hx hb dX7_say1_88 (lv_at hl 2 rfl) ?_
          refine x_iald (A := A) hx hb hK hP 7 0 rfl rfl dX7_say1_90 (by omega) (by omega) ?_
          refine lv_iconst (v := (nI 2)) hx hb dX7_say1_91 (by decide) ?_
          refine x_icmp_ne (tgt := 99) hx hb dX7_say1_92 (by decide) (by omega) (by omega) (fun h24 => ?_) (fun h24 => ?_)
          · refine lv_iconst (v := (nI 0)) hx hb dX7_say1_99 (by decide) ?_
            refine x_iadd hx hb dX7_say1_100 ?_
            refine lv_istore (lv' := [(10, .int (nI (t + (absd x (pq f) + absd (pq f) y) + 0))), (9, .int (iI (((lv : Nat) : Int) - ((ai 0 * (absd x (pq f) + absd (pq f) y) : Nat) : Int) - (((if kq f = 1 then 2 else 1) * dq f : Nat) : Int)))), (8, .int (nI (absd x (pq f) + absd (pq f) y))), (7, .int (nI f)), (0, .ref rr), (1, .int (nI x)), (2, .int (nI t)), (3, .int (nI v)), (4, .int (nI lv)), (5, .int (nI y))]) hx hb dX7_say1_101 hl (by decide) rfl (fun ls hl => ?_)
            refine lv_aload_n hx hb dX7_say1_103 rfl (lv_at hl 4 rfl) ?_
            refine lv_iload hx hb dX7_say1_104 (lv_at hl 0 rfl) ?_
            refine lv_iload_n hx hb dX7_say1_106 rfl (lv_at hl 7 rfl) ?_
            refine lv_iload hx hb dX7_say1_107 (lv_at hl 1 rfl) ?_
            refine k_Vv (q := (RX7, TX7, 28)) (ci := 7) (As := [.int (nI (t + (absd x (pq f) + absd (pq f) y) + 0)), .int (nI v), .int (iI (((lv : Nat) : Int) - ((ai 0 * (absd x (pq f) + absd (pq f) y) : Nat) : Int) - (((if kq f = 1 then 2 else 1) * dq f : Nat) : Int)))]) (wr := [(ad 2, eArr cI 2 fm), (ad 13, eArr cI 4 sna), (ad 3, eArr cI 8 pq), (ad 4, eArr cI 8 dq), (ad 5, eArr cI 8 kq), (ad 6, eArr cI 2 ai)]) ⟨hx, hb, hml, hown, hts⟩ (c_X7_comes l D cI cC rr ad len kp uo tm em pc0 (carryM S t v lv (waysM cl (ai 0) (sna 0) x y f)) (t + (absd x (pq f) + absd (pq f) y) + 0) (((lv : Nat) : Int) - ((ai 0 * (absd x (pq f) + absd (pq f) y) : Nat) : Int) - (((if kq f = 1 then 2 else 1) * dq f : Nat) : Int)) v (by omega) (by omega) (by omega) (okS_carry (by omega) (by omega) _ S hS0)) (cwV 3 hts gX7_say1_X7_comes rfl rfl rfl (by decide +kernel) ⟨Nat.le_of_ble_eq_true rfl, Nat.le_of_ble_eq_true rfl⟩) rfl hl.1 rfl (Nat.le_of_ble_eq_true rfl) dX7_say1_109 ⟨Nat.zero_le _, Nat.zero_le _⟩ hN hK hP hD hS hA rfl (q0 := 5) rfl [5, 2, 3] [0, 1, 4, 6, 7, 8] rfl rfl ⟨rfl, rfl, by decide⟩ (fun u H locs w26 hP hD hS => ?_)
            refine lv_aload_n hx hb dX7_say1_112 rfl (lv_at hl 4 rfl) ?_
            refine va_get (D := D) (ci := 7) (v := .ref (ad 5)) (C := RX7) (T := TX7) (N := 28) hx hb hts inX7 hown hK hP 6 rfl rfl 5 (by decide) fl22 (fun _ h9 => h9) rfl dX7_say1_113 ?_
            refine lv_iload hx hb dX7_say1_116 (lv_at hl 3 rfl) ?_
            refine x_iald (A := A) hx hb hK hP 4 0 rfl rfl dX7_say1_118 (by omega) (by omega) ?_
            refine lv_iconst (v := (nI 3)) hx hb dX7_say1_119 (by decide) ?_
            refine x_icmp_ne (tgt := 136) hx hb dX7_say1_120 (by decide) (by omega) (by omega) (fun h27 => ?_) (fun h27 => ?_)
            · refine lv_iinc (v := (nI (f + 1))) (lv' := [(7, .int (nI (f + 1))), (10, .int (nI (t + (absd x (pq f) + absd (pq f) y) + 0))), (9, .int (iI (((lv : Nat) : Int) - ((ai 0 * (absd x (pq f) + absd (pq f) y) : Nat) : Int) - (((if kq f = 1 then 2 else 1) * dq f : Nat) : Int)))), (8, .int (nI (absd x (pq f) + absd (pq f) y))), (0, .ref rr), (1, .int (nI x)), (2, .int (nI t)), (3, .int (nI v)), (4, .int (nI lv)), (5, .int (nI y))]) hx hb dX7_say1_136 hl (k := 3) rfl (nI_inc _ 1) (by decide) rfl (fun ls hl => ?_)
              refine lv_goto (tgt := 32) hx hb dX7_say1_139 (by decide) ?_
              have es : carryM S t v lv (waysM cl (ai 0) (sna 0) x y (f + 1)) = comeM (carryM S t v lv (waysM cl (ai 0) (sna 0) x y f)) (t + (absd x (pq f) + absd (pq f) y) + 0) (((lv : Nat) : Int) - ((ai 0 * (absd x (pq f) + absd (pq f) y) : Nat) : Int) - (((if kq f = 1 then 2 else 1) * dq f : Nat) : Int)) v := by
                rw [waysM_s, carryM_app]
                unfold wayM
                rw [if_neg h13, ← hr1, ← hr2, ← hr3]
                dsimp only
                rw [show (if kq f = 2 then absd x (pq f) + absd (pq f) y + 2 else absd x (pq f) + absd (pq f) y) = _ from if_neg (by omega), show (if kq f = 3 then _ else [] : List (Nat × Nat)) = _ from if_neg (by omega), ← hif2]
                unfold carryM
                simp only [List.foldl_cons, List.foldl_nil]
                congr 1 <;> first | omega | (congr 1 <;> omega)
              have hP : va_P D vwCl [(ad 2, eArr cI 2 fm), (ad 13, eArr cI 4 sna), (ad 3, eArr cI 8 pq), (ad 4, eArr cI 8 dq), (ad 5, eArr cI 8 kq), (ad 6, eArr cI 2 ai), (rr, eMod ad len kp uo tm em pc0), (ad 20, eArr cI 150 ((carryM S t v lv (waysM cl (ai 0) (sna 0) x y (f + 1))).1)), (ad 21, eArr cI 150 ((carryM S t v lv (waysM cl (ai 0) (sna 0) x y (f + 1))).2))] H := by rw [es]; exact hP
              have hD : va_D A [(ad 2, eArr cI 2 fm), (ad 13, eArr cI 4 sna), (ad 3, eArr cI 8 pq), (ad 4, eArr cI 8 dq), (ad 5, eArr cI 8 kq), (ad 6, eArr cI 2 ai), (rr, eMod ad len kp uo tm em pc0), (ad 20, eArr cI 150 ((carryM S t v lv (waysM cl (ai 0) (sna 0) x y (f + 1))).1)), (ad 21, eArr cI 150 ((carryM S t v lv (waysM cl (ai 0) (sna 0) x y (f + 1))).2))] := by rw [es]; exact hD
              exact ih32 (f + 1) (by omega) (by omega) _ _ (hP.sub [6, 0, 2, 3, 4, 5, 1, 7, 8] rfl) (hD.sub [6, 0, 2, 3, 4, 5, 1, 7, 8] rfl rfl) hS _ (lv_sub hl [0, 4, 5, 6, 7, 8, 9] rfl)
            · refine lv_aload_n hx hb dX7_say1_123 rfl (lv_at hl 4 rfl) ?_
              refine lv_iload hx hb dX7_say1_124 (lv_at hl 0 rfl) ?_
              refine lv_iconst (v := (nI 4)) hx hb dX7_say1_126 (by decide) ?_
              refine x_iadd hx hb dX7_say1_127 ?_
              refine lv_iload_n hx hb dX7_say1_128 rfl (lv_at hl 7 rfl) ?_
              refine lv_iload hx hb dX7_say1_129 (lv_at hl 1 rfl) ?_
              refine lv_iconst (v := (nI 3)) hx hb dX7_say1_131 (by decide) ?_
              refine x_isubZN hx hb dX7_say1_132 ?_
              refine k_Vv (q := (RX7, TX7, 28)) (ci := 7) (As := [.int (nI (t + (absd x (pq f) + absd (pq f) y) + 0 + 4)), .int (nI v), .int (iI (((lv : Nat) : Int) - ((ai 0 * (absd x (pq f) + absd (pq f) y) : Nat) : Int) - (((if kq f = 1 then 2 else 1) * dq f : Nat) : Int) - ((3 : Nat) : Int)))]) (wr := [(ad 2, eArr cI 2 fm), (ad 13, eArr cI 4 sna), (ad 3, eArr cI 8 pq), (ad 4, eArr cI 8 dq), (ad 5, eArr cI 8 kq), (ad 6, eArr cI 2 ai)]) ⟨hx, hb, hml, hown, hts⟩ (c_X7_comes l D cI cC rr ad len kp uo tm em pc0 (comeM (carryM S t v lv (waysM cl (ai 0) (sna 0) x y f)) (t + (absd x (pq f) + absd (pq f) y) + 0) (((lv : Nat) : Int) - ((ai 0 * (absd x (pq f) + absd (pq f) y) : Nat) : Int) - (((if kq f = 1 then 2 else 1) * dq f : Nat) : Int)) v) (t + (absd x (pq f) + absd (pq f) y) + 0 + 4) (((lv : Nat) : Int) - ((ai 0 * (absd x (pq f) + absd (pq f) y) : Nat) : Int) - (((if kq f = 1 then 2 else 1) * dq f : Nat) : Int) - ((3 : Nat) : Int)) v (by omega) (by omega) (by omega) (okS_come (okS_carry (by omega) (by omega) _ S hS0) (by omega) (by omega))) (cwV 3 hts gX7_say1_X7_comes rfl rfl rfl (by decide +kernel) ⟨Nat.le_of_ble_eq_true rfl, Nat.le_of_ble_eq_true rfl⟩) rfl hl.1 rfl (Nat.le_of_ble_eq_true rfl) dX7_say1_133 ⟨Nat.zero_le _, Nat.zero_le _⟩ hN hK hP hD hS hA rfl (q0 := 6) rfl [6, 7, 8] [0, 1, 2, 3, 4, 5] rfl rfl ⟨rfl, rfl, by decide⟩ (fun u H locs w29 hP hD hS => ?_)
              refine lv_iinc (v := (nI (f + 1))) (lv' := [(7, .int (nI (f + 1))), (10, .int (nI (t + (absd x (pq f) + absd (pq f) y) + 0))), (9, .int (iI (((lv : Nat) : Int) - ((ai 0 * (absd x (pq f) + absd (pq f) y) : Nat) : Int) - (((if kq f = 1 then 2 else 1) * dq f : Nat) : Int)))), (8, .int (nI (absd x (pq f) + absd (pq f) y))), (0, .ref rr), (1, .int (nI x)), (2, .int (nI t)), (3, .int (nI v)), (4, .int (nI lv)), (5, .int (nI y))]) hx hb dX7_say1_136 hl (k := 3) rfl (nI_inc _ 1) (by decide) rfl (fun ls hl => ?_)
              refine lv_goto (tgt := 32) hx hb dX7_say1_139 (by decide) ?_
              have es : carryM S t v lv (waysM cl (ai 0) (sna 0) x y (f + 1)) = comeM (comeM (carryM S t v lv (waysM cl (ai 0) (sna 0) x y f)) (t + (absd x (pq f) + absd (pq f) y) + 0) (((lv : Nat) : Int) - ((ai 0 * (absd x (pq f) + absd (pq f) y) : Nat) : Int) - (((if kq f = 1 then 2 else 1) * dq f : Nat) : Int)) v) (t + (absd x (pq f) + absd (pq f) y) + 0 + 4) (((lv : Nat) : Int) - ((ai 0 * (absd x (pq f) + absd (pq f) y) : Nat) : Int) - (((if kq f = 1 then 2 else 1) * dq f : Nat) : Int) - ((3 : Nat) : Int)) v := by
                rw [waysM_s, carryM_app]
                unfold wayM
                rw [if_neg h13, ← hr1, ← hr2, ← hr3]
                dsimp only
                rw [show (if kq f = 2 then absd x (pq f) + absd (pq f) y + 2 else absd x (pq f) + absd (pq f) y) = _ from if_neg (by omega), show (if kq f = 3 then _ else [] : List (Nat × Nat)) = _ from if_pos (by omega), ← hif2]
                unfold carryM
                simp only [List.foldl_cons, List.foldl_nil]
                congr 1 <;> first | omega | (congr 1 <;> omega)
              have hP : va_P D vwCl [(ad 2, eArr cI 2 fm), (ad 13, eArr cI 4 sna), (ad 3, eArr cI 8 pq), (ad 4, eArr cI 8 dq), (ad 5, eArr cI 8 kq), (ad 6, eArr cI 2 ai), (rr, eMod ad len kp uo tm em pc0), (ad 20, eArr cI 150 ((carryM S t v lv (waysM cl (ai 0) (sna 0) x y (f + 1))).1)), (ad 21, eArr cI 150 ((carryM S t v lv (waysM cl (ai 0) (sna 0) x y (f + 1))).2))] H := by rw [es]; exact hP
              have hD : va_D A [(ad 2, eArr cI 2 fm), (ad 13, eArr cI 4 sna), (ad 3, eArr cI 8 pq), (ad 4, eArr cI 8 dq), (ad 5, eArr cI 8 kq), (ad 6, eArr cI 2 ai), (rr, eMod ad len kp uo tm em pc0), (ad 20, eArr cI 150 ((carryM S t v lv (waysM cl (ai 0) (sna 0) x y (f + 1))).1)), (ad 21, eArr cI 150 ((carryM S t v lv (waysM cl (ai 0) (sna 0) x y (f + 1))).2))] := by rw [es]; exact hD
              exact ih32 (f + 1) (by omega) (by omega) _ _ (hP.sub [6, 0, 2, 3, 4, 5, 1, 7, 8] rfl) (hD.sub [6, 0, 2, 3, 4, 5, 1, 7, 8] rfl rfl) hS _ (lv_sub hl [0, 4, 5, 6, 7, 8, 9] rfl)
          · refine lv_iconst (v := (nI 2)) hx hb dX7_say1_95 (by decide) ?_
            refine lv_goto (tgt := 100) hx hb dX7_say1_96 (by decide) ?_
            refine x_iadd hx hb dX7_say1_100 ?_
            refine lv_istore (lv' := [(10, .int (nI (t + (absd x (pq f) + absd (pq f) y) + 2))), (9, .int (iI (((lv : Nat) : Int) - ((ai 0 * (absd x (pq f) + absd (pq f) y) : Nat) : Int) - (((if kq f = 1 then 2 else 1) * dq f : Nat) : Int)))), (8, .int (nI (absd x (pq f) + absd (pq f) y))), (7, .int (nI f)), (0, .ref rr), (1, .int (nI x)), (2, .int (nI t)), (3, .int (nI v)), (4, .int (nI lv)), (5, .int (nI y))]) hx hb dX7_say1_101 hl (by decide) rfl (fun ls hl => ?_)
            refine lv_aload_n hx hb dX7_say1_103 rfl (lv_at hl 4 rfl) ?_
            refine lv_iload hx hb dX7_say1_104 (lv_at hl 0 rfl) ?_
            refine lv_iload_n hx hb dX7_say1_106 rfl (lv_at hl 7 rfl) ?_
            refine lv_iload hx hb dX7_say1_107 (lv_at hl 1 rfl) ?_
            refine k_Vv (q := (RX7, TX7, 28)) (ci := 7) (As := [.int (nI (t + (absd x (pq f) + absd (pq f) y) + 2)), .int (nI v), .int (iI (((lv : Nat) : Int) - ((ai 0 * (absd x (pq f) + absd (pq f) y) : Nat) : Int) - (((if kq f = 1 then 2 else 1) * dq f : Nat) : Int)))]) (wr := [(ad 2, eArr cI 2 fm), (ad 13, eArr cI 4 sna), (ad 3, eArr cI 8 pq), (ad 4, eArr cI 8 dq), (ad 5, eArr cI 8 kq), (ad 6, eArr cI 2 ai)]) ⟨hx, hb, hml, hown, hts⟩ (c_X7_comes l D cI cC rr ad len kp uo tm em pc0 (carryM S t v lv (waysM cl (ai 0) (sna 0) x y f)) (t + (absd x (pq f) + absd (pq f) y) + 2) (((lv : Nat) : Int) - ((ai 0 * (absd x (pq f) + absd (pq f) y) : Nat) : Int) - (((if kq f = 1 then 2 else 1) * dq f : Nat) : Int)) v (by omega) (by omega) (by omega) (okS_carry (by omega) (by omega) _ S hS0)) (cwV 3 hts gX7_say1_X7_comes rfl rfl rfl (by decide +kernel) ⟨Nat.le_of_ble_eq_true rfl, Nat.le_of_ble_eq_true rfl⟩) rfl hl.1 rfl (Nat.le_of_ble_eq_true rfl) dX7_say1_109 ⟨Nat.zero_le _, Nat.zero_le _⟩ hN hK hP hD hS hA rfl (q0 := 5) rfl [5, 2, 3] [0, 1, 4, 6, 7, 8] rfl rfl ⟨rfl, rfl, by decide⟩ (fun u H locs w31 hP hD hS => ?_)
            refine lv_aload_n hx hb dX7_say1_112 rfl (lv_at hl 4 rfl) ?_
            refine va_get (D := D) (ci := 7) (v := .ref (ad 5)) (C := RX7) (T := TX7) (N := 28) hx hb hts inX7 hown hK hP 6 rfl rfl 5 (by decide) fl22 (fun _ h9 => h9) rfl dX7_say1_113 ?_
            refine lv_iload hx hb dX7_say1_116 (lv_at hl 3 rfl) ?_
            refine x_iald (A := A) hx hb hK hP 4 0 rfl rfl dX7_say1_118 (by omega) (by omega) ?_
            refine lv_iconst (v := (nI 3)) hx hb dX7_say1_119 (by decide) ?_
            refine x_icmp_ne (tgt := 136) hx hb dX7_say1_120 (by decide) (by omega) (by omega) (fun h32 => ?_) (fun h32 => False.elim (by omega))
            refine lv_iinc (v := (nI (f + 1))) (lv' := [(7, .int (nI (f + 1))), (10, .int (nI (t + (absd x (pq f) + absd (pq f) y) + 2))), (9, .int (iI (((lv : Nat) : Int) - ((ai 0 * (absd x (pq f) + absd (pq f) y) : Nat) : Int) - (((if kq f = 1 then 2 else 1) * dq f : Nat) : Int)))), (8, .int (nI (absd x (pq f) + absd (pq f) y))), (0, .ref rr), (1, .int (nI x)), (2, .int (nI t)), (3, .int (nI v)), (4, .int (nI lv)), (5, .int (nI y))]) hx hb dX7_say1_136 hl (k := 3) rfl (nI_inc _ 1) (by decide) rfl (fun ls hl => ?_)
            refine lv_goto (tgt := 32) hx hb dX7_say1_139 (by decide) ?_
            have es : carryM S t v lv (waysM cl (ai 0) (sna 0) x y (f + 1)) = comeM (carryM S t v lv (waysM cl (ai 0) (sna 0) x y f)) (t + (absd x (pq f) + absd (pq f) y) + 2) (((lv : Nat) : Int) - ((ai 0 * (absd x (pq f) + absd (pq f) y) : Nat) : Int) - (((if kq f = 1 then 2 else 1) * dq f : Nat) : Int)) v := by
              rw [waysM_s, carryM_app]
              unfold wayM
              rw [if_neg h13, ← hr1, ← hr2, ← hr3]
              dsimp only
              rw [show (if kq f = 2 then absd x (pq f) + absd (pq f) y + 2 else absd x (pq f) + absd (pq f) y) = _ from if_pos (by omega), show (if kq f = 3 then _ else [] : List (Nat × Nat)) = _ from if_neg (by omega), ← hif2]
              unfold carryM
              simp only [List.foldl_cons, List.foldl_nil]
              congr 1 <;> first | omega | (congr 1 <;> omega)
            have hP : va_P D vwCl [(ad 2, eArr cI 2 fm), (ad 13, eArr cI 4 sna), (ad 3, eArr cI 8 pq), (ad 4, eArr cI 8 dq), (ad 5, eArr cI 8 kq), (ad 6, eArr cI 2 ai), (rr, eMod ad len kp uo tm em pc0), (ad 20, eArr cI 150 ((carryM S t v lv (waysM cl (ai 0) (sna 0) x y (f + 1))).1)), (ad 21, eArr cI 150 ((carryM S t v lv (waysM cl (ai 0) (sna 0) x y (f + 1))).2))] H := by rw [es]; exact hP
            have hD : va_D A [(ad 2, eArr cI 2 fm), (ad 13, eArr cI 4 sna), (ad 3, eArr cI 8 pq), (ad 4, eArr cI 8 dq), (ad 5, eArr cI 8 kq), (ad 6, eArr cI 2 ai), (rr, eMod ad len kp uo tm em pc0), (ad 20, eArr cI 150 ((carryM S t v lv (waysM cl (ai 0) (sna 0) x y (f + 1))).1)), (ad 21, eArr cI 150 ((carryM S t v lv (waysM cl (ai 0) (sna 0) x y (f + 1))).2))] := by rw [es]; exact hD
            exact ih32 (f + 1) (by omega) (by omega) _ _ (hP.sub [6, 0, 2, 3, 4, 5, 1, 7, 8] rfl) (hD.sub [6, 0, 2, 3, 4, 5, 1, 7, 8] rfl rfl) hS _ (lv_sub hl [0, 4, 5, 6, 7, 8, 9] rfl)
  have hP : va_P D vwCl [(ad 2, eArr cI 2 fm), (ad 3, eArr cI 8 pq), (ad 4, eArr cI 8 dq), (ad 5, eArr cI 8 kq), (ad 6, eArr cI 2 ai), (ad 13, eArr cI 4 sna), (rr, eMod ad len kp uo tm em pc0), (ad 20, eArr cI 150 ((carryM S t v lv (waysM cl (ai 0) (sna 0) x y 0)).1)), (ad 21, eArr cI 150 ((carryM S t v lv (waysM cl (ai 0) (sna 0) x y 0)).2))] H := hP
  have hD : va_D A [(ad 2, eArr cI 2 fm), (ad 3, eArr cI 8 pq), (ad 4, eArr cI 8 dq), (ad 5, eArr cI 8 kq), (ad 6, eArr cI 2 ai), (ad 13, eArr cI 4 sna), (rr, eMod ad len kp uo tm em pc0), (ad 20, eArr cI 150 ((carryM S t v lv (waysM cl (ai 0) (sna 0) x y 0)).1)), (ad 21, eArr cI 150 ((carryM S t v lv (waysM cl (ai 0) (sna 0) x y 0)).2))] := hD
  exact loop32 _ 0 (Nat.lt_succ_self _) (by omega) _ _ (hP.sub [6, 0, 1, 2, 3, 4, 5, 7, 8] rfl) (hD.sub [6, 0, 1, 2, 3, 4, 5, 7, 8] rfl rfl) hS _ (lv_sub hl [0, 2, 3, 4, 5, 6, 7] rfl)
