theorem hitS_all {S : Snd} {wd : Nat → Nat} {d y z nw : Nat} (hn : nw ≤ 8) : hitS S wd d y z nw = bitsM (fun w => onS (2 ^ nw - 1) w && hitM S wd w d y z) nw :=
  (bitsM_congr (fun w hw => by (try dsimp only); rw [onS_all hn hw]; rfl))
set_option maxRecDepth 100000 in
theorem pop_all : ∀ n, n < 9 → ∀ k, k < 2 ^ n → (popM k = n ↔ k = 2 ^ n - 1) := by decide +kernel
theorem cnt_all {cl : Nat → Nat} {nc air sn : Nat} {wd : Nat → Nat} {nw x y : Nat} (hn : nw ≤ 8) : cntClr cl nc air sn wd nw x y = nw ↔ clrM cl nc air sn wd nw x y (2 ^ nw - 1) = 2 ^ nw - 1 := pop_all nw (by omega) _ (bitsM_lt _ nw)

set_option maxRecDepth 100000 in
set_option maxHeartbeats 4000000 in
theorem c_X7_evening_bad (l : Launch) (D : va_G) (cI cC : ClassId) (rr : Nat) (ad : Nat → Nat) (len : Nat) (kp : Nat) (uo : Nat) (tm : Nat) (em : Nat) (pc0 : Nat) (z : Int) (hz : -2147483648 ≤ z ∧ z < 2147483648) (hbad : (z < 0 ∨ 9999 < z)) : mtI l D cI cC yX7_evening wsX7_evening ({ frames := 1, cells := 0, slots := 0, locals := 25 }) [.ref rr, .int (iI z)] [(rr, eMod ad len kp uo tm em pc0)] (fun (r : Int32) (_ : Unit) => r = (iI (-1))) (fun (_ : Unit) => [(rr, eMod ad len kp uo tm em pc0)]) := by
  refine mtI_of (cc := cX7_evening) (maxL := 6) (ret := (some .int)) (by decide) rfl rfl ?_
  intro p e s m below meth c A hx hb hml hr hts hown hlocks hN hA hK hP hD hS ls hl
  have hown : s.vm.findClass RX7 = some m.cls := hown
  have hl : lv_has ls 6 [(0, .ref rr), (1, .int (iI z))] := hl
  obtain ⟨H, hHe⟩ : ∃ H, H = s.heap := ⟨_, rfl⟩
  rw [← hHe] at hP ⊢
  have hS : va_S A s.heap H [] := by rw [hHe]; exact va_S.rf
  refine lv_iload_n hx hb dX7_evening_0 rfl (lv_at hl 1 rfl) ?_
  refine z_i2l hx hb dX7_evening_1 (by omega) ?_
  refine lv_lconst (v := lN 0) hx hb dX7_evening_2 rfl ?_
  refine lv_ldc2 (v := lN 9999) hx hb hown (hts (.constantLong RX7 221 9999) (by decide +kernel)) dX7_evening_3 ?_
  refine k_S (As := [.long (lI z), .long (lI (((0 : Nat) : Int))), .long (lI (((9999 : Nat) : Int)))]) (wr := [(rr, eMod ad len kp uo tm em pc0)]) ⟨hx, hb, hml, hown, hts⟩ (c_X7_in l D cI cC z (((0 : Nat) : Int)) (((9999 : Nat) : Int)) (by omega) (by omega) (by omega)) (cwS 3 hts gX7_evening_X7_in rfl rfl rfl (by decide +kernel) ⟨Nat.le_of_ble_eq_true rfl, Nat.le_of_ble_eq_true rfl⟩) rfl hl.1 (by simp only [nI_iI, lN_lI]; rfl) (Nat.le_of_ble_eq_true rfl) dX7_evening_6 ⟨Nat.zero_le _, Nat.zero_le _⟩ hN hK hP hD hS hA [] [0] rfl rfl ⟨rfl, rfl, by decide⟩ (fun r1 u H locs w2 hP hD hS => ?_)
  obtain ⟨rfl, h3, h4⟩ | ⟨rfl, h5⟩ : (r1 = (nI 1) ∧ (((0 : Nat) : Int)) ≤ z ∧ z ≤ (((9999 : Nat) : Int))) ∨ (r1 = (nI 0) ∧ (z < (((0 : Nat) : Int)) ∨ (((9999 : Nat) : Int)) < z)) := w2
  · refine x_if_ne (tgt := 14) hx hb dX7_evening_9 (by decide) (by omega) (fun h6 => ?_) (fun h6 => False.elim (by omega))
    exact False.elim (by omega)
  · refine x_if_ne (tgt := 14) hx hb dX7_evening_9 (by decide) (by omega) (fun h7 => False.elim (by omega)) (fun h7 => ?_)
    refine lv_iconst (v := (iI (-1))) hx hb dX7_evening_12 (by decide) ?_
    exact x_iret hx hb hr hlocks dX7_evening_13 rfl (post := fun (r : Int32) (_ : Unit) => r = (iI (-1))) (w1 := fun (_ : Unit) => [(rr, eMod ad len kp uo tm em pc0)]) () rfl hK hP hD hS

set_option maxRecDepth 100000 in
set_option maxHeartbeats 4000000 in
theorem c_X7_evening_ok (l : Launch) (D : va_G) (cI cC : ClassId) (rr : Nat) (ad : Nat → Nat) (len : Nat) (kp : Nat) (uo : Nat) (tm : Nat) (em : Nat) (pc0 : Nat) (fm : Nat → Nat) (pq : Nat → Nat) (dq : Nat → Nat) (kq : Nat → Nat) (ai : Nat → Nat) (sna : Nat → Nat) (wma : Nat → Nat) (be : Nat → Nat) (va : Nat → Nat) (lo : Nat → Nat) (spa : Nat → Nat) (hea : Nat → Nat) (lg : Nat → Nat) (vg : Nat → Nat) (cl : Nat → Nat) (hrc : relC pq dq kq cl (fm 0)) (hok : okC cl (fm 0)) (hfm : fm 0 ≤ 4 ∧ ai 0 ≤ 99 ∧ sna 0 < 2147483648) (wd : Nat → Nat) (hrd : relD be va lo wd (wma 0)) (hokd : okD wd (wma 0)) (hnw : wma 0 ≤ 8) (hsp : spa 0 ≤ 40 ∧ hea 0 ≤ 40) (z : Nat) (hz : z ≤ 9999) : mtI l D cI cC yX7_evening wsX7_evening ({ frames := 4, cells := 0, slots := 0, locals := 98 }) [.ref rr, .int (nI z)] [(rr, eMod ad len kp uo tm em pc0), (ad 2, eArr cI 2 fm), (ad 3, eArr cI 8 pq), (ad 4, eArr cI 8 dq), (ad 5, eArr cI 8 kq), (ad 6, eArr cI 2 ai), (ad 13, eArr cI 4 sna), (ad 7, eArr cI 4 wma), (ad 8, eArr cI 32 be), (ad 9, eArr cI 32 va), (ad 10, eArr cI 32 lo), (ad 11, eArr cI 4 spa), (ad 12, eArr cI 4 hea), (ad 20, eArr cI 150 lg), (ad 21, eArr cI 150 vg)] (fun (r : Int32) (_ : Unit) => r = (nI (evenM cl (fm 0) (ai 0) (sna 0) wd (wma 0) (spa 0) (hea 0) z))) (fun (_ : Unit) => [(rr, eMod ad len kp uo tm em pc0), (ad 2, eArr cI 2 fm), (ad 3, eArr cI 8 pq), (ad 4, eArr cI 8 dq), (ad 5, eArr cI 8 kq), (ad 6, eArr cI 2 ai), (ad 13, eArr cI 4 sna), (ad 7, eArr cI 4 wma), (ad 8, eArr cI 32 be), (ad 9, eArr cI 32 va), (ad 10, eArr cI 32 lo), (ad 11, eArr cI 4 spa), (ad 12, eArr cI 4 hea), (ad 20, eArr cI 150 ((eveF cl (fm 0) (ai 0) (sna 0) wd (wma 0) (spa 0) (hea 0) z (wma 0)).1)), (ad 21, eArr cI 150 ((eveF cl (fm 0) (ai 0) (sna 0) wd (wma 0) (spa 0) (hea 0) z (wma 0)).2))]) := by
  refine mtI_of (cc := cX7_evening) (maxL := 6) (ret := (some .int)) (by decide) rfl rfl ?_
  intro p e s m below meth c A hx hb hml hr hts hown hlocks hN hA hK hP hD hS ls hl
  have hown : s.vm.findClass RX7 = some m.cls := hown
  have hl : lv_has ls 6 [(0, .ref rr), (1, .int (nI z))] := hl
  obtain ⟨H, hHe⟩ : ∃ H, H = s.heap := ⟨_, rfl⟩
  rw [← hHe] at hP ⊢
  have hS : va_S A s.heap H [] := by rw [hHe]; exact va_S.rf
  have fl40 := hts (.fieldLink RX7 40 "EchoPaysRentModel" "speaker" "[I") (by decide +kernel)
  have inX7 : ∀ w ∈ wsX70, w ∈ wsX7_evening := by decide +kernel
  have fl43 := hts (.fieldLink RX7 43 "EchoPaysRentModel" "hearer" "[I") (by decide +kernel)
  have fl28 := hts (.fieldLink RX7 28 "EchoPaysRentModel" "wordMany" "[I") (by decide +kernel)
  have fl31 := hts (.fieldLink RX7 31 "EchoPaysRentModel" "beats" "[I") (by decide +kernel)
  have fl37 := hts (.fieldLink RX7 37 "EchoPaysRentModel" "louds" "[I") (by decide +kernel)
  refine lv_iload_n hx hb dX7_evening_0 rfl (lv_at hl 1 rfl) ?_
  refine n_i2l hx hb dX7_evening_1 (by omega) ?_
  refine lv_lconst (v := lN 0) hx hb dX7_evening_2 rfl ?_
  refine lv_ldc2 (v := lN 9999) hx hb hown (hts (.constantLong RX7 221 9999) (by decide +kernel)) dX7_evening_3 ?_
  refine k_S (As := [.long (lI (((z : Nat) : Int))), .long (lI (((0 : Nat) : Int))), .long (lI (((9999 : Nat) : Int)))]) (wr := [(rr, eMod ad len kp uo tm em pc0), (ad 2, eArr cI 2 fm), (ad 3, eArr cI 8 pq), (ad 4, eArr cI 8 dq), (ad 5, eArr cI 8 kq), (ad 6, eArr cI 2 ai), (ad 13, eArr cI 4 sna), (ad 7, eArr cI 4 wma), (ad 8, eArr cI 32 be), (ad 9, eArr cI 32 va), (ad 10, eArr cI 32 lo), (ad 11, eArr cI 4 spa), (ad 12, eArr cI 4 hea), (ad 20, eArr cI 150 lg), (ad 21, eArr cI 150 vg)]) ⟨hx, hb, hml, hown, hts⟩ (c_X7_in l D cI cC (((z : Nat) : Int)) (((0 : Nat) : Int)) (((9999 : Nat) : Int)) (by omega) (by omega) (by omega)) (cwS 3 hts gX7_evening_X7_in rfl rfl rfl (by decide +kernel) ⟨Nat.le_of_ble_eq_true rfl, Nat.le_of_ble_eq_true rfl⟩) rfl hl.1 (by simp only [nI_iI, lN_lI]; rfl) (Nat.le_of_ble_eq_true rfl) dX7_evening_6 ⟨Nat.zero_le _, Nat.zero_le _⟩ hN hK hP hD hS hA [] [0, 1, 2, 3, 4, 5, 6, 7, 8, 9, 10, 11, 12, 13, 14] rfl rfl ⟨rfl, rfl, by decide⟩ (fun r1 u H locs w2 hP hD hS => ?_)
  obtain ⟨rfl, h3, h4⟩ | ⟨rfl, h5⟩ : (r1 = (nI 1) ∧ (((0 : Nat) : Int)) ≤ (((z : Nat) : Int)) ∧ (((z : Nat) : Int)) ≤ (((9999 : Nat) : Int))) ∨ (r1 = (nI 0) ∧ ((((z : Nat) : Int)) < (((0 : Nat) : Int)) ∨ (((9999 : Nat) : Int)) < (((z : Nat) : Int)))) := w2
  · refine x_if_ne (tgt := 14) hx hb dX7_evening_9 (by decide) (by omega) (fun h6 => ?_) (fun h6 => False.elim (by omega))
    refine lv_aload_n hx hb dX7_evening_14 rfl (lv_at hl 0 rfl) ?_
    refine lv_aload_n hx hb dX7_evening_15 rfl (lv_at hl 0 rfl) ?_
    refine va_get (D := D) (ci := 7) (v := .ref (ad 11)) (C := RX7) (T := TX7) (N := 28) hx hb hts inX7 hown hK hP 0 rfl rfl 11 (by decide) fl40 (fun _ h9 => h9) rfl dX7_evening_16 ?_
    refine lv_iconst (v := (nI 0)) hx hb dX7_evening_19 (by decide) ?_
    refine x_iald (A := A) hx hb hK hP 11 0 rfl rfl dX7_evening_20 (by omega) (by omega) ?_
    refine lv_aload_n hx hb dX7_evening_21 rfl (lv_at hl 0 rfl) ?_
    refine va_get (D := D) (ci := 7) (v := .ref (ad 12)) (C := RX7) (T := TX7) (N := 28) hx hb hts inX7 hown hK hP 0 rfl rfl 12 (by decide) fl43 (fun _ h9 => h9) rfl dX7_evening_22 ?_
    refine lv_iconst (v := (nI 0)) hx hb dX7_evening_25 (by decide) ?_
    refine x_iald (A := A) hx hb hK hP 12 0 rfl rfl dX7_evening_26 (by omega) (by omega) ?_
    refine lv_iconst (v := (nI 0)) hx hb dX7_evening_27 (by decide) ?_
    refine k_Vv (q := (RX7, TX7, 28)) (ci := 7) (As := [.int (nI (spa 0)), .int (nI (hea 0)), .int (nI 0)]) (wr := [(ad 11, eArr cI 4 spa), (ad 12, eArr cI 4 hea)]) ⟨hx, hb, hml, hown, hts⟩ (c_X7_sayAll l D cI cC rr ad len kp uo tm em pc0 fm pq dq kq ai sna wma be va lo cl hrc hok (by omega) wd hrd hokd (by omega) (spa 0) (hea 0) (by omega) 0 (Nat.two_pow_pos _) lg vg) (cwV 3 hts gX7_evening_X7_sayAll rfl rfl rfl (by decide +kernel) ⟨Nat.le_of_ble_eq_true rfl, Nat.le_of_ble_eq_true rfl⟩) rfl hl.1 rfl (Nat.le_of_ble_eq_true rfl) dX7_evening_28 ⟨Nat.zero_le _, Nat.zero_le _⟩ hN hK hP hD hS hA rfl (q0 := 0) rfl [0, 1, 2, 3, 4, 5, 6, 7, 8, 9, 10, 13, 14] [11, 12] rfl rfl ⟨rfl, rfl, by decide⟩ (fun u H locs w8 hP hD hS => ?_)
    refine lv_iconst (v := (nI 0)) hx hb dX7_evening_31 (by decide) ?_
    refine lv_istore_n (lv' := [(2, .int (nI 0)), (0, .ref rr), (1, .int (nI z))]) hx hb dX7_evening_32 rfl hl (by decide) rfl (fun ls hl => ?_)
    have loop33 : ∀ (nn33 : Nat) (k : Nat), wma 0 - k < nn33 → (k ≤ wma 0) → ∀ (H : Heap) (locs : List Loc), va_P D vwCl [(rr, eMod ad len kp uo tm em pc0), (ad 2, eArr cI 2 fm), (ad 3, eArr cI 8 pq), (ad 4, eArr cI 8 dq), (ad 5, eArr cI 8 kq), (ad 6, eArr cI 2 ai), (ad 13, eArr cI 4 sna), (ad 7, eArr cI 4 wma), (ad 8, eArr cI 32 be), (ad 9, eArr cI 32 va), (ad 10, eArr cI 32 lo), (ad 11, eArr cI 4 spa), (ad 12, eArr cI 4 hea), (ad 20, eArr cI 150 ((eveF cl (fm 0) (ai 0) (sna 0) wd (wma 0) (spa 0) (hea 0) z k).1)), (ad 21, eArr cI 150 ((eveF cl (fm 0) (ai 0) (sna 0) wd (wma 0) (spa 0) (hea 0) z k).2))] H → va_D A [(rr, eMod ad len kp uo tm em pc0), (ad 2, eArr cI 2 fm), (ad 3, eArr cI 8 pq), (ad 4, eArr cI 8 dq), (ad 5, eArr cI 8 kq), (ad 6, eArr cI 2 ai), (ad 13, eArr cI 4 sna), (ad 7, eArr cI 4 wma), (ad 8, eArr cI 32 be), (ad 9, eArr cI 32 va), (ad 10, eArr cI 32 lo), (ad 11, eArr cI 4 spa), (ad 12, eArr cI 4 hea), (ad 20, eArr cI 150 ((eveF cl (fm 0) (ai 0) (sna 0) wd (wma 0) (spa 0) (hea 0) z k).1)), (ad 21, eArr cI 150 ((eveF cl (fm 0) (ai 0) (sna 0) wd (wma 0) (spa 0) (hea 0) z k).2))] → va_S A s.heap H locs → ∀ ls : Array Slot, lv_has ls 6 [(2, .int (nI k)), (0, .ref rr), (1, .int (nI z))] → W p l e (headSpec wsX7_evening ({ frames := 4, cells := 0, slots := 0, locals := 98 })).room s m ([.ref rr, .int (nI z)] : List Value).toArray below meth c H locs 0 0 (MQ below (va_Qi (fun (r : Int32) (_ : Unit) => r = (nI (evenM cl (fm 0) (ai 0) (sna 0) wd (wma 0) (spa 0) (hea 0) z))) (ctB D cI cC (fun (_ : Unit) => [(rr, eMod ad len kp uo tm em pc0), (ad 2, eArr cI 2 fm), (ad 3, eArr cI 8 pq), (ad 4, eArr cI 8 dq), (ad 5, eArr cI 8 kq), (ad 6, eArr cI 2 ai), (ad 13, eArr cI 4 sna), (ad 7, eArr cI 4 wma), (ad 8, eArr cI 32 be), (ad 9, eArr cI 32 va), (ad 10, eArr cI 32 lo), (ad 11, eArr cI 4 spa), (ad 12, eArr cI 4 hea), (ad 20, eArr cI 150 ((eveF cl (fm 0) (ai 0) (sna 0) wd (wma 0) (spa 0) (hea 0) z (wma 0)).1)), (ad 21, eArr cI 150 ((eveF cl (fm 0) (ai 0) (sna 0) wd (wma 0) (spa 0) (hea 0) z (wma 0)).2))]) A) A) ([.ref rr, .int (nI z)] : List Value).toArray s 0 0 A) (F0 m 33 ls []) := by
      intro nn33
      induction nn33 with
      | zero =>
        intro k hm9
        exact absurd hm9 (Nat.not_lt_zero _)
      | succ nn33 ih33 =>
        intro k hm9 hi10 H locs hP hD hS ls hl
        refine lv_iload_n hx hb dX7_evening_33 rfl (lv_at hl 0 rfl) ?_
        refine lv_aload_n hx hb dX7_evening_34 rfl (lv_at hl 1 rfl) ?_
        refine va_get (D := D) (ci := 7) (v := .ref (ad 7)) (C := RX7) (T := TX7) (N := 28) hx hb hts inX7 hown hK hP 0 rfl rfl 7 (by decide) fl28 (fun _ h9 => h9) rfl dX7_evening_35 ?_
        refine lv_iconst (v := (nI 0)) hx hb dX7_evening_38 (by decide) ?_
        refine x_iald (A := A) hx hb hK hP 7 0 rfl rfl dX7_evening_39 (by omega) (by omega) ?_
        refine x_icmp_ge (tgt := 121) hx hb dX7_evening_40 (by decide) (by omega) (by omega) (fun h11 => ?_) (fun h11 => ?_)
        · have ek : k = wma 0 := by omega
          have hP : va_P D vwCl [(rr, eMod ad len kp uo tm em pc0), (ad 2, eArr cI 2 fm), (ad 3, eArr cI 8 pq), (ad 4, eArr cI 8 dq), (ad 5, eArr cI 8 kq), (ad 6, eArr cI 2 ai), (ad 13, eArr cI 4 sna), (ad 7, eArr cI 4 wma), (ad 8, eArr cI 32 be), (ad 9, eArr cI 32 va), (ad 10, eArr cI 32 lo), (ad 11, eArr cI 4 spa), (ad 12, eArr cI 4 hea), (ad 20, eArr cI 150 ((eveF cl (fm 0) (ai 0) (sna 0) wd (wma 0) (spa 0) (hea 0) z (wma 0)).1)), (ad 21, eArr cI 150 ((eveF cl (fm 0) (ai 0) (sna 0) wd (wma 0) (spa 0) (hea 0) z (wma 0)).2))] H := by rw [show eveF cl (fm 0) (ai 0) (sna 0) wd (wma 0) (spa 0) (hea 0) z (wma 0) = eveF cl (fm 0) (ai 0) (sna 0) wd (wma 0) (spa 0) (hea 0) z k from by rw [ek]]; exact hP
          have hD : va_D A [(rr, eMod ad len kp uo tm em pc0), (ad 2, eArr cI 2 fm), (ad 3, eArr cI 8 pq), (ad 4, eArr cI 8 dq), (ad 5, eArr cI 8 kq), (ad 6, eArr cI 2 ai), (ad 13, eArr cI 4 sna), (ad 7, eArr cI 4 wma), (ad 8, eArr cI 32 be), (ad 9, eArr cI 32 va), (ad 10, eArr cI 32 lo), (ad 11, eArr cI 4 spa), (ad 12, eArr cI 4 hea), (ad 20, eArr cI 150 ((eveF cl (fm 0) (ai 0) (sna 0) wd (wma 0) (spa 0) (hea 0) z (wma 0)).1)), (ad 21, eArr cI 150 ((eveF cl (fm 0) (ai 0) (sna 0) wd (wma 0) (spa 0) (hea 0) z (wma 0)).2))] := by rw [show eveF cl (fm 0) (ai 0) (sna 0) wd (wma 0) (spa 0) (hea 0) z (wma 0) = eveF cl (fm 0) (ai 0) (sna 0) wd (wma 0) (spa 0) (hea 0) z k from by rw [ek]]; exact hD
          refine lv_aload_n hx hb dX7_evening_121 rfl (lv_at hl 1 rfl) ?_
          refine lv_aload_n hx hb dX7_evening_122 rfl (lv_at hl 1 rfl) ?_
          refine va_get (D := D) (ci := 7) (v := .ref (ad 11)) (C := RX7) (T := TX7) (N := 28) hx hb hts inX7 hown hK hP 0 rfl rfl 11 (by decide) fl40 (fun _ h9 => h9) rfl dX7_evening_123 ?_
          refine lv_iconst (v := (nI 0)) hx hb dX7_evening_126 (by decide) ?_
          refine x_iald (A := A) hx hb hK hP 11 0 rfl rfl dX7_evening_127 (by omega) (by omega) ?_
          refine lv_aload_n hx hb dX7_evening_128 rfl (lv_at hl 1 rfl) ?_
          refine va_get (D := D) (ci := 7) (v := .ref (ad 12)) (C := RX7) (T := TX7) (N := 28) hx hb hts inX7 hown hK hP 0 rfl rfl 12 (by decide) fl43 (fun _ h9 => h9) rfl dX7_evening_129 ?_
          refine lv_iconst (v := (nI 0)) hx hb dX7_evening_132 (by decide) ?_
          refine x_iald (A := A) hx hb hK hP 12 0 rfl rfl dX7_evening_133 (by omega) (by omega) ?_
          refine k_V (q := (RX7, TX7, 28)) (ci := 7) (As := [.int (nI (spa 0)), .int (nI (hea 0))]) (wr := [(ad 2, eArr cI 2 fm), (ad 3, eArr cI 8 pq), (ad 4, eArr cI 8 dq), (ad 5, eArr cI 8 kq), (ad 13, eArr cI 4 sna), (ad 11, eArr cI 4 spa), (ad 12, eArr cI 4 hea), (ad 20, eArr cI 150 ((eveF cl (fm 0) (ai 0) (sna 0) wd (wma 0) (spa 0) (hea 0) z (wma 0)).1))]) ⟨hx, hb, hml, hown, hts⟩ (c_X7_clearOf l D cI cC rr ad len kp uo tm em pc0 ai wma be va lo (eveF cl (fm 0) (ai 0) (sna 0) wd (wma 0) (spa 0) (hea 0) z (wma 0)) wd hrd hokd (by omega) hfm.2.1 (spa 0) (hea 0) (by omega) (eveF_ok hokd _ (Nat.le_refl _))) (cwV 2 hts gX7_evening_X7_clearOf rfl rfl rfl (by decide +kernel) ⟨Nat.le_of_ble_eq_true rfl, Nat.le_of_ble_eq_true rfl⟩) rfl hl.1 rfl (Nat.le_of_ble_eq_true rfl) dX7_evening_134 ⟨Nat.zero_le _, Nat.zero_le _⟩ hN hK hP hD hS hA rfl (q0 := 0) rfl [0, 5, 7, 8, 9, 10, 14] [1, 2, 3, 4, 6, 11, 12, 13] rfl rfl ⟨rfl, rfl, by decide⟩ (fun r12 u H locs w13 hP hD hS => ?_)
          obtain rfl : r12 = (nI (hitS (eveF cl (fm 0) (ai 0) (sna 0) wd (wma 0) (spa 0) (hea 0) z (wma 0)) wd 0 (absd (spa 0) (hea 0)) (ai 0 * absd (spa 0) (hea 0)) (wma 0))) := w13
          refine k_S (As := [.int (nI (hitS (eveF cl (fm 0) (ai 0) (sna 0) wd (wma 0) (spa 0) (hea 0) z (wma 0)) wd 0 (absd (spa 0) (hea 0)) (ai 0 * absd (spa 0) (hea 0)) (wma 0)))]) (wr := [(ad 2, eArr cI 2 fm), (ad 3, eArr cI 8 pq), (ad 4, eArr cI 8 dq), (ad 5, eArr cI 8 kq), (ad 13, eArr cI 4 sna), (ad 11, eArr cI 4 spa), (ad 12, eArr cI 4 hea), (ad 20, eArr cI 150 ((eveF cl (fm 0) (ai 0) (sna 0) wd (wma 0) (spa 0) (hea 0) z (wma 0)).1)), (rr, eMod ad len kp uo tm em pc0), (ad 6, eArr cI 2 ai), (ad 7, eArr cI 4 wma), (ad 8, eArr cI 32 be), (ad 9, eArr cI 32 va), (ad 10, eArr cI 32 lo), (ad 21, eArr cI 150 ((eveF cl (fm 0) (ai 0) (sna 0) wd (wma 0) (spa 0) (hea 0) z (wma 0)).2))]) ⟨hx, hb, hml, hown, hts⟩ (c_X7_bits l D cI cC (hitS (eveF cl (fm 0) (ai 0) (sna 0) wd (wma 0) (spa 0) (hea 0) z (wma 0)) wd 0 (absd (spa 0) (hea 0)) (ai 0 * absd (spa 0) (hea 0)) (wma 0)) (bits_4096 hnw)) (cwS 1 hts gX7_evening_X7_bits rfl rfl rfl (by decide +kernel) ⟨Nat.le_of_ble_eq_true rfl, Nat.le_of_ble_eq_true rfl⟩) rfl hl.1 rfl (Nat.le_of_ble_eq_true rfl) dX7_evening_137 ⟨Nat.zero_le _, Nat.zero_le _⟩ hN hK hP hD hS hA [] [0, 1, 2, 3, 4, 5, 6, 7, 8, 9, 10, 11, 12, 13, 14] rfl rfl ⟨rfl, rfl, by decide⟩ (fun r14 u H locs w15 hP hD hS => ?_)
          obtain rfl : r14 = (nI (popM (hitS (eveF cl (fm 0) (ai 0) (sna 0) wd (wma 0) (spa 0) (hea 0) z (wma 0)) wd 0 (absd (spa 0) (hea 0)) (ai 0 * absd (spa 0) (hea 0)) (wma 0)))) := w15
          refine x_top (show nI (popM (hitS (eveF cl (fm 0) (ai 0) (sna 0) wd (wma 0) (spa 0) (hea 0) z (wma 0)) wd 0 (absd (spa 0) (hea 0)) (ai 0 * absd (spa 0) (hea 0)) (wma 0))) = nI (evenM cl (fm 0) (ai 0) (sna 0) wd (wma 0) (spa 0) (hea 0) z) from by unfold evenM; rw [hitS_all hnw]) ?_
          exact x_iret hx hb hr hlocks dX7_evening_140 rfl (post := fun (r : Int32) (_ : Unit) => r = (nI (evenM cl (fm 0) (ai 0) (sna 0) wd (wma 0) (spa 0) (hea 0) z))) (w1 := fun (_ : Unit) => [(rr, eMod ad len kp uo tm em pc0), (ad 2, eArr cI 2 fm), (ad 3, eArr cI 8 pq), (ad 4, eArr cI 8 dq), (ad 5, eArr cI 8 kq), (ad 6, eArr cI 2 ai), (ad 13, eArr cI 4 sna), (ad 7, eArr cI 4 wma), (ad 8, eArr cI 32 be), (ad 9, eArr cI 32 va), (ad 10, eArr cI 32 lo), (ad 11, eArr cI 4 spa), (ad 12, eArr cI 4 hea), (ad 20, eArr cI 150 ((eveF cl (fm 0) (ai 0) (sna 0) wd (wma 0) (spa 0) (hea 0) z (wma 0)).1)), (ad 21, eArr cI 150 ((eveF cl (fm 0) (ai 0) (sna 0) wd (wma 0) (spa 0) (hea 0) z (wma 0)).2))]) () rfl hK (hP.sub [8, 0, 1, 2, 3, 9, 4, 10, 11, 12, 13, 5, 6, 7, 14] rfl) (hD.sub [8, 0, 1, 2, 3, 9, 4, 10, 11, 12, 13, 5, 6, 7, 14] rfl rfl) hS
        · obtain ⟨hr1, hr2, hr3⟩ := hrd k (by omega)
          obtain ⟨ho1, ho2, ho3, ho4, ho5⟩ := hokd k (by omega)
          have f16 : be k ≤ 30 := by omega
          have f17 : 1 ≤ va k := by omega
          have f18 : va k ≤ 7 := by omega
          have f19 : 1 ≤ lo k := by omega
          have f20 : lo k ≤ 60 := by omega
          refine lv_ldc2 (v := lN 7919) hx hb hown (hts (.constantLong RX7 223 7919) (by decide +kernel)) dX7_evening_43 ?_
          refine lv_iload_n hx hb dX7_evening_46 rfl (lv_at hl 2 rfl) ?_
          refine n_i2l hx hb dX7_evening_47 (by omega) ?_
          refine n_lmul hx hb dX7_evening_48 ?_
          refine lv_ldc2 (v := lN 6151) hx hb hown (hts (.constantLong RX7 225 6151) (by decide +kernel)) dX7_evening_49 ?_
          refine lv_iload_n hx hb dX7_evening_52 rfl (lv_at hl 0 rfl) ?_
          refine n_i2l hx hb dX7_evening_53 (by omega) ?_
          refine n_lmul hx hb dX7_evening_54 ?_
          refine n_ladd hx hb dX7_evening_55 ?_
          refine lv_lconst (v := lN 1) hx hb dX7_evening_56 rfl ?_
          refine n_ladd hx hb dX7_evening_57 ?_
          refine lv_lstore_n (lv' := [(3, .long (lN (7919 * z + (6151 * k) + 1))), (2, .int (nI k)), (0, .ref rr), (1, .int (nI z))]) hx hb dX7_evening_58 rfl hl (by decide) rfl (fun ls hl => ?_)
          refine lv_lload_n hx hb dX7_evening_59 rfl (lv_at hl 0 rfl) ?_
          refine lv_lload_n hx hb dX7_evening_60 rfl (lv_at hl 0 rfl) ?_
          refine n_lmul hx hb dX7_evening_61 ?_
          refine lv_ldc2 (v := lN 65521) hx hb hown (hts (.constantLong RX7 227 65521) (by decide +kernel)) dX7_evening_62 ?_
          refine n_lrem hx hb dX7_evening_65 (Nat.lt_of_le_of_lt (Nat.mul_le_mul (show 7919 * z + 6151 * k + 1 ≤ 80000000 by omega) (show 7919 * z + 6151 * k + 1 ≤ 80000000 by omega)) (by omega)) (by omega) (by omega) ?_
          refine n_l2i hx hb dX7_evening_66 ?_
          refine x_top (show nI ((7919 * z + 6151 * k + 1) * (7919 * z + 6151 * k + 1) % 65521) = nI (eveQ z k) from rfl) ?_
          have hq : eveQ z k < 65521 := Nat.mod_lt _ (by omega)
          refine lv_istore (lv' := [(5, .int (nI (eveQ z k))), (3, .long (lN (7919 * z + (6151 * k) + 1))), (2, .int (nI k)), (0, .ref rr), (1, .int (nI z))]) hx hb dX7_evening_67 hl (by decide) rfl (fun ls hl => ?_)
          refine lv_iload hx hb dX7_evening_69 (lv_at hl 0 rfl) ?_
          refine lv_iconst (v := (nI 3)) hx hb dX7_evening_71 (by decide) ?_
          refine x_irem hx hb dX7_evening_72 (by omega) (by omega) (by omega) ?_
          refine x_if_ne (tgt := 115) hx hb dX7_evening_73 (by decide) (by omega) (fun h21 => ?_) (fun h21 => ?_)
          · refine lv_iinc (v := (nI (k + 1))) (lv' := [(2, .int (nI (k + 1))), (5, .int (nI (eveQ z k))), (3, .long (lN (7919 * z + (6151 * k) + 1))), (0, .ref rr), (1, .int (nI z))]) hx hb dX7_evening_115 hl (k := 2) rfl (nI_inc _ 1) (by decide) rfl (fun ls hl => ?_)
            refine lv_goto (tgt := 33) hx hb dX7_evening_118 (by decide) ?_
            have hP : va_P D vwCl [(rr, eMod ad len kp uo tm em pc0), (ad 2, eArr cI 2 fm), (ad 3, eArr cI 8 pq), (ad 4, eArr cI 8 dq), (ad 5, eArr cI 8 kq), (ad 6, eArr cI 2 ai), (ad 13, eArr cI 4 sna), (ad 7, eArr cI 4 wma), (ad 8, eArr cI 32 be), (ad 9, eArr cI 32 va), (ad 10, eArr cI 32 lo), (ad 11, eArr cI 4 spa), (ad 12, eArr cI 4 hea), (ad 20, eArr cI 150 ((eveF cl (fm 0) (ai 0) (sna 0) wd (wma 0) (spa 0) (hea 0) z (k + 1)).1)), (ad 21, eArr cI 150 ((eveF cl (fm 0) (ai 0) (sna 0) wd (wma 0) (spa 0) (hea 0) z (k + 1)).2))] H := by rw [show eveF cl (fm 0) (ai 0) (sna 0) wd (wma 0) (spa 0) (hea 0) z (k + 1) = eveF cl (fm 0) (ai 0) (sna 0) wd (wma 0) (spa 0) (hea 0) z k from if_neg (by omega)]; exact hP
            have hD : va_D A [(rr, eMod ad len kp uo tm em pc0), (ad 2, eArr cI 2 fm), (ad 3, eArr cI 8 pq), (ad 4, eArr cI 8 dq), (ad 5, eArr cI 8 kq), (ad 6, eArr cI 2 ai), (ad 13, eArr cI 4 sna), (ad 7, eArr cI 4 wma), (ad 8, eArr cI 32 be), (ad 9, eArr cI 32 va), (ad 10, eArr cI 32 lo), (ad 11, eArr cI 4 spa), (ad 12, eArr cI 4 hea), (ad 20, eArr cI 150 ((eveF cl (fm 0) (ai 0) (sna 0) wd (wma 0) (spa 0) (hea 0) z (k + 1)).1)), (ad 21, eArr cI 150 ((eveF cl (fm 0) (ai 0) (sna 0) wd (wma 0) (spa 0) (hea 0) z (k + 1)).2))] := by rw [show eveF cl (fm 0) (ai 0) (sna 0) wd (wma 0) (spa 0) (hea 0) z (k + 1) = eveF cl (fm 0) (ai 0) (sna 0) wd (wma 0) (spa 0) (hea 0) z k from if_neg (by omega)]; exact hD
            exact ih33 (k + 1) (by omega) (by omega) _ _ (hP.sub [0, 1, 2, 3, 4, 5, 6, 7, 8, 9, 10, 11, 12, 13, 14] rfl) (hD.sub [0, 1, 2, 3, 4, 5, 6, 7, 8, 9, 10, 11, 12, 13, 14] rfl rfl) hS _ (lv_sub hl [0, 3, 4] rfl)
          · refine lv_aload_n hx hb dX7_evening_76 rfl (lv_at hl 3 rfl) ?_
            refine lv_iload hx hb dX7_evening_77 (lv_at hl 0 rfl) ?_
            refine lv_bipush (v := (nI 21)) hx hb dX7_evening_79 (by decide) ?_
            refine x_idiv hx hb dX7_evening_81 (by omega) (by omega) (by omega) ?_
            refine lv_bipush (v := (nI 41)) hx hb dX7_evening_82 (by decide) ?_
            refine x_irem hx hb dX7_evening_84 (by omega) (by omega) (by omega) ?_
            refine lv_aload_n hx hb dX7_evening_85 rfl (lv_at hl 3 rfl) ?_
            refine va_get (D := D) (ci := 7) (v := .ref (ad 8)) (C := RX7) (T := TX7) (N := 28) hx hb hts inX7 hown hK hP 0 rfl rfl 8 (by decide) fl31 (fun _ h9 => h9) rfl dX7_evening_86 ?_
            refine lv_iload_n hx hb dX7_evening_89 rfl (lv_at hl 2 rfl) ?_
            refine x_iald (A := A) hx hb hK hP 8 0 rfl rfl dX7_evening_90 (by omega) (by omega) ?_
            refine lv_iload hx hb dX7_evening_91 (lv_at hl 0 rfl) ?_
            refine lv_iconst (v := (nI 3)) hx hb dX7_evening_93 (by decide) ?_
            refine x_idiv hx hb dX7_evening_94 (by omega) (by omega) (by omega) ?_
            refine lv_bipush (v := (nI 7)) hx hb dX7_evening_95 (by decide) ?_
            refine x_irem hx hb dX7_evening_97 (by omega) (by omega) (by omega) ?_
            refine lv_iconst (v := (nI 1)) hx hb dX7_evening_98 (by decide) ?_
            refine x_iadd hx hb dX7_evening_99 ?_
            refine lv_aload_n hx hb dX7_evening_100 rfl (lv_at hl 3 rfl) ?_
            refine va_get (D := D) (ci := 7) (v := .ref (ad 10)) (C := RX7) (T := TX7) (N := 28) hx hb hts inX7 hown hK hP 0 rfl rfl 10 (by decide) fl37 (fun _ h9 => h9) rfl dX7_evening_101 ?_
            refine lv_iload_n hx hb dX7_evening_104 rfl (lv_at hl 2 rfl) ?_
            refine x_iald (A := A) hx hb hK hP 10 0 rfl rfl dX7_evening_105 (by omega) (by omega) ?_
            refine lv_aload_n hx hb dX7_evening_106 rfl (lv_at hl 3 rfl) ?_
            refine va_get (D := D) (ci := 7) (v := .ref (ad 12)) (C := RX7) (T := TX7) (N := 28) hx hb hts inX7 hown hK hP 0 rfl rfl 12 (by decide) fl43 (fun _ h9 => h9) rfl dX7_evening_107 ?_
            refine lv_iconst (v := (nI 0)) hx hb dX7_evening_110 (by decide) ?_
            refine x_iald (A := A) hx hb hK hP 12 0 rfl rfl dX7_evening_111 (by omega) (by omega) ?_
            refine k_Vv (q := (RX7, TX7, 28)) (ci := 7) (As := [.int (nI (((eveQ z k) / 21) % 41)), .int (nI (be k)), .int (nI ((((eveQ z k) / 3) % 7) + 1)), .int (nI (lo k)), .int (nI (hea 0))]) (wr := [(ad 7, eArr cI 4 wma), (ad 8, eArr cI 32 be), (ad 9, eArr cI 32 va), (ad 10, eArr cI 32 lo), (ad 11, eArr cI 4 spa), (ad 12, eArr cI 4 hea)]) ⟨hx, hb, hml, hown, hts⟩ (c_X7_say1 l D cI cC rr ad len kp uo tm em pc0 fm pq dq kq ai sna (eveF cl (fm 0) (ai 0) (sna 0) wd (wma 0) (spa 0) (hea 0) z k) cl hrc hok (by omega) (((eveQ z k) / 21) % 41) (be k) ((((eveQ z k) / 3) % 7) + 1) (lo k) (hea 0) ⟨by omega, by omega⟩ (by omega) (eveF_ok hokd k (by omega))) (cwV 5 hts gX7_evening_X7_say1 rfl rfl rfl (by decide +kernel) ⟨Nat.le_of_ble_eq_true rfl, Nat.le_of_ble_eq_true rfl⟩) rfl hl.1 rfl (Nat.le_of_ble_eq_true rfl) dX7_evening_112 ⟨Nat.zero_le _, Nat.zero_le _⟩ hN hK hP hD hS hA rfl (q0 := 0) rfl [0, 1, 2, 3, 4, 5, 6, 13, 14] [7, 8, 9, 10, 11, 12] rfl rfl ⟨rfl, rfl, by decide⟩ (fun u H locs w23 hP hD hS => ?_)
            refine lv_iinc (v := (nI (k + 1))) (lv' := [(2, .int (nI (k + 1))), (5, .int (nI (eveQ z k))), (3, .long (lN (7919 * z + (6151 * k) + 1))), (0, .ref rr), (1, .int (nI z))]) hx hb dX7_evening_115 hl (k := 2) rfl (nI_inc _ 1) (by decide) rfl (fun ls hl => ?_)
            refine lv_goto (tgt := 33) hx hb dX7_evening_118 (by decide) ?_
            have hP : va_P D vwCl [(ad 7, eArr cI 4 wma), (ad 8, eArr cI 32 be), (ad 9, eArr cI 32 va), (ad 10, eArr cI 32 lo), (ad 11, eArr cI 4 spa), (ad 12, eArr cI 4 hea), (rr, eMod ad len kp uo tm em pc0), (ad 2, eArr cI 2 fm), (ad 3, eArr cI 8 pq), (ad 4, eArr cI 8 dq), (ad 5, eArr cI 8 kq), (ad 6, eArr cI 2 ai), (ad 13, eArr cI 4 sna), (ad 20, eArr cI 150 ((eveF cl (fm 0) (ai 0) (sna 0) wd (wma 0) (spa 0) (hea 0) z (k + 1)).1)), (ad 21, eArr cI 150 ((eveF cl (fm 0) (ai 0) (sna 0) wd (wma 0) (spa 0) (hea 0) z (k + 1)).2))] H := by rw [show eveF cl (fm 0) (ai 0) (sna 0) wd (wma 0) (spa 0) (hea 0) z (k + 1) = carryM (eveF cl (fm 0) (ai 0) (sna 0) wd (wma 0) (spa 0) (hea 0) z k) (be k) (eveQ z k / 3 % 7 + 1) (lo k) (waysM cl (ai 0) (sna 0) (eveQ z k / 21 % 41) (hea 0) (fm 0)) from by rw [hr1, hr3]; exact if_pos (by omega)]; exact hP
            have hD : va_D A [(ad 7, eArr cI 4 wma), (ad 8, eArr cI 32 be), (ad 9, eArr cI 32 va), (ad 10, eArr cI 32 lo), (ad 11, eArr cI 4 spa), (ad 12, eArr cI 4 hea), (rr, eMod ad len kp uo tm em pc0), (ad 2, eArr cI 2 fm), (ad 3, eArr cI 8 pq), (ad 4, eArr cI 8 dq), (ad 5, eArr cI 8 kq), (ad 6, eArr cI 2 ai), (ad 13, eArr cI 4 sna), (ad 20, eArr cI 150 ((eveF cl (fm 0) (ai 0) (sna 0) wd (wma 0) (spa 0) (hea 0) z (k + 1)).1)), (ad 21, eArr cI 150 ((eveF cl (fm 0) (ai 0) (sna 0) wd (wma 0) (spa 0) (hea 0) z (k + 1)).2))] := by rw [show eveF cl (fm 0) (ai 0) (sna 0) wd (wma 0) (spa 0) (hea 0) z (k + 1) = carryM (eveF cl (fm 0) (ai 0) (sna 0) wd (wma 0) (spa 0) (hea 0) z k) (be k) (eveQ z k / 3 % 7 + 1) (lo k) (waysM cl (ai 0) (sna 0) (eveQ z k / 21 % 41) (hea 0) (fm 0)) from by rw [hr1, hr3]; exact if_pos (by omega)]; exact hD
            exact ih33 (k + 1) (by omega) (by omega) _ _ (hP.sub [6, 7, 8, 9, 10, 11, 12, 0, 1, 2, 3, 4, 5, 13, 14] rfl) (hD.sub [6, 7, 8, 9, 10, 11, 12, 0, 1, 2, 3, 4, 5, 13, 14] rfl rfl) hS _ (lv_sub hl [0, 3, 4] rfl)
    have hP : va_P D vwCl [(ad 11, eArr cI 4 spa), (ad 12, eArr cI 4 hea), (rr, eMod ad len kp uo tm em pc0), (ad 2, eArr cI 2 fm), (ad 3, eArr cI 8 pq), (ad 4, eArr cI 8 dq), (ad 5, eArr cI 8 kq), (ad 6, eArr cI 2 ai), (ad 13, eArr cI 4 sna), (ad 7, eArr cI 4 wma), (ad 8, eArr cI 32 be), (ad 9, eArr cI 32 va), (ad 10, eArr cI 32 lo), (ad 20, eArr cI 150 ((eveF cl (fm 0) (ai 0) (sna 0) wd (wma 0) (spa 0) (hea 0) z 0).1)), (ad 21, eArr cI 150 ((eveF cl (fm 0) (ai 0) (sna 0) wd (wma 0) (spa 0) (hea 0) z 0).2))] H := by rw [show eveF cl (fm 0) (ai 0) (sna 0) wd (wma 0) (spa 0) (hea 0) z 0 = hearM cl (fm 0) (ai 0) (sna 0) wd (wma 0) (spa 0) (hea 0) (2 ^ (wma 0) - 1) from rfl, show 2 ^ (wma 0) - 1 = 2 ^ (wma 0) - 1 - 0 from rfl]; exact hP
    have hD : va_D A [(ad 11, eArr cI 4 spa), (ad 12, eArr cI 4 hea), (rr, eMod ad len kp uo tm em pc0), (ad 2, eArr cI 2 fm), (ad 3, eArr cI 8 pq), (ad 4, eArr cI 8 dq), (ad 5, eArr cI 8 kq), (ad 6, eArr cI 2 ai), (ad 13, eArr cI 4 sna), (ad 7, eArr cI 4 wma), (ad 8, eArr cI 32 be), (ad 9, eArr cI 32 va), (ad 10, eArr cI 32 lo), (ad 20, eArr cI 150 ((eveF cl (fm 0) (ai 0) (sna 0) wd (wma 0) (spa 0) (hea 0) z 0).1)), (ad 21, eArr cI 150 ((eveF cl (fm 0) (ai 0) (sna 0) wd (wma 0) (spa 0) (hea 0) z 0).2))] := by rw [show eveF cl (fm 0) (ai 0) (sna 0) wd (wma 0) (spa 0) (hea 0) z 0 = hearM cl (fm 0) (ai 0) (sna 0) wd (wma 0) (spa 0) (hea 0) (2 ^ (wma 0) - 1) from rfl, show 2 ^ (wma 0) - 1 = 2 ^ (wma 0) - 1 - 0 from rfl]; exact hD
    exact loop33 _ 0 (Nat.lt_succ_self _) (by omega) _ _ (hP.sub [2, 3, 4, 5, 6, 7, 8, 9, 10, 11, 12, 0, 1, 13, 14] rfl) (hD.sub [2, 3, 4, 5, 6, 7, 8, 9, 10, 11, 12, 0, 1, 13, 14] rfl rfl) hS _ (lv_sub hl [0, 1, 2] rfl)
  · exact False.elim (by omega)
