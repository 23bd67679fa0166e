theorem backM_app {S : Snd} {wd : Nat → Nat} {w : Nat} {L1 L2 : List (Nat × Nat)} (h : 0 < L1.length) : backM S wd w (L1 ++ L2) = (backM S wd w L1 || L2.any (fun y => hitM S wd w 0 y.1 y.2)) := by
  unfold backM
  rw [List.drop_append_of_le_length (by omega), List.any_append]
theorem back_snow {S : Snd} {wd cl : Nat → Nat} {w air sn x y f : Nat} (h : sn / 2 ^ f % 2 = 1) : backM S wd w (waysM cl air sn x y (f + 1)) = backM S wd w (waysM cl air sn x y f) := by rw [waysM_snow h]
theorem back_n3 {S : Snd} {wd cl : Nat → Nat} {w air sn x y f far B Lo : Nat} (h : ¬ sn / 2 ^ f % 2 = 1) (hf : far = absd x (cl (3 * f + 0)) + absd (cl (3 * f + 0)) y) (hB : B = if cl (3 * f + 2) = 2 then far + 2 else far) (hL : Lo = air * far + (if cl (3 * f + 2) = 1 then 2 * cl (3 * f + 1) else cl (3 * f + 1))) (h3 : ¬ cl (3 * f + 2) = 3) : backM S wd w (waysM cl air sn x y (f + 1)) = (backM S wd w (waysM cl air sn x y f) || hitM S wd w 0 B Lo) := by
  rw [waysM_s, backM_app (waysM_pos cl air sn x y f)]
  unfold wayM
  rw [if_neg h]
  dsimp only
  rw [if_neg h3, ← hf, ← hB, ← hL]
  simp
theorem back_3 {S : Snd} {wd cl : Nat → Nat} {w air sn x y f far B Lo : Nat} (h : ¬ sn / 2 ^ f % 2 = 1) (hf : far = absd x (cl (3 * f + 0)) + absd (cl (3 * f + 0)) y) (hB : B = if cl (3 * f + 2) = 2 then far + 2 else far) (hL : Lo = air * far + (if cl (3 * f + 2) = 1 then 2 * cl (3 * f + 1) else cl (3 * f + 1))) (h3 : cl (3 * f + 2) = 3) : backM S wd w (waysM cl air sn x y (f + 1)) = (backM S wd w (waysM cl air sn x y f) || (hitM S wd w 0 B Lo || hitM S wd w 0 (B + 4) (Lo + 3))) := by
  rw [waysM_s, backM_app (waysM_pos cl air sn x y f)]
  unfold wayM
  rw [if_neg h]
  dsimp only
  rw [if_pos h3, ← hf, ← hB, ← hL]
  simp

set_option maxRecDepth 100000 in
set_option maxHeartbeats 4000000 in
theorem c_X7_paysFor (l : Launch) (D : va_G) (cI cC : ClassId) (rr : Nat) (ad : Nat → Nat) (len : Nat) (kp : Nat) (uo : Nat) (tm : Nat) (em : Nat) (pc0 : Nat) (fm : Nat → Nat) (pq : Nat → Nat) (dq : Nat → Nat) (kq : Nat → Nat) (ai : Nat → Nat) (sna : Nat → Nat) (be : Nat → Nat) (va : Nat → Nat) (lo : Nat → Nat) (S : Snd) (cl : Nat → Nat) (hrc : relC pq dq kq cl (fm 0)) (hok : okC cl (fm 0)) (hfm : fm 0 ≤ 4 ∧ ai 0 ≤ 99 ∧ sna 0 < 2147483648) (nw : Nat) (wd : Nat → Nat) (hrd : relD be va lo wd nw) (hokd : okD wd nw) (w : Nat) (x : Nat) (hx4 : x ≤ 40) (hw9 : w < nw) (hS0 : okS S) (hnw : nw ≤ 8) : mtI l D cI cC yX7_paysFor wsX7_paysFor ({ frames := 2, cells := 0, slots := 0, locals := 44 }) [.ref rr, .int (nI w), .int (nI x)] [(rr, eMod ad len kp uo tm em pc0), (ad 2, eArr cI 2 fm), (ad 3, eArr cI 8 pq), (ad 4, eArr cI 8 dq), (ad 5, eArr cI 8 kq), (ad 6, eArr cI 2 ai), (ad 13, eArr cI 4 sna), (ad 8, eArr cI 32 be), (ad 9, eArr cI 32 va), (ad 10, eArr cI 32 lo), (ad 21, eArr cI 150 S.2)] (fun (r : Int32) (_ : Unit) => (r = (nI 1) ∧ backM S wd w (waysM cl (ai 0) (sna 0) x x (fm 0)) = true) ∨ (r = (nI 0) ∧ backM S wd w (waysM cl (ai 0) (sna 0) x x (fm 0)) = false)) (fun (_ : Unit) => [(rr, eMod ad len kp uo tm em pc0), (ad 2, eArr cI 2 fm), (ad 3, eArr cI 8 pq), (ad 4, eArr cI 8 dq), (ad 5, eArr cI 8 kq), (ad 6, eArr cI 2 ai), (ad 13, eArr cI 4 sna), (ad 8, eArr cI 32 be), (ad 9, eArr cI 32 va), (ad 10, eArr cI 32 lo), (ad 21, eArr cI 150 S.2)]) := by
  refine mtI_of (cc := cX7_paysFor) (maxL := 8) (ret := (some .boolean)) (by decide) rfl rfl ?_
  intro p e s m below meth c A hx hb hml hr hts hown hlocks hN hA hK hP hD hS ls hl
  have hown : s.vm.findClass RX7 = some m.cls := hown
  have hl : lv_has ls 8 [(0, .ref rr), (1, .int (nI w)), (2, .int (nI x))] := hl
  obtain ⟨H, hHe⟩ : ∃ H, H = s.heap := ⟨_, rfl⟩
  rw [← hHe] at hP ⊢
  have hS : va_S A s.heap H [] := by rw [hHe]; exact va_S.rf
  have fl13 := hts (.fieldLink RX7 13 "EchoPaysRentModel" "faceMany" "[I") (by decide +kernel)
  have inX7 : ∀ w ∈ wsX70, w ∈ wsX7_paysFor := by decide +kernel
  have fl37 := hts (.fieldLink RX7 37 "EchoPaysRentModel" "louds" "[I") (by decide +kernel)
  have fl31 := hts (.fieldLink RX7 31 "EchoPaysRentModel" "beats" "[I") (by decide +kernel)
  have fl22 := hts (.fieldLink RX7 22 "EchoPaysRentModel" "kinds" "[I") (by decide +kernel)
  have fl46 := hts (.fieldLink RX7 46 "EchoPaysRentModel" "snow" "[I") (by decide +kernel)
  have fl70 := hts (.fieldLink RX7 70 "EchoPaysRentModel" "what" "[I") (by decide +kernel)
  have fl34 := hts (.fieldLink RX7 34 "EchoPaysRentModel" "values" "[I") (by decide +kernel)
  refine lv_iconst (v := (nI 0)) hx hb dX7_paysFor_0 (by decide) ?_
  refine lv_istore_n (lv' := [(3, .int (nI 0)), (0, .ref rr), (1, .int (nI w)), (2, .int (nI x))]) hx hb dX7_paysFor_1 rfl hl (by decide) rfl (fun ls hl => ?_)
  refine lv_iconst (v := (nI 0)) hx hb dX7_paysFor_2 (by decide) ?_
  refine lv_istore (lv' := [(4, .int (nI 0)), (3, .int (nI 0)), (0, .ref rr), (1, .int (nI w)), (2, .int (nI x))]) hx hb dX7_paysFor_3 hl (by decide) rfl (fun ls hl => ?_)
  have loop5 : ∀ (nn5 : Nat) (f : Nat) (q : Nat), fm 0 - f < nn5 → (f ≤ fm 0) → ((q = 1 ∧ backM S wd w (waysM cl (ai 0) (sna 0) x x f) = true) ∨ (q = 0 ∧ backM S wd w (waysM cl (ai 0) (sna 0) x x f) = false)) → (q ≤ 1) → ∀ (H : Heap) (locs : List Loc), va_P D vwCl [(rr, eMod ad len kp uo tm em pc0), (ad 2, eArr cI 2 fm), (ad 3, eArr cI 8 pq), (ad 4, eArr cI 8 dq), (ad 5, eArr cI 8 kq), (ad 6, eArr cI 2 ai), (ad 13, eArr cI 4 sna), (ad 8, eArr cI 32 be), (ad 9, eArr cI 32 va), (ad 10, eArr cI 32 lo), (ad 21, eArr cI 150 S.2)] H → va_D A [(rr, eMod ad len kp uo tm em pc0), (ad 2, eArr cI 2 fm), (ad 3, eArr cI 8 pq), (ad 4, eArr cI 8 dq), (ad 5, eArr cI 8 kq), (ad 6, eArr cI 2 ai), (ad 13, eArr cI 4 sna), (ad 8, eArr cI 32 be), (ad 9, eArr cI 32 va), (ad 10, eArr cI 32 lo), (ad 21, eArr cI 150 S.2)] → va_S A s.heap H locs → ∀ ls : Array Slot, lv_has ls 8 [(4, .int (nI f)), (3, .int (nI q)), (0, .ref rr), (1, .int (nI w)), (2, .int (nI x))] → W p l e (headSpec wsX7_paysFor ({ frames := 2, cells := 0, slots := 0, locals := 44 })).room s m ([.ref rr, .int (nI w), .int (nI x)] : List Value).toArray below meth c H locs 0 0 (MQ below (va_Qi (fun (r : Int32) (_ : Unit) => (r = (nI 1) ∧ backM S wd w (waysM cl (ai 0) (sna 0) x x (fm 0)) = true) ∨ (r = (nI 0) ∧ backM S wd w (waysM cl (ai 0) (sna 0) x x (fm 0)) = false)) (ctB D cI cC (fun (_ : Unit) => [(rr, eMod ad len kp uo tm em pc0), (ad 2, eArr cI 2 fm), (ad 3, eArr cI 8 pq), (ad 4, eArr cI 8 dq), (ad 5, eArr cI 8 kq), (ad 6, eArr cI 2 ai), (ad 13, eArr cI 4 sna), (ad 8, eArr cI 32 be), (ad 9, eArr cI 32 va), (ad 10, eArr cI 32 lo), (ad 21, eArr cI 150 S.2)]) A) A) ([.ref rr, .int (nI w), .int (nI x)] : List Value).toArray s 0 0 A) (F0 m 5 ls []) := by
    intro nn5
    induction nn5 with
    | zero =>
      intro f q hm1
      exact absurd hm1 (Nat.not_lt_zero _)
    | succ nn5 ih5 =>
      intro f q hm1 hi2 hcase hi3 H locs hP hD hS ls hl
      refine lv_iload hx hb dX7_paysFor_5 (lv_at hl 0 rfl) ?_
      refine lv_aload_n hx hb dX7_paysFor_7 rfl (lv_at hl 2 rfl) ?_
      refine va_get (D := D) (ci := 7) (v := .ref (ad 2)) (C := RX7) (T := TX7) (N := 28) hx hb hts inX7 hown hK hP 0 rfl rfl 2 (by decide) fl13 (fun _ h9 => h9) rfl dX7_paysFor_8 ?_
      refine lv_iconst (v := (nI 0)) hx hb dX7_paysFor_11 (by decide) ?_
      refine x_iald (A := A) hx hb hK hP 1 0 rfl rfl dX7_paysFor_12 (by omega) (by omega) ?_
      refine x_icmp_ge (tgt := 184) hx hb dX7_paysFor_13 (by decide) (by omega) (by omega) (fun h4 => ?_) (fun h4 => ?_)
      · rcases hcase with hc | hc
        · rw [hc.1] at hl
          refine lv_iload_n hx hb dX7_paysFor_184 rfl (lv_at hl 1 rfl) ?_
          exact x_iret hx hb hr hlocks dX7_paysFor_185 rfl (post := fun (r : Int32) (_ : Unit) => (r = (nI 1) ∧ backM S wd w (waysM cl (ai 0) (sna 0) x x (fm 0)) = true) ∨ (r = (nI 0) ∧ backM S wd w (waysM cl (ai 0) (sna 0) x x (fm 0)) = false)) (w1 := fun (_ : Unit) => [(rr, eMod ad len kp uo tm em pc0), (ad 2, eArr cI 2 fm), (ad 3, eArr cI 8 pq), (ad 4, eArr cI 8 dq), (ad 5, eArr cI 8 kq), (ad 6, eArr cI 2 ai), (ad 13, eArr cI 4 sna), (ad 8, eArr cI 32 be), (ad 9, eArr cI 32 va), (ad 10, eArr cI 32 lo), (ad 21, eArr cI 150 S.2)]) () (Or.inl ⟨rfl, by rw [← show f = fm 0 from by omega]; exact hc.2⟩) hK hP hD hS
        · rw [hc.1] at hl
          refine lv_iload_n hx hb dX7_paysFor_184 rfl (lv_at hl 1 rfl) ?_
          exact x_iret hx hb hr hlocks dX7_paysFor_185 rfl (post := fun (r : Int32) (_ : Unit) => (r = (nI 1) ∧ backM S wd w (waysM cl (ai 0) (sna 0) x x (fm 0)) = true) ∨ (r = (nI 0) ∧ backM S wd w (waysM cl (ai 0) (sna 0) x x (fm 0)) = false)) (w1 := fun (_ : Unit) => [(rr, eMod ad len kp uo tm em pc0), (ad 2, eArr cI 2 fm), (ad 3, eArr cI 8 pq), (ad 4, eArr cI 8 dq), (ad 5, eArr cI 8 kq), (ad 6, eArr cI 2 ai), (ad 13, eArr cI 4 sna), (ad 8, eArr cI 32 be), (ad 9, eArr cI 32 va), (ad 10, eArr cI 32 lo), (ad 21, eArr cI 150 S.2)]) () (Or.inr ⟨rfl, by rw [← show f = fm 0 from by omega]; exact hc.2⟩) hK hP hD hS
      · obtain ⟨hc1, hc2, hc3⟩ := hrc f (by omega)
        obtain ⟨ho1, ho2, ho3⟩ := hok f (by omega)
        have f5 : pq f ≤ 40 := by omega
        have f6 : dq f ≤ 9 := by omega
        have f7 : kq f ≤ 3 := by omega
        have hd1 : absd x (pq f) ≤ 40 := absd_le (by omega) (by omega)
        have hd2 : absd (pq f) x ≤ 40 := absd_le (by omega) (by omega)
        have f8 : ai 0 * (absd x (pq f) + absd (pq f) x) ≤ 7920 := (Nat.mul_le_mul hfm.2.1 (show absd x (pq f) + absd (pq f) x ≤ 80 by omega) : ai 0 * (absd x (pq f) + absd (pq f) x) ≤ 99 * 80)
        have hif2 : ((if kq f = 1 then 2 else 1) * dq f : Nat) = if kq f = 1 then 2 * dq f else dq f := by split <;> omega
        have hif : (if kq f = 1 then 2 * dq f else dq f) ≤ 18 := by split <;> omega
        obtain ⟨hw1, hw2, hw3⟩ := hrd w hw9
        obtain ⟨hv1, hv2, hv3, hv4, hv5⟩ := hokd w hw9
        have f9 : be w ≤ 30 := by omega
        have f10 : 1 ≤ va w := by omega
        have f11 : va w ≤ 7 := by omega
        have f12 : lo w ≤ 60 := by omega
        refine lv_aload_n hx hb dX7_paysFor_16 rfl (lv_at hl 2 rfl) ?_
        refine lv_iload hx hb dX7_paysFor_17 (lv_at hl 0 rfl) ?_
        refine lv_iload_n hx hb dX7_paysFor_19 rfl (lv_at hl 4 rfl) ?_
        refine lv_iload_n hx hb dX7_paysFor_20 rfl (lv_at hl 4 rfl) ?_
        refine k_V (q := (RX7, TX7, 28)) (ci := 7) (As := [.int (nI f), .int (nI x), .int (nI x)]) (wr := [(ad 2, eArr cI 2 fm), (ad 4, eArr cI 8 dq), (ad 5, eArr cI 8 kq), (ad 6, eArr cI 2 ai), (ad 13, eArr cI 4 sna), (ad 8, eArr cI 32 be), (ad 9, eArr cI 32 va), (ad 10, eArr cI 32 lo), (ad 21, eArr cI 150 S.2)]) ⟨hx, hb, hml, hown, hts⟩ (c_X7_faceFar l D cI cC rr ad len kp uo tm em pc0 pq f x x (by omega) (by omega)) (cwV 3 hts gX7_paysFor_X7_faceFar rfl rfl rfl (by decide +kernel) ⟨Nat.le_of_ble_eq_true rfl, Nat.le_of_ble_eq_true rfl⟩) rfl hl.1 rfl (Nat.le_of_ble_eq_true rfl) dX7_paysFor_21 ⟨Nat.zero_le _, Nat.zero_le _⟩ hN hK hP hD hS hA rfl (q0 := 0) rfl [0, 2] [1, 3, 4, 5, 6, 7, 8, 9, 10] rfl rfl ⟨rfl, rfl, by decide⟩ (fun r13 u H locs w14 hP hD hS => ?_)
        obtain rfl : r13 = (nI (absd x (pq f) + absd (pq f) x)) := w14
        refine lv_istore (lv' := [(5, .int (nI (absd x (pq f) + absd (pq f) x))), (4, .int (nI f)), (3, .int (nI q)), (0, .ref rr), (1, .int (nI w)), (2, .int (nI x))]) hx hb dX7_paysFor_24 hl (by decide) rfl (fun ls hl => ?_)
        refine lv_aload_n hx hb dX7_paysFor_26 rfl (lv_at hl 3 rfl) ?_
        refine lv_iload hx hb dX7_paysFor_27 (lv_at hl 1 rfl) ?_
        refine lv_iload hx hb dX7_paysFor_29 (lv_at hl 0 rfl) ?_
        refine lv_aload_n hx hb dX7_paysFor_31 rfl (lv_at hl 3 rfl) ?_
        refine va_get (D := D) (ci := 7) (v := .ref (ad 10)) (C := RX7) (T := TX7) (N := 28) hx hb hts inX7 hown hK hP 9 rfl rfl 10 (by decide) fl37 (fun _ h9 => h9) rfl dX7_paysFor_32 ?_
        refine lv_iload_n hx hb dX7_paysFor_35 rfl (lv_at hl 4 rfl) ?_
        refine x_iald (A := A) hx hb hK hP 7 0 rfl rfl dX7_paysFor_36 (by omega) (by omega) ?_
        refine k_V (q := (RX7, TX7, 28)) (ci := 7) (As := [.int (nI f), .int (nI (absd x (pq f) + absd (pq f) x)), .int (nI (lo w))]) (wr := [(ad 2, eArr cI 2 fm), (ad 13, eArr cI 4 sna), (ad 8, eArr cI 32 be), (ad 9, eArr cI 32 va), (ad 10, eArr cI 32 lo), (ad 21, eArr cI 150 S.2), (ad 3, eArr cI 8 pq)]) ⟨hx, hb, hml, hown, hts⟩ (c_X7_faceLoud l D cI cC rr ad len kp uo tm em pc0 dq kq ai f (absd x (pq f) + absd (pq f) x) (lo w) (by omega) (by omega)) (cwV 3 hts gX7_paysFor_X7_faceLoud rfl rfl rfl (by decide +kernel) ⟨Nat.le_of_ble_eq_true rfl, Nat.le_of_ble_eq_true rfl⟩) rfl hl.1 rfl (Nat.le_of_ble_eq_true rfl) dX7_paysFor_37 ⟨Nat.zero_le _, Nat.zero_le _⟩ hN hK hP hD hS hA rfl (q0 := 9) rfl [9, 1, 2, 3] [0, 4, 5, 6, 7, 8, 10] rfl rfl ⟨rfl, rfl, by decide⟩ (fun r15 u H locs w16 hP hD hS => ?_)
        obtain rfl : r15 = (iI ((((lo w) : Nat) : Int) - ((ai 0 * (absd x (pq f) + absd (pq f) x) : Nat) : Int) - (((if kq f = 1 then 2 else 1) * dq f : Nat) : Int))) := w16
        refine lv_istore (lv' := [(6, .int (iI ((((lo w) : Nat) : Int) - ((ai 0 * (absd x (pq f) + absd (pq f) x) : Nat) : Int) - (((if kq f = 1 then 2 else 1) * dq f : Nat) : Int)))), (5, .int (nI (absd x (pq f) + absd (pq f) x))), (4, .int (nI f)), (3, .int (nI q)), (0, .ref rr), (1, .int (nI w)), (2, .int (nI x))]) hx hb dX7_paysFor_40 hl (by decide) rfl (fun ls hl => ?_)
        refine lv_aload_n hx hb dX7_paysFor_42 rfl (lv_at hl 4 rfl) ?_
        refine va_get (D := D) (ci := 7) (v := .ref (ad 8)) (C := RX7) (T := TX7) (N := 28) hx hb hts inX7 hown hK hP 7 rfl rfl 8 (by decide) fl31 (fun _ h9 => h9) rfl dX7_paysFor_43 ?_
        refine lv_iload_n hx hb dX7_paysFor_46 rfl (lv_at hl 5 rfl) ?_
        refine x_iald (A := A) hx hb hK hP 2 0 rfl rfl dX7_paysFor_47 (by omega) (by omega) ?_
        refine lv_iload hx hb dX7_paysFor_48 (lv_at hl 1 rfl) ?_
        refine x_iadd hx hb dX7_paysFor_50 ?_
        refine lv_aload_n hx hb dX7_paysFor_51 rfl (lv_at hl 4 rfl) ?_
        refine va_get (D := D) (ci := 7) (v := .ref (ad 5)) (C := RX7) (T := TX7) (N := 28) hx hb hts inX7 hown hK hP 7 rfl rfl 5 (by decide) fl22 (fun _ h9 => h9) rfl dX7_paysFor_52 ?_
        refine lv_iload hx hb dX7_paysFor_55 (lv_at hl 2 rfl) ?_
        refine x_iald (A := A) hx hb hK hP 9 0 rfl rfl dX7_paysFor_57 (by omega) (by omega) ?_
        refine lv_iconst (v := (nI 2)) hx hb dX7_paysFor_58 (by decide) ?_
        refine x_icmp_ne (tgt := 66) hx hb dX7_paysFor_59 (by decide) (by omega) (by omega) (fun h17 => ?_) (fun h17 => ?_)
        · refine lv_iconst (v := (nI 0)) hx hb dX7_paysFor_66 (by decide) ?_
          refine x_iadd hx hb dX7_paysFor_67 ?_
          refine lv_istore (lv' := [(7, .int (nI (be w + (absd x (pq f) + absd (pq f) x) + 0))), (6, .int (iI ((((lo w) : Nat) : Int) - ((ai 0 * (absd x (pq f) + absd (pq f) x) : Nat) : Int) - (((if kq f = 1 then 2 else 1) * dq f : Nat) : Int)))), (5, .int (nI (absd x (pq f) + absd (pq f) x))), (4, .int (nI f)), (3, .int (nI q)), (0, .ref rr), (1, .int (nI w)), (2, .int (nI x))]) hx hb dX7_paysFor_68 hl (by decide) rfl (fun ls hl => ?_)
          refine lv_aload_n hx hb dX7_paysFor_70 rfl (lv_at hl 5 rfl) ?_
          refine va_get (D := D) (ci := 7) (v := .ref (ad 13)) (C := RX7) (T := TX7) (N := 28) hx hb hts inX7 hown hK hP 7 rfl rfl 13 (by decide) fl46 (fun _ h9 => h9) rfl dX7_paysFor_71 ?_
          refine lv_iconst (v := (nI 0)) hx hb dX7_paysFor_74 (by decide) ?_
          refine x_iald (A := A) hx hb hK hP 1 0 rfl rfl dX7_paysFor_75 (by omega) (by omega) ?_
          refine lv_iload hx hb dX7_paysFor_76 (lv_at hl 3 rfl) ?_
          refine k_S (As := [.int (nI (sna 0)), .int (nI f)]) (wr := [(ad 2, eArr cI 2 fm), (ad 13, eArr cI 4 sna), (ad 8, eArr cI 32 be), (ad 9, eArr cI 32 va), (ad 10, eArr cI 32 lo), (ad 21, eArr cI 150 S.2), (ad 3, eArr cI 8 pq), (rr, eMod ad len kp uo tm em pc0), (ad 4, eArr cI 8 dq), (ad 5, eArr cI 8 kq), (ad 6, eArr cI 2 ai)]) ⟨hx, hb, hml, hown, hts⟩ (c_X7_has l D cI cC (sna 0) f (by omega) (by omega)) (cwS 2 hts gX7_paysFor_X7_has rfl rfl rfl (by decide +kernel) ⟨Nat.le_of_ble_eq_true rfl, Nat.le_of_ble_eq_true rfl⟩) rfl hl.1 rfl (Nat.le_of_ble_eq_true rfl) dX7_paysFor_78 ⟨Nat.zero_le _, Nat.zero_le _⟩ hN hK hP hD hS hA [] [0, 1, 2, 3, 4, 5, 6, 7, 8, 9, 10] rfl rfl ⟨rfl, rfl, by decide⟩ (fun r18 u H locs w19 hP hD hS => ?_)
          obtain ⟨rfl, h20⟩ | ⟨rfl, h21⟩ : (r18 = (nI 1) ∧ (sna 0) / 2 ^ f % 2 = 1) ∨ (r18 = (nI 0) ∧ ¬ (sna 0) / 2 ^ f % 2 = 1) := w19
          · refine x_if_ne (tgt := 178) hx hb dX7_paysFor_81 (by decide) (by omega) (fun h22 => ?_) (fun h22 => False.elim (by omega))
            refine lv_iinc (v := (nI (f + 1))) (lv' := [(4, .int (nI (f + 1))), (7, .int (nI (be w + (absd x (pq f) + absd (pq f) x) + 0))), (6, .int (iI ((((lo w) : Nat) : Int) - ((ai 0 * (absd x (pq f) + absd (pq f) x) : Nat) : Int) - (((if kq f = 1 then 2 else 1) * dq f : Nat) : Int)))), (5, .int (nI (absd x (pq f) + absd (pq f) x))), (3, .int (nI q)), (0, .ref rr), (1, .int (nI w)), (2, .int (nI x))]) hx hb dX7_paysFor_178 hl (k := 3) rfl (nI_inc _ 1) (by decide) rfl (fun ls hl => ?_)
            refine lv_goto (tgt := 5) hx hb dX7_paysFor_181 (by decide) ?_
            have hnew := back_snow (S := S) (wd := wd) (cl := cl) (w := w) (air := ai 0) (x := x) (y := x) h20
            exact ih5 (f + 1) q (by omega) (by omega) (by rw [hnew]; exact hcase) (by omega) _ _ (hP.sub [7, 0, 6, 8, 9, 10, 1, 2, 3, 4, 5] rfl) (hD.sub [7, 0, 6, 8, 9, 10, 1, 2, 3, 4, 5] rfl rfl) hS _ (lv_sub hl [0, 4, 5, 6, 7] rfl)
          · refine x_if_ne (tgt := 178) hx hb dX7_paysFor_81 (by decide) (by omega) (fun h23 => False.elim (by omega)) (fun h23 => ?_)
            refine lv_iload_n hx hb dX7_paysFor_84 rfl (lv_at hl 4 rfl) ?_
            refine x_if_ne (tgt := 117) hx hb dX7_paysFor_85 (by decide) (by omega) (fun h24 => ?_) (fun h24 => ?_)
            · refine lv_iconst (v := (nI 1)) hx hb dX7_paysFor_117 (by decide) ?_
              refine lv_goto (tgt := 122) hx hb dX7_paysFor_118 (by decide) ?_
              refine lv_istore_n (lv' := [(3, .int (nI 1)), (7, .int (nI (be w + (absd x (pq f) + absd (pq f) x) + 0))), (6, .int (iI ((((lo w) : Nat) : Int) - ((ai 0 * (absd x (pq f) + absd (pq f) x) : Nat) : Int) - (((if kq f = 1 then 2 else 1) * dq f : Nat) : Int)))), (5, .int (nI (absd x (pq f) + absd (pq f) x))), (4, .int (nI f)), (0, .ref rr), (1, .int (nI w)), (2, .int (nI x))]) hx hb dX7_paysFor_122 rfl hl (by decide) rfl (fun ls hl => ?_)
              refine lv_iload_n hx hb dX7_paysFor_123 rfl (lv_at hl 0 rfl) ?_
              refine x_if_ne (tgt := 172) hx hb dX7_paysFor_124 (by decide) (by omega) (fun h25 => ?_) (fun h25 => False.elim (by omega))
              refine lv_iconst (v := (nI 1)) hx hb dX7_paysFor_172 (by decide) ?_
              refine lv_goto (tgt := 177) hx hb dX7_paysFor_173 (by decide) ?_
              refine lv_istore_n (lv' := [(3, .int (nI 1)), (7, .int (nI (be w + (absd x (pq f) + absd (pq f) x) + 0))), (6, .int (iI ((((lo w) : Nat) : Int) - ((ai 0 * (absd x (pq f) + absd (pq f) x) : Nat) : Int) - (((if kq f = 1 then 2 else 1) * dq f : Nat) : Int)))), (5, .int (nI (absd x (pq f) + absd (pq f) x))), (4, .int (nI f)), (0, .ref rr), (1, .int (nI w)), (2, .int (nI x))]) hx hb dX7_paysFor_177 rfl hl (by decide) rfl (fun ls hl => ?_)
              have hbt : backM S wd w (waysM cl (ai 0) (sna 0) x x f) = true := by rcases hcase with hc | hc; exact hc.2; omega
              have hnew : backM S wd w (waysM cl (ai 0) (sna 0) x x (f + 1)) = true := by
                by_cases hk3 : cl (3 * f + 2) = 3
                · rw [back_3 (far := absd x (pq f) + absd (pq f) x) (B := absd x (pq f) + absd (pq f) x) (Lo := ai 0 * (absd x (pq f) + absd (pq f) x) + (if kq f = 1 then 2 * dq f else dq f)) h21 (by rw [← hc1]) (by rw [← hc3]; exact (if_neg (by omega)).symm) (by rw [← hc2, ← hc3]) hk3, hbt]; rfl
                · rw [back_n3 (far := absd x (pq f) + absd (pq f) x) (B := absd x (pq f) + absd (pq f) x) (Lo := ai 0 * (absd x (pq f) + absd (pq f) x) + (if kq f = 1 then 2 * dq f else dq f)) h21 (by rw [← hc1]) (by rw [← hc3]; exact (if_neg (by omega)).symm) (by rw [← hc2, ← hc3]) hk3, hbt]; rfl
              refine lv_iinc (v := (nI (f + 1))) (lv' := [(4, .int (nI (f + 1))), (3, .int (nI 1)), (7, .int (nI (be w + (absd x (pq f) + absd (pq f) x) + 0))), (6, .int (iI ((((lo w) : Nat) : Int) - ((ai 0 * (absd x (pq f) + absd (pq f) x) : Nat) : Int) - (((if kq f = 1 then 2 else 1) * dq f : Nat) : Int)))), (5, .int (nI (absd x (pq f) + absd (pq f) x))), (0, .ref rr), (1, .int (nI w)), (2, .int (nI x))]) hx hb dX7_paysFor_178 hl (k := 4) rfl (nI_inc _ 1) (by decide) rfl (fun ls hl => ?_)
              refine lv_goto (tgt := 5) hx hb dX7_paysFor_181 (by decide) ?_
              exact ih5 (f + 1) 1 (by omega) (by omega) (Or.inl ⟨rfl, hnew⟩) (by omega) _ _ (hP.sub [7, 0, 6, 8, 9, 10, 1, 2, 3, 4, 5] rfl) (hD.sub [7, 0, 6, 8, 9, 10, 1, 2, 3, 4, 5] rfl rfl) hS _ (lv_sub hl [0, 1, 5, 6, 7] rfl)
            · refine lv_iload hx hb dX7_paysFor_88 (lv_at hl 1 rfl) ?_
              refine z_if_le (tgt := 121) hx hb dX7_paysFor_90 (by decide) (by omega) (fun h26 => ?_) (fun h26 => ?_)
              · refine lv_iconst (v := (nI 0)) hx hb dX7_paysFor_121 (by decide) ?_
                refine lv_istore_n (lv' := [(3, .int (nI 0)), (7, .int (nI (be w + (absd x (pq f) + absd (pq f) x) + 0))), (6, .int (iI ((((lo w) : Nat) : Int) - ((ai 0 * (absd x (pq f) + absd (pq f) x) : Nat) : Int) - (((if kq f = 1 then 2 else 1) * dq f : Nat) : Int)))), (5, .int (nI (absd x (pq f) + absd (pq f) x))), (4, .int (nI f)), (0, .ref rr), (1, .int (nI w)), (2, .int (nI x))]) hx hb dX7_paysFor_122 rfl hl (by decide) rfl (fun ls hl => ?_)
                refine lv_iload_n hx hb dX7_paysFor_123 rfl (lv_at hl 0 rfl) ?_
                refine x_if_ne (tgt := 172) hx hb dX7_paysFor_124 (by decide) (by omega) (fun h27 => False.elim (by omega)) (fun h27 => ?_)
                refine lv_aload_n hx hb dX7_paysFor_127 rfl (lv_at hl 5 rfl) ?_
                refine va_get (D := D) (ci := 7) (v := .ref (ad 5)) (C := RX7) (T := TX7) (N := 28) hx hb hts inX7 hown hK hP 7 rfl rfl 5 (by decide) fl22 (fun _ h9 => h9) rfl dX7_paysFor_128 ?_
                refine lv_iload hx hb dX7_paysFor_131 (lv_at hl 4 rfl) ?_
                refine x_iald (A := A) hx hb hK hP 9 0 rfl rfl dX7_paysFor_133 (by omega) (by omega) ?_
                refine lv_iconst (v := (nI 3)) hx hb dX7_paysFor_134 (by decide) ?_
                refine x_icmp_ne (tgt := 176) hx hb dX7_paysFor_135 (by decide) (by omega) (by omega) (fun h28 => ?_) (fun h28 => ?_)
                · refine lv_iconst (v := (nI 0)) hx hb dX7_paysFor_176 (by decide) ?_
                  refine lv_istore_n (lv' := [(3, .int (nI 0)), (7, .int (nI (be w + (absd x (pq f) + absd (pq f) x) + 0))), (6, .int (iI ((((lo w) : Nat) : Int) - ((ai 0 * (absd x (pq f) + absd (pq f) x) : Nat) : Int) - (((if kq f = 1 then 2 else 1) * dq f : Nat) : Int)))), (5, .int (nI (absd x (pq f) + absd (pq f) x))), (4, .int (nI f)), (0, .ref rr), (1, .int (nI w)), (2, .int (nI x))]) hx hb dX7_paysFor_177 rfl hl (by decide) rfl (fun ls hl => ?_)
                  have hbf : backM S wd w (waysM cl (ai 0) (sna 0) x x f) = false := by rcases hcase with hc | hc; omega; exact hc.2
                  have hh1 : hitM S wd w 0 (absd x (pq f) + absd (pq f) x) (ai 0 * (absd x (pq f) + absd (pq f) x) + (if kq f = 1 then 2 * dq f else dq f)) = false := by
                    first | exact hitM_f1 (by omega) | exact hitM_f2 (by omega) | exact hitM_f3 (by rw [show wd (3 * w + 0) + 0 + (absd x (pq f) + absd (pq f) x) = be w + (absd x (pq f) + absd (pq f) x) + 0 from by omega, ← hw2]; assumption)
                  have hnew : backM S wd w (waysM cl (ai 0) (sna 0) x x (f + 1)) = false := by rw [back_n3 (far := absd x (pq f) + absd (pq f) x) (B := absd x (pq f) + absd (pq f) x) (Lo := ai 0 * (absd x (pq f) + absd (pq f) x) + (if kq f = 1 then 2 * dq f else dq f)) h21 (by rw [← hc1]) (by rw [← hc3]; exact (if_neg (by omega)).symm) (by rw [← hc2, ← hc3]) (by omega), hbf, hh1]; rfl
                  refine lv_iinc (v := (nI (f + 1))) (lv' := [(4, .int (nI (f + 1))), (3, .int (nI 0)), (7, .int (nI (be w + (absd x (pq f) + absd (pq f) x) + 0))), (6, .int (iI ((((lo w) : Nat) : Int) - ((ai 0 * (absd x (pq f) + absd (pq f) x) : Nat) : Int) - (((if kq f = 1 then 2 else 1) * dq f : Nat) : Int)))), (5, .int (nI (absd x (pq f) + absd (pq f) x))), (0, .ref rr), (1, .int (nI w)), (2, .int (nI x))]) hx hb dX7_paysFor_178 hl (k := 4) rfl (nI_inc _ 1) (by decide) rfl (fun ls hl => ?_)
                  refine lv_goto (tgt := 5) hx hb dX7_paysFor_181 (by decide) ?_
                  exact ih5 (f + 1) 0 (by omega) (by omega) (Or.inr ⟨rfl, hnew⟩) (by omega) _ _ (hP.sub [7, 0, 6, 8, 9, 10, 1, 2, 3, 4, 5] rfl) (hD.sub [7, 0, 6, 8, 9, 10, 1, 2, 3, 4, 5] rfl rfl) hS _ (lv_sub hl [0, 1, 5, 6, 7] rfl)
                · refine lv_iload hx hb dX7_paysFor_138 (lv_at hl 2 rfl) ?_
                  refine lv_iconst (v := (nI 3)) hx hb dX7_paysFor_140 (by decide) ?_
                  refine x_top (nI_iI _) ?_
                  refine z_icmp_le (tgt := 176) hx hb dX7_paysFor_141 (by decide) (by omega) (by omega) (fun h29 => ?_) (fun h29 => False.elim (by omega))
                  refine lv_iconst (v := (nI 0)) hx hb dX7_paysFor_176 (by decide) ?_
                  refine lv_istore_n (lv' := [(3, .int (nI 0)), (7, .int (nI (be w + (absd x (pq f) + absd (pq f) x) + 0))), (6, .int (iI ((((lo w) : Nat) : Int) - ((ai 0 * (absd x (pq f) + absd (pq f) x) : Nat) : Int) - (((if kq f = 1 then 2 else 1) * dq f : Nat) : Int)))), (5, .int (nI (absd x (pq f) + absd (pq f) x))), (4, .int (nI f)), (0, .ref rr), (1, .int (nI w)), (2, .int (nI x))]) hx hb dX7_paysFor_177 rfl hl (by decide) rfl (fun ls hl => ?_)
                  have hbf : backM S wd w (waysM cl (ai 0) (sna 0) x x f) = false := by rcases hcase with hc | hc; omega; exact hc.2
                  have hh1 : hitM S wd w 0 (absd x (pq f) + absd (pq f) x) (ai 0 * (absd x (pq f) + absd (pq f) x) + (if kq f = 1 then 2 * dq f else dq f)) = false := by
                    first | exact hitM_f1 (by omega) | exact hitM_f2 (by omega) | exact hitM_f3 (by rw [show wd (3 * w + 0) + 0 + (absd x (pq f) + absd (pq f) x) = be w + (absd x (pq f) + absd (pq f) x) + 0 from by omega, ← hw2]; assumption)
                  have hh2 : hitM S wd w 0 (absd x (pq f) + absd (pq f) x + 4) (ai 0 * (absd x (pq f) + absd (pq f) x) + (if kq f = 1 then 2 * dq f else dq f) + 3) = false := by
                    first | exact hitM_f1 (by omega) | exact hitM_f2 (by omega) | exact hitM_f3 (by rw [show wd (3 * w + 0) + 0 + (absd x (pq f) + absd (pq f) x + 4) = be w + (absd x (pq f) + absd (pq f) x) + 0 + 4 from by omega, ← hw2]; assumption)
                  have hnew : backM S wd w (waysM cl (ai 0) (sna 0) x x (f + 1)) = false := by rw [back_3 (far := absd x (pq f) + absd (pq f) x) (B := absd x (pq f) + absd (pq f) x) (Lo := ai 0 * (absd x (pq f) + absd (pq f) x) + (if kq f = 1 then 2 * dq f else dq f)) h21 (by rw [← hc1]) (by rw [← hc3]; exact (if_neg (by omega)).symm) (by rw [← hc2, ← hc3]) (by omega), hbf, hh1, hh2]; rfl
                  refine lv_iinc (v := (nI (f + 1))) (lv' := [(4, .int (nI (f + 1))), (3, .int (nI 0)), (7, .int (nI (be w + (absd x (pq f) + absd (pq f) x) + 0))), (6, .int (iI ((((lo w) : Nat) : Int) - ((ai 0 * (absd x (pq f) + absd (pq f) x) : Nat) : Int) - (((if kq f = 1 then 2 else 1) * dq f : Nat) : Int)))), (5, .int (nI (absd x (pq f) + absd (pq f) x))), (0, .ref rr), (1, .int (nI w)), (2, .int (nI x))]) hx hb dX7_paysFor_178 hl (k := 4) rfl (nI_inc _ 1) (by decide) rfl (fun ls hl => ?_)
                  refine lv_goto (tgt := 5) hx hb dX7_paysFor_181 (by decide) ?_
                  exact ih5 (f + 1) 0 (by omega) (by omega) (Or.inr ⟨rfl, hnew⟩) (by omega) _ _ (hP.sub [7, 0, 6, 8, 9, 10, 1, 2, 3, 4, 5] rfl) (hD.sub [7, 0, 6, 8, 9, 10, 1, 2, 3, 4, 5] rfl rfl) hS _ (lv_sub hl [0, 1, 5, 6, 7] rfl)
              · refine lv_iload hx hb dX7_paysFor_93 (lv_at hl 0 rfl) ?_
                refine lv_sipush (v := (nI 150)) hx hb dX7_paysFor_95 (by decide) ?_
                refine x_icmp_ge (tgt := 121) hx hb dX7_paysFor_98 (by decide) (by omega) (by omega) (fun h30 => False.elim (by omega)) (fun h30 => ?_)
                have hSb := hS0 (be w + (absd x (pq f) + absd (pq f) x) + 0)
                refine lv_aload_n hx hb dX7_paysFor_101 rfl (lv_at hl 5 rfl) ?_
                refine va_get (D := D) (ci := 7) (v := .ref (ad 21)) (C := RX7) (T := TX7) (N := 28) hx hb hts inX7 hown hK hP 7 rfl rfl 26 (by decide) fl70 (fun _ h9 => h9) rfl dX7_paysFor_102 ?_
                refine lv_iload hx hb dX7_paysFor_105 (lv_at hl 0 rfl) ?_
                refine x_iald (A := A) hx hb hK hP 5 0 rfl rfl dX7_paysFor_107 (by omega) (by omega) ?_
                refine lv_aload_n hx hb dX7_paysFor_108 rfl (lv_at hl 5 rfl) ?_
                refine va_get (D := D) (ci := 7) (v := .ref (ad 9)) (C := RX7) (T := TX7) (N := 28) hx hb hts inX7 hown hK hP 7 rfl rfl 9 (by decide) fl34 (fun _ h9 => h9) rfl dX7_paysFor_109 ?_
                refine lv_iload_n hx hb dX7_paysFor_112 rfl (lv_at hl 6 rfl) ?_
                refine x_iald (A := A) hx hb hK hP 3 0 rfl rfl dX7_paysFor_113 (by omega) (by omega) ?_
                refine x_icmp_ne (tgt := 121) hx hb dX7_paysFor_114 (by decide) (by omega) (by omega) (fun h31 => ?_) (fun h31 => ?_)
                · refine lv_iconst (v := (nI 0)) hx hb dX7_paysFor_121 (by decide) ?_
                  refine lv_istore_n (lv' := [(3, .int (nI 0)), (7, .int (nI (be w + (absd x (pq f) + absd (pq f) x) + 0))), (6, .int (iI ((((lo w) : Nat) : Int) - ((ai 0 * (absd x (pq f) + absd (pq f) x) : Nat) : Int) - (((if kq f = 1 then 2 else 1) * dq f : Nat) : Int)))), (5, .int (nI (absd x (pq f) + absd (pq f) x))), (4, .int (nI f)), (0, .ref rr), (1, .int (nI w)), (2, .int (nI x))]) hx hb dX7_paysFor_122 rfl hl (by decide) rfl (fun ls hl => ?_)
                  refine lv_iload_n hx hb dX7_paysFor_123 rfl (lv_at hl 0 rfl) ?_
                  refine x_if_ne (tgt := 172) hx hb dX7_paysFor_124 (by decide) (by omega) (fun h32 => False.elim (by omega)) (fun h32 => ?_)
                  refine lv_aload_n hx hb dX7_paysFor_127 rfl (lv_at hl 5 rfl) ?_
                  refine va_get (D := D) (ci := 7) (v := .ref (ad 5)) (C := RX7) (T := TX7) (N := 28) hx hb hts inX7 hown hK hP 7 rfl rfl 5 (by decide) fl22 (fun _ h9 => h9) rfl dX7_paysFor_128 ?_
                  refine lv_iload hx hb dX7_paysFor_131 (lv_at hl 4 rfl) ?_
                  refine x_iald (A := A) hx hb hK hP 9 0 rfl rfl dX7_paysFor_133 (by omega) (by omega) ?_
                  refine lv_iconst (v := (nI 3)) hx hb dX7_paysFor_134 (by decide) ?_
                  refine x_icmp_ne (tgt := 176) hx hb dX7_paysFor_135 (by decide) (by omega) (by omega) (fun h33 => ?_) (fun h33 => ?_)
                  · refine lv_iconst (v := (nI 0)) hx hb dX7_paysFor_176 (by decide) ?_
                    refine lv_istore_n (lv' := [(3, .int (nI 0)), (7, .int (nI (be w + (absd x (pq f) + absd (pq f) x) + 0))), (6, .int (iI ((((lo w) : Nat) : Int) - ((ai 0 * (absd x (pq f) + absd (pq f) x) : Nat) : Int) - (((if kq f = 1 then 2 else 1) * dq f : Nat) : Int)))), (5, .int (nI (absd x (pq f) + absd (pq f) x))), (4, .int (nI f)), (0, .ref rr), (1, .int (nI w)), (2, .int (nI x))]) hx hb dX7_paysFor_177 rfl hl (by decide) rfl (fun ls hl => ?_)
                    have hbf : backM S wd w (waysM cl (ai 0) (sna 0) x x f) = false := by rcases hcase with hc | hc; omega; exact hc.2
                    have hh1 : hitM S wd w 0 (absd x (pq f) + absd (pq f) x) (ai 0 * (absd x (pq f) + absd (pq f) x) + (if kq f = 1 then 2 * dq f else dq f)) = false := by
                      first | exact hitM_f1 (by omega) | exact hitM_f2 (by omega) | exact hitM_f3 (by rw [show wd (3 * w + 0) + 0 + (absd x (pq f) + absd (pq f) x) = be w + (absd x (pq f) + absd (pq f) x) + 0 from by omega, ← hw2]; assumption)
                    have hnew : backM S wd w (waysM cl (ai 0) (sna 0) x x (f + 1)) = false := by rw [back_n3 (far := absd x (pq f) + absd (pq f) x) (B := absd x (pq f) + absd (pq f) x) (Lo := ai 0 * (absd x (pq f) + absd (pq f) x) + (if kq f = 1 then 2 * dq f else dq f)) h21 (by rw [← hc1]) (by rw [← hc3]; exact (if_neg (by omega)).symm) (by rw [← hc2, ← hc3]) (by omega), hbf, hh1]; rfl
                    refine lv_iinc (v := (nI (f + 1))) (lv' := [(4, .int (nI (f + 1))), (3, .int (nI 0)), (7, .int (nI (be w + (absd x (pq f) + absd (pq f) x) + 0))), (6, .int (iI ((((lo w) : Nat) : Int) - ((ai 0 * (absd x (pq f) + absd (pq f) x) : Nat) : Int) - (((if kq f = 1 then 2 else 1) * dq f : Nat) : Int)))), (5, .int (nI (absd x (pq f) + absd (pq f) x))), (0, .ref rr), (1, .int (nI w)), (2, .int (nI x))]) hx hb dX7_paysFor_178 hl (k := 4) rfl (nI_inc _ 1) (by decide) rfl (fun ls hl => ?_)
                    refine lv_goto (tgt := 5) hx hb dX7_paysFor_181 (by decide) ?_
                    exact ih5 (f + 1) 0 (by omega) (by omega) (Or.inr ⟨rfl, hnew⟩) (by omega) _ _ (hP.sub [7, 0, 6, 8, 9, 10, 1, 2, 3, 4, 5] rfl) (hD.sub [7, 0, 6, 8, 9, 10, 1, 2, 3, 4, 5] rfl rfl) hS _ (lv_sub hl [0, 1, 5, 6, 7] rfl)
                  · refine lv_iload hx hb dX7_paysFor_138 (lv_at hl 2 rfl) ?_
                    refine lv_iconst (v := (nI 3)) hx hb dX7_paysFor_140 (by decide) ?_
                    refine x_top (nI_iI _) ?_
                    refine z_icmp_le (tgt := 176) hx hb dX7_paysFor_141 (by decide) (by omega) (by omega) (fun h34 => ?_) (fun h34 => ?_)
                    · refine lv_iconst (v := (nI 0)) hx hb dX7_paysFor_176 (by decide) ?_
                      refine lv_istore_n (lv' := [(3, .int (nI 0)), (7, .int (nI (be w + (absd x (pq f) + absd (pq f) x) + 0))), (6, .int (iI ((((lo w) : Nat) : Int) - ((ai 0 * (absd x (pq f) + absd (pq f) x) : Nat) : Int) - (((if kq f = 1 then 2 else 1) * dq f : Nat) : Int)))), (5, .int (nI (absd x (pq f) + absd (pq f) x))), (4, .int (nI f)), (0, .ref rr), (1, .int (nI w)), (2, .int (nI x))]) hx hb dX7_paysFor_177 rfl hl (by decide) rfl (fun ls hl => ?_)
                      have hbf : backM S wd w (waysM cl (ai 0) (sna 0) x x f) = false := by rcases hcase with hc | hc; omega; exact hc.2
                      have hh1 : hitM S wd w 0 (absd x (pq f) + absd (pq f) x) (ai 0 * (absd x (pq f) + absd (pq f) x) + (if kq f = 1 then 2 * dq f else dq f)) = false := by
                        first | exact hitM_f1 (by omega) | exact hitM_f2 (by omega) | exact hitM_f3 (by rw [show wd (3 * w + 0) + 0 + (absd x (pq f) + absd (pq f) x) = be w + (absd x (pq f) + absd (pq f) x) + 0 from by omega, ← hw2]; assumption)
                      have hh2 : hitM S wd w 0 (absd x (pq f) + absd (pq f) x + 4) (ai 0 * (absd x (pq f) + absd (pq f) x) + (if kq f = 1 then 2 * dq f else dq f) + 3) = false := by
                        first | exact hitM_f1 (by omega) | exact hitM_f2 (by omega) | exact hitM_f3 (by rw [show wd (3 * w + 0) + 0 + (absd x (pq f) + absd (pq f) x + 4) = be w + (absd x (pq f) + absd (pq f) x) + 0 + 4 from by omega, ← hw2]; assumption)
                      have hnew : backM S wd w (waysM cl (ai 0) (sna 0) x x (f + 1)) = false := by rw [back_3 (far := absd x (pq f) + absd (pq f) x) (B := absd x (pq f) + absd (pq f) x) (Lo := ai 0 * (absd x (pq f) + absd (pq f) x) + (if kq f = 1 then 2 * dq f else dq f)) h21 (by rw [← hc1]) (by rw [← hc3]; exact (if_neg (by omega)).symm) (by rw [← hc2, ← hc3]) (by omega), hbf, hh1, hh2]; rfl
                      refine lv_iinc (v := (nI (f + 1))) (lv' := [(4, .int (nI (f + 1))), (3, .int (nI 0)), (7, .int (nI (be w + (absd x (pq f) + absd (pq f) x) + 0))), (6, .int (iI ((((lo w) : Nat) : Int) - ((ai 0 * (absd x (pq f) + absd (pq f) x) : Nat) : Int) - (((if kq f = 1 then 2 else 1) * dq f : Nat) : Int)))), (5, .int (nI (absd x (pq f) + absd (pq f) x))), (0, .ref rr), (1, .int (nI w)), (2, .int (nI x))]) hx hb dX7_paysFor_178 hl (k := 4) rfl (nI_inc _ 1) (by decide) rfl (fun ls hl => ?_)
                      refine lv_goto (tgt := 5) hx hb dX7_paysFor_181 (by decide) ?_
                      exact ih5 (f + 1) 0 (by omega) (by omega) (Or.inr ⟨rfl, hnew⟩) (by omega) _ _ (hP.sub [7, 0, 6, 8, 9, 10, 1, 2, 3, 4, 5] rfl) (hD.sub [7, 0, 6, 8, 9, 10, 1, 2, 3, 4, 5] rfl rfl) hS _ (lv_sub hl [0, 1, 5, 6, 7] rfl)
                    · refine lv_iload hx hb dX7_paysFor_144 (lv_at hl 1 rfl) ?_
                      refine lv_iconst (v := (nI 4)) hx hb dX7_paysFor_146 (by decide) ?_
                      refine x_iadd hx hb dX7_paysFor_147 ?_
                      refine lv_sipush (v := (nI 150)) hx hb dX7_paysFor_148 (by decide) ?_
                      refine x_icmp_ge (tgt := 176) hx hb dX7_paysFor_151 (by decide) (by omega) (by omega) (fun h35 => False.elim (by omega)) (fun h35 => ?_)
                      have hSb4 := hS0 (be w + (absd x (pq f) + absd (pq f) x) + 0 + 4)
                      refine lv_aload_n hx hb dX7_paysFor_154 rfl (lv_at hl 5 rfl) ?_
                      refine va_get (D := D) (ci := 7) (v := .ref (ad 21)) (C := RX7) (T := TX7) (N := 28) hx hb hts inX7 hown hK hP 7 rfl rfl 26 (by decide) fl70 (fun _ h9 => h9) rfl dX7_paysFor_155 ?_
                      refine lv_iload hx hb dX7_paysFor_158 (lv_at hl 1 rfl) ?_
                      refine lv_iconst (v := (nI 4)) hx hb dX7_paysFor_160 (by decide) ?_
                      refine x_iadd hx hb dX7_paysFor_161 ?_
                      refine x_iald (A := A) hx hb hK hP 5 0 rfl rfl dX7_paysFor_162 (by omega) (by omega) ?_
                      refine lv_aload_n hx hb dX7_paysFor_163 rfl (lv_at hl 5 rfl) ?_
                      refine va_get (D := D) (ci := 7) (v := .ref (ad 9)) (C := RX7) (T := TX7) (N := 28) hx hb hts inX7 hown hK hP 7 rfl rfl 9 (by decide) fl34 (fun _ h9 => h9) rfl dX7_paysFor_164 ?_
                      refine lv_iload_n hx hb dX7_paysFor_167 rfl (lv_at hl 6 rfl) ?_
                      refine x_iald (A := A) hx hb hK hP 3 0 rfl rfl dX7_paysFor_168 (by omega) (by omega) ?_
                      refine x_icmp_ne (tgt := 176) hx hb dX7_paysFor_169 (by decide) (by omega) (by omega) (fun h36 => ?_) (fun h36 => ?_)
                      · refine lv_iconst (v := (nI 0)) hx hb dX7_paysFor_176 (by decide) ?_
                        refine lv_istore_n (lv' := [(3, .int (nI 0)), (7, .int (nI (be w + (absd x (pq f) + absd (pq f) x) + 0))), (6, .int (iI ((((lo w) : Nat) : Int) - ((ai 0 * (absd x (pq f) + absd (pq f) x) : Nat) : Int) - (((if kq f = 1 then 2 else 1) * dq f : Nat) : Int)))), (5, .int (nI (absd x (pq f) + absd (pq f) x))), (4, .int (nI f)), (0, .ref rr), (1, .int (nI w)), (2, .int (nI x))]) hx hb dX7_paysFor_177 rfl hl (by decide) rfl (fun ls hl => ?_)
                        have hbf : backM S wd w (waysM cl (ai 0) (sna 0) x x f) = false := by rcases hcase with hc | hc; omega; exact hc.2
                        have hh1 : hitM S wd w 0 (absd x (pq f) + absd (pq f) x) (ai 0 * (absd x (pq f) + absd (pq f) x) + (if kq f = 1 then 2 * dq f else dq f)) = false := by
                          first | exact hitM_f1 (by omega) | exact hitM_f2 (by omega) | exact hitM_f3 (by rw [show wd (3 * w + 0) + 0 + (absd x (pq f) + absd (pq f) x) = be w + (absd x (pq f) + absd (pq f) x) + 0 from by omega, ← hw2]; assumption)
                        have hh2 : hitM S wd w 0 (absd x (pq f) + absd (pq f) x + 4) (ai 0 * (absd x (pq f) + absd (pq f) x) + (if kq f = 1 then 2 * dq f else dq f) + 3) = false := by
                          first | exact hitM_f1 (by omega) | exact hitM_f2 (by omega) | exact hitM_f3 (by rw [show wd (3 * w + 0) + 0 + (absd x (pq f) + absd (pq f) x + 4) = be w + (absd x (pq f) + absd (pq f) x) + 0 + 4 from by omega, ← hw2]; assumption)
                        have hnew : backM S wd w (waysM cl (ai 0) (sna 0) x x (f + 1)) = false := by rw [back_3 (far := absd x (pq f) + absd (pq f) x) (B := absd x (pq f) + absd (pq f) x) (Lo := ai 0 * (absd x (pq f) + absd (pq f) x) + (if kq f = 1 then 2 * dq f else dq f)) h21 (by rw [← hc1]) (by rw [← hc3]; exact (if_neg (by omega)).symm) (by rw [← hc2, ← hc3]) (by omega), hbf, hh1, hh2]; rfl
                        refine lv_iinc (v := (nI (f + 1))) (lv' := [(4, .int (nI (f + 1))), (3, .int (nI 0)), (7, .int (nI (be w + (absd x (pq f) + absd (pq f) x) + 0))), (6, .int (iI ((((lo w) : Nat) : Int) - ((ai 0 * (absd x (pq f) + absd (pq f) x) : Nat) : Int) - (((if kq f = 1 then 2 else 1) * dq f : Nat) : Int)))), (5, .int (nI (absd x (pq f) + absd (pq f) x))), (0, .ref rr), (1, .int (nI w)), (2, .int (nI x))]) hx hb dX7_paysFor_178 hl (k := 4) rfl (nI_inc _ 1) (by decide) rfl (fun ls hl => ?_)
                        refine lv_goto (tgt := 5) hx hb dX7_paysFor_181 (by decide) ?_
                        exact ih5 (f + 1) 0 (by omega) (by omega) (Or.inr ⟨rfl, hnew⟩) (by omega) _ _ (hP.sub [7, 0, 6, 8, 9, 10, 1, 2, 3, 4, 5] rfl) (hD.sub [7, 0, 6, 8, 9, 10, 1, 2, 3, 4, 5] rfl rfl) hS _ (lv_sub hl [0, 1, 5, 6, 7] rfl)
                      · refine lv_iconst (v := (nI 1)) hx hb dX7_paysFor_172 (by decide) ?_
                        refine lv_goto (tgt := 177) hx hb dX7_paysFor_173 (by decide) ?_
                        refine lv_istore_n (lv' := [(3, .int (nI 1)), (7, .int (nI (be w + (absd x (pq f) + absd (pq f) x) + 0))), (6, .int (iI ((((lo w) : Nat) : Int) - ((ai 0 * (absd x (pq f) + absd (pq f) x) : Nat) : Int) - (((if kq f = 1 then 2 else 1) * dq f : Nat) : Int)))), (5, .int (nI (absd x (pq f) + absd (pq f) x))), (4, .int (nI f)), (0, .ref rr), (1, .int (nI w)), (2, .int (nI x))]) hx hb dX7_paysFor_177 rfl hl (by decide) rfl (fun ls hl => ?_)
                        have hbf : backM S wd w (waysM cl (ai 0) (sna 0) x x f) = false := by rcases hcase with hc | hc; omega; exact hc.2
                        have hh1 : hitM S wd w 0 (absd x (pq f) + absd (pq f) x) (ai 0 * (absd x (pq f) + absd (pq f) x) + (if kq f = 1 then 2 * dq f else dq f)) = false := by
                          first | exact hitM_f1 (by omega) | exact hitM_f2 (by omega) | exact hitM_f3 (by rw [show wd (3 * w + 0) + 0 + (absd x (pq f) + absd (pq f) x) = be w + (absd x (pq f) + absd (pq f) x) + 0 from by omega, ← hw2]; assumption)
                        have hh2 : hitM S wd w 0 (absd x (pq f) + absd (pq f) x + 4) (ai 0 * (absd x (pq f) + absd (pq f) x) + (if kq f = 1 then 2 * dq f else dq f) + 3) = true := by
                          first | exact hitM_t (by omega) (by omega) (by rw [show wd (3 * w + 0) + 0 + (absd x (pq f) + absd (pq f) x + 4) = be w + (absd x (pq f) + absd (pq f) x) + 0 + 4 from by omega, ← hw2]; assumption)
                        have hnew : backM S wd w (waysM cl (ai 0) (sna 0) x x (f + 1)) = true := by rw [back_3 (far := absd x (pq f) + absd (pq f) x) (B := absd x (pq f) + absd (pq f) x) (Lo := ai 0 * (absd x (pq f) + absd (pq f) x) + (if kq f = 1 then 2 * dq f else dq f)) h21 (by rw [← hc1]) (by rw [← hc3]; exact (if_neg (by omega)).symm) (by rw [← hc2, ← hc3]) (by omega), hbf, hh1, hh2]; rfl
                        refine lv_iinc (v := (nI (f + 1))) (lv' := [(4, .int (nI (f + 1))), (3, .int (nI 1)), (7, .int (nI (be w + (absd x (pq f) + absd (pq f) x) + 0))), (6, .int (iI ((((lo w) : Nat) : Int) - ((ai 0 * (absd x (pq f) + absd (pq f) x) : Nat) : Int) - (((if kq f = 1 then 2 else 1) * dq f : Nat) : Int)))), (5, .int (nI (absd x (pq f) + absd (pq f) x))), (0, .ref rr), (1, .int (nI w)), (2, .int (nI x))]) hx hb dX7_paysFor_178 hl (k := 4) rfl (nI_inc _ 1) (by decide) rfl (fun ls hl => ?_)
                        refine lv_goto (tgt := 5) hx hb dX7_paysFor_181 (by decide) ?_
                        exact ih5 (f + 1) 1 (by omega) (by omega) (Or.inl ⟨rfl, hnew⟩) (by omega) _ _ (hP.sub [7, 0, 6, 8, 9, 10, 1, 2, 3, 4, 5] rfl) (hD.sub [7, 0, 6, 8, 9, 10, 1, 2, 3, 4, 5] rfl rfl) hS _ (lv_sub hl [0, 1, 5, 6, 7] rfl)
                · refine lv_iconst (v := (nI 1)) hx hb dX7_paysFor_117 (by decide) ?_
                  refine lv_goto (tgt := 122) hx hb dX7_paysFor_118 (by decide) ?_
                  refine lv_istore_n (lv' := [(3, .int (nI 1)), (7, .int (nI (be w + (absd x (pq f) + absd (pq f) x) + 0))), (6, .int (iI ((((lo w) : Nat) : Int) - ((ai 0 * (absd x (pq f) + absd (pq f) x) : Nat) : Int) - (((if kq f = 1 then 2 else 1) * dq f : Nat) : Int)))), (5, .int (nI (absd x (pq f) + absd (pq f) x))), (4, .int (nI f)), (0, .ref rr), (1, .int (nI w)), (2, .int (nI x))]) hx hb dX7_paysFor_122 rfl hl (by decide) rfl (fun ls hl => ?_)
                  refine lv_iload_n hx hb dX7_paysFor_123 rfl (lv_at hl 0 rfl) ?_
                  refine x_if_ne (tgt := 172) hx hb dX7_paysFor_124 (by decide) (by omega) (fun h37 => ?_) (fun h37 => False.elim (by omega))
                  refine lv_iconst (v := (nI 1)) hx hb dX7_paysFor_172 (by decide) ?_
                  refine lv_goto (tgt := 177) hx hb dX7_paysFor_173 (by decide) ?_
                  refine lv_istore_n (lv' := [(3, .int (nI 1)), (7, .int (nI (be w + (absd x (pq f) + absd (pq f) x) + 0))), (6, .int (iI ((((lo w) : Nat) : Int) - ((ai 0 * (absd x (pq f) + absd (pq f) x) : Nat) : Int) - (((if kq f = 1 then 2 else 1) * dq f : Nat) : Int)))), (5, .int (nI (absd x (pq f) + absd (pq f) x))), (4, .int (nI f)), (0, .ref rr), (1, .int (nI w)), (2, .int (nI x))]) hx hb dX7_paysFor_177 rfl hl (by decide) rfl (fun ls hl => ?_)
                  have hbf : backM S wd w (waysM cl (ai 0) (sna 0) x x f) = false := by rcases hcase with hc | hc; omega; exact hc.2
                  have hh1 : hitM S wd w 0 (absd x (pq f) + absd (pq f) x) (ai 0 * (absd x (pq f) + absd (pq f) x) + (if kq f = 1 then 2 * dq f else dq f)) = true := by
                    first | exact hitM_t (by omega) (by omega) (by rw [show wd (3 * w + 0) + 0 + (absd x (pq f) + absd (pq f) x) = be w + (absd x (pq f) + absd (pq f) x) + 0 from by omega, ← hw2]; assumption)
                  have hnew : backM S wd w (waysM cl (ai 0) (sna 0) x x (f + 1)) = true := by
                    by_cases hk3 : cl (3 * f + 2) = 3
                    · rw [back_3 (far := absd x (pq f) + absd (pq f) x) (B := absd x (pq f) + absd (pq f) x) (Lo := ai 0 * (absd x (pq f) + absd (pq f) x) + (if kq f = 1 then 2 * dq f else dq f)) h21 (by rw [← hc1]) (by rw [← hc3]; exact (if_neg (by omega)).symm) (by rw [← hc2, ← hc3]) hk3, hh1, Bool.true_or, Bool.or_true]
                    · rw [back_n3 (far := absd x (pq f) + absd (pq f) x) (B := absd x (pq f) + absd (pq f) x) (Lo := ai 0 * (absd x (pq f) + absd (pq f) x) + (if kq f = 1 then 2 * dq f else dq f)) h21 (by rw [← hc1]) (by rw [← hc3]; exact (if_neg (by omega)).symm) (by rw [← hc2, ← hc3]) hk3, hh1, Bool.or_true]
                  refine lv_iinc (v := (nI (f + 1))) (lv' := [(4, .int (nI (f + 1))), (3, .int (nI 1)), (7, .int (nI (be w + (absd x (pq f) + absd (pq f) x) + 0))), (6, .int (iI ((((lo w) : Nat) : Int) - ((ai 0 * (absd x (pq f) + absd (pq f) x) : Nat) : Int) - (((if kq f = 1 then 2 else 1) * dq f : Nat) : Int)))), (5, .int (nI (absd x (pq f) + absd (pq f) x))), (0, .ref rr), (1, .int (nI w)), (2, .int (nI x))]) hx hb dX7_paysFor_178 hl (k := 4) rfl (nI_inc _ 1) (by decide) rfl (fun ls hl => ?_)
                  refine lv_goto (tgt := 5) hx hb dX7_paysFor_181 (by decide) ?_
                  exact ih5 (f + 1) 1 (by omega) (by omega) (Or.inl ⟨rfl, hnew⟩) (by omega) _ _ (hP.sub [7, 0, 6, 8, 9, 10, 1, 2, 3, 4, 5] rfl) (hD.sub [7, 0, 6, 8, 9, 10, 1, 2, 3, 4, 5] rfl rfl) hS _ (lv_sub hl [0, 1, 5, 6, 7] rfl)
        · refine lv_iconst (v := (nI 2)) hx hb dX7_paysFor_62 (by decide) ?_
          refine lv_goto (tgt := 67) hx hb dX7_paysFor_63 (by decide) ?_
          refine x_iadd hx hb dX7_paysFor_67 ?_
          refine lv_istore (lv' := [(7, .int (nI (be w + (absd x (pq f) + absd (pq f) x) + 2))), (6, .int (iI ((((lo w) : Nat) : Int) - ((ai 0 * (absd x (pq f) + absd (pq f) x) : Nat) : Int) - (((if kq f = 1 then 2 else 1) * dq f : Nat) : Int)))), (5, .int (nI (absd x (pq f) + absd (pq f) x))), (4, .int (nI f)), (3, .int (nI q)), (0, .ref rr), (1, .int (nI w)), (2, .int (nI x))]) hx hb dX7_paysFor_68 hl (by decide) rfl (fun ls hl => ?_)
          refine lv_aload_n hx hb dX7_paysFor_70 rfl (lv_at hl 5 rfl) ?_
          refine va_get (D := D) (ci := 7) (v := .ref (ad 13)) (C := RX7) (T := TX7) (N := 28) hx hb hts inX7 hown hK hP 7 rfl rfl 13 (by decide) fl46 (fun _ h9 => h9) rfl dX7_paysFor_71 ?_
          refine lv_iconst (v := (nI 0)) hx hb dX7_paysFor_74 (by decide) ?_
          refine x_iald (A := A) hx hb hK hP 1 0 rfl rfl dX7_paysFor_75 (by omega) (by omega) ?_
          refine lv_iload hx hb dX7_paysFor_76 (lv_at hl 3 rfl) ?_
          refine k_S (As := [.int (nI (sna 0)), .int (nI f)]) (wr := [(ad 2, eArr cI 2 fm), (ad 13, eArr cI 4 sna), (ad 8, eArr cI 32 be), (ad 9, eArr cI 32 va), (ad 10, eArr cI 32 lo), (ad 21, eArr cI 150 S.2), (ad 3, eArr cI 8 pq), (rr, eMod ad len kp uo tm em pc0), (ad 4, eArr cI 8 dq), (ad 5, eArr cI 8 kq), (ad 6, eArr cI 2 ai)]) ⟨hx, hb, hml, hown, hts⟩ (c_X7_has l D cI cC (sna 0) f (by omega) (by omega)) (cwS 2 hts gX7_paysFor_X7_has rfl rfl rfl (by decide +kernel) ⟨Nat.le_of_ble_eq_true rfl, Nat.le_of_ble_eq_true rfl⟩) rfl hl.1 rfl (Nat.le_of_ble_eq_true rfl) dX7_paysFor_78 ⟨Nat.zero_le _, Nat.zero_le _⟩ hN hK hP hD hS hA [] [0, 1, 2, 3, 4, 5, 6, 7, 8, 9, 10] rfl rfl ⟨rfl, rfl, by decide⟩ (fun r38 u H locs w39 hP hD hS => ?_)
          obtain ⟨rfl, h40⟩ | ⟨rfl, h41⟩ : (r38 = (nI 1) ∧ (sna 0) / 2 ^ f % 2 = 1) ∨ (r38 = (nI 0) ∧ ¬ (sna 0) / 2 ^ f % 2 = 1) := w39
          · refine x_if_ne (tgt := 178) hx hb dX7_paysFor_81 (by decide) (by omega) (fun h42 => ?_) (fun h42 => False.elim (by omega))
            refine lv_iinc (v := (nI (f + 1))) (lv' := [(4, .int (nI (f + 1))), (7, .int (nI (be w + (absd x (pq f) + absd (pq f) x) + 2))), (6, .int (iI ((((lo w) : Nat) : Int) - ((ai 0 * (absd x (pq f) + absd (pq f) x) : Nat) : Int) - (((if kq f = 1 then 2 else 1) * dq f : Nat) : Int)))), (5, .int (nI (absd x (pq f) + absd (pq f) x))), (3, .int (nI q)), (0, .ref rr), (1, .int (nI w)), (2, .int (nI x))]) hx hb dX7_paysFor_178 hl (k := 3) rfl (nI_inc _ 1) (by decide) rfl (fun ls hl => ?_)
            refine lv_goto (tgt := 5) hx hb dX7_paysFor_181 (by decide) ?_
            have hnew := back_snow (S := S) (wd := wd) (cl := cl) (w := w) (air := ai 0) (x := x) (y := x) h40
            exact ih5 (f + 1) q (by omega) (by omega) (by rw [hnew]; exact hcase) (by omega) _ _ (hP.sub [7, 0, 6, 8, 9, 10, 1, 2, 3, 4, 5] rfl) (hD.sub [7, 0, 6, 8, 9, 10, 1, 2, 3, 4, 5] rfl rfl) hS _ (lv_sub hl [0, 4, 5, 6, 7] rfl)
          · refine x_if_ne (tgt := 178) hx hb dX7_paysFor_81 (by decide) (by omega) (fun h43 => False.elim (by omega)) (fun h43 => ?_)
            refine lv_iload_n hx hb dX7_paysFor_84 rfl (lv_at hl 4 rfl) ?_
            refine x_if_ne (tgt := 117) hx hb dX7_paysFor_85 (by decide) (by omega) (fun h44 => ?_) (fun h44 => ?_)
            · refine lv_iconst (v := (nI 1)) hx hb dX7_paysFor_117 (by decide) ?_
              refine lv_goto (tgt := 122) hx hb dX7_paysFor_118 (by decide) ?_
              refine lv_istore_n (lv' := [(3, .int (nI 1)), (7, .int (nI (be w + (absd x (pq f) + absd (pq f) x) + 2))), (6, .int (iI ((((lo w) : Nat) : Int) - ((ai 0 * (absd x (pq f) + absd (pq f) x) : Nat) : Int) - (((if kq f = 1 then 2 else 1) * dq f : Nat) : Int)))), (5, .int (nI (absd x (pq f) + absd (pq f) x))), (4, .int (nI f)), (0, .ref rr), (1, .int (nI w)), (2, .int (nI x))]) hx hb dX7_paysFor_122 rfl hl (by decide) rfl (fun ls hl => ?_)
              refine lv_iload_n hx hb dX7_paysFor_123 rfl (lv_at hl 0 rfl) ?_
              refine x_if_ne (tgt := 172) hx hb dX7_paysFor_124 (by decide) (by omega) (fun h45 => ?_) (fun h45 => False.elim (by omega))
              refine lv_iconst (v := (nI 1)) hx hb dX7_paysFor_172 (by decide) ?_
              refine lv_goto (tgt := 177) hx hb dX7_paysFor_173 (by decide) ?_
              refine lv_istore_n (lv' := [(3, .int (nI 1)), (7, .int (nI (be w + (absd x (pq f) + absd (pq f) x) + 2))), (6, .int (iI ((((lo w) : Nat) : Int) - ((ai 0 * (absd x (pq f) + absd (pq f) x) : Nat) : Int) - (((if kq f = 1 then 2 else 1) * dq f : Nat) : Int)))), (5, .int (nI (absd x (pq f) + absd (pq f) x))), (4, .int (nI f)), (0, .ref rr), (1, .int (nI w)), (2, .int (nI x))]) hx hb dX7_paysFor_177 rfl hl (by decide) rfl (fun ls hl => ?_)
              have hbt : backM S wd w (waysM cl (ai 0) (sna 0) x x f) = true := by rcases hcase with hc | hc; exact hc.2; omega
              have hnew : backM S wd w (waysM cl (ai 0) (sna 0) x x (f + 1)) = true := by
                by_cases hk3 : cl (3 * f + 2) = 3
                · rw [back_3 (far := absd x (pq f) + absd (pq f) x) (B := absd x (pq f) + absd (pq f) x + 2) (Lo := ai 0 * (absd x (pq f) + absd (pq f) x) + (if kq f = 1 then 2 * dq f else dq f)) h41 (by rw [← hc1]) (by rw [← hc3]; exact (if_pos (by omega)).symm) (by rw [← hc2, ← hc3]) hk3, hbt]; rfl
                · rw [back_n3 (far := absd x (pq f) + absd (pq f) x) (B := absd x (pq f) + absd (pq f) x + 2) (Lo := ai 0 * (absd x (pq f) + absd (pq f) x) + (if kq f = 1 then 2 * dq f else dq f)) h41 (by rw [← hc1]) (by rw [← hc3]; exact (if_pos (by omega)).symm) (by rw [← hc2, ← hc3]) hk3, hbt]; rfl
              refine lv_iinc (v := (nI (f + 1))) (lv' := [(4, .int (nI (f + 1))), (3, .int (nI 1)), (7, .int (nI (be w + (absd x (pq f) + absd (pq f) x) + 2))), (6, .int (iI ((((lo w) : Nat) : Int) - ((ai 0 * (absd x (pq f) + absd (pq f) x) : Nat) : Int) - (((if kq f = 1 then 2 else 1) * dq f : Nat) : Int)))), (5, .int (nI (absd x (pq f) + absd (pq f) x))), (0, .ref rr), (1, .int (nI w)), (2, .int (nI x))]) hx hb dX7_paysFor_178 hl (k := 4) rfl (nI_inc _ 1) (by decide) rfl (fun ls hl => ?_)
              refine lv_goto (tgt := 5) hx hb dX7_paysFor_181 (by decide) ?_
              exact ih5 (f + 1) 1 (by omega) (by omega) (Or.inl ⟨rfl, hnew⟩) (by omega) _ _ (hP.sub [7, 0, 6, 8, 9, 10, 1, 2, 3, 4, 5] rfl) (hD.sub [7, 0, 6, 8, 9, 10, 1, 2, 3, 4, 5] rfl rfl) hS _ (lv_sub hl [0, 1, 5, 6, 7] rfl)
            · refine lv_iload hx hb dX7_paysFor_88 (lv_at hl 1 rfl) ?_
              refine z_if_le (tgt := 121) hx hb dX7_paysFor_90 (by decide) (by omega) (fun h46 => ?_) (fun h46 => ?_)
              · refine lv_iconst (v := (nI 0)) hx hb dX7_paysFor_121 (by decide) ?_
                refine lv_istore_n (lv' := [(3, .int (nI 0)), (7, .int (nI (be w + (absd x (pq f) + absd (pq f) x) + 2))), (6, .int (iI ((((lo w) : Nat) : Int) - ((ai 0 * (absd x (pq f) + absd (pq f) x) : Nat) : Int) - (((if kq f = 1 then 2 else 1) * dq f : Nat) : Int)))), (5, .int (nI (absd x (pq f) + absd (pq f) x))), (4, .int (nI f)), (0, .ref rr), (1, .int (nI w)), (2, .int (nI x))]) hx hb dX7_paysFor_122 rfl hl (by decide) rfl (fun ls hl => ?_)
                refine lv_iload_n hx hb dX7_paysFor_123 rfl (lv_at hl 0 rfl) ?_
                refine x_if_ne (tgt := 172) hx hb dX7_paysFor_124 (by decide) (by omega) (fun h47 => False.elim (by omega)) (fun h47 => ?_)
                refine lv_aload_n hx hb dX7_paysFor_127 rfl (lv_at hl 5 rfl) ?_
                refine va_get (D := D) (ci := 7) (v := .ref (ad 5)) (C := RX7) (T := TX7) (N := 28) hx hb hts inX7 hown hK hP 7 rfl rfl 5 (by decide) fl22 (fun _ h9 => h9) rfl dX7_paysFor_128 ?_
                refine lv_iload hx hb dX7_paysFor_131 (lv_at hl 4 rfl) ?_
                refine x_iald (A := A) hx hb hK hP 9 0 rfl rfl dX7_paysFor_133 (by omega) (by omega) ?_
                refine lv_iconst (v := (nI 3)) hx hb dX7_paysFor_134 (by decide) ?_
                refine x_icmp_ne (tgt := 176) hx hb dX7_paysFor_135 (by decide) (by omega) (by omega) (fun h48 => ?_) (fun h48 => False.elim (by omega))
                refine lv_iconst (v := (nI 0)) hx hb dX7_paysFor_176 (by decide) ?_
                refine lv_istore_n (lv' := [(3, .int (nI 0)), (7, .int (nI (be w + (absd x (pq f) + absd (pq f) x) + 2))), (6, .int (iI ((((lo w) : Nat) : Int) - ((ai 0 * (absd x (pq f) + absd (pq f) x) : Nat) : Int) - (((if kq f = 1 then 2 else 1) * dq f : Nat) : Int)))), (5, .int (nI (absd x (pq f) + absd (pq f) x))), (4, .int (nI f)), (0, .ref rr), (1, .int (nI w)), (2, .int (nI x))]) hx hb dX7_paysFor_177 rfl hl (by decide) rfl (fun ls hl => ?_)
                have hbf : backM S wd w (waysM cl (ai 0) (sna 0) x x f) = false := by rcases hcase with hc | hc; omega; exact hc.2
                have hh1 : hitM S wd w 0 (absd x (pq f) + absd (pq f) x + 2) (ai 0 * (absd x (pq f) + absd (pq f) x) + (if kq f = 1 then 2 * dq f else dq f)) = false := by
                  first | exact hitM_f1 (by omega) | exact hitM_f2 (by omega) | exact hitM_f3 (by rw [show wd (3 * w + 0) + 0 + (absd x (pq f) + absd (pq f) x + 2) = be w + (absd x (pq f) + absd (pq f) x) + 2 from by omega, ← hw2]; assumption)
                have hnew : backM S wd w (waysM cl (ai 0) (sna 0) x x (f + 1)) = false := by rw [back_n3 (far := absd x (pq f) + absd (pq f) x) (B := absd x (pq f) + absd (pq f) x + 2) (Lo := ai 0 * (absd x (pq f) + absd (pq f) x) + (if kq f = 1 then 2 * dq f else dq f)) h41 (by rw [← hc1]) (by rw [← hc3]; exact (if_pos (by omega)).symm) (by rw [← hc2, ← hc3]) (by omega), hbf, hh1]; rfl
                refine lv_iinc (v := (nI (f + 1))) (lv' := [(4, .int (nI (f + 1))), (3, .int (nI 0)), (7, .int (nI (be w + (absd x (pq f) + absd (pq f) x) + 2))), (6, .int (iI ((((lo w) : Nat) : Int) - ((ai 0 * (absd x (pq f) + absd (pq f) x) : Nat) : Int) - (((if kq f = 1 then 2 else 1) * dq f : Nat) : Int)))), (5, .int (nI (absd x (pq f) + absd (pq f) x))), (0, .ref rr), (1, .int (nI w)), (2, .int (nI x))]) hx hb dX7_paysFor_178 hl (k := 4) rfl (nI_inc _ 1) (by decide) rfl (fun ls hl => ?_)
                refine lv_goto (tgt := 5) hx hb dX7_paysFor_181 (by decide) ?_
                exact ih5 (f + 1) 0 (by omega) (by omega) (Or.inr ⟨rfl, hnew⟩) (by omega) _ _ (hP.sub [7, 0, 6, 8, 9, 10, 1, 2, 3, 4, 5] rfl) (hD.sub [7, 0, 6, 8, 9, 10, 1, 2, 3, 4, 5] rfl rfl) hS _ (lv_sub hl [0, 1, 5, 6, 7] rfl)
              · refine lv_iload hx hb dX7_paysFor_93 (lv_at hl 0 rfl) ?_
                refine lv_sipush (v := (nI 150)) hx hb dX7_paysFor_95 (by decide) ?_
                refine x_icmp_ge (tgt := 121) hx hb dX7_paysFor_98 (by decide) (by omega) (by omega) (fun h49 => False.elim (by omega)) (fun h49 => ?_)
                have hSb := hS0 (be w + (absd x (pq f) + absd (pq f) x) + 2)
                refine lv_aload_n hx hb dX7_paysFor_101 rfl (lv_at hl 5 rfl) ?_
                refine va_get (D := D) (ci := 7) (v := .ref (ad 21)) (C := RX7) (T := TX7) (N := 28) hx hb hts inX7 hown hK hP 7 rfl rfl 26 (by decide) fl70 (fun _ h9 => h9) rfl dX7_paysFor_102 ?_
                refine lv_iload hx hb dX7_paysFor_105 (lv_at hl 0 rfl) ?_
                refine x_iald (A := A) hx hb hK hP 5 0 rfl rfl dX7_paysFor_107 (by omega) (by omega) ?_
                refine lv_aload_n hx hb dX7_paysFor_108 rfl (lv_at hl 5 rfl) ?_
                refine va_get (D := D) (ci := 7) (v := .ref (ad 9)) (C := RX7) (T := TX7) (N := 28) hx hb hts inX7 hown hK hP 7 rfl rfl 9 (by decide) fl34 (fun _ h9 => h9) rfl dX7_paysFor_109 ?_
                refine lv_iload_n hx hb dX7_paysFor_112 rfl (lv_at hl 6 rfl) ?_
                refine x_iald (A := A) hx hb hK hP 3 0 rfl rfl dX7_paysFor_113 (by omega) (by omega) ?_
                refine x_icmp_ne (tgt := 121) hx hb dX7_paysFor_114 (by decide) (by omega) (by omega) (fun h50 => ?_) (fun h50 => ?_)
                · refine lv_iconst (v := (nI 0)) hx hb dX7_paysFor_121 (by decide) ?_
                  refine lv_istore_n (lv' := [(3, .int (nI 0)), (7, .int (nI (be w + (absd x (pq f) + absd (pq f) x) + 2))), (6, .int (iI ((((lo w) : Nat) : Int) - ((ai 0 * (absd x (pq f) + absd (pq f) x) : Nat) : Int) - (((if kq f = 1 then 2 else 1) * dq f : Nat) : Int)))), (5, .int (nI (absd x (pq f) + absd (pq f) x))), (4, .int (nI f)), (0, .ref rr), (1, .int (nI w)), (2, .int (nI x))]) hx hb dX7_paysFor_122 rfl hl (by decide) rfl (fun ls hl => ?_)
                  refine lv_iload_n hx hb dX7_paysFor_123 rfl (lv_at hl 0 rfl) ?_
                  refine x_if_ne (tgt := 172) hx hb dX7_paysFor_124 (by decide) (by omega) (fun h51 => False.elim (by omega)) (fun h51 => ?_)
                  refine lv_aload_n hx hb dX7_paysFor_127 rfl (lv_at hl 5 rfl) ?_
                  refine va_get (D := D) (ci := 7) (v := .ref (ad 5)) (C := RX7) (T := TX7) (N := 28) hx hb hts inX7 hown hK hP 7 rfl rfl 5 (by decide) fl22 (fun _ h9 => h9) rfl dX7_paysFor_128 ?_
                  refine lv_iload hx hb dX7_paysFor_131 (lv_at hl 4 rfl) ?_
                  refine x_iald (A := A) hx hb hK hP 9 0 rfl rfl dX7_paysFor_133 (by omega) (by omega) ?_
                  refine lv_iconst (v := (nI 3)) hx hb dX7_paysFor_134 (by decide) ?_
                  refine x_icmp_ne (tgt := 176) hx hb dX7_paysFor_135 (by decide) (by omega) (by omega) (fun h52 => ?_) (fun h52 => False.elim (by omega))
                  refine lv_iconst (v := (nI 0)) hx hb dX7_paysFor_176 (by decide) ?_
                  refine lv_istore_n (lv' := [(3, .int (nI 0)), (7, .int (nI (be w + (absd x (pq f) + absd (pq f) x) + 2))), (6, .int (iI ((((lo w) : Nat) : Int) - ((ai 0 * (absd x (pq f) + absd (pq f) x) : Nat) : Int) - (((if kq f = 1 then 2 else 1) * dq f : Nat) : Int)))), (5, .int (nI (absd x (pq f) + absd (pq f) x))), (4, .int (nI f)), (0, .ref rr), (1, .int (nI w)), (2, .int (nI x))]) hx hb dX7_paysFor_177 rfl hl (by decide) rfl (fun ls hl => ?_)
                  have hbf : backM S wd w (waysM cl (ai 0) (sna 0) x x f) = false := by rcases hcase with hc | hc; omega; exact hc.2
                  have hh1 : hitM S wd w 0 (absd x (pq f) + absd (pq f) x + 2) (ai 0 * (absd x (pq f) + absd (pq f) x) + (if kq f = 1 then 2 * dq f else dq f)) = false := by
                    first | exact hitM_f1 (by omega) | exact hitM_f2 (by omega) | exact hitM_f3 (by rw [show wd (3 * w + 0) + 0 + (absd x (pq f) + absd (pq f) x + 2) = be w + (absd x (pq f) + absd (pq f) x) + 2 from by omega, ← hw2]; assumption)
                  have hnew : backM S wd w (waysM cl (ai 0) (sna 0) x x (f + 1)) = false := by rw [back_n3 (far := absd x (pq f) + absd (pq f) x) (B := absd x (pq f) + absd (pq f) x + 2) (Lo := ai 0 * (absd x (pq f) + absd (pq f) x) + (if kq f = 1 then 2 * dq f else dq f)) h41 (by rw [← hc1]) (by rw [← hc3]; exact (if_pos (by omega)).symm) (by rw [← hc2, ← hc3]) (by omega), hbf, hh1]; rfl
                  refine lv_iinc (v := (nI (f + 1))) (lv' := [(4, .int (nI (f + 1))), (3, .int (nI 0)), (7, .int (nI (be w + (absd x (pq f) + absd (pq f) x) + 2))), (6, .int (iI ((((lo w) : Nat) : Int) - ((ai 0 * (absd x (pq f) + absd (pq f) x) : Nat) : Int) - (((if kq f = 1 then 2 else 1) * dq f : Nat) : Int)))), (5, .int (nI (absd x (pq f) + absd (pq f) x))), (0, .ref rr), (1, .int (nI w)), (2, .int (nI x))]) hx hb dX7_paysFor_178 hl (k := 4) rfl (nI_inc _ 1) (by decide) rfl (fun ls hl => ?_)
                  refine lv_goto (tgt := 5) hx hb dX7_paysFor_181 (by decide) ?_
                  exact ih5 (f + 1) 0 (by omega) (by omega) (Or.inr ⟨rfl, hnew⟩) (by omega) _ _ (hP.sub [7, 0, 6, 8, 9, 10, 1, 2, 3, 4, 5] rfl) (hD.sub [7, 0, 6, 8, 9, 10, 1, 2, 3, 4, 5] rfl rfl) hS _ (lv_sub hl [0, 1, 5, 6, 7] rfl)
                · refine lv_iconst (v := (nI 1)) hx hb dX7_paysFor_117 (by decide) ?_
                  refine lv_goto (tgt := 122) hx hb dX7_paysFor_118 (by decide) ?_
                  refine lv_istore_n (lv' := [(3, .int (nI 1)), (7, .int (nI (be w + (absd x (pq f) + absd (pq f) x) + 2))), (6, .int (iI ((((lo w) : Nat) : Int) - ((ai 0 * (absd x (pq f) + absd (pq f) x) : Nat) : Int) - (((if kq f = 1 then 2 else 1) * dq f : Nat) : Int)))), (5, .int (nI (absd x (pq f) + absd (pq f) x))), (4, .int (nI f)), (0, .ref rr), (1, .int (nI w)), (2, .int (nI x))]) hx hb dX7_paysFor_122 rfl hl (by decide) rfl (fun ls hl => ?_)
                  refine lv_iload_n hx hb dX7_paysFor_123 rfl (lv_at hl 0 rfl) ?_
                  refine x_if_ne (tgt := 172) hx hb dX7_paysFor_124 (by decide) (by omega) (fun h53 => ?_) (fun h53 => False.elim (by omega))
                  refine lv_iconst (v := (nI 1)) hx hb dX7_paysFor_172 (by decide) ?_
                  refine lv_goto (tgt := 177) hx hb dX7_paysFor_173 (by decide) ?_
                  refine lv_istore_n (lv' := [(3, .int (nI 1)), (7, .int (nI (be w + (absd x (pq f) + absd (pq f) x) + 2))), (6, .int (iI ((((lo w) : Nat) : Int) - ((ai 0 * (absd x (pq f) + absd (pq f) x) : Nat) : Int) - (((if kq f = 1 then 2 else 1) * dq f : Nat) : Int)))), (5, .int (nI (absd x (pq f) + absd (pq f) x))), (4, .int (nI f)), (0, .ref rr), (1, .int (nI w)), (2, .int (nI x))]) hx hb dX7_paysFor_177 rfl hl (by decide) rfl (fun ls hl => ?_)
                  have hbf : backM S wd w (waysM cl (ai 0) (sna 0) x x f) = false := by rcases hcase with hc | hc; omega; exact hc.2
                  have hh1 : hitM S wd w 0 (absd x (pq f) + absd (pq f) x + 2) (ai 0 * (absd x (pq f) + absd (pq f) x) + (if kq f = 1 then 2 * dq f else dq f)) = true := by
                    first | exact hitM_t (by omega) (by omega) (by rw [show wd (3 * w + 0) + 0 + (absd x (pq f) + absd (pq f) x + 2) = be w + (absd x (pq f) + absd (pq f) x) + 2 from by omega, ← hw2]; assumption)
                  have hnew : backM S wd w (waysM cl (ai 0) (sna 0) x x (f + 1)) = true := by
                    by_cases hk3 : cl (3 * f + 2) = 3
                    · rw [back_3 (far := absd x (pq f) + absd (pq f) x) (B := absd x (pq f) + absd (pq f) x + 2) (Lo := ai 0 * (absd x (pq f) + absd (pq f) x) + (if kq f = 1 then 2 * dq f else dq f)) h41 (by rw [← hc1]) (by rw [← hc3]; exact (if_pos (by omega)).symm) (by rw [← hc2, ← hc3]) hk3, hh1, Bool.true_or, Bool.or_true]
                    · rw [back_n3 (far := absd x (pq f) + absd (pq f) x) (B := absd x (pq f) + absd (pq f) x + 2) (Lo := ai 0 * (absd x (pq f) + absd (pq f) x) + (if kq f = 1 then 2 * dq f else dq f)) h41 (by rw [← hc1]) (by rw [← hc3]; exact (if_pos (by omega)).symm) (by rw [← hc2, ← hc3]) hk3, hh1, Bool.or_true]
                  refine lv_iinc (v := (nI (f + 1))) (lv' := [(4, .int (nI (f + 1))), (3, .int (nI 1)), (7, .int (nI (be w + (absd x (pq f) + absd (pq f) x) + 2))), (6, .int (iI ((((lo w) : Nat) : Int) - ((ai 0 * (absd x (pq f) + absd (pq f) x) : Nat) : Int) - (((if kq f = 1 then 2 else 1) * dq f : Nat) : Int)))), (5, .int (nI (absd x (pq f) + absd (pq f) x))), (0, .ref rr), (1, .int (nI w)), (2, .int (nI x))]) hx hb dX7_paysFor_178 hl (k := 4) rfl (nI_inc _ 1) (by decide) rfl (fun ls hl => ?_)
                  refine lv_goto (tgt := 5) hx hb dX7_paysFor_181 (by decide) ?_
                  exact ih5 (f + 1) 1 (by omega) (by omega) (Or.inl ⟨rfl, hnew⟩) (by omega) _ _ (hP.sub [7, 0, 6, 8, 9, 10, 1, 2, 3, 4, 5] rfl) (hD.sub [7, 0, 6, 8, 9, 10, 1, 2, 3, 4, 5] rfl rfl) hS _ (lv_sub hl [0, 1, 5, 6, 7] rfl)
  exact loop5 _ 0 0 (Nat.lt_succ_self _) (by omega) (Or.inr ⟨rfl, rfl⟩) (by omega) _ _ (hP.sub [0, 1, 2, 3, 4, 5, 6, 7, 8, 9, 10] rfl) (hD.sub [0, 1, 2, 3, 4, 5, 6, 7, 8, 9, 10] rfl rfl) hS _ (lv_sub hl [0, 1, 2, 3, 4] rfl)
