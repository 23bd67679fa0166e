set_option maxRecDepth 100000 in
set_option maxHeartbeats 4000000 in
theorem c_X4_append_ok (l : Launch) (D : va_G) (cI cC : ClassId) (t0 : Nat) (tb : Nat) (tba : Nat) (tn : Nat) (tx : Nat → Nat) (len : Nat) (n : Nat) (xv : Int64) (hn8 : 1 ≤ n ∧ n ≤ 8) (hlen : len + n ≤ 300) : mtI l D cI cC yX4_append wsX4_append ({ frames := 1, cells := 0, slots := 0, locals := 21 }) [.ref t0, .int (nI n), .long xv] [(t0, eTxt tb tn), (tb, eRow tba len), (tba, eArr cI 300 tx)] (fun (r : Int32) (_ : Unit) => r = (nI 1)) (fun (_ : Unit) => [(t0, eTxt tb tn), (tb, eRow tba (len + n)), (tba, eArr cI 300 (appM tx len n xv n))]) := by
  refine mtI_of (cc := cX4_append) (maxL := 5) (ret := (some .boolean)) (by decide) rfl rfl ?_
  intro p e s m below meth c A hx hb hml hr hts hown hlocks hN hA hK hP hD hS ls hl
  have hown : s.vm.findClass RX4 = some m.cls := hown
  have hl : lv_has ls 5 [(0, .ref t0), (1, .int (nI n)), (2, .long xv)] := hl
  obtain ⟨H, hHe⟩ : ∃ H, H = s.heap := ⟨_, rfl⟩
  rw [← hHe] at hP ⊢
  have hS : va_S A s.heap H [] := by rw [hHe]; exact va_S.rf
  have fl14 := hts (.fieldLink RX4 14 "EchoPaysRent$Text" "bytes" "LEchoPaysRent$Row;") (by decide +kernel)
  have inX4 : ∀ w ∈ wsX40, w ∈ wsX4_append := by decide +kernel
  refine lv_aload_n hx hb dX4_append_0 rfl (lv_at hl 0 rfl) ?_
  refine va_get (D := D) (ci := 4) (v := .ref tb) (C := RX4) (T := TX4) (N := 2) hx hb hts inX4 hown hK hP 0 rfl rfl 0 (by decide) fl14 (fun _ h9 => h9) rfl dX4_append_1 ?_
  refine k_V (q := (RX1, TX1, 2)) (ci := 1) (As := []) (wr := [(t0, eTxt tb tn)]) ⟨hx, hb, hml, hown, hts⟩ (c_X1_size l D cI cC tb tba 300 tx len) (cwV 0 hts gX4_append_X1_size rfl rfl rfl (by decide +kernel) ⟨Nat.le_of_ble_eq_true rfl, Nat.le_of_ble_eq_true rfl⟩) rfl hl.1 rfl (Nat.le_of_ble_eq_true rfl) dX4_append_4 ⟨Nat.zero_le _, Nat.zero_le _⟩ hN hK hP hD hS hA rfl (q0 := 1) rfl [1, 2] [0] rfl rfl ⟨rfl, rfl, by decide⟩ (fun r1 u H locs w2 hP hD hS => ?_)
  obtain rfl : r1 = (nI len) := w2
  refine lv_iload_n hx hb dX4_append_7 rfl (lv_at hl 1 rfl) ?_
  refine x_iadd hx hb dX4_append_8 ?_
  refine lv_sipush (v := (nI 300)) hx hb dX4_append_9 (by decide) ?_
  refine x_icmp_le (tgt := 17) hx hb dX4_append_12 (by decide) (by omega) (by omega) (fun h3 => ?_) (fun h3 => False.elim (by omega))
  refine lv_iload_n hx hb dX4_append_17 rfl (lv_at hl 1 rfl) ?_
  refine lv_iconst (v := (nI 1)) hx hb dX4_append_18 (by decide) ?_
  refine x_isub hx hb dX4_append_19 (by omega) ?_
  refine lv_istore (lv' := [(4, .int (nI (n - 1))), (0, .ref t0), (1, .int (nI n)), (2, .long xv)]) hx hb dX4_append_20 hl (by decide) rfl (fun ls hl => ?_)
  have loop22 : ∀ (nn22 : Nat) (mm : Nat), n - mm < nn22 → (mm ≤ n) → ∀ (H : Heap) (locs : List Loc), va_P D vwCl [(t0, eTxt tb tn), (tb, eRow tba (len + mm)), (tba, eArr cI 300 (appM tx len n xv mm))] H → va_D A [(t0, eTxt tb tn), (tb, eRow tba (len + mm)), (tba, eArr cI 300 (appM tx len n xv mm))] → va_S A s.heap H locs → ∀ ls : Array Slot, lv_has ls 5 [(4, .int (iI ((n : Int) - 1 - ((mm : Nat) : Int)))), (0, .ref t0), (1, .int (nI n)), (2, .long xv)] → W p l e (headSpec wsX4_append ({ frames := 1, cells := 0, slots := 0, locals := 21 })).room s m ([.ref t0, .int (nI n), .long xv] : List Value).toArray below meth c H locs 0 0 (MQ below (va_Qi (fun (r : Int32) (_ : Unit) => r = (nI 1)) (ctB D cI cC (fun (_ : Unit) => [(t0, eTxt tb tn), (tb, eRow tba (len + n)), (tba, eArr cI 300 (appM tx len n xv n))]) A) A) ([.ref t0, .int (nI n), .long xv] : List Value).toArray s 0 0 A) (F0 m 22 ls []) := by
    intro nn22
    induction nn22 with
    | zero =>
      intro mm hm4
      exact absurd hm4 (Nat.not_lt_zero _)
    | succ nn22 ih22 =>
      intro mm hm4 hi5 H locs hP hD hS ls hl
      refine lv_iload hx hb dX4_append_22 (lv_at hl 0 rfl) ?_
      refine z_if_lt (tgt := 53) hx hb dX4_append_24 (by decide) (by omega) (fun h6 => ?_) (fun h6 => ?_)
      · have e7 : n = mm := by omega
        subst e7
        refine lv_iconst (v := (nI 1)) hx hb dX4_append_53 (by decide) ?_
        exact x_iret hx hb hr hlocks dX4_append_54 rfl (post := fun (r : Int32) (_ : Unit) => r = (nI 1)) (w1 := fun (_ : Unit) => [(t0, eTxt tb tn), (tb, eRow tba (len + n)), (tba, eArr cI 300 (appM tx len n xv n))]) () rfl hK hP hD hS
      · rw [show (iI ((n : Int) - 1 - ((mm : Nat) : Int))) = (nI (n - 1 - mm)) from by rw [nI_iI]; exact congrArg iI (by omega)] at hl
        refine lv_aload_n hx hb dX4_append_27 rfl (lv_at hl 1 rfl) ?_
        refine va_get (D := D) (ci := 4) (v := .ref tb) (C := RX4) (T := TX4) (N := 2) hx hb hts inX4 hown hK hP 0 rfl rfl 0 (by decide) fl14 (fun _ h9 => h9) rfl dX4_append_28 ?_
        refine lv_lload_n hx hb dX4_append_31 rfl (lv_at hl 3 rfl) ?_
        refine lv_bipush (v := (nI 8)) hx hb dX4_append_32 (by decide) ?_
        refine lv_iload hx hb dX4_append_34 (lv_at hl 0 rfl) ?_
        refine x_imul hx hb dX4_append_36 ?_
        refine lv_lushr hx hb dX4_append_37 (v := (xv.toUInt64 >>> ((nI (8 * (n - 1 - mm))).toInt64.toUInt64 &&& Int64.toUInt64 63)).toInt64) rfl ?_
        refine lv_ldc2 (v := lN 255) hx hb hown (hts (.constantLong RX4 30 255) (by decide +kernel)) dX4_append_38 ?_
        refine lv_land hx hb dX4_append_41 ?_
        refine lv_l2i hx hb dX4_append_42 (v := ((xv.toUInt64 >>> ((nI (8 * (n - 1 - mm))).toInt64.toUInt64 &&& Int64.toUInt64 63)).toInt64 &&& lN 255).toInt32) rfl ?_
        refine x_top (byte_u (by omega)) ?_
        refine k_V (q := (RX1, TX1, 2)) (ci := 1) (As := [.int (nI (bytM xv (n - 1 - mm)))]) (wr := [(t0, eTxt tb tn)]) ⟨hx, hb, hml, hown, hts⟩ (c_X1_add_lt l D cI cC tb tba 300 (appM tx len n xv mm) (len + mm) (bytM xv (n - 1 - mm)) (by omega) (by omega)) (cwV 1 hts gX4_append_X1_add rfl rfl rfl (by decide +kernel) ⟨Nat.le_of_ble_eq_true rfl, Nat.le_of_ble_eq_true rfl⟩) rfl hl.1 rfl (Nat.le_of_ble_eq_true rfl) dX4_append_43 ⟨Nat.zero_le _, Nat.zero_le _⟩ hN hK hP hD hS hA rfl (q0 := 1) rfl [1, 2] [0] rfl rfl ⟨rfl, rfl, by decide⟩ (fun r8 u H locs w9 hP hD hS => ?_)
        obtain rfl : r8 = (nI 1) := w9
        refine lv_pop hx hb dX4_append_46 rfl ?_
        rw [show (nI (n - 1 - mm)) = (iI ((n : Int) - 1 - ((mm : Nat) : Int))) from by rw [nI_iI]; exact congrArg iI (by omega)] at hl
        refine lv_iinc (v := (iI ((n : Int) - 1 - ((mm : Nat) : Int) + (-1)))) (lv' := [(4, .int (iI ((n : Int) - 1 - ((mm : Nat) : Int) + (-1)))), (0, .ref t0), (1, .int (nI n)), (2, .long xv)]) hx hb dX4_append_47 hl (k := 0) rfl (iI_add _ (-1)) (by decide) rfl (fun ls hl => ?_)
        refine lv_goto (tgt := 22) hx hb dX4_append_50 (by decide) ?_
        have hP : va_P D vwCl [(t0, eTxt tb tn), (tb, eRow tba ((len + mm) + 1)), (tba, eArr cI 300 (appM tx len n xv (mm + 1)))] H := by rw [appM_s]; exact hP
        have hD : va_D A [(t0, eTxt tb tn), (tb, eRow tba ((len + mm) + 1)), (tba, eArr cI 300 (appM tx len n xv (mm + 1)))] := by rw [appM_s]; exact hD
        rw [show (iI ((n : Int) - 1 - ((mm : Nat) : Int) + (-1))) = (iI ((n : Int) - 1 - ((mm + 1 : Nat) : Int))) from congrArg iI (by omega)] at hl
        exact ih22 (mm + 1) (by omega) (by omega) _ _ (hP.sub [0, 1, 2] rfl) (hD.sub [0, 1, 2] rfl rfl) hS _ (lv_sub hl [0, 1, 2, 3] rfl)
  have hP : va_P D vwCl [(t0, eTxt tb tn), (tb, eRow tba len), (tba, eArr cI 300 (appM tx len n xv 0))] H := by rw [appM_0]; exact hP
  have hD : va_D A [(t0, eTxt tb tn), (tb, eRow tba len), (tba, eArr cI 300 (appM tx len n xv 0))] := by rw [appM_0]; exact hD
  rw [show (nI (n - 1)) = (iI ((n : Int) - 1 - ((0 : Nat) : Int))) from by rw [nI_iI]; exact congrArg iI (by omega)] at hl
  exact loop22 _ 0 (Nat.lt_succ_self _) (by omega) _ _ (hP.sub [0, 1, 2] rfl) (hD.sub [0, 1, 2] rfl rfl) hS _ (lv_sub hl [0, 1, 2, 3] rfl)

set_option maxRecDepth 100000 in
set_option maxHeartbeats 4000000 in
theorem c_X4_append_full (l : Launch) (D : va_G) (cI cC : ClassId) (t0 : Nat) (tb : Nat) (tba : Nat) (tn : Nat) (tx : Nat → Nat) (len : Nat) (n : Nat) (xv : Int64) (hn8 : 1 ≤ n ∧ n ≤ 8) (hlen : 300 < len + n ∧ len ≤ 300) : mtI l D cI cC yX4_append wsX4_append ({ frames := 1, cells := 0, slots := 0, locals := 20 }) [.ref t0, .int (nI n), .long xv] [(t0, eTxt tb tn), (tb, eRow tba len), (tba, eArr cI 300 tx)] (fun (r : Int32) (_ : Unit) => r = (nI 0)) (fun (_ : Unit) => [(t0, eTxt tb tn), (tb, eRow tba len), (tba, eArr cI 300 tx)]) := by
  refine mtI_of (cc := cX4_append) (maxL := 5) (ret := (some .boolean)) (by decide) rfl rfl ?_
  intro p e s m below meth c A hx hb hml hr hts hown hlocks hN hA hK hP hD hS ls hl
  have hown : s.vm.findClass RX4 = some m.cls := hown
  have hl : lv_has ls 5 [(0, .ref t0), (1, .int (nI n)), (2, .long xv)] := hl
  obtain ⟨H, hHe⟩ : ∃ H, H = s.heap := ⟨_, rfl⟩
  rw [← hHe] at hP ⊢
  have hS : va_S A s.heap H [] := by rw [hHe]; exact va_S.rf
  have fl14 := hts (.fieldLink RX4 14 "EchoPaysRent$Text" "bytes" "LEchoPaysRent$Row;") (by decide +kernel)
  have inX4 : ∀ w ∈ wsX40, w ∈ wsX4_append := by decide +kernel
  refine lv_aload_n hx hb dX4_append_0 rfl (lv_at hl 0 rfl) ?_
  refine va_get (D := D) (ci := 4) (v := .ref tb) (C := RX4) (T := TX4) (N := 2) hx hb hts inX4 hown hK hP 0 rfl rfl 0 (by decide) fl14 (fun _ h9 => h9) rfl dX4_append_1 ?_
  refine k_V (q := (RX1, TX1, 2)) (ci := 1) (As := []) (wr := [(t0, eTxt tb tn)]) ⟨hx, hb, hml, hown, hts⟩ (c_X1_size l D cI cC tb tba 300 tx len) (cwV 0 hts gX4_append_X1_size rfl rfl rfl (by decide +kernel) ⟨Nat.le_of_ble_eq_true rfl, Nat.le_of_ble_eq_true rfl⟩) rfl hl.1 rfl (Nat.le_of_ble_eq_true rfl) dX4_append_4 ⟨Nat.zero_le _, Nat.zero_le _⟩ hN hK hP hD hS hA rfl (q0 := 1) rfl [1, 2] [0] rfl rfl ⟨rfl, rfl, by decide⟩ (fun r1 u H locs w2 hP hD hS => ?_)
  obtain rfl : r1 = (nI len) := w2
  refine lv_iload_n hx hb dX4_append_7 rfl (lv_at hl 1 rfl) ?_
  refine x_iadd hx hb dX4_append_8 ?_
  refine lv_sipush (v := (nI 300)) hx hb dX4_append_9 (by decide) ?_
  refine x_icmp_le (tgt := 17) hx hb dX4_append_12 (by decide) (by omega) (by omega) (fun h3 => False.elim (by omega)) (fun h3 => ?_)
  refine lv_iconst (v := (nI 0)) hx hb dX4_append_15 (by decide) ?_
  exact x_iret hx hb hr hlocks dX4_append_16 rfl (post := fun (r : Int32) (_ : Unit) => r = (nI 0)) (w1 := fun (_ : Unit) => [(t0, eTxt tb tn), (tb, eRow tba len), (tba, eArr cI 300 tx)]) () rfl hK hP hD hS

set_option maxRecDepth 100000 in
set_option maxHeartbeats 4000000 in
theorem c_X6_write_ok (l : Launch) (D : va_G) (cI cC : ClassId) (o : Nat) (t0 : Nat) (a2 : Nat) (w0 : Nat) (y0 : Nat) (s0 : Nat) (h0 : Nat) (g0 : Nat) (u0 : Nat) (v0 : Nat) (a : Nat) (tb : Nat) (tba : Nat) (tn : Nat) (tx : Nat → Nat) (len : Nat) (n : Nat) (xv : Int64) (hn8 : 1 ≤ n ∧ n ≤ 8) (hlen : len + n ≤ 300) : mtI l D cI cC yX6_write wsX6_write ({ frames := 2, cells := 0, slots := 0, locals := 45 }) [.ref o, .int (nI n), .long xv] [(o, eEPR t0 a a2 w0 y0 s0 h0 g0 u0 v0), (t0, eTxt tb tn), (tb, eRow tba len), (tba, eArr cI 300 tx)] (fun (r : Int32) (_ : Unit) => r = (nI (len + n))) (fun (_ : Unit) => [(o, eEPR t0 a a2 w0 y0 s0 h0 g0 u0 v0), (t0, eTxt tb tn), (tb, eRow tba (len + n)), (tba, eArr cI 300 (appM tx len n xv n))]) := by
  refine mtI_of (cc := cX6_write) (maxL := 4) (ret := (some .int)) (by decide) rfl rfl ?_
  intro p e s m below meth c A hx hb hml hr hts hown hlocks hN hA hK hP hD hS ls hl
  have hown : s.vm.findClass RX6 = some m.cls := hown
  have hl : lv_has ls 4 [(0, .ref o), (1, .int (nI n)), (2, .long xv)] := hl
  obtain ⟨H, hHe⟩ : ∃ H, H = s.heap := ⟨_, rfl⟩
  rw [← hHe] at hP ⊢
  have hS : va_S A s.heap H [] := by rw [hHe]; exact va_S.rf
  have fl12 := hts (.fieldLink RX6 12 "EchoPaysRent" "text" "LEchoPaysRent$Text;") (by decide +kernel)
  have inX6 : ∀ w ∈ wsX60, w ∈ wsX6_write := by decide +kernel
  refine lv_iload_n hx hb dX6_write_0 rfl (lv_at hl 1 rfl) ?_
  refine lv_iconst (v := (nI 1)) hx hb dX6_write_1 (by decide) ?_
  refine lv_bipush (v := (nI 8)) hx hb dX6_write_2 (by decide) ?_
  refine k_S (As := [.int (iI (((n : Nat) : Int))), .int (iI (((1 : Nat) : Int))), .int (iI (((8 : Nat) : Int)))]) (wr := [(o, eEPR t0 a a2 w0 y0 s0 h0 g0 u0 v0), (t0, eTxt tb tn), (tb, eRow tba len), (tba, eArr cI 300 tx)]) ⟨hx, hb, hml, hown, hts⟩ (c_X6_within l D cI cC (((n : Nat) : Int)) (((1 : Nat) : Int)) (((8 : Nat) : Int)) (by omega) (by omega) (by omega)) (cwS 3 hts gX6_write_X6_within rfl rfl rfl (by decide +kernel) ⟨Nat.le_of_ble_eq_true rfl, Nat.le_of_ble_eq_true rfl⟩) rfl hl.1 (by simp only [nI_iI]; rfl) (Nat.le_of_ble_eq_true rfl) dX6_write_4 ⟨Nat.zero_le _, Nat.zero_le _⟩ hN hK hP hD hS hA [] [0, 1, 2, 3] rfl rfl ⟨rfl, rfl, by decide⟩ (fun r1 u H locs w2 hP hD hS => ?_)
  obtain ⟨rfl, h3, h4⟩ | ⟨rfl, h5⟩ : (r1 = (nI 1) ∧ (((1 : Nat) : Int)) ≤ (((n : Nat) : Int)) ∧ (((n : Nat) : Int)) ≤ (((8 : Nat) : Int))) ∨ (r1 = (nI 0) ∧ ((((n : Nat) : Int)) < (((1 : Nat) : Int)) ∨ (((8 : Nat) : Int)) < (((n : Nat) : Int)))) := w2
  · refine x_if_ne (tgt := 12) hx hb dX6_write_7 (by decide) (by omega) (fun h6 => ?_) (fun h6 => False.elim (by omega))
    refine lv_aload_n hx hb dX6_write_12 rfl (lv_at hl 0 rfl) ?_
    refine va_get (D := D) (ci := 6) (v := .ref t0) (C := RX6) (T := TX6) (N := 10) hx hb hts inX6 hown hK hP 0 rfl rfl 0 (by decide) fl12 (fun _ h9 => h9) rfl dX6_write_13 ?_
    refine lv_iload_n hx hb dX6_write_16 rfl (lv_at hl 1 rfl) ?_
    refine lv_lload_n hx hb dX6_write_17 rfl (lv_at hl 2 rfl) ?_
    refine k_V (q := (RX4, TX4, 2)) (ci := 4) (As := [.int (nI n), .long xv]) (wr := [(o, eEPR t0 a a2 w0 y0 s0 h0 g0 u0 v0)]) ⟨hx, hb, hml, hown, hts⟩ (c_X4_append_ok l D cI cC t0 tb tba tn tx len n xv (by omega) (by omega)) (cwV 2 hts gX6_write_X4_append rfl rfl rfl (by decide +kernel) ⟨Nat.le_of_ble_eq_true rfl, Nat.le_of_ble_eq_true rfl⟩) rfl hl.1 rfl (Nat.le_of_ble_eq_true rfl) dX6_write_18 ⟨Nat.zero_le _, Nat.zero_le _⟩ hN hK hP hD hS hA rfl (q0 := 1) rfl [1, 2, 3] [0] rfl rfl ⟨rfl, rfl, by decide⟩ (fun r7 u H locs w8 hP hD hS => ?_)
    obtain rfl : r7 = (nI 1) := w8
    refine x_if_eq (tgt := 34) hx hb dX6_write_21 (by decide) (by omega) (fun h9 => False.elim (by omega)) (fun h9 => ?_)
    refine lv_aload_n hx hb dX6_write_24 rfl (lv_at hl 0 rfl) ?_
    refine va_get (D := D) (ci := 6) (v := .ref t0) (C := RX6) (T := TX6) (N := 10) hx hb hts inX6 hown hK hP 0 rfl rfl 0 (by decide) fl12 (fun _ h9 => h9) rfl dX6_write_25 ?_
    refine k_V (q := (RX4, TX4, 2)) (ci := 4) (As := []) (wr := [(o, eEPR t0 a a2 w0 y0 s0 h0 g0 u0 v0)]) ⟨hx, hb, hml, hown, hts⟩ (c_X4_length l D cI cC t0 tb tba tn (appM tx len n xv n) (len + n)) (cwV 0 hts gX6_write_X4_length rfl rfl rfl (by decide +kernel) ⟨Nat.le_of_ble_eq_true rfl, Nat.le_of_ble_eq_true rfl⟩) rfl hl.1 rfl (Nat.le_of_ble_eq_true rfl) dX6_write_28 ⟨Nat.zero_le _, Nat.zero_le _⟩ hN hK hP hD hS hA rfl (q0 := 1) rfl [1, 2, 3] [0] rfl rfl ⟨rfl, rfl, by decide⟩ (fun r10 u H locs w11 hP hD hS => ?_)
    obtain rfl : r10 = (nI (len + n)) := w11
    refine lv_goto (tgt := 36) hx hb dX6_write_31 (by decide) ?_
    exact x_iret hx hb hr hlocks dX6_write_36 rfl (post := fun (r : Int32) (_ : Unit) => r = (nI (len + n))) (w1 := fun (_ : Unit) => [(o, eEPR t0 a a2 w0 y0 s0 h0 g0 u0 v0), (t0, eTxt tb tn), (tb, eRow tba (len + n)), (tba, eArr cI 300 (appM tx len n xv n))]) () rfl hK hP hD hS
  · exact False.elim (by omega)

set_option maxRecDepth 100000 in
set_option maxHeartbeats 4000000 in
theorem c_X6_write_full (l : Launch) (D : va_G) (cI cC : ClassId) (o : Nat) (t0 : Nat) (a2 : Nat) (w0 : Nat) (y0 : Nat) (s0 : Nat) (h0 : Nat) (g0 : Nat) (u0 : Nat) (v0 : Nat) (a : Nat) (tb : Nat) (tba : Nat) (tn : Nat) (tx : Nat → Nat) (len : Nat) (n : Nat) (xv : Int64) (hn8 : 1 ≤ n ∧ n ≤ 8) (hlen : 300 < len + n ∧ len ≤ 300) : mtI l D cI cC yX6_write wsX6_write ({ frames := 2, cells := 0, slots := 0, locals := 44 }) [.ref o, .int (nI n), .long xv] [(o, eEPR t0 a a2 w0 y0 s0 h0 g0 u0 v0), (t0, eTxt tb tn), (tb, eRow tba len), (tba, eArr cI 300 tx)] (fun (r : Int32) (_ : Unit) => r = (iI (-3))) (fun (_ : Unit) => [(o, eEPR t0 a a2 w0 y0 s0 h0 g0 u0 v0), (t0, eTxt tb tn), (tb, eRow tba len), (tba, eArr cI 300 tx)]) := by
  refine mtI_of (cc := cX6_write) (maxL := 4) (ret := (some .int)) (by decide) rfl rfl ?_
  intro p e s m below meth c A hx hb hml hr hts hown hlocks hN hA hK hP hD hS ls hl
  have hown : s.vm.findClass RX6 = some m.cls := hown
  have hl : lv_has ls 4 [(0, .ref o), (1, .int (nI n)), (2, .long xv)] := hl
  obtain ⟨H, hHe⟩ : ∃ H, H = s.heap := ⟨_, rfl⟩
  rw [← hHe] at hP ⊢
  have hS : va_S A s.heap H [] := by rw [hHe]; exact va_S.rf
  have fl12 := hts (.fieldLink RX6 12 "EchoPaysRent" "text" "LEchoPaysRent$Text;") (by decide +kernel)
  have inX6 : ∀ w ∈ wsX60, w ∈ wsX6_write := by decide +kernel
  refine lv_iload_n hx hb dX6_write_0 rfl (lv_at hl 1 rfl) ?_
  refine lv_iconst (v := (nI 1)) hx hb dX6_write_1 (by decide) ?_
  refine lv_bipush (v := (nI 8)) hx hb dX6_write_2 (by decide) ?_
  refine k_S (As := [.int (iI (((n : Nat) : Int))), .int (iI (((1 : Nat) : Int))), .int (iI (((8 : Nat) : Int)))]) (wr := [(o, eEPR t0 a a2 w0 y0 s0 h0 g0 u0 v0), (t0, eTxt tb tn), (tb, eRow tba len), (tba, eArr cI 300 tx)]) ⟨hx, hb, hml, hown, hts⟩ (c_X6_within l D cI cC (((n : Nat) : Int)) (((1 : Nat) : Int)) (((8 : Nat) : Int)) (by omega) (by omega) (by omega)) (cwS 3 hts gX6_write_X6_within rfl rfl rfl (by decide +kernel) ⟨Nat.le_of_ble_eq_true rfl, Nat.le_of_ble_eq_true rfl⟩) rfl hl.1 (by simp only [nI_iI]; rfl) (Nat.le_of_ble_eq_true rfl) dX6_write_4 ⟨Nat.zero_le _, Nat.zero_le _⟩ hN hK hP hD hS hA [] [0, 1, 2, 3] rfl rfl ⟨rfl, rfl, by decide⟩ (fun r1 u H locs w2 hP hD hS => ?_)
  obtain ⟨rfl, h3, h4⟩ | ⟨rfl, h5⟩ : (r1 = (nI 1) ∧ (((1 : Nat) : Int)) ≤ (((n : Nat) : Int)) ∧ (((n : Nat) : Int)) ≤ (((8 : Nat) : Int))) ∨ (r1 = (nI 0) ∧ ((((n : Nat) : Int)) < (((1 : Nat) : Int)) ∨ (((8 : Nat) : Int)) < (((n : Nat) : Int)))) := w2
  · refine x_if_ne (tgt := 12) hx hb dX6_write_7 (by decide) (by omega) (fun h6 => ?_) (fun h6 => False.elim (by omega))
    refine lv_aload_n hx hb dX6_write_12 rfl (lv_at hl 0 rfl) ?_
    refine va_get (D := D) (ci := 6) (v := .ref t0) (C := RX6) (T := TX6) (N := 10) hx hb hts inX6 hown hK hP 0 rfl rfl 0 (by decide) fl12 (fun _ h9 => h9) rfl dX6_write_13 ?_
    refine lv_iload_n hx hb dX6_write_16 rfl (lv_at hl 1 rfl) ?_
    refine lv_lload_n hx hb dX6_write_17 rfl (lv_at hl 2 rfl) ?_
    refine k_V (q := (RX4, TX4, 2)) (ci := 4) (As := [.int (nI n), .long xv]) (wr := [(o, eEPR t0 a a2 w0 y0 s0 h0 g0 u0 v0)]) ⟨hx, hb, hml, hown, hts⟩ (c_X4_append_full l D cI cC t0 tb tba tn tx len n xv (by omega) (by omega)) (cwV 2 hts gX6_write_X4_append rfl rfl rfl (by decide +kernel) ⟨Nat.le_of_ble_eq_true rfl, Nat.le_of_ble_eq_true rfl⟩) rfl hl.1 rfl (Nat.le_of_ble_eq_true rfl) dX6_write_18 ⟨Nat.zero_le _, Nat.zero_le _⟩ hN hK hP hD hS hA rfl (q0 := 1) rfl [1, 2, 3] [0] rfl rfl ⟨rfl, rfl, by decide⟩ (fun r7 u H locs w8 hP hD hS => ?_)
    obtain rfl : r7 = (nI 0) := w8
    refine x_if_eq (tgt := 34) hx hb dX6_write_21 (by decide) (by omega) (fun h9 => ?_) (fun h9 => False.elim (by omega))
    refine lv_bipush (v := (iI (-3))) hx hb dX6_write_34 (by decide) ?_
    exact x_iret hx hb hr hlocks dX6_write_36 rfl (post := fun (r : Int32) (_ : Unit) => r = (iI (-3))) (w1 := fun (_ : Unit) => [(o, eEPR t0 a a2 w0 y0 s0 h0 g0 u0 v0), (t0, eTxt tb tn), (tb, eRow tba len), (tba, eArr cI 300 tx)]) () rfl hK hP hD hS
  · exact False.elim (by omega)
